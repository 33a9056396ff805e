/-! A VOYAGE OF THE CLASS, as a call -/
theorem rdAct_p {f : Int → Int} {p stop : Int} (hf : ∀ a, stop ≤ a → f a = -1) (hp : p < stop) : p ≤ (rdAct f p).1.2 ∧ (rdAct f p).1.2 ≤ stop ∧ ((rdAct f p).1.1 = true → p < (rdAct f p).1.2) ∧ ((rdAct f p).1.1 = true → (rdAct f p).2.1 = 2 → (rdAct f p).2.2 ≤ 9) := by
  by_cases a : 60 ≤ f p ∧ f p ≤ 62
  · rw [act_o a]
    exact ⟨by show p ≤ p + 1; omega, by show p + 1 ≤ stop; omega, fun _ => by show p < p + 1; omega, fun _ z => absurd (show (0 : Int) = 2 from z) (by decide)⟩
  · by_cases b : 49 ≤ f p ∧ f p ≤ 57
    · rw [act_d b]
      exact ⟨by show p ≤ p + 1; omega, by show p + 1 ≤ stop; omega, fun _ => by show p < p + 1; omega, fun _ _ => by show f p - 48 ≤ 9; omega⟩
    · by_cases c : f p = 112
      · rw [act_p c]
        by_cases d : 48 ≤ f (p + 1) ∧ f (p + 1) ≤ 57
        · have l : p + 1 < stop := by
            by_cases z : stop ≤ p + 1
            · have := hf _ z; omega
            · omega
          rw [nm1_y d]
          exact ⟨by show p ≤ p + 1 + 1; omega, by show p + 1 + 1 ≤ stop; omega, fun _ => by show p < p + 1 + 1; omega, fun _ z => absurd (show (1 : Int) = 2 from z) (by decide)⟩
        · rw [nm1_n d]
          exact ⟨by show p ≤ p + 1; omega, by show p + 1 ≤ stop; omega, fun z => absurd (show decide (0 ≤ (-1 : Int)) = true from z) (by decide), fun z => absurd (show decide (0 ≤ (-1 : Int)) = true from z) (by decide)⟩
      · rw [act_n a c b]
        exact ⟨Int.le_refl _, by show p ≤ stop; omega, fun z => absurd (show false = true from z) (by decide), fun z => absurd (show false = true from z) (by decide)⟩
theorem rdAs_p {f : Int → Int} {stop : Int} (hf : ∀ a, stop ≤ a → f a = -1) : ∀ (n : Nat) (p : Int), p ≤ stop → p ≤ (rdAs f stop n p).1.2 ∧ (rdAs f stop n p).1.2 ≤ stop
  | 0, p, h => ⟨Int.le_refl _, h⟩
  | n + 1, p, h => by
    rw [rdAs_s]
    by_cases a : stop ≤ p
    · rw [if_pos a]
      exact ⟨Int.le_refl _, h⟩
    · have b := rdAct_p hf (show p < stop by omega)
      rw [if_neg a]
      split
      · have ih := rdAs_p hf n (rdAct f p).1.2 b.2.1
        exact ⟨by show p ≤ (rdAs f stop n (rdAct f p).1.2).1.2; omega, ih.2⟩
      · exact ⟨b.1, b.2.1⟩
theorem WW_do {b : Int} {dl : Int → Int} {l : Int} {ml ln ea : Nat → Int} {nr : Nat} {ms : Int} {q : Int × Int} {w : WS} (hn : nr ≤ 16) (h8 : ms ≤ 8) (hea : ∀ m : Nat, (m : Int) < ms → 0 ≤ ea m ∧ ea m ≤ 9) (hq : q.1 = 2 → q.2 ≤ 9) (hq2 : q.1 = 0 ∨ q.1 = 1 ∨ q.1 = 2) (hd : doR ms q w = true) (hw : WW b w) : WW (b + 9) (doW dl l ml ln nr ms ea q w) := by
  unfold doR at hd
  unfold doW
  by_cases a : q.1 = 0
  · rw [if_pos a]
    obtain ⟨w0, w1, w2, w3, w4⟩ := hw
    exact ⟨by show 0 ≤ w.1 ∧ w.1 ≤ b + 9; omega, w1, by show 0 ≤ w.2.2.1 ∧ w.2.2.1 ≤ 16 * (b + 9); omega, by show -1 ≤ w.1 ∧ w.1 ≤ b + 9; omega, fun m hm => by have := w4 m hm; show (0 ≤ w.2.2.2.2.2.1 m ∧ w.2.2.2.2.2.1 m ≤ 99) ∧ 0 ≤ w.2.2.2.2.2.2 m ∧ w.2.2.2.2.2.2 m ≤ b + 9; omega⟩
  · rw [if_neg a] at hd ⊢
    by_cases c : q.1 = 1
    · rw [if_pos c] at hd ⊢
      have hp := of_decide_eq_true hd
      obtain ⟨w0, w1, w2, w3, w4⟩ := hw
      refine ⟨by show 0 ≤ w.1 ∧ w.1 ≤ b + 9; omega, w1, by show 0 ≤ w.2.2.1 ∧ w.2.2.1 ≤ 16 * (b + 9); omega, by show -1 ≤ w.2.2.2.1 ∧ w.2.2.2.1 ≤ b + 9; omega, fun m hm => ?_⟩
      have w4m := w4 m hm
      have eo : othF q.2 1 = q.2 + 1 := rfl
      show (0 ≤ (if (m : Int) = q.2 then w.2.2.2.2.2.1 m - 1 else if (m : Int) = othF q.2 1 then w.2.2.2.2.2.1 m + 1 else w.2.2.2.2.2.1 m) ∧ (if (m : Int) = q.2 then w.2.2.2.2.2.1 m - 1 else if (m : Int) = othF q.2 1 then w.2.2.2.2.2.1 m + 1 else w.2.2.2.2.2.1 m) ≤ 99) ∧ 0 ≤ w.2.2.2.2.2.2 m ∧ w.2.2.2.2.2.2 m ≤ b + 9
      unfold psR at hp
      by_cases d : (0 ≤ q.2 ∧ q.2 < ms) ∧ ((0 : Int) ≤ 1 ∧ (1 : Int) ≤ 1) ∧ (0 ≤ othF q.2 1 ∧ othF q.2 1 < ms) ∧ (1 : Int) ≤ 1 ∧ (1 : Int) ≤ 99
      · rw [if_neg (fun z => z d)] at hp
        by_cases e1 : (m : Int) = q.2
        · rw [if_pos e1]
          have em : q.2.toNat = m := by omega
          rw [em] at hp
          (repeat' split at hp) <;> omega
        · rw [if_neg e1]
          by_cases e2 : (m : Int) = othF q.2 1
          · rw [if_pos e2]
            have em : (othF q.2 1).toNat = m := by omega
            rw [em] at hp
            (repeat' split at hp) <;> omega
          · rw [if_neg e2]
            omega
      · rw [if_pos d] at hp
        omega
    · rw [if_neg c]
      have z := WW_stI (ml := ml) (ln := ln) (ea := ea) hn h8 hea hw q.2.toNat
      exact z.mono (by have := hq (by omega); omega)
theorem act_k {f : Int → Int} {p : Int} : (rdAct f p).2.1 = 0 ∨ (rdAct f p).2.1 = 1 ∨ (rdAct f p).2.1 = 2 := by
  by_cases a : 60 ≤ f p ∧ f p ≤ 62
  · rw [act_o a]; exact Or.inl rfl
  · by_cases b : 49 ≤ f p ∧ f p ≤ 57
    · rw [act_d b]; exact Or.inr (Or.inr rfl)
    · by_cases c : f p = 112
      · rw [act_p c]; exact Or.inr (Or.inl rfl)
      · rw [act_n a c b]; exact Or.inl rfl
def s28Ok (M : MD) : Bool := (M.all fun q => !(Nat.beq q.1 0 && Nat.beq q.2.1 22)) && (M.all fun q => !(Nat.beq q.1 0 && Nat.beq q.2.1 23)) && (M.all fun q => !(Nat.beq q.1 0 && Nat.beq q.2.1 24)) && (M.all fun q => !(Nat.beq q.1 0 && Nat.beq q.2.1 25)) && (M.all fun q => !(Nat.beq q.1 0 && Nat.beq q.2.1 26))
theorem kS28_F {M : MD} {h h' : aH} (hF : FRM gRL M h h') (hm : s28Ok M = true) : kS h' 28 = kS h 28 := by
  simp only [s28Ok, Bool.and_eq_true] at hm
  have m0 := hm.1.1.1.1
  have m1 := hm.1.1.1.2
  have m2 := hm.1.1.2
  have m3 := hm.1.2
  have m4 := hm.2
  refine kS_ge fun a k h1 h2 => ?_
  rcases (show a = 28 ∨ a = 29 ∨ a = 30 ∨ a = 31 ∨ a = 32 by omega) with rfl | rfl | rfl | rfl | rfl
  · exact FRM_gi hF (r := 22) rfl (mHas_non m0 k)
  · exact FRM_gi hF (r := 23) rfl (mHas_non m1 k)
  · exact FRM_gi hF (r := 24) rfl (mHas_non m2 k)
  · exact FRM_gi hF (r := 25) rfl (mHas_non m3 k)
  · exact FRM_gi hF (r := 26) rfl (mHas_non m4 k)
set_option maxRecDepth 4000 in
theorem ctX10_voyageF {SP : CT} (hSP : MONO SP) {sh : List (Nat × Nat)} {h : aH} (hG : GD gE gRL sh h) {s u : Nat} (hP : PT h) (hX : XI h) (hD : DR h s u) {b : Int} {w : WS} (hS : STR (gi h 0 9) (kS h 23) w) (hw : WW b w) (hb : b ≤ 800000) {ml ln ea : Nat → Int} (hml : ∀ j : Nat, (j : Int) < gi h 19 0 → gi h 20 j = ml j ∧ gi h 21 j = ln j) (hea : ∀ m : Nat, (m : Int) < (gi h 0 9) → gi h 22 m = ea m ∧ 0 ≤ ea m ∧ ea m ≤ 9) : CLd SP 9 mX10_voyage [.ref 0] h 0 0 (fun rv h' => (((cfl (gi h 1 1) 60 (rdAs (txF (gi h 2) (min (gi h 1 1) 60)) (min (gi h 1 1) 60) 60 0).1) ≠ -1 ∧ rv = some (.int (I (-1 - (cfl (gi h 1 1) 60 (rdAs (txF (gi h 2) (min (gi h 1 1) 60)) (min (gi h 1 1) 60) 60 0).1)))) ∧ STR (gi h 0 9) (kS h' 23) w ∧ PL h' = PL h) ∨ ((cfl (gi h 1 1) 60 (rdAs (txF (gi h 2) (min (gi h 1 1) 60)) (min (gi h 1 1) 60) 60 0).1) = -1 ∧ rv = some (.int (I ((vyI (dlA h) (gi h 171 5) ml ln (gi h 19 0).toNat (gi h 0 9) ea (rdAs (txF (gi h 2) (min (gi h 1 1) 60)) (min (gi h 1 1) 60) 60 0).2 w).1 : Nat))) ∧ STR (gi h 0 9) (kS h' 23) (vyI (dlA h) (gi h 171 5) ml ln (gi h 19 0).toNat (gi h 0 9) ea (rdAs (txF (gi h 2) (min (gi h 1 1) 60)) (min (gi h 1 1) 60) 60 0).2 w).2.1 ∧ PL h' = (if 0 < (vyI (dlA h) (gi h 171 5) ml ln (gi h 19 0).toNat (gi h 0 9) ea (rdAs (txF (gi h 2) (min (gi h 1 1) 60)) (min (gi h 1 1) 60) 60 0).2 w).1 then pushC (PL h) (kS h 23) else PL h) ∧ gi h' 3 1 = 2 ∧ crow h' = [if (vyI (dlA h) (gi h 171 5) ml ln (gi h 19 0).toNat (gi h 0 9) ea (rdAs (txF (gi h 2) (min (gi h 1 1) 60)) (min (gi h 1 1) 60) 60 0).2 w).1 < (rdAs (txF (gi h 2) (min (gi h 1 1) 60)) (min (gi h 1 1) 60) 60 0).2.length then 1 else 0, (vyI (dlA h) (gi h 171 5) ml ln (gi h 19 0).toNat (gi h 0 9) ea (rdAs (txF (gi h 2) (min (gi h 1 1) 60)) (min (gi h 1 1) 60) 60 0).2 w).2.1.2.2.1 - w.2.2.1])) ∧ GD gE gRL sh h' ∧ FRM gRL [(0, 1, 1, 5), (0, 3, 1, 1), (0, 8, 3, 3), (0, 10, 0, 39), (0, 17, 0, 4), (0, 18, 0, 11), (0, 19, 0, 11), (0, 20, 0, 7), (0, 21, 0, 7), (0, 22, 0, 4), (0, 23, 0, 11), (0, 24, 0, 11), (0, 25, 0, 7), (0, 26, 0, 7), (0, 27, 1, 2), (0, 31, 0, 4), (0, 32, 0, 11), (0, 33, 0, 11), (0, 34, 0, 7), (0, 35, 0, 7), (1, 4, 0, 29)] h h' ∧ gi h' 1 1 = 0) := by
  refine x_met _ rfl (Nat.le_of_ble_eq_true rfl) (fun K hK => ?_)
  have hmono := MONO_CLd hSP 8
  have gn := gri 0 80 hG (a := 1) (r := 1) (k := 1) rfl rfl
  obtain ⟨n, hn⟩ : ∃ n, gi h 1 1 = n := ⟨_, rfl⟩
  rw [hn] at gn hK
  obtain ⟨T, hT⟩ : ∃ T, (txF (gi h 2) (min n 60)) = T := ⟨_, rfl⟩
  rw [hT] at hK
  have fe0 : ∀ a, min n 60 ≤ a → T a = -1 := fun a ha => by rw [← hT]; exact if_neg (by omega)
  obtain ⟨RR, hRR⟩ : ∃ RR, (rdAs T (min n 60) 60 0) = RR := ⟨_, rfl⟩
  rw [hRR] at hK
  have rp := rdAs_p fe0 60 0 (by omega)
  rw [hRR] at rp
  obtain ⟨VV, hVV⟩ : ∃ VV, (vyI (dlA h) (gi h 171 5) ml ln (gi h 19 0).toNat (gi h 0 9) ea RR.2 w) = VV := ⟨_, rfl⟩
  rw [hVV] at hK
  have g9 := gri 0 8 hG (a := 0) (r := 0) (k := 9) rfl rfl
  have g19 := gri 0 16 hG (a := 19) (r := 13) (k := 0) rfl rfl
  have k2 := (STR_to hG hS).2.2.1
  have wh := hw.2.2.1
  have loop : ∀ (mz : Nat) (c r i : Int) (h4 : aH) (ls : List (Nat × Value)), ((60 - i).toNat = mz) → (cfl n 60 RR.1 = -1) → (0 ≤ i ∧ i ≤ 60) → ((r = 0 ∨ r = 1) ∧ 0 ≤ c ∧ c ≤ 60) → (∃ (p : Int) (x : WS), STR (gi h 0 9) (kS h4 23) x ∧ WW (b + 9 * i) x ∧ (r = 0 → c = i ∧ gi h4 1 2 = p ∧ (i ≤ p ∧ p ≤ min n 60) ∧ (rdAs T (min n 60) (60 - i).toNat p).1 = (true, min n 60) ∧ (RR.2.length : Int) = i + ((rdAs T (min n 60) (60 - i).toNat p).2.length : Nat) ∧ (VV.1 : Int) = i + ((vyI (dlA h) (gi h 171 5) ml ln (gi h 19 0).toNat (gi h 0 9) ea (rdAs T (min n 60) (60 - i).toNat p).2 x).1 : Nat) ∧ VV.2.1 = (vyI (dlA h) (gi h 171 5) ml ln (gi h 19 0).toNat (gi h 0 9) ea (rdAs T (min n 60) (60 - i).toNat p).2 x).2.1) ∧ (r = 1 → (VV.1 : Int) = c ∧ VV.2.1 = x ∧ (VV.1 < RR.2.length))) → (kS h4 28 = kS h 23) → (gi h4 1 3 = min n 60) → (gi h4 1 4 = if 60 < n then 1 else 0) → lk ls 0 = some (.ref 0) → lk ls 2 = some (.int (I c)) → lk ls 3 = some (.int (I r)) → lk ls 4 = some (.int (I i)) → GD gE gRL sh h4 → FRM gRL [(0, 1, 2, 5), (0, 8, 3, 3), (0, 10, 0, 39), (0, 17, 0, 4), (0, 18, 0, 11), (0, 19, 0, 11), (0, 20, 0, 7), (0, 21, 0, 7), (0, 22, 0, 4), (0, 23, 0, 11), (0, 24, 0, 11), (0, 25, 0, 7), (0, 26, 0, 7)] h h4 → K 58 ls [] h4 0 0 := by
    intro mz
    induction mz using Nat.strongRecOn with
    | ind mz ih =>
    intro c r i h4 ls hm c9 i0 r0 hx s28 s3 s4 l0 l2 l3 l4 hG4 hF4
    obtain ⟨p, x, hs, wx, hr0, hr1⟩ := hx
    have sF : fx h4 = T := by rw [fx_tx, s3, ← hT, show gi h4 2 = gi h 2 from funext fun k => FRM_gi hF4 (r := 2) rfl rfl]
    have n94 : gi h4 0 9 = (gi h 0 9) := FRM_gi hF4 (r := 0) rfl rfl
    have n19 : gi h4 19 0 = gi h 19 0 := FRM_gi hF4 (r := 13) rfl rfl
    have n1 : gi h4 1 1 = n := (FRM_gi hF4 (r := 1) rfl rfl).trans hn
    have hD4 : DR h4 s u := DR_F hF4 rfl hD
    have dl4 : dlA h4 = dlA h := funext fun z => dlA_F hF4 rfl z
    have l54 : gi h4 171 5 = gi h 171 5 := FRM_gi hF4 (r := 54) rfl rfl
    refine x_iload 60 hK rfl rfl l4 ?_
    refine x_bipush 62 hK rfl rfl rfl ?_
    refine x_if_icmp_ge 110 65 hK rfl rfl rfl (by omega) (by omega) (fun c3 => ?_) (fun c3 => ?_)
    · have fx9 : (VV.1 : Int) = c ∧ VV.2.1 = x ∧ (r = 1 ↔ VV.1 < RR.2.length) := by
        rcases r0.1 with z | z
        · obtain ⟨q0, q1, q2, q3, q4, q5, q6⟩ := hr0 z
          have le : (rdAs T (min n 60) (60 - i).toNat p).2 = [] := by
            by_cases y : (60 - i).toNat = 0
            · rw [y]; rfl
            · obtain ⟨k, hk⟩ : ∃ k : Nat, (60 - i).toNat = k + 1 := ⟨(60 - i).toNat - 1, by omega⟩
              rw [hk, rdAs_s, if_pos (by omega)]
          rw [le] at q4 q5 q6
          have q5 : (VV.1 : Int) = i + ((0 : Nat) : Int) := q5
          have q4 : (RR.2.length : Int) = i + ((0 : Nat) : Int) := q4
          exact ⟨by omega, q6, by omega⟩
        · obtain ⟨q5, q6, q7⟩ := hr1 z
          exact ⟨q5, q6, fun _ => q7, fun _ => z⟩
      obtain ⟨f5, f6, f7⟩ := fx9
      have jx := STR_to hG4 hs
      have wx2 := wx.2.2.1
      have e28 : gi h4 28 2 = gi h 23 2 := congrArg (fun z : CWS => z.2.2.1) s28
      refine x_aload_n 111 hK rfl rfl l0 ?_
      refine x_getR 114 hK rfl rfl (sp_0 (h := h4) hG4) (rf_0_0 (h := h4) hG4) ?_
      refine x_iconst 115 hK rfl rfl ?_
      refine x_putI 118 hK rfl rfl (sp_1 (h := h4) hG4) ?_
      refine x_iload_n 119 hK rfl rfl l2 ?_
      refine x_if_le 133 122 hK rfl rfl rfl (by omega) (fun c10 => ?_) (fun c10 => ?_)
      · refine x_aload_n 134 hK rfl rfl l0 ?_
        refine x_getR 137 hK rfl rfl (sp_0 (h := h4) hG4) (rf_0_1 (h := h4) hG4) ?_
        refine x_iload_n 138 hK rfl rfl l3 ?_
        refine x_if_eq 145 141 hK rfl rfl rfl (by omega) (fun c14 => ?_) (fun c14 => ?_)
        · refine x_lconstE 146 0 hK rfl rfl rfl ?_
          refine x_aload_n 147 hK rfl rfl l0 ?_
          refine x_getR 150 hK rfl rfl (sp_0 (h := h4) hG4) (rf_0_10 (h := h4) hG4) ?_
          refine x_getE 153 hK rfl (Or.inl rfl) rfl (sp_23 (h := h4) hG4) (e := (x.2.2.1)) ((gi_a (by decide) _).trans (jx.2.2.1)) ?_
          refine x_aload_n 154 hK rfl rfl l0 ?_
          refine x_getR 157 hK rfl rfl (sp_0 (h := h4) hG4) (rf_0_11 (h := h4) hG4) ?_
          have g478 := gi_r h 23 2
          refine x_getE 160 hK rfl (Or.inl rfl) rfl (sp_28 (h := h4) hG4) (e := (gi h 23 2)) ((gi_a (by decide) _).trans (e28)) ?_
          refine x_isub 161 hK rfl rfl ?_
          refine x_i2l 162 hK rfl rfl (by omega) ?_
          have hGp479 : GD gE gRL sh (wI h4 1 1 0) := GD_w1 (hG4) (r := 1) rfl (by omega) rfl (by omega) (by omega)
          refine x_callV 165 hK hmono rfl rfl [.ref 3, .long (J 0), .long (J ((x.2.2.1) - (gi h 23 2)))] [] rfl rfl (Nat.le_of_ble_eq_true rfl) (Nat.le_of_ble_eq_true rfl) rfl (sp_3 (h := h4) hG4) (CLd_le (Nat.le_of_ble_eq_true rfl) (ctX3_tellTwo hSP hGp479 (by omega) (by omega))) ?_
          rintro v480 h480 ⟨rfl, hG480, hF480, t480, s480⟩
          refine x_iload_n 166 hK rfl rfl l2 ?_
          have eS : kS h480 23 = kS h4 23 := (kS23_F hF480 (by decide)).trans ((kS_ge fun a k h1 h2 => gi_a (by omega) _))
          have eP : PL h480 = (if 0 < VV.1 then pushC (PL h) (kS h 23) else PL h) := by rw [if_neg (by omega)]; exact (PL_F hF480 rfl).trans (((PL_eq (gi_a (by decide) _) (gi_a (by decide) _) fun z hz => kS_ge fun a k h1 h2 => gi_a (by omega) _)).trans (PL_F hF4 rfl))
          exact x_iret hK rfl ⟨Or.inr ⟨c9, by rw [show ((VV.1 : Nat) : Int) = c from f5], by rw [eS, f6]; exact hs, eP, t480, by rw [s480]; rw [f6, k2]; first | (exfalso; omega) | (rw [if_pos (by omega)]; done) | (rw [if_neg (by omega)]; done)⟩, hG480, (FRM_w ((hF4).mono rfl) (r := 1) rfl rfl).trans ((hF480).mono rfl), (FRM_gi hF480 (r := 1) rfl rfl).trans (gi_same (by omega))⟩
        · refine x_lconstE 142 1 hK rfl rfl rfl ?_
          refine x_goto 146 hK rfl rfl ?_
          refine x_aload_n 147 hK rfl rfl l0 ?_
          refine x_getR 150 hK rfl rfl (sp_0 (h := h4) hG4) (rf_0_10 (h := h4) hG4) ?_
          refine x_getE 153 hK rfl (Or.inl rfl) rfl (sp_23 (h := h4) hG4) (e := (x.2.2.1)) ((gi_a (by decide) _).trans (jx.2.2.1)) ?_
          refine x_aload_n 154 hK rfl rfl l0 ?_
          refine x_getR 157 hK rfl rfl (sp_0 (h := h4) hG4) (rf_0_11 (h := h4) hG4) ?_
          have g481 := gi_r h 23 2
          refine x_getE 160 hK rfl (Or.inl rfl) rfl (sp_28 (h := h4) hG4) (e := (gi h 23 2)) ((gi_a (by decide) _).trans (e28)) ?_
          refine x_isub 161 hK rfl rfl ?_
          refine x_i2l 162 hK rfl rfl (by omega) ?_
          have hGp482 : GD gE gRL sh (wI h4 1 1 0) := GD_w1 (hG4) (r := 1) rfl (by omega) rfl (by omega) (by omega)
          refine x_callV 165 hK hmono rfl rfl [.ref 3, .long (J 1), .long (J ((x.2.2.1) - (gi h 23 2)))] [] rfl rfl (Nat.le_of_ble_eq_true rfl) (Nat.le_of_ble_eq_true rfl) rfl (sp_3 (h := h4) hG4) (CLd_le (Nat.le_of_ble_eq_true rfl) (ctX3_tellTwo hSP hGp482 (by omega) (by omega))) ?_
          rintro v483 h483 ⟨rfl, hG483, hF483, t483, s483⟩
          refine x_iload_n 166 hK rfl rfl l2 ?_
          have eS : kS h483 23 = kS h4 23 := (kS23_F hF483 (by decide)).trans ((kS_ge fun a k h1 h2 => gi_a (by omega) _))
          have eP : PL h483 = (if 0 < VV.1 then pushC (PL h) (kS h 23) else PL h) := by rw [if_neg (by omega)]; exact (PL_F hF483 rfl).trans (((PL_eq (gi_a (by decide) _) (gi_a (by decide) _) fun z hz => kS_ge fun a k h1 h2 => gi_a (by omega) _)).trans (PL_F hF4 rfl))
          exact x_iret hK rfl ⟨Or.inr ⟨c9, by rw [show ((VV.1 : Nat) : Int) = c from f5], by rw [eS, f6]; exact hs, eP, t483, by rw [s483]; rw [f6, k2]; first | (exfalso; omega) | (rw [if_pos (by omega)]; done) | (rw [if_neg (by omega)]; done)⟩, hG483, (FRM_w ((hF4).mono rfl) (r := 1) rfl rfl).trans ((hF483).mono rfl), (FRM_gi hF483 (r := 1) rfl rfl).trans (gi_same (by omega))⟩
      · refine x_aload_n 123 hK rfl rfl l0 ?_
        refine x_getR 126 hK rfl rfl (sp_0 (h := h4) hG4) (rf_0_12 (h := h4) hG4) ?_
        refine x_aload_n 127 hK rfl rfl l0 ?_
        refine x_getR 130 hK rfl rfl (sp_0 (h := h4) hG4) (rf_0_11 (h := h4) hG4) ?_
        have hGp485 : GD gE gRL sh (wI h4 1 1 0) := GD_w1 (hG4) (r := 1) rfl (by omega) rfl (by omega) (by omega)
        have pl0 : PL (wI h4 1 1 0) = PL h := (PL_eq (gi_a (by decide) _) (gi_a (by decide) _) fun z hz => kS_ge fun a k h1 h2 => gi_a (by omega) _).trans (PL_F hF4 rfl)
        have s280 : kS (wI h4 1 1 0) 28 = kS h 23 := (kS_ge fun a k h1 h2 => gi_a (by omega) _).trans s28
        refine x_callV 133 hK hmono rfl rfl [.ref 33, .ref 28] [] rfl rfl (Nat.le_of_ble_eq_true rfl) (Nat.le_of_ble_eq_true rfl) rfl (sp_33 (h := h4) hG4) (CLd_le (Nat.le_of_ble_eq_true rfl) (ctX1_remember_28 hSP hGp485 (show PT h4 from (PT_F hF4 (by decide) hP)))) ?_
        rw [pl0, s280]
        rintro v484 h484 ⟨rfl, hG484, hF484, pl484⟩
        refine x_aload_n 134 hK rfl rfl l0 ?_
        refine x_getR 137 hK rfl rfl (sp_0 (h := h484) hG484) (rf_0_1 (h := h484) hG484) ?_
        refine x_iload_n 138 hK rfl rfl l3 ?_
        refine x_if_eq 145 141 hK rfl rfl rfl (by omega) (fun c48 => ?_) (fun c48 => ?_)
        · refine x_lconstE 146 0 hK rfl rfl rfl ?_
          refine x_aload_n 147 hK rfl rfl l0 ?_
          refine x_getR 150 hK rfl rfl (sp_0 (h := h484) hG484) (rf_0_10 (h := h484) hG484) ?_
          refine x_getE 153 hK rfl (Or.inl rfl) rfl (sp_23 (h := h484) hG484) (e := (x.2.2.1)) ((FRM_gi hF484 (r := 17) rfl rfl).trans ((gi_a (by decide) _).trans (jx.2.2.1))) ?_
          refine x_aload_n 154 hK rfl rfl l0 ?_
          refine x_getR 157 hK rfl rfl (sp_0 (h := h484) hG484) (rf_0_11 (h := h484) hG484) ?_
          have g486 := gi_r h 23 2
          refine x_getE 160 hK rfl (Or.inl rfl) rfl (sp_28 (h := h484) hG484) (e := (gi h 23 2)) ((FRM_gi hF484 (r := 22) rfl rfl).trans ((gi_a (by decide) _).trans (e28))) ?_
          refine x_isub 161 hK rfl rfl ?_
          refine x_i2l 162 hK rfl rfl (by omega) ?_
          refine x_callV 165 hK hmono rfl rfl [.ref 3, .long (J 0), .long (J ((x.2.2.1) - (gi h 23 2)))] [] rfl rfl (Nat.le_of_ble_eq_true rfl) (Nat.le_of_ble_eq_true rfl) rfl (sp_3 (h := h484) hG484) (CLd_le (Nat.le_of_ble_eq_true rfl) (ctX3_tellTwo hSP hG484 (by omega) (by omega))) ?_
          rintro v487 h487 ⟨rfl, hG487, hF487, t487, s487⟩
          refine x_iload_n 166 hK rfl rfl l2 ?_
          have eS : kS h487 23 = kS h4 23 := (kS23_F hF487 (by decide)).trans ((kS23_F hF484 (by decide)).trans ((kS_ge fun a k h1 h2 => gi_a (by omega) _)))
          have eP : PL h487 = (if 0 < VV.1 then pushC (PL h) (kS h 23) else PL h) := by rw [if_pos (by omega)]; exact (PL_F hF487 rfl).trans (pl484)
          exact x_iret hK rfl ⟨Or.inr ⟨c9, by rw [show ((VV.1 : Nat) : Int) = c from f5], by rw [eS, f6]; exact hs, eP, t487, by rw [s487]; rw [f6, k2]; first | (exfalso; omega) | (rw [if_pos (by omega)]; done) | (rw [if_neg (by omega)]; done)⟩, hG487, ((FRM_w ((hF4).mono rfl) (r := 1) rfl rfl).trans ((hF484).mono rfl)).trans ((hF487).mono rfl), (FRM_gi hF487 (r := 1) rfl rfl).trans ((FRM_gi hF484 (r := 1) rfl rfl).trans (gi_same (by omega)))⟩
        · refine x_lconstE 142 1 hK rfl rfl rfl ?_
          refine x_goto 146 hK rfl rfl ?_
          refine x_aload_n 147 hK rfl rfl l0 ?_
          refine x_getR 150 hK rfl rfl (sp_0 (h := h484) hG484) (rf_0_10 (h := h484) hG484) ?_
          refine x_getE 153 hK rfl (Or.inl rfl) rfl (sp_23 (h := h484) hG484) (e := (x.2.2.1)) ((FRM_gi hF484 (r := 17) rfl rfl).trans ((gi_a (by decide) _).trans (jx.2.2.1))) ?_
          refine x_aload_n 154 hK rfl rfl l0 ?_
          refine x_getR 157 hK rfl rfl (sp_0 (h := h484) hG484) (rf_0_11 (h := h484) hG484) ?_
          have g488 := gi_r h 23 2
          refine x_getE 160 hK rfl (Or.inl rfl) rfl (sp_28 (h := h484) hG484) (e := (gi h 23 2)) ((FRM_gi hF484 (r := 22) rfl rfl).trans ((gi_a (by decide) _).trans (e28))) ?_
          refine x_isub 161 hK rfl rfl ?_
          refine x_i2l 162 hK rfl rfl (by omega) ?_
          refine x_callV 165 hK hmono rfl rfl [.ref 3, .long (J 1), .long (J ((x.2.2.1) - (gi h 23 2)))] [] rfl rfl (Nat.le_of_ble_eq_true rfl) (Nat.le_of_ble_eq_true rfl) rfl (sp_3 (h := h484) hG484) (CLd_le (Nat.le_of_ble_eq_true rfl) (ctX3_tellTwo hSP hG484 (by omega) (by omega))) ?_
          rintro v489 h489 ⟨rfl, hG489, hF489, t489, s489⟩
          refine x_iload_n 166 hK rfl rfl l2 ?_
          have eS : kS h489 23 = kS h4 23 := (kS23_F hF489 (by decide)).trans ((kS23_F hF484 (by decide)).trans ((kS_ge fun a k h1 h2 => gi_a (by omega) _)))
          have eP : PL h489 = (if 0 < VV.1 then pushC (PL h) (kS h 23) else PL h) := by rw [if_pos (by omega)]; exact (PL_F hF489 rfl).trans (pl484)
          exact x_iret hK rfl ⟨Or.inr ⟨c9, by rw [show ((VV.1 : Nat) : Int) = c from f5], by rw [eS, f6]; exact hs, eP, t489, by rw [s489]; rw [f6, k2]; first | (exfalso; omega) | (rw [if_pos (by omega)]; done) | (rw [if_neg (by omega)]; done)⟩, hG489, ((FRM_w ((hF4).mono rfl) (r := 1) rfl rfl).trans ((hF484).mono rfl)).trans ((hF489).mono rfl), (FRM_gi hF489 (r := 1) rfl rfl).trans ((FRM_gi hF484 (r := 1) rfl rfl).trans (gi_same (by omega)))⟩
    · refine x_iload_n 66 hK rfl rfl l3 ?_
      refine x_if_ne 110 69 hK rfl rfl rfl (by omega) (fun c75 => ?_) (fun c75 => ?_)
      · have fx9 : (VV.1 : Int) = c ∧ VV.2.1 = x ∧ (r = 1 ↔ VV.1 < RR.2.length) := by
          rcases r0.1 with z | z
          · obtain ⟨q0, q1, q2, q3, q4, q5, q6⟩ := hr0 z
            have le : (rdAs T (min n 60) (60 - i).toNat p).2 = [] := by
              by_cases y : (60 - i).toNat = 0
              · rw [y]; rfl
              · obtain ⟨k, hk⟩ : ∃ k : Nat, (60 - i).toNat = k + 1 := ⟨(60 - i).toNat - 1, by omega⟩
                rw [hk, rdAs_s, if_pos (by omega)]
            rw [le] at q4 q5 q6
            have q5 : (VV.1 : Int) = i + ((0 : Nat) : Int) := q5
            have q4 : (RR.2.length : Int) = i + ((0 : Nat) : Int) := q4
            exact ⟨by omega, q6, by omega⟩
          · obtain ⟨q5, q6, q7⟩ := hr1 z
            exact ⟨q5, q6, fun _ => q7, fun _ => z⟩
        obtain ⟨f5, f6, f7⟩ := fx9
        have jx := STR_to hG4 hs
        have wx2 := wx.2.2.1
        have e28 : gi h4 28 2 = gi h 23 2 := congrArg (fun z : CWS => z.2.2.1) s28
        refine x_aload_n 111 hK rfl rfl l0 ?_
        refine x_getR 114 hK rfl rfl (sp_0 (h := h4) hG4) (rf_0_0 (h := h4) hG4) ?_
        refine x_iconst 115 hK rfl rfl ?_
        refine x_putI 118 hK rfl rfl (sp_1 (h := h4) hG4) ?_
        refine x_iload_n 119 hK rfl rfl l2 ?_
        refine x_if_le 133 122 hK rfl rfl rfl (by omega) (fun c82 => ?_) (fun c82 => ?_)
        · refine x_aload_n 134 hK rfl rfl l0 ?_
          refine x_getR 137 hK rfl rfl (sp_0 (h := h4) hG4) (rf_0_1 (h := h4) hG4) ?_
          refine x_iload_n 138 hK rfl rfl l3 ?_
          refine x_if_eq 145 141 hK rfl rfl rfl (by omega) (fun c => by omega) (fun _ => ?_)
          refine x_lconstE 142 1 hK rfl rfl rfl ?_
          refine x_goto 146 hK rfl rfl ?_
          refine x_aload_n 147 hK rfl rfl l0 ?_
          refine x_getR 150 hK rfl rfl (sp_0 (h := h4) hG4) (rf_0_10 (h := h4) hG4) ?_
          refine x_getE 153 hK rfl (Or.inl rfl) rfl (sp_23 (h := h4) hG4) (e := (x.2.2.1)) ((gi_a (by decide) _).trans (jx.2.2.1)) ?_
          refine x_aload_n 154 hK rfl rfl l0 ?_
          refine x_getR 157 hK rfl rfl (sp_0 (h := h4) hG4) (rf_0_11 (h := h4) hG4) ?_
          have g490 := gi_r h 23 2
          refine x_getE 160 hK rfl (Or.inl rfl) rfl (sp_28 (h := h4) hG4) (e := (gi h 23 2)) ((gi_a (by decide) _).trans (e28)) ?_
          refine x_isub 161 hK rfl rfl ?_
          refine x_i2l 162 hK rfl rfl (by omega) ?_
          have hGp491 : GD gE gRL sh (wI h4 1 1 0) := GD_w1 (hG4) (r := 1) rfl (by omega) rfl (by omega) (by omega)
          refine x_callV 165 hK hmono rfl rfl [.ref 3, .long (J 1), .long (J ((x.2.2.1) - (gi h 23 2)))] [] rfl rfl (Nat.le_of_ble_eq_true rfl) (Nat.le_of_ble_eq_true rfl) rfl (sp_3 (h := h4) hG4) (CLd_le (Nat.le_of_ble_eq_true rfl) (ctX3_tellTwo hSP hGp491 (by omega) (by omega))) ?_
          rintro v492 h492 ⟨rfl, hG492, hF492, t492, s492⟩
          refine x_iload_n 166 hK rfl rfl l2 ?_
          have eS : kS h492 23 = kS h4 23 := (kS23_F hF492 (by decide)).trans ((kS_ge fun a k h1 h2 => gi_a (by omega) _))
          have eP : PL h492 = (if 0 < VV.1 then pushC (PL h) (kS h 23) else PL h) := by rw [if_neg (by omega)]; exact (PL_F hF492 rfl).trans (((PL_eq (gi_a (by decide) _) (gi_a (by decide) _) fun z hz => kS_ge fun a k h1 h2 => gi_a (by omega) _)).trans (PL_F hF4 rfl))
          exact x_iret hK rfl ⟨Or.inr ⟨c9, by rw [show ((VV.1 : Nat) : Int) = c from f5], by rw [eS, f6]; exact hs, eP, t492, by rw [s492]; rw [f6, k2]; first | (exfalso; omega) | (rw [if_pos (by omega)]; done) | (rw [if_neg (by omega)]; done)⟩, hG492, (FRM_w ((hF4).mono rfl) (r := 1) rfl rfl).trans ((hF492).mono rfl), (FRM_gi hF492 (r := 1) rfl rfl).trans (gi_same (by omega))⟩
        · refine x_aload_n 123 hK rfl rfl l0 ?_
          refine x_getR 126 hK rfl rfl (sp_0 (h := h4) hG4) (rf_0_12 (h := h4) hG4) ?_
          refine x_aload_n 127 hK rfl rfl l0 ?_
          refine x_getR 130 hK rfl rfl (sp_0 (h := h4) hG4) (rf_0_11 (h := h4) hG4) ?_
          have hGp494 : GD gE gRL sh (wI h4 1 1 0) := GD_w1 (hG4) (r := 1) rfl (by omega) rfl (by omega) (by omega)
          have pl0 : PL (wI h4 1 1 0) = PL h := (PL_eq (gi_a (by decide) _) (gi_a (by decide) _) fun z hz => kS_ge fun a k h1 h2 => gi_a (by omega) _).trans (PL_F hF4 rfl)
          have s280 : kS (wI h4 1 1 0) 28 = kS h 23 := (kS_ge fun a k h1 h2 => gi_a (by omega) _).trans s28
          refine x_callV 133 hK hmono rfl rfl [.ref 33, .ref 28] [] rfl rfl (Nat.le_of_ble_eq_true rfl) (Nat.le_of_ble_eq_true rfl) rfl (sp_33 (h := h4) hG4) (CLd_le (Nat.le_of_ble_eq_true rfl) (ctX1_remember_28 hSP hGp494 (show PT h4 from (PT_F hF4 (by decide) hP)))) ?_
          rw [pl0, s280]
          rintro v493 h493 ⟨rfl, hG493, hF493, pl493⟩
          refine x_aload_n 134 hK rfl rfl l0 ?_
          refine x_getR 137 hK rfl rfl (sp_0 (h := h493) hG493) (rf_0_1 (h := h493) hG493) ?_
          refine x_iload_n 138 hK rfl rfl l3 ?_
          refine x_if_eq 145 141 hK rfl rfl rfl (by omega) (fun c => by omega) (fun _ => ?_)
          refine x_lconstE 142 1 hK rfl rfl rfl ?_
          refine x_goto 146 hK rfl rfl ?_
          refine x_aload_n 147 hK rfl rfl l0 ?_
          refine x_getR 150 hK rfl rfl (sp_0 (h := h493) hG493) (rf_0_10 (h := h493) hG493) ?_
          refine x_getE 153 hK rfl (Or.inl rfl) rfl (sp_23 (h := h493) hG493) (e := (x.2.2.1)) ((FRM_gi hF493 (r := 17) rfl rfl).trans ((gi_a (by decide) _).trans (jx.2.2.1))) ?_
          refine x_aload_n 154 hK rfl rfl l0 ?_
          refine x_getR 157 hK rfl rfl (sp_0 (h := h493) hG493) (rf_0_11 (h := h493) hG493) ?_
          have g495 := gi_r h 23 2
          refine x_getE 160 hK rfl (Or.inl rfl) rfl (sp_28 (h := h493) hG493) (e := (gi h 23 2)) ((FRM_gi hF493 (r := 22) rfl rfl).trans ((gi_a (by decide) _).trans (e28))) ?_
          refine x_isub 161 hK rfl rfl ?_
          refine x_i2l 162 hK rfl rfl (by omega) ?_
          refine x_callV 165 hK hmono rfl rfl [.ref 3, .long (J 1), .long (J ((x.2.2.1) - (gi h 23 2)))] [] rfl rfl (Nat.le_of_ble_eq_true rfl) (Nat.le_of_ble_eq_true rfl) rfl (sp_3 (h := h493) hG493) (CLd_le (Nat.le_of_ble_eq_true rfl) (ctX3_tellTwo hSP hG493 (by omega) (by omega))) ?_
          rintro v496 h496 ⟨rfl, hG496, hF496, t496, s496⟩
          refine x_iload_n 166 hK rfl rfl l2 ?_
          have eS : kS h496 23 = kS h4 23 := (kS23_F hF496 (by decide)).trans ((kS23_F hF493 (by decide)).trans ((kS_ge fun a k h1 h2 => gi_a (by omega) _)))
          have eP : PL h496 = (if 0 < VV.1 then pushC (PL h) (kS h 23) else PL h) := by rw [if_pos (by omega)]; exact (PL_F hF496 rfl).trans (pl493)
          exact x_iret hK rfl ⟨Or.inr ⟨c9, by rw [show ((VV.1 : Nat) : Int) = c from f5], by rw [eS, f6]; exact hs, eP, t496, by rw [s496]; rw [f6, k2]; first | (exfalso; omega) | (rw [if_pos (by omega)]; done) | (rw [if_neg (by omega)]; done)⟩, hG496, ((FRM_w ((hF4).mono rfl) (r := 1) rfl rfl).trans ((hF493).mono rfl)).trans ((hF496).mono rfl), (FRM_gi hF496 (r := 1) rfl rfl).trans ((FRM_gi hF493 (r := 1) rfl rfl).trans (gi_same (by omega)))⟩
      · refine x_aload_n 70 hK rfl rfl l0 ?_
        refine x_getR 73 hK rfl rfl (sp_0 (h := h4) hG4) (rf_0_0 (h := h4) hG4) ?_
        obtain ⟨q0, q1, q2, q3, q4, q5, q6⟩ := hr0 (by omega)
        refine x_callV 76 hK hmono rfl rfl [.ref 1] [] rfl rfl (Nat.le_of_ble_eq_true rfl) (Nat.le_of_ble_eq_true rfl) rfl (sp_1 (h := h4) hG4) (CLd_le (Nat.le_of_ble_eq_true rfl) (ctX9_ended hSP hG4)) ?_
        rw [q1, s3]
        rintro v9 h9 ⟨e9, ⟨rfl, en⟩ | ⟨rfl, en⟩⟩ <;> rw [e9] <;> clear e9
        · refine x_if_ne 110 79 hK rfl rfl rfl (by omega) (fun _ => ?_) (fun c => by omega)
          have fx9 : (VV.1 : Int) = c ∧ VV.2.1 = x ∧ (r = 1 ↔ VV.1 < RR.2.length) := by
            rcases r0.1 with z | z
            · obtain ⟨q0, q1, q2, q3, q4, q5, q6⟩ := hr0 z
              have le : (rdAs T (min n 60) (60 - i).toNat p).2 = [] := by
                by_cases y : (60 - i).toNat = 0
                · rw [y]; rfl
                · obtain ⟨k, hk⟩ : ∃ k : Nat, (60 - i).toNat = k + 1 := ⟨(60 - i).toNat - 1, by omega⟩
                  rw [hk, rdAs_s, if_pos (by omega)]
              rw [le] at q4 q5 q6
              have q5 : (VV.1 : Int) = i + ((0 : Nat) : Int) := q5
              have q4 : (RR.2.length : Int) = i + ((0 : Nat) : Int) := q4
              exact ⟨by omega, q6, by omega⟩
            · obtain ⟨q5, q6, q7⟩ := hr1 z
              exact ⟨q5, q6, fun _ => q7, fun _ => z⟩
          obtain ⟨f5, f6, f7⟩ := fx9
          have jx := STR_to hG4 hs
          have wx2 := wx.2.2.1
          have e28 : gi h4 28 2 = gi h 23 2 := congrArg (fun z : CWS => z.2.2.1) s28
          refine x_aload_n 111 hK rfl rfl l0 ?_
          refine x_getR 114 hK rfl rfl (sp_0 (h := h4) hG4) (rf_0_0 (h := h4) hG4) ?_
          refine x_iconst 115 hK rfl rfl ?_
          refine x_putI 118 hK rfl rfl (sp_1 (h := h4) hG4) ?_
          refine x_iload_n 119 hK rfl rfl l2 ?_
          refine x_if_le 133 122 hK rfl rfl rfl (by omega) (fun c132 => ?_) (fun c132 => ?_)
          · refine x_aload_n 134 hK rfl rfl l0 ?_
            refine x_getR 137 hK rfl rfl (sp_0 (h := h4) hG4) (rf_0_1 (h := h4) hG4) ?_
            refine x_iload_n 138 hK rfl rfl l3 ?_
            refine x_if_eq 145 141 hK rfl rfl rfl (by omega) (fun _ => ?_) (fun c => by omega)
            refine x_lconstE 146 0 hK rfl rfl rfl ?_
            refine x_aload_n 147 hK rfl rfl l0 ?_
            refine x_getR 150 hK rfl rfl (sp_0 (h := h4) hG4) (rf_0_10 (h := h4) hG4) ?_
            refine x_getE 153 hK rfl (Or.inl rfl) rfl (sp_23 (h := h4) hG4) (e := (x.2.2.1)) ((gi_a (by decide) _).trans (jx.2.2.1)) ?_
            refine x_aload_n 154 hK rfl rfl l0 ?_
            refine x_getR 157 hK rfl rfl (sp_0 (h := h4) hG4) (rf_0_11 (h := h4) hG4) ?_
            have g497 := gi_r h 23 2
            refine x_getE 160 hK rfl (Or.inl rfl) rfl (sp_28 (h := h4) hG4) (e := (gi h 23 2)) ((gi_a (by decide) _).trans (e28)) ?_
            refine x_isub 161 hK rfl rfl ?_
            refine x_i2l 162 hK rfl rfl (by omega) ?_
            have hGp498 : GD gE gRL sh (wI h4 1 1 0) := GD_w1 (hG4) (r := 1) rfl (by omega) rfl (by omega) (by omega)
            refine x_callV 165 hK hmono rfl rfl [.ref 3, .long (J 0), .long (J ((x.2.2.1) - (gi h 23 2)))] [] rfl rfl (Nat.le_of_ble_eq_true rfl) (Nat.le_of_ble_eq_true rfl) rfl (sp_3 (h := h4) hG4) (CLd_le (Nat.le_of_ble_eq_true rfl) (ctX3_tellTwo hSP hGp498 (by omega) (by omega))) ?_
            rintro v499 h499 ⟨rfl, hG499, hF499, t499, s499⟩
            refine x_iload_n 166 hK rfl rfl l2 ?_
            have eS : kS h499 23 = kS h4 23 := (kS23_F hF499 (by decide)).trans ((kS_ge fun a k h1 h2 => gi_a (by omega) _))
            have eP : PL h499 = (if 0 < VV.1 then pushC (PL h) (kS h 23) else PL h) := by rw [if_neg (by omega)]; exact (PL_F hF499 rfl).trans (((PL_eq (gi_a (by decide) _) (gi_a (by decide) _) fun z hz => kS_ge fun a k h1 h2 => gi_a (by omega) _)).trans (PL_F hF4 rfl))
            exact x_iret hK rfl ⟨Or.inr ⟨c9, by rw [show ((VV.1 : Nat) : Int) = c from f5], by rw [eS, f6]; exact hs, eP, t499, by rw [s499]; rw [f6, k2]; first | (exfalso; omega) | (rw [if_pos (by omega)]; done) | (rw [if_neg (by omega)]; done)⟩, hG499, (FRM_w ((hF4).mono rfl) (r := 1) rfl rfl).trans ((hF499).mono rfl), (FRM_gi hF499 (r := 1) rfl rfl).trans (gi_same (by omega))⟩
          · refine x_aload_n 123 hK rfl rfl l0 ?_
            refine x_getR 126 hK rfl rfl (sp_0 (h := h4) hG4) (rf_0_12 (h := h4) hG4) ?_
            refine x_aload_n 127 hK rfl rfl l0 ?_
            refine x_getR 130 hK rfl rfl (sp_0 (h := h4) hG4) (rf_0_11 (h := h4) hG4) ?_
            have hGp501 : GD gE gRL sh (wI h4 1 1 0) := GD_w1 (hG4) (r := 1) rfl (by omega) rfl (by omega) (by omega)
            have pl0 : PL (wI h4 1 1 0) = PL h := (PL_eq (gi_a (by decide) _) (gi_a (by decide) _) fun z hz => kS_ge fun a k h1 h2 => gi_a (by omega) _).trans (PL_F hF4 rfl)
            have s280 : kS (wI h4 1 1 0) 28 = kS h 23 := (kS_ge fun a k h1 h2 => gi_a (by omega) _).trans s28
            refine x_callV 133 hK hmono rfl rfl [.ref 33, .ref 28] [] rfl rfl (Nat.le_of_ble_eq_true rfl) (Nat.le_of_ble_eq_true rfl) rfl (sp_33 (h := h4) hG4) (CLd_le (Nat.le_of_ble_eq_true rfl) (ctX1_remember_28 hSP hGp501 (show PT h4 from (PT_F hF4 (by decide) hP)))) ?_
            rw [pl0, s280]
            rintro v500 h500 ⟨rfl, hG500, hF500, pl500⟩
            refine x_aload_n 134 hK rfl rfl l0 ?_
            refine x_getR 137 hK rfl rfl (sp_0 (h := h500) hG500) (rf_0_1 (h := h500) hG500) ?_
            refine x_iload_n 138 hK rfl rfl l3 ?_
            refine x_if_eq 145 141 hK rfl rfl rfl (by omega) (fun _ => ?_) (fun c => by omega)
            refine x_lconstE 146 0 hK rfl rfl rfl ?_
            refine x_aload_n 147 hK rfl rfl l0 ?_
            refine x_getR 150 hK rfl rfl (sp_0 (h := h500) hG500) (rf_0_10 (h := h500) hG500) ?_
            refine x_getE 153 hK rfl (Or.inl rfl) rfl (sp_23 (h := h500) hG500) (e := (x.2.2.1)) ((FRM_gi hF500 (r := 17) rfl rfl).trans ((gi_a (by decide) _).trans (jx.2.2.1))) ?_
            refine x_aload_n 154 hK rfl rfl l0 ?_
            refine x_getR 157 hK rfl rfl (sp_0 (h := h500) hG500) (rf_0_11 (h := h500) hG500) ?_
            have g502 := gi_r h 23 2
            refine x_getE 160 hK rfl (Or.inl rfl) rfl (sp_28 (h := h500) hG500) (e := (gi h 23 2)) ((FRM_gi hF500 (r := 22) rfl rfl).trans ((gi_a (by decide) _).trans (e28))) ?_
            refine x_isub 161 hK rfl rfl ?_
            refine x_i2l 162 hK rfl rfl (by omega) ?_
            refine x_callV 165 hK hmono rfl rfl [.ref 3, .long (J 0), .long (J ((x.2.2.1) - (gi h 23 2)))] [] rfl rfl (Nat.le_of_ble_eq_true rfl) (Nat.le_of_ble_eq_true rfl) rfl (sp_3 (h := h500) hG500) (CLd_le (Nat.le_of_ble_eq_true rfl) (ctX3_tellTwo hSP hG500 (by omega) (by omega))) ?_
            rintro v503 h503 ⟨rfl, hG503, hF503, t503, s503⟩
            refine x_iload_n 166 hK rfl rfl l2 ?_
            have eS : kS h503 23 = kS h4 23 := (kS23_F hF503 (by decide)).trans ((kS23_F hF500 (by decide)).trans ((kS_ge fun a k h1 h2 => gi_a (by omega) _)))
            have eP : PL h503 = (if 0 < VV.1 then pushC (PL h) (kS h 23) else PL h) := by rw [if_pos (by omega)]; exact (PL_F hF503 rfl).trans (pl500)
            exact x_iret hK rfl ⟨Or.inr ⟨c9, by rw [show ((VV.1 : Nat) : Int) = c from f5], by rw [eS, f6]; exact hs, eP, t503, by rw [s503]; rw [f6, k2]; first | (exfalso; omega) | (rw [if_pos (by omega)]; done) | (rw [if_neg (by omega)]; done)⟩, hG503, ((FRM_w ((hF4).mono rfl) (r := 1) rfl rfl).trans ((hF500).mono rfl)).trans ((hF503).mono rfl), (FRM_gi hF503 (r := 1) rfl rfl).trans ((FRM_gi hF500 (r := 1) rfl rfl).trans (gi_same (by omega)))⟩
        · refine x_if_ne 110 79 hK rfl rfl rfl (by omega) (fun c => by omega) (fun _ => ?_)
          refine x_aload_n 80 hK rfl rfl l0 ?_
          obtain ⟨k, hk⟩ : ∃ k : Nat, (60 - i).toNat = k + 1 := ⟨(60 - i).toNat - 1, by omega⟩
          have hk1 : (60 - (i + 1)).toNat = k := by omega
          rw [hk, rdAs_s, if_neg (show ¬ min n 60 ≤ p by omega)] at q3 q4 q5 q6
          have ok : (rdAct T p).1.1 = true := by
            by_cases z : (rdAct T p).1.1 = true
            · exact z
            · rw [if_neg z] at q3
              exact Bool.noConfusion (congrArg Prod.fst q3)
          rw [if_pos ok] at q3 q4 q5 q6
          have ap := rdAct_p (f := T) fe0 (show p < min n 60 by omega)
          refine x_callV 83 hK hmono rfl rfl [.ref 0] [] rfl rfl (Nat.le_of_ble_eq_true rfl) (Nat.le_of_ble_eq_true rfl) rfl (sp_0 (h := h4) hG4) (CLd_le (Nat.le_of_ble_eq_true rfl) (ctX10_doVoyageSignF hSP hG4 (show PT h4 from PT_F hF4 (by decide) hP) (show XI h4 from (xOk_ok rfl _ h4 hF4 hX)) hD4 (b := b + 9 * i) (w := x) (ml := ml) (ln := ln) (ea := ea) (by rw [n94]; exact hs) wx (by omega) (fun j hj => by rw [n19] at hj; rw [FRM_gi hF4 (a := 20) (r := 14) rfl rfl, FRM_gi hF4 (a := 21) (r := 15) rfl rfl]; exact hml j hj) (fun m hm => by rw [n94] at hm; rw [FRM_gi hF4 (a := 22) (r := 16) rfl rfl]; exact hea m hm) (n := n) (p := p) q1 s3 s4 gn (by omega) (by rw [sF]; exact ok))) ?_
          rw [sF, n94, n19, dl4, l54]
          rintro v504 h504 ⟨⟨dr, rfl, hS504, p504⟩ | ⟨dr, rfl, hS504⟩, hG504, hF504⟩
          · refine x_if_ne 90 86 hK rfl rfl rfl (by omega) (fun _ => ?_) (fun c => by omega)
            refine x_iconst 91 hK rfl rfl ?_
            refine x_istore_n 92 hK rfl rfl _ rfl ?_
            refine x_iload_n 93 hK rfl rfl (lk1_n l2 (by decide) (Or.inl rfl)) ?_
            refine x_iload_n 94 hK rfl rfl lk1_s ?_
            refine x_if_eq 101 97 hK rfl rfl rfl (by omega) (fun _ => ?_) (fun c => by omega)
            refine x_iconst 102 hK rfl rfl ?_
            refine x_iadd 103 hK rfl rfl ?_
            refine x_istore_n 104 hK rfl rfl _ rfl ?_
            refine x_iinc 107 hK rfl rfl (lk1_n (lk1_n l4 (by decide) (Or.inl rfl)) (by decide) (Or.inl rfl)) _ rfl ?_
            refine x_goto 58 hK rfl rfl ?_
            have vs : (vyI (dlA h) (gi h 171 5) ml ln (gi h 19 0).toNat (gi h 0 9) ea ((rdAct T p).2 :: (rdAs T (min n 60) k (rdAct T p).1.2).2) x) = ((vyI (dlA h) (gi h 171 5) ml ln (gi h 19 0).toNat (gi h 0 9) ea (rdAs T (min n 60) k (rdAct T p).1.2).2 (doW (dlA h) (gi h 171 5) ml ln (gi h 19 0).toNat (gi h 0 9) ea (rdAct T p).2 x)).1 + 1, (vyI (dlA h) (gi h 171 5) ml ln (gi h 19 0).toNat (gi h 0 9) ea (rdAs T (min n 60) k (rdAct T p).1.2).2 (doW (dlA h) (gi h 171 5) ml ln (gi h 19 0).toNat (gi h 0 9) ea (rdAct T p).2 x)).2.1, doH ml ln (gi h 19 0).toNat (gi h 0 9) ea (rdAct T p).2 x + (vyI (dlA h) (gi h 171 5) ml ln (gi h 19 0).toNat (gi h 0 9) ea (rdAs T (min n 60) k (rdAct T p).1.2).2 (doW (dlA h) (gi h 171 5) ml ln (gi h 19 0).toNat (gi h 0 9) ea (rdAct T p).2 x)).2.2) := if_pos dr
            have q3 : (rdAs T (min n 60) k (rdAct T p).1.2).1 = (true, min n 60) := q3
            have q4 : (RR.2.length : Int) = i + (((rdAs T (min n 60) k (rdAct T p).1.2).2.length + 1 : Nat) : Int) := q4
            rw [vs] at q5 q6
            have q5 : (VV.1 : Int) = i + (((vyI (dlA h) (gi h 171 5) ml ln (gi h 19 0).toNat (gi h 0 9) ea (rdAs T (min n 60) k (rdAct T p).1.2).2 (doW (dlA h) (gi h 171 5) ml ln (gi h 19 0).toNat (gi h 0 9) ea (rdAct T p).2 x)).1 + 1 : Nat) : Int) := q5
            have q6 : VV.2.1 = (vyI (dlA h) (gi h 171 5) ml ln (gi h 19 0).toNat (gi h 0 9) ea (rdAs T (min n 60) k (rdAct T p).1.2).2 (doW (dlA h) (gi h 171 5) ml ln (gi h 19 0).toNat (gi h 0 9) ea (rdAct T p).2 x)).2.1 := q6
            have wd := WW_do (dl := dlA h) (l := gi h 171 5) (ml := ml) (ln := ln) (ea := ea) (nr := (gi h 19 0).toNat) (ms := (gi h 0 9)) (q := (rdAct T p).2) (by omega) g9.2 (fun m hm => (hea m hm).2) (ap.2.2.2 ok) act_k dr wx
            exact ih _ (by omega) (c + 1) 0 (i + 1) _ _ rfl (c9) (by omega) (⟨by omega, by omega⟩) (⟨(rdAct T p).1.2, (doW (dlA h) (gi h 171 5) ml ln (gi h 19 0).toNat (gi h 0 9) ea (rdAct T p).2 x), hS504, wd.mono (by omega), fun _ => ⟨by omega, p504, ⟨by have := ap.2.2.1 ok; omega, ap.2.1⟩, by rw [hk1]; exact q3, by rw [hk1]; omega, by rw [hk1]; omega, by rw [hk1]; exact q6⟩, fun z => absurd z (by omega)⟩) ((kS28_F hF504 (by decide)).trans s28) (((FRM_gi hF504 (r := 1) rfl rfl).trans (s3))) (((FRM_gi hF504 (r := 1) rfl rfl).trans (s4))) (lk1_n (lk1_n (lk1_n l0 (by decide) (Or.inl rfl)) (by decide) (Or.inl rfl)) (by decide) (Or.inl rfl)) (lk1_n lk1_s (by decide) (Or.inl rfl)) (lk1_n (lk1_n lk1_s (by decide) (Or.inl rfl)) (by decide) (Or.inl rfl)) lk1_s (hG504) ((hF4).trans ((hF504).mono rfl))
          · refine x_if_ne 90 86 hK rfl rfl rfl (by omega) (fun c => by omega) (fun _ => ?_)
            refine x_iconst 87 hK rfl rfl ?_
            refine x_goto 91 hK rfl rfl ?_
            refine x_istore_n 92 hK rfl rfl _ rfl ?_
            refine x_iload_n 93 hK rfl rfl (lk1_n l2 (by decide) (Or.inl rfl)) ?_
            refine x_iload_n 94 hK rfl rfl lk1_s ?_
            refine x_if_eq 101 97 hK rfl rfl rfl (by omega) (fun c => by omega) (fun _ => ?_)
            refine x_iconst 98 hK rfl rfl ?_
            refine x_goto 102 hK rfl rfl ?_
            refine x_iadd 103 hK rfl rfl ?_
            refine x_istore_n 104 hK rfl rfl _ rfl ?_
            refine x_iinc 107 hK rfl rfl (lk1_n (lk1_n l4 (by decide) (Or.inl rfl)) (by decide) (Or.inl rfl)) _ rfl ?_
            refine x_goto 58 hK rfl rfl ?_
            have vs : (vyI (dlA h) (gi h 171 5) ml ln (gi h 19 0).toNat (gi h 0 9) ea ((rdAct T p).2 :: (rdAs T (min n 60) k (rdAct T p).1.2).2) x) = (0, x, 0) := if_neg (by rw [dr]; decide)
            have q4 : (RR.2.length : Int) = i + (((rdAs T (min n 60) k (rdAct T p).1.2).2.length + 1 : Nat) : Int) := q4
            rw [vs] at q5 q6
            have q5 : (VV.1 : Int) = i + ((0 : Nat) : Int) := q5
            have q6 : VV.2.1 = x := q6
            exact ih _ (by omega) (c + 0) 1 (i + 1) _ _ rfl (c9) (by omega) (⟨by omega, by omega⟩) (⟨p, x, hS504, wx.mono (by omega), fun z => absurd z (by omega), fun _ => ⟨by omega, q6, by omega⟩⟩) ((kS28_F hF504 (by decide)).trans s28) (((FRM_gi hF504 (r := 1) rfl rfl).trans (s3))) (((FRM_gi hF504 (r := 1) rfl rfl).trans (s4))) (lk1_n (lk1_n (lk1_n l0 (by decide) (Or.inl rfl)) (by decide) (Or.inl rfl)) (by decide) (Or.inl rfl)) (lk1_n lk1_s (by decide) (Or.inl rfl)) (lk1_n (lk1_n lk1_s (by decide) (Or.inl rfl)) (by decide) (Or.inl rfl)) lk1_s (hG504) ((hF4).trans ((hF504).mono rfl))
  refine x_aload_n 1 hK rfl rfl rfl ?_
  refine x_getR 4 hK rfl rfl (sp_0 (h := h) hG) (rf_0_0 (h := h) hG) ?_
  refine x_bipush 6 hK rfl rfl rfl ?_
  have on505 : gi h 1 1 = n := (rfl).trans hn
  refine x_callV 9 hK hmono rfl rfl [.ref 1, .int (I 60)] [] rfl rfl (Nat.le_of_ble_eq_true rfl) (Nat.le_of_ble_eq_true rfl) rfl (sp_1 (h := h) hG) (CLd_le (Nat.le_of_ble_eq_true rfl) (ctX9_open hSP hG (n := 60) (by omega))) ?_
  rw [on505]
  rintro v505 h505 ⟨rfl, hG505, hF505, y2505, y3505, y4505, y5505⟩
  refine x_aload_n 10 hK rfl rfl rfl ?_
  have sF : fx h505 = T := by rw [fx_tx, y3505, ← hT, show gi h505 2 = gi h 2 from funext fun k => FRM_gi hF505 (r := 2) rfl rfl]
  refine x_callV 13 hK hmono rfl rfl [.ref 0] [] rfl rfl (Nat.le_of_ble_eq_true rfl) (Nat.le_of_ble_eq_true rfl) rfl (sp_0 (h := h505) hG505) (CLd_le (Nat.le_of_ble_eq_true rfl) (ctX10_voyageFaultF hSP hG505 (n := n) y2505 y3505 y4505 gn)) ?_
  rw [sF, hRR]
  rintro v506 h506 ⟨rfl, hG506, hF506⟩
  have cb : -1 ≤ cfl n 60 RR.1 ∧ cfl n 60 RR.1 ≤ 60 := by unfold cfl; (repeat' split) <;> omega
  refine x_istore_n 14 hK rfl rfl [(1, .int (I (cfl n 60 RR.1))), (0, .ref 0)] rfl ?_
  refine x_iload_n 15 hK rfl rfl rfl ?_
  refine x_iconst 16 hK rfl rfl ?_
  refine x_if_icmp_eq 31 19 hK rfl rfl rfl (by omega) (by omega) (fun c10 => ?_) (fun c10 => ?_)
  · refine x_aload_n 32 hK rfl rfl rfl ?_
    refine x_getR 35 hK rfl rfl (sp_0 (h := h506) hG506) (rf_0_11 (h := h506) hG506) ?_
    refine x_aload_n 36 hK rfl rfl rfl ?_
    refine x_getR 39 hK rfl rfl (sp_0 (h := h506) hG506) (rf_0_10 (h := h506) hG506) ?_
    have hFc : FRM gRL [(0, 1, 2, 5)] h h506 := ((hF505).mono rfl).trans ((hF506).mono rfl)
    have e23 : kS h506 23 = kS h 23 := kS23_F hFc (by decide)
    refine x_callV 42 hK hmono rfl rfl [.ref 28, .ref 23] [] rfl rfl (Nat.le_of_ble_eq_true rfl) (Nat.le_of_ble_eq_true rfl) rfl (sp_28 (h := h506) hG506) (CLd_le (Nat.le_of_ble_eq_true rfl) (ctX8_copyFrom_28_23 hSP hG506 (show PT h506 from (PT_F hF506 (by decide) (PT_F hF505 (by decide) hP))))) ?_
    rw [e23]
    rintro v507 h507 ⟨rfl, hG507, hF507, eS507, ot507⟩
    refine x_aload_n 43 hK rfl rfl rfl ?_
    refine x_getR 46 hK rfl rfl (sp_0 (h := h507) hG507) (rf_0_0 (h := h507) hG507) ?_
    refine x_bipush 48 hK rfl rfl rfl ?_
    have on508 : gi h507 1 1 = n := ((FRM_gi hF507 (r := 1) rfl rfl).trans ((FRM_gi hF506 (r := 1) rfl rfl).trans (FRM_gi hF505 (r := 1) rfl rfl))).trans hn
    refine x_callV 51 hK hmono rfl rfl [.ref 1, .int (I 60)] [] rfl rfl (Nat.le_of_ble_eq_true rfl) (Nat.le_of_ble_eq_true rfl) rfl (sp_1 (h := h507) hG507) (CLd_le (Nat.le_of_ble_eq_true rfl) (ctX9_open hSP hG507 (n := 60) (by omega))) ?_
    rw [on508]
    rintro v508 h508 ⟨rfl, hG508, hF508, y2508, y3508, y4508, y5508⟩
    refine x_iconst 52 hK rfl rfl ?_
    refine x_istore_n 53 hK rfl rfl [(2, .int (I 0)), (1, .int (I (cfl n 60 RR.1))), (0, .ref 0)] rfl ?_
    refine x_iconst 54 hK rfl rfl ?_
    refine x_istore_n 55 hK rfl rfl [(3, .int (I 0)), (2, .int (I 0)), (1, .int (I (cfl n 60 RR.1))), (0, .ref 0)] rfl ?_
    refine x_iconst 56 hK rfl rfl ?_
    refine x_istore 58 hK rfl rfl [(4, .int (I 0)), (3, .int (I 0)), (2, .int (I 0)), (1, .int (I (cfl n 60 RR.1))), (0, .ref 0)] rfl ?_
    have c9 : cfl n 60 RR.1 = -1 := by omega
    have cr : RR.1 = (true, min n 60) := by
      unfold cfl at c9
      by_cases z : RR.1.1 = true ∧ RR.1.2 = min n 60
      · exact Prod.ext z.1 z.2
      · rw [if_neg z] at c9; omega
    have hFe : FRM gRL [(0, 1, 2, 5), (0, 22, 0, 4), (0, 23, 0, 11), (0, 24, 0, 11), (0, 25, 0, 7), (0, 26, 0, 7)] h h508 := ((((hF505).mono rfl).trans ((hF506).mono rfl)).trans ((hF507).mono rfl)).trans ((hF508).mono rfl)
    have eE : kS h508 23 = kS h 23 := kS23_F hFe (by decide)
    exact loop _ 0 0 0 _ _ rfl (c9) (by omega) (⟨by omega, by omega⟩) (⟨0, w, by rw [eE]; exact hS, hw.mono (by omega), fun _ => ⟨rfl, y2508, ⟨by omega, by omega⟩, by rw [← cr, ← hRR]; rfl, by rw [← hRR]; exact (Int.zero_add _).symm, by rw [← hVV, ← hRR]; exact (Int.zero_add _).symm, by rw [← hVV, ← hRR]; rfl⟩, fun z => absurd z (by omega)⟩) ((kS28_F hF508 (by decide)).trans eS507) (y3508) (y4508) rfl rfl rfl rfl (hG508) (((((hF505).mono rfl).trans ((hF506).mono rfl)).trans ((hF507).mono rfl)).trans ((hF508).mono rfl))
  · refine x_aload_n 20 hK rfl rfl rfl ?_
    refine x_getR 23 hK rfl rfl (sp_0 (h := h506) hG506) (rf_0_0 (h := h506) hG506) ?_
    refine x_iconst 24 hK rfl rfl ?_
    refine x_putI 27 hK rfl rfl (sp_1 (h := h506) hG506) ?_
    refine x_iconst 28 hK rfl rfl ?_
    refine x_iload_n 29 hK rfl rfl rfl ?_
    refine x_isub 30 hK rfl rfl ?_
    have hFe : FRM gRL [(0, 1, 1, 5)] h (wI h506 1 1 0) := FRM_w (((hF505).mono rfl).trans ((hF506).mono rfl)) (r := 1) rfl rfl
    exact x_iret hK rfl ⟨Or.inl ⟨by omega, rfl, by rw [kS23_F hFe (by decide)]; exact hS, PL_F hFe rfl⟩, GD_w1 (hG506) (r := 1) rfl (by omega) rfl (by omega) (by omega), FRM_w (((hF505).mono rfl).trans ((hF506).mono rfl)) (r := 1) rfl rfl, gi_same (by omega)⟩
