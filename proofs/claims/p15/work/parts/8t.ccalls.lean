/-! ORDERS, FOOD, STEPS OF THE CLASS -/
def s23Ok (M : MD) : Bool := (M.all fun q => !(Nat.beq q.1 0 && Nat.beq q.2.1 17)) && (M.all fun q => !(Nat.beq q.1 0 && Nat.beq q.2.1 18)) && (M.all fun q => !(Nat.beq q.1 0 && Nat.beq q.2.1 19)) && (M.all fun q => !(Nat.beq q.1 0 && Nat.beq q.2.1 20)) && (M.all fun q => !(Nat.beq q.1 0 && Nat.beq q.2.1 21))
theorem kS23_F {M : MD} {h h' : aH} (hF : FRM gRL M h h') (hm : s23Ok M = true) : kS h' 23 = kS h 23 := by
  simp only [s23Ok, Bool.and_eq_true] at hm
  have m0 := hm.1.1.1.1
  have m1 := hm.1.1.1.2
  have m2 := hm.1.1.2
  have m3 := hm.1.2
  have m4 := hm.2
  refine kS_ge fun a k h1 h2 => ?_
  rcases (show a = 23 ∨ a = 24 ∨ a = 25 ∨ a = 26 ∨ a = 27 by omega) with rfl | rfl | rfl | rfl | rfl
  · exact FRM_gi hF (r := 17) rfl (mHas_non m0 k)
  · exact FRM_gi hF (r := 18) rfl (mHas_non m1 k)
  · exact FRM_gi hF (r := 19) rfl (mHas_non m2 k)
  · exact FRM_gi hF (r := 20) rfl (mHas_non m3 k)
  · exact FRM_gi hF (r := 21) rfl (mHas_non m4 k)
def plOk (M : MD) : Bool := !(mHas M 0 27 1) && !(mHas M 0 27 2) && (M.all fun q => !(Nat.beq q.1 0 && Nat.beq q.2.1 31)) && (M.all fun q => !(Nat.beq q.1 0 && Nat.beq q.2.1 32)) && (M.all fun q => !(Nat.beq q.1 0 && Nat.beq q.2.1 33)) && (M.all fun q => !(Nat.beq q.1 0 && Nat.beq q.2.1 34)) && (M.all fun q => !(Nat.beq q.1 0 && Nat.beq q.2.1 35))
theorem kSr_F {M : MD} {h h' : aH} (hF : FRM gRL M h h') (hm : plOk M = true) {i : Nat} (hi : i < 15) : kS h' (37 + 5 * i) = kS h (37 + 5 * i) := by
  simp only [plOk, Bool.and_eq_true] at hm
  have m0 := hm.1.1.1.1.1.1
  have m1 := hm.1.1.1.1.1.2
  have m2 := hm.1.1.1.1.2
  have m3 := hm.1.1.1.2
  have m4 := hm.1.1.2
  have m5 := hm.1.2
  have m6 := hm.2
  obtain ⟨q0, q1, q2, q3, q4⟩ := rg_r (c := 37 + 5 * i) ⟨i, hi, rfl⟩
  refine kS_ge fun a k h1 h2 => ?_
  rcases (show a = 37 + 5 * i ∨ a = 37 + 5 * i + 1 ∨ a = 37 + 5 * i + 2 ∨ a = 37 + 5 * i + 3 ∨ a = 37 + 5 * i + 4 by omega) with rfl | rfl | rfl | rfl | rfl
  · exact FRM_gi hF q0 (mHas_non m2 k)
  · exact FRM_gi hF q1 (mHas_non m3 k)
  · exact FRM_gi hF q2 (mHas_non m4 k)
  · exact FRM_gi hF q3 (mHas_non m5 k)
  · exact FRM_gi hF q4 (mHas_non m6 k)
theorem PL_F {M : MD} {h h' : aH} (hF : FRM gRL M h h') (hm : plOk M = true) : PL h' = PL h := by
  have hm2 := hm
  simp only [plOk, Bool.and_eq_true, Bool.not_eq_true'] at hm2
  have m0 := hm2.1.1.1.1.1.1
  have m1 := hm2.1.1.1.1.1.2
  exact PL_eq (FRM_gi hF (a := 33) (r := 27) rfl m0) (FRM_gi hF (a := 33) (r := 27) rfl m1) fun i hi => kSr_F hF hm hi
def drOk (M : MD) : Bool := !(mHas M 2 0 2) && !(mHas M 2 0 4) && !(mHas M 0 54 3) && !(mHas M 0 54 4) && !(mHas M 0 54 5) && !(mHas M 0 54 25) && !(mHas M 0 8 1) && (M.all fun q => !(Nat.beq q.1 0 && Nat.beq q.2.1 5)) && (M.all fun q => !(Nat.beq q.1 0 && Nat.beq q.2.1 9)) && (M.all fun q => !(Nat.beq q.1 0 && Nat.beq q.2.1 65))
theorem DR_F {M : MD} {h h' : aH} (hF : FRM gRL M h h') (hm : drOk M = true) {s u : Nat} (hD : DR h s u) : DR h' s u := by
  simp only [drOk, Bool.and_eq_true, Bool.not_eq_true'] at hm
  have m0 := hm.1.1.1.1.1.1.1.1.1
  have m1 := hm.1.1.1.1.1.1.1.1.2
  have m2 := hm.1.1.1.1.1.1.1.2
  have m3 := hm.1.1.1.1.1.1.2
  have m4 := hm.1.1.1.1.1.2
  have m5 := hm.1.1.1.1.2
  have m6 := hm.1.1.1.2
  have m7 := hm.1.1.2
  have m8 := hm.1.2
  have m9 := hm.2
  obtain ⟨h5, hu, pS, pL, ⟨c0, c1, c2⟩, r0, r1, r2⟩ := hD
  have es : ∀ k, gi h' s k = gi h s k := fun k => FRM_gi hF (ss_r h5).1 (mHas_non m7 k)
  have eu : gi h' u 1 = gi h u 1 := FRM_gi hF (su_r hu).1 m6
  have ec : ∀ k, gi h' (u + 1) k = gi h (u + 1) k := fun k => FRM_gi hF (su_r hu).2 (mHas_non m8 k)
  have e8 : gi h' 182 = gi h 182 := funext fun k => FRM_gi hF (r := 65) rfl (mHas_non m9 k)
  refine ⟨h5, hu, (FRM_aR hF (r := 0) rfl m0).trans pS, (FRM_aR hF (r := 0) rfl m1).trans pL, ⟨?_, ?_, ?_⟩, ?_, ?_, ?_⟩
  · rw [es, FRM_gi hF (a := 171) (r := 54) rfl m2]; exact c0
  · rw [es, FRM_gi hF (a := 171) (r := 54) rfl m3]; exact c1
  · rw [es, FRM_gi hF (a := 171) (r := 54) rfl m4]; exact c2
  · rw [eu, FRM_gi hF (a := 171) (r := 54) rfl m5]; exact r0
  · intro k hk
    rw [eu] at hk
    rw [ec, e8]
    exact r1 k hk
  · intro z
    rw [eu] at z ⊢
    rw [e8]
    exact r2 z
theorem WW.mono {b c : Int} {w : WS} (h : WW b w) (hb : b ≤ c) : WW c w := by
  obtain ⟨w0, w1, w2, w3, w4⟩ := h
  exact ⟨by omega, w1, by omega, by omega, fun m hm => by have := w4 m hm; omega⟩
theorem WW_st {b : Int} {ml ln ea : Nat → Int} {nr : Nat} {ms : Int} {w : WS} (hn : nr ≤ 16) (h8 : ms ≤ 8) (hea : ∀ m : Nat, (m : Int) < ms → 0 ≤ ea m ∧ ea m ≤ 9) (hw : WW b w) : WW (b + 1) (stW ml ln nr ms ea w) := by
  obtain ⟨w0, w1, w2, w3, w4⟩ := hw
  have hh := hitN_b ml ln (w.1 + 1) (stL w) nr
  refine ⟨?_, ptF_b w1 _, ?_, ?_, fun m hm => ?_⟩
  · show 0 ≤ w.1 + 1 ∧ w.1 + 1 ≤ b + 1; omega
  · show 0 ≤ w.2.2.1 + hitN ml ln (w.1 + 1) (stL w) nr ∧ w.2.2.1 + hitN ml ln (w.1 + 1) (stL w) nr ≤ 16 * (b + 1); omega
  · show -1 ≤ w.2.2.2.1 ∧ w.2.2.2.1 ≤ b + 1; omega
  · have y := w4 m hm
    show (0 ≤ (if (m : Int) < ms then fdS (w.2.2.2.2.2.1 m) (ea m) else w.2.2.2.2.2.1 m) ∧ (if (m : Int) < ms then fdS (w.2.2.2.2.2.1 m) (ea m) else w.2.2.2.2.2.1 m) ≤ 99) ∧ 0 ≤ (if (m : Int) < ms then huS (w.2.2.2.2.2.2 m) (w.2.2.2.2.2.1 m) (ea m) else w.2.2.2.2.2.2 m) ∧ (if (m : Int) < ms then huS (w.2.2.2.2.2.2 m) (w.2.2.2.2.2.1 m) (ea m) else w.2.2.2.2.2.2 m) ≤ b + 1
    by_cases c : (m : Int) < ms
    · have := hea m c
      rw [if_pos c, if_pos c]
      unfold fdS huS
      split <;> omega
    · rw [if_neg c, if_neg c]
      omega
theorem WW_stI {b : Int} {ml ln ea : Nat → Int} {nr : Nat} {ms : Int} {w : WS} (hn : nr ≤ 16) (h8 : ms ≤ 8) (hea : ∀ m : Nat, (m : Int) < ms → 0 ≤ ea m ∧ ea m ≤ 9) (hw : WW b w) : ∀ k : Nat, WW (b + k) (stI ml ln nr ms ea k w)
  | 0 => by rw [show b + ((0 : Nat) : Int) = b from Int.add_zero b]; exact hw
  | k + 1 => by
    have z := WW_st (ml := ml) (ln := ln) hn h8 hea (WW_stI (ml := ml) (ln := ln) hn h8 hea hw k)
    rw [show b + ((k + 1 : Nat) : Int) = b + (k : Int) + 1 by omega]
    exact z
theorem gvR_in {v : Int} {w : WS} (hv : -1 ≤ v ∧ v ≤ 1) : gvR v w = gvR 0 w := by
  unfold gvR
  rw [if_neg (show ¬ ¬ (-1 ≤ v ∧ v ≤ 1) from fun z => z hv), if_neg (show ¬ ¬ ((-1 : Int) ≤ 0 ∧ (0 : Int) ≤ 1) from fun z => z (by decide))]
theorem STR_gv {ms : Int} {x x' : CWS} {w : WS} {d v t : Int} (hS : STR ms x w) (hx : x' = (x.1, x.2.1, x.2.2.1, x.1, insO (x.1 + d, v) x.2.2.2.2.1, x.2.2.2.2.2)) (hd : 1 ≤ d ∧ d ≤ 12) (hv : -1 ≤ t ∧ t ≤ 1) (hg : gvR 0 w = 0) (ht : t = v) : STR ms x' (gvW d t w) := by
  subst hx
  subst ht
  obtain ⟨q0, q1, q2, q3, q4, q5, q6⟩ := hS
  refine ⟨OKW_gv q0 hd hv hg, q1, q2, q3, q1, ?_, q6⟩
  show insO (x.1 + d, t) x.2.2.2.2.1 = srt (w.2.2.2.2.1 ++ [(w.1 + d, t, w.1)])
  rw [srt_snoc, q1, q5]
theorem gvR_0 {w : WS} (h : gvR 0 w = 0) (l12 : w.2.2.2.2.1.length ≤ 12) : w.2.2.2.2.1.length < 12 := by
  unfold gvR at h
  by_cases c : w.2.2.2.2.1.length = 12
  · rw [if_pos c] at h
    (repeat' split at h) <;> omega
  · omega
set_option maxRecDepth 4000 in
theorem ctX10_giveOrderF {SP : CT} (hSP : MONO SP) {sh : List (Nat × Nat)} {h : aH} (hG : GD gE gRL sh h) {s u : Nat} (hP : PT h) (hX : XI h) (hD : DR h s u) {b : Int} {w : WS} (hS : STR (gi h 0 9) (kS h 23) w) (hw : WW b w) (hb : b ≤ 950000) {v : Int} (hv : -1 ≤ v ∧ v ≤ 1) (hg : gvR 0 w = 0) : CLd SP 6 mX10_giveOrder [.ref 0, .int (I v)] h 0 0 (fun rv h' => rv = some (.int (I (dlA h w.1))) ∧ GD gE gRL sh h' ∧ FRM gRL [(0, 8, 3, 3), (0, 10, 0, 39), (0, 17, 3, 4), (0, 18, 0, 11), (0, 19, 0, 11)] h h' ∧ STR (gi h 0 9) (kS h' 23) (gvW (dlA h w.1) (tvF (gi h 171 5) v) w)) := by
  refine x_met _ rfl (Nat.le_of_ble_eq_true rfl) (fun K hK => ?_)
  have hmono := MONO_CLd hSP 5
  have hD2 := hD
  obtain ⟨h5, hu, pS, pL, ⟨c0, c1, c2⟩, r0, r1, r2⟩ := hD2
  obtain ⟨k0, k1, k2, k3, k4, k5, k6⟩ := STR_to hG hS
  have l12 := gvR_0 hg hS.1.2.2.1
  have w0 := hw.1
  have db := dlA_b h w.1
  have tb := tvF_b (l := gi h 171 5) hv
  have e5 : (gi h s 2).tmod 2 = (gi h 171 5).tmod 2 := by rw [c2]
  have tm := tm2 (gi h 171 5)
  have et : tvF (gi h 171 5) v = if (gi h 171 5).tmod 2 = 1 then -v else v := rfl
  generalize (gi h 171 5).tmod 2 = t at *
  refine x_aload_n 1 hK rfl rfl rfl ?_
  refine x_aload_n 2 hK rfl rfl rfl ?_
  refine x_getR 5 hK rfl rfl (sp_0 (h := h) hG) (rf_0_10 (h := h) hG) ?_
  have g432 := gi_r h 23 0
  refine x_getE 8 hK rfl (Or.inl rfl) rfl (sp_23 (h := h) hG) (e := (gi h 23 0)) (rfl) ?_
  refine x_callV 11 hK hmono rfl rfl [.ref 0, .int (I (gi h 23 0))] [] rfl rfl (Nat.le_of_ble_eq_true rfl) (Nat.le_of_ble_eq_true rfl) rfl (sp_0 (h := h) hG) (CLd_le (Nat.le_of_ble_eq_true rfl) (ctX10_delayA hSP hG hP hX hD (t := gi h 23 0) (by omega))) ?_
  rw [k0]
  rintro v433 h433 ⟨rfl, hG433, hF433⟩
  have eS433 : kS h433 23 = kS h 23 := kS23_F hF433 (by decide)
  have hS433 : STR (gi h 0 9) (kS h433 23) w := by rw [eS433]; exact hS
  have ss433 := STR_ss hG433 hS433
  refine x_istore_n 12 hK rfl rfl [(2, .int (I (dlA h w.1))), (0, .ref 0), (1, .int (I v))] rfl ?_
  refine x_aload_n 13 hK rfl rfl rfl ?_
  refine x_getR 16 hK rfl rfl (sp_0 (h := h433) hG433) (rf_0_10 (h := h433) hG433) ?_
  refine x_iload_n 17 hK rfl rfl rfl ?_
  refine x_aload_n 18 hK rfl rfl rfl ?_
  refine x_getR 21 hK rfl rfl (sp_0 (h := h433) hG433) ((FRM_aR hF433 (r := 0) rfl rfl).trans (pS)) ?_
  have g434 := gi_r h s 2
  refine x_getE 24 hK rfl (Or.inl rfl) rfl (shx (h := h433) hG433 (r := 5) (ss_r h5).1 rfl) (e := (gi h s 2)) (FRM_gi hF433 (r := 5) (ss_r h5).1 rfl) ?_
  refine x_iconst 25 hK rfl rfl ?_
  refine x_irem 26 hK rfl rfl (gi_r _ _ _) (by omega) (by omega) (by omega) ?_
  rw [e5]
  refine x_iconst 27 hK rfl rfl ?_
  refine x_if_icmp_ne 35 30 hK rfl rfl rfl (by omega) (by omega) (fun c16 => ?_) (fun c16 => ?_)
  · refine x_iload_n 36 hK rfl rfl rfl ?_
    have et2 : tvF (gi h 171 5) v = v := by rw [et]; first | rw [if_pos (by omega)] | rw [if_neg (by omega)]
    refine x_callV 39 hK hmono rfl rfl [.ref 23, .int (I (dlA h w.1)), .int (I v)] [] rfl rfl (Nat.le_of_ble_eq_true rfl) (Nat.le_of_ble_eq_true rfl) rfl (sp_23 (h := h433) hG433) (CLd_le (Nat.le_of_ble_eq_true rfl) (ctX8_addOrder hSP hG433 (l := dlA h w.1) (v := v) (by omega) (by omega) (by rw [show gi h433 23 0 = gi h 23 0 from FRM_gi hF433 (r := 17) rfl rfl]; omega) (by rw [show gi h433 23 4 = gi h 23 4 from FRM_gi hF433 (r := 17) rfl rfl]; omega) ss433)) ?_
    rintro v435 h435 ⟨rfl, hG435, hF435, eW⟩
    have hS2 : STR (gi h 0 9) (kS h435 23) (gvW (dlA h w.1) (tvF (gi h 171 5) v) w) := STR_gv hS433 eW db tb hg et2
    refine x_iload_n 40 hK rfl rfl rfl ?_
    exact x_iret hK rfl ⟨rfl, hG435, ((hF433).mono rfl).trans ((hF435).mono rfl), hS2⟩
  · refine x_iload_n 31 hK rfl rfl rfl ?_
    refine x_ineg 32 hK rfl rfl ?_
    refine x_goto 36 hK rfl rfl ?_
    have et2 : tvF (gi h 171 5) v = (-v) := by rw [et]; first | rw [if_pos (by omega)] | rw [if_neg (by omega)]
    refine x_callV 39 hK hmono rfl rfl [.ref 23, .int (I (dlA h w.1)), .int (I (-v))] [] rfl rfl (Nat.le_of_ble_eq_true rfl) (Nat.le_of_ble_eq_true rfl) rfl (sp_23 (h := h433) hG433) (CLd_le (Nat.le_of_ble_eq_true rfl) (ctX8_addOrder hSP hG433 (l := dlA h w.1) (v := (-v)) (by omega) (by omega) (by rw [show gi h433 23 0 = gi h 23 0 from FRM_gi hF433 (r := 17) rfl rfl]; omega) (by rw [show gi h433 23 4 = gi h 23 4 from FRM_gi hF433 (r := 17) rfl rfl]; omega) ss433)) ?_
    rintro v436 h436 ⟨rfl, hG436, hF436, eW⟩
    have hS2 : STR (gi h 0 9) (kS h436 23) (gvW (dlA h w.1) (tvF (gi h 171 5) v) w) := STR_gv hS433 eW db tb hg et2
    refine x_iload_n 40 hK rfl rfl rfl ?_
    exact x_iret hK rfl ⟨rfl, hG436, ((hF433).mono rfl).trans ((hF436).mono rfl), hS2⟩
set_option maxRecDepth 4000 in
theorem ctX10_orderF {SP : CT} (hSP : MONO SP) {sh : List (Nat × Nat)} {h : aH} (hG : GD gE gRL sh h) {s u : Nat} (hP : PT h) (hX : XI h) (hD : DR h s u) {b : Int} {w : WS} (hS : STR (gi h 0 9) (kS h 23) w) (hw : WW b w) (hb : b ≤ 950000) {v : Int} (rv : r32 v) : CLd SP 8 mX10_order [.ref 0, .int (I v)] h 0 0 (fun rv h' => ((gvR v w ≠ 0 ∧ rv = some (.int (I (gvR v w))) ∧ h' = h) ∨ (gvR v w = 0 ∧ rv = some (.int (I (dlA h w.1))) ∧ STR (gi h 0 9) (kS h' 23) (gvW (dlA h w.1) (tvF (gi h 171 5) v) w) ∧ PL h' = pushC (PL h) (kS h 23))) ∧ GD gE gRL sh h' ∧ FRM gRL [(0, 8, 3, 3), (0, 10, 0, 39), (0, 17, 3, 4), (0, 18, 0, 11), (0, 19, 0, 11), (0, 27, 1, 2), (0, 31, 0, 4), (0, 32, 0, 11), (0, 33, 0, 11), (0, 34, 0, 7), (0, 35, 0, 7)] h h') := by
  refine x_met _ rfl (Nat.le_of_ble_eq_true rfl) (fun K hK => ?_)
  have hmono := MONO_CLd hSP 7
  have gb : -3 ≤ gvR 0 w ∧ gvR 0 w ≤ 0 := by unfold gvR; (repeat' split) <;> omega
  refine x_iload_n 1 hK rfl rfl rfl ?_
  refine x_iconst 2 hK rfl rfl ?_
  refine x_if_icmp_lt 10 5 hK rfl rfl rfl (by omega) (by omega) (fun c3 => ?_) (fun c3 => ?_)
  · refine x_iconst 11 hK rfl rfl ?_
    have e9 : gvR v w = -1 := by unfold gvR; exact if_pos (by omega)
    exact x_iret hK rfl ⟨Or.inl ⟨by omega, by rw [e9], rfl⟩, hG, FRM.rf⟩
  · refine x_iload_n 6 hK rfl rfl rfl ?_
    refine x_iconst 7 hK rfl rfl ?_
    refine x_if_icmp_le 12 10 hK rfl rfl rfl (by omega) (by omega) (fun c8 => ?_) (fun c8 => ?_)
    · refine x_aload_n 13 hK rfl rfl rfl ?_
      refine x_callV 16 hK hmono rfl rfl [.ref 0] [] rfl rfl (Nat.le_of_ble_eq_true rfl) (Nat.le_of_ble_eq_true rfl) rfl (sp_0 (h := h) hG) (CLd_le (Nat.le_of_ble_eq_true rfl) (ctX10_orderRefusalF hSP hG hS)) ?_
      rintro v9 h9 ⟨e9, rfl⟩
      rw [e9]
      clear e9
      have gi9 : gvR v w = gvR 0 w := gvR_in (by omega)
      refine x_istore_n 17 hK rfl rfl [(2, .int (I (gvR 0 w))), (0, .ref 0), (1, .int (I v))] rfl ?_
      refine x_iload_n 18 hK rfl rfl rfl ?_
      refine x_if_eq 23 21 hK rfl rfl rfl (by omega) (fun c13 => ?_) (fun c13 => ?_)
      · refine x_aload_n 24 hK rfl rfl rfl ?_
        refine x_getR 27 hK rfl rfl (sp_0 (h := h) hG) (rf_0_12 (h := h) hG) ?_
        refine x_aload_n 28 hK rfl rfl rfl ?_
        refine x_getR 31 hK rfl rfl (sp_0 (h := h) hG) (rf_0_10 (h := h) hG) ?_
        refine x_callV 34 hK hmono rfl rfl [.ref 33, .ref 23] [] rfl rfl (Nat.le_of_ble_eq_true rfl) (Nat.le_of_ble_eq_true rfl) rfl (sp_33 (h := h) hG) (CLd_le (Nat.le_of_ble_eq_true rfl) (ctX1_remember_23 hSP hG (show PT h from hP))) ?_
        rintro v437 h437 ⟨rfl, hG437, hF437, pl437⟩
        have eS437 : kS h437 23 = kS h 23 := kS23_F hF437 (by decide)
        have hS437 : STR (gi h 0 9) (kS h437 23) w := by rw [eS437]; exact hS
        have n9437 : gi h437 0 9 = gi h 0 9 := FRM_gi hF437 (r := 0) rfl (by decide)
        refine x_aload_n 35 hK rfl rfl rfl ?_
        refine x_iload_n 36 hK rfl rfl rfl ?_
        have dl437 : dlA h437 w.1 = dlA h w.1 := dlA_F hF437 rfl _
        have l5437 : gi h437 171 5 = gi h 171 5 := FRM_gi hF437 (r := 54) rfl rfl
        refine x_callV 39 hK hmono rfl rfl [.ref 0, .int (I v)] [] rfl rfl (Nat.le_of_ble_eq_true rfl) (Nat.le_of_ble_eq_true rfl) rfl (sp_0 (h := h437) hG437) (CLd_le (Nat.le_of_ble_eq_true rfl) (ctX10_giveOrderF hSP hG437 (show PT h437 from (PT_F hF437 (by decide) hP)) (show XI h437 from (xOk_ok rfl _ h437 hF437 hX)) (DR_F hF437 rfl hD) (by rw [n9437]; exact hS437) hw hb (v := v) (by omega) (by omega))) ?_
        rw [dl437, l5437, n9437]
        rintro v438 h438 ⟨rfl, hG438, hF438, hS438⟩
        exact x_iret hK rfl ⟨Or.inr ⟨by omega, rfl, hS438, (PL_F hF438 rfl).trans pl437⟩, hG438, ((hF437).mono rfl).trans ((hF438).mono rfl)⟩
      · refine x_iload_n 22 hK rfl rfl rfl ?_
        exact x_iret hK rfl ⟨Or.inl ⟨by omega, by rw [gi9], rfl⟩, hG, FRM.rf⟩
    · refine x_iconst 11 hK rfl rfl ?_
      have e9 : gvR v w = -1 := by unfold gvR; exact if_pos (by omega)
      exact x_iret hK rfl ⟨Or.inl ⟨by omega, by rw [e9], rfl⟩, hG, FRM.rf⟩
set_option maxRecDepth 4000 in
theorem ctX10_passRefusalF {SP : CT} (hSP : MONO SP) {sh : List (Nat × Nat)} {h : aH} (hG : GD gE gRL sh h) {b : Int} {w : WS} (hS : STR (gi h 0 9) (kS h 23) w) (hw : WW b w) (hb : b ≤ 950000) {m n a : Int} (rm : r32 m) (rn : r32 n) (ra : r32 a) : CLd SP 1 mX10_passRefusal [.ref 0, .int (I m), .int (I n), .int (I a)] h 0 0 (fun rv h' => h' = h ∧ rv = some (.int (I (psR (gi h 0 9) w.2.2.2.2.2.1 m n a)))) := by
  refine x_met _ rfl (Nat.le_of_ble_eq_true rfl) (fun K hK => ?_)
  have hmono := MONO_CLd hSP 0
  obtain ⟨k0, k1, k2, k3, k4, k5, k6⟩ := STR_to hG hS
  have g9 := gri 0 8 hG (a := 0) (r := 0) (k := 9) rfl rfl
  have w4 := hw.2.2.2.2
  have fm : 0 ≤ m → m < (gi h 0 9) → gi h 26 m.toNat = w.2.2.2.2.2.1 m.toNat ∧ 0 ≤ w.2.2.2.2.2.1 m.toNat ∧ w.2.2.2.2.2.1 m.toNat ≤ 99 := fun y1 y2 => by
    have z := (w4 m.toNat (by omega)).1
    exact ⟨(k6 m.toNat (by omega) (by omega)).1, z⟩
  have fo : 0 ≤ othF m a → othF m a < (gi h 0 9) → gi h 26 (othF m a).toNat = w.2.2.2.2.2.1 (othF m a).toNat ∧ 0 ≤ w.2.2.2.2.2.1 (othF m a).toNat ∧ w.2.2.2.2.2.1 (othF m a).toNat ≤ 99 := fun y1 y2 => by
    have z := (w4 (othF m a).toNat (by omega)).1
    exact ⟨(k6 (othF m a).toNat (by omega) (by omega)).1, z⟩
  have eo : othF m a = if a = 1 then m + 1 else m - 1 := rfl
  refine x_iload_n 1 hK rfl rfl rfl ?_
  refine x_if_lt 32 4 hK rfl rfl rfl (by omega) (fun c2 => ?_) (fun c2 => ?_)
  · refine x_iconst 33 hK rfl rfl ?_
    have e9 : (psR (gi h 0 9) w.2.2.2.2.2.1 m n a) = -1 := by unfold psR; exact if_pos (fun z => by first | omega | (obtain ⟨z1, z2, z3, z4⟩ := z; omega))
    exact x_iret hK rfl ⟨rfl, by rw [e9]⟩
  · refine x_iload_n 5 hK rfl rfl rfl ?_
    refine x_aload_n 6 hK rfl rfl rfl ?_
    have g439 := gri (0) (8) hG (a := 0) (r := 0) (k := 9) rfl rfl
    refine x_getE 9 hK rfl (Or.inl rfl) rfl (sp_0 (h := h) hG) (e := (gi h 0 9)) (rfl) ?_
    refine x_if_icmp_ge 32 12 hK rfl rfl rfl (by omega) (by omega) (fun c8 => ?_) (fun c8 => ?_)
    · refine x_iconst 33 hK rfl rfl ?_
      have e9 : (psR (gi h 0 9) w.2.2.2.2.2.1 m n a) = -1 := by unfold psR; exact if_pos (fun z => by first | omega | (obtain ⟨z1, z2, z3, z4⟩ := z; omega))
      exact x_iret hK rfl ⟨rfl, by rw [e9]⟩
    · refine x_iload_n 13 hK rfl rfl rfl ?_
      refine x_iconst 14 hK rfl rfl ?_
      refine x_if_icmp_lt 32 17 hK rfl rfl rfl (by omega) (by omega) (fun c13 => ?_) (fun c13 => ?_)
      · refine x_iconst 33 hK rfl rfl ?_
        have e9 : (psR (gi h 0 9) w.2.2.2.2.2.1 m n a) = -1 := by unfold psR; exact if_pos (fun z => by first | omega | (obtain ⟨z1, z2, z3, z4⟩ := z; omega))
        exact x_iret hK rfl ⟨rfl, by rw [e9]⟩
      · refine x_iload_n 18 hK rfl rfl rfl ?_
        refine x_bipush 20 hK rfl rfl rfl ?_
        refine x_if_icmp_gt 32 23 hK rfl rfl rfl (by omega) (by omega) (fun c18 => ?_) (fun c18 => ?_)
        · refine x_iconst 33 hK rfl rfl ?_
          have e9 : (psR (gi h 0 9) w.2.2.2.2.2.1 m n a) = -1 := by unfold psR; exact if_pos (fun z => by first | omega | (obtain ⟨z1, z2, z3, z4⟩ := z; omega))
          exact x_iret hK rfl ⟨rfl, by rw [e9]⟩
        · refine x_iload_n 24 hK rfl rfl rfl ?_
          refine x_if_lt 32 27 hK rfl rfl rfl (by omega) (fun c22 => ?_) (fun c22 => ?_)
          · refine x_iconst 33 hK rfl rfl ?_
            have e9 : (psR (gi h 0 9) w.2.2.2.2.2.1 m n a) = -1 := by unfold psR; exact if_pos (fun z => by first | omega | (obtain ⟨z1, z2, z3, z4⟩ := z; omega))
            exact x_iret hK rfl ⟨rfl, by rw [e9]⟩
          · refine x_iload_n 28 hK rfl rfl rfl ?_
            refine x_iconst 29 hK rfl rfl ?_
            refine x_if_icmp_le 34 32 hK rfl rfl rfl (by omega) (by omega) (fun c27 => ?_) (fun c27 => ?_)
            · refine x_iload_n 35 hK rfl rfl rfl ?_
              refine x_iconst 36 hK rfl rfl ?_
              refine x_if_icmp_ne 45 39 hK rfl rfl rfl (by omega) (by omega) (fun c30 => ?_) (fun c30 => ?_)
              · refine x_iload_n 46 hK rfl rfl rfl ?_
                refine x_iconst 47 hK rfl rfl ?_
                refine x_isub 48 hK rfl rfl ?_
                rw [show I ((m - 1)) = I (othF m a) from by rw [eo]; first | rw [if_pos (by omega)] | rw [if_neg (by omega)]]
                refine x_istore 50 hK rfl rfl [(4, .int (I (othF m a))), (0, .ref 0), (1, .int (I m)), (2, .int (I n)), (3, .int (I a))] rfl ?_
                refine x_iload 52 hK rfl rfl rfl ?_
                refine x_if_lt 64 55 hK rfl rfl rfl (by omega) (fun c37 => ?_) (fun c37 => ?_)
                · refine x_iconst 65 hK rfl rfl ?_
                  have e9 : (psR (gi h 0 9) w.2.2.2.2.2.1 m n a) = -1 := by unfold psR; exact if_pos (fun z => by first | omega | (obtain ⟨z1, z2, z3, z4⟩ := z; omega))
                  exact x_iret hK rfl ⟨rfl, by rw [e9]⟩
                · refine x_iload 57 hK rfl rfl rfl ?_
                  refine x_aload_n 58 hK rfl rfl rfl ?_
                  refine x_getE 61 hK rfl (Or.inl rfl) rfl (sp_0 (h := h) hG) (e := (gi h 0 9)) (rfl) ?_
                  refine x_if_icmp_lt 66 64 hK rfl rfl rfl (by omega) (by omega) (fun c43 => ?_) (fun c43 => ?_)
                  · refine x_aload_n 67 hK rfl rfl rfl ?_
                    refine x_getR 70 hK rfl rfl (sp_0 (h := h) hG) (rf_0_10 (h := h) hG) ?_
                    refine x_getR 73 hK rfl rfl (sp_23 (h := h) hG) (rf_23_7 (h := h) hG) ?_
                    refine x_iload_n 74 hK rfl rfl rfl ?_
                    have g440 := gi_r h 26 m.toNat
                    refine x_ialoadE 75 hK rfl rfl (sp_26 (h := h) hG) (by omega) (by omega) (by omega) (e' := (gi h 26 m.toNat)) (rfl) ?_
                    refine x_iload_n 76 hK rfl rfl rfl ?_
                    refine x_if_icmp_ge 82 79 hK rfl rfl rfl (by omega) (by omega) (fun c50 => ?_) (fun c50 => ?_)
                    · refine x_aload_n 83 hK rfl rfl rfl ?_
                      refine x_getR 86 hK rfl rfl (sp_0 (h := h) hG) (rf_0_10 (h := h) hG) ?_
                      refine x_getR 89 hK rfl rfl (sp_23 (h := h) hG) (rf_23_7 (h := h) hG) ?_
                      refine x_iload 91 hK rfl rfl rfl ?_
                      have g441 := gi_r h 26 (othF m a).toNat
                      refine x_ialoadE 92 hK rfl rfl (sp_26 (h := h) hG) (by omega) (by omega) (by omega) (e' := (gi h 26 (othF m a).toNat)) (rfl) ?_
                      refine x_iload_n 93 hK rfl rfl rfl ?_
                      refine x_iadd 94 hK rfl rfl ?_
                      refine x_bipush 96 hK rfl rfl rfl ?_
                      refine x_if_icmp_le 104 99 hK rfl rfl rfl (by omega) (by omega) (fun c59 => ?_) (fun c59 => ?_)
                      · refine x_iconst 105 hK rfl rfl ?_
                        have f1 := fm (by omega) (by omega)
                        have f2 := fo (by omega) (by omega)
                        have e9 : (psR (gi h 0 9) w.2.2.2.2.2.1 m n a) = 0 := by unfold psR; rw [if_neg (fun z => z ⟨by omega, by omega, by omega, by omega⟩), if_neg (by omega), if_neg (by omega)]
                        exact x_iret hK rfl ⟨rfl, by rw [e9]⟩
                      · refine x_bipush 101 hK rfl rfl rfl ?_
                        refine x_goto 105 hK rfl rfl ?_
                        have f1 := fm (by omega) (by omega)
                        have f2 := fo (by omega) (by omega)
                        have e9 : (psR (gi h 0 9) w.2.2.2.2.2.1 m n a) = (-3) := by unfold psR; rw [if_neg (fun z => z ⟨by omega, by omega, by omega, by omega⟩), if_neg (by omega), if_pos (by omega)]
                        exact x_iret hK rfl ⟨rfl, by rw [e9]⟩
                    · refine x_bipush 81 hK rfl rfl rfl ?_
                      have f1 := fm (by omega) (by omega)
                      have f2 := fo (by omega) (by omega)
                      have e9 : (psR (gi h 0 9) w.2.2.2.2.2.1 m n a) = (-2) := by unfold psR; rw [if_neg (fun z => z ⟨by omega, by omega, by omega, by omega⟩), if_pos (by omega)]
                      exact x_iret hK rfl ⟨rfl, by rw [e9]⟩
                  · refine x_iconst 65 hK rfl rfl ?_
                    have e9 : (psR (gi h 0 9) w.2.2.2.2.2.1 m n a) = -1 := by unfold psR; exact if_pos (fun z => by first | omega | (obtain ⟨z1, z2, z3, z4⟩ := z; omega))
                    exact x_iret hK rfl ⟨rfl, by rw [e9]⟩
              · refine x_iload_n 40 hK rfl rfl rfl ?_
                refine x_iconst 41 hK rfl rfl ?_
                refine x_iadd 42 hK rfl rfl ?_
                refine x_goto 48 hK rfl rfl ?_
                rw [show I ((m + 1)) = I (othF m a) from by rw [eo]; first | rw [if_pos (by omega)] | rw [if_neg (by omega)]]
                refine x_istore 50 hK rfl rfl [(4, .int (I (othF m a))), (0, .ref 0), (1, .int (I m)), (2, .int (I n)), (3, .int (I a))] rfl ?_
                refine x_iload 52 hK rfl rfl rfl ?_
                refine x_if_lt 64 55 hK rfl rfl rfl (by omega) (fun c76 => ?_) (fun c76 => ?_)
                · refine x_iconst 65 hK rfl rfl ?_
                  have e9 : (psR (gi h 0 9) w.2.2.2.2.2.1 m n a) = -1 := by unfold psR; exact if_pos (fun z => by first | omega | (obtain ⟨z1, z2, z3, z4⟩ := z; omega))
                  exact x_iret hK rfl ⟨rfl, by rw [e9]⟩
                · refine x_iload 57 hK rfl rfl rfl ?_
                  refine x_aload_n 58 hK rfl rfl rfl ?_
                  refine x_getE 61 hK rfl (Or.inl rfl) rfl (sp_0 (h := h) hG) (e := (gi h 0 9)) (rfl) ?_
                  refine x_if_icmp_lt 66 64 hK rfl rfl rfl (by omega) (by omega) (fun c82 => ?_) (fun c82 => ?_)
                  · refine x_aload_n 67 hK rfl rfl rfl ?_
                    refine x_getR 70 hK rfl rfl (sp_0 (h := h) hG) (rf_0_10 (h := h) hG) ?_
                    refine x_getR 73 hK rfl rfl (sp_23 (h := h) hG) (rf_23_7 (h := h) hG) ?_
                    refine x_iload_n 74 hK rfl rfl rfl ?_
                    have g442 := gi_r h 26 m.toNat
                    refine x_ialoadE 75 hK rfl rfl (sp_26 (h := h) hG) (by omega) (by omega) (by omega) (e' := (gi h 26 m.toNat)) (rfl) ?_
                    refine x_iload_n 76 hK rfl rfl rfl ?_
                    refine x_if_icmp_ge 82 79 hK rfl rfl rfl (by omega) (by omega) (fun c89 => ?_) (fun c89 => ?_)
                    · refine x_aload_n 83 hK rfl rfl rfl ?_
                      refine x_getR 86 hK rfl rfl (sp_0 (h := h) hG) (rf_0_10 (h := h) hG) ?_
                      refine x_getR 89 hK rfl rfl (sp_23 (h := h) hG) (rf_23_7 (h := h) hG) ?_
                      refine x_iload 91 hK rfl rfl rfl ?_
                      have g443 := gi_r h 26 (othF m a).toNat
                      refine x_ialoadE 92 hK rfl rfl (sp_26 (h := h) hG) (by omega) (by omega) (by omega) (e' := (gi h 26 (othF m a).toNat)) (rfl) ?_
                      refine x_iload_n 93 hK rfl rfl rfl ?_
                      refine x_iadd 94 hK rfl rfl ?_
                      refine x_bipush 96 hK rfl rfl rfl ?_
                      refine x_if_icmp_le 104 99 hK rfl rfl rfl (by omega) (by omega) (fun c98 => ?_) (fun c98 => ?_)
                      · refine x_iconst 105 hK rfl rfl ?_
                        have f1 := fm (by omega) (by omega)
                        have f2 := fo (by omega) (by omega)
                        have e9 : (psR (gi h 0 9) w.2.2.2.2.2.1 m n a) = 0 := by unfold psR; rw [if_neg (fun z => z ⟨by omega, by omega, by omega, by omega⟩), if_neg (by omega), if_neg (by omega)]
                        exact x_iret hK rfl ⟨rfl, by rw [e9]⟩
                      · refine x_bipush 101 hK rfl rfl rfl ?_
                        refine x_goto 105 hK rfl rfl ?_
                        have f1 := fm (by omega) (by omega)
                        have f2 := fo (by omega) (by omega)
                        have e9 : (psR (gi h 0 9) w.2.2.2.2.2.1 m n a) = (-3) := by unfold psR; rw [if_neg (fun z => z ⟨by omega, by omega, by omega, by omega⟩), if_neg (by omega), if_pos (by omega)]
                        exact x_iret hK rfl ⟨rfl, by rw [e9]⟩
                    · refine x_bipush 81 hK rfl rfl rfl ?_
                      have f1 := fm (by omega) (by omega)
                      have f2 := fo (by omega) (by omega)
                      have e9 : (psR (gi h 0 9) w.2.2.2.2.2.1 m n a) = (-2) := by unfold psR; rw [if_neg (fun z => z ⟨by omega, by omega, by omega, by omega⟩), if_pos (by omega)]
                      exact x_iret hK rfl ⟨rfl, by rw [e9]⟩
                  · refine x_iconst 65 hK rfl rfl ?_
                    have e9 : (psR (gi h 0 9) w.2.2.2.2.2.1 m n a) = -1 := by unfold psR; exact if_pos (fun z => by first | omega | (obtain ⟨z1, z2, z3, z4⟩ := z; omega))
                    exact x_iret hK rfl ⟨rfl, by rw [e9]⟩
            · refine x_iconst 33 hK rfl rfl ?_
              have e9 : (psR (gi h 0 9) w.2.2.2.2.2.1 m n a) = -1 := by unfold psR; exact if_pos (fun z => by first | omega | (obtain ⟨z1, z2, z3, z4⟩ := z; omega))
              exact x_iret hK rfl ⟨rfl, by rw [e9]⟩
set_option maxRecDepth 4000 in
theorem ctX10_moveFoodF {SP : CT} (hSP : MONO SP) {sh : List (Nat × Nat)} {h : aH} (hG : GD gE gRL sh h) {b : Int} {w : WS} (hS : STR (gi h 0 9) (kS h 23) w) (hw : WW b w) (hb : b ≤ 950000) {m n a : Int} (rm : r32 m) (rn : r32 n) (ra : r32 a) (hp : (psR (gi h 0 9) w.2.2.2.2.2.1 m n a) = 0) : CLd SP 1 mX10_moveFood [.ref 0, .int (I m), .int (I n), .int (I a)] h 0 0 (fun rv h' => rv = none ∧ GD gE gRL sh h' ∧ FRM gRL [(0, 20, 0, 7)] h h' ∧ STR (gi h 0 9) (kS h' 23) (psW m n a w)) := by
  refine x_met _ rfl (Nat.le_of_ble_eq_true rfl) (fun K hK => ?_)
  have hmono := MONO_CLd hSP 0
  obtain ⟨k0, k1, k2, k3, k4, k5, k6⟩ := STR_to hG hS
  have g9 := gri 0 8 hG (a := 0) (r := 0) (k := 9) rfl rfl
  have w4 := hw.2.2.2.2
  have fm : 0 ≤ m → m < (gi h 0 9) → gi h 26 m.toNat = w.2.2.2.2.2.1 m.toNat ∧ 0 ≤ w.2.2.2.2.2.1 m.toNat ∧ w.2.2.2.2.2.1 m.toNat ≤ 99 := fun y1 y2 => by
    have z := (w4 m.toNat (by omega)).1
    exact ⟨(k6 m.toNat (by omega) (by omega)).1, z⟩
  have fo : 0 ≤ othF m a → othF m a < (gi h 0 9) → gi h 26 (othF m a).toNat = w.2.2.2.2.2.1 (othF m a).toNat ∧ 0 ≤ w.2.2.2.2.2.1 (othF m a).toNat ∧ w.2.2.2.2.2.1 (othF m a).toNat ≤ 99 := fun y1 y2 => by
    have z := (w4 (othF m a).toNat (by omega)).1
    exact ⟨(k6 (othF m a).toNat (by omega) (by omega)).1, z⟩
  have eo : othF m a = if a = 1 then m + 1 else m - 1 := rfl
  have hp2 : ((0 ≤ m ∧ m < (gi h 0 9)) ∧ (0 ≤ a ∧ a ≤ 1) ∧ (0 ≤ othF m a ∧ othF m a < (gi h 0 9)) ∧ 1 ≤ n ∧ n ≤ 99) ∧ n ≤ w.2.2.2.2.2.1 m.toNat ∧ w.2.2.2.2.2.1 (othF m a).toNat + n ≤ 99 := by
    unfold psR at hp
    by_cases q : (0 ≤ m ∧ m < gi h 0 9) ∧ (0 ≤ a ∧ a ≤ 1) ∧ (0 ≤ othF m a ∧ othF m a < gi h 0 9) ∧ 1 ≤ n ∧ n ≤ 99
    · rw [if_neg (fun z => z q)] at hp
      refine ⟨q, ?_⟩
      (repeat' split at hp) <;> omega
    · rw [if_pos q] at hp; omega
  obtain ⟨⟨⟨p1, p2⟩, p3, ⟨p4, p5⟩, p6⟩, p7, p8⟩ := hp2
  have f1 := fm p1 p2
  have f2 := fo p4 p5
  have one : othF m a ≠ m := by rw [eo]; split <;> omega
  refine x_iload_n 1 hK rfl rfl rfl ?_
  refine x_iconst 2 hK rfl rfl ?_
  refine x_if_icmp_ne 11 5 hK rfl rfl rfl (by omega) (by omega) (fun c3 => ?_) (fun c3 => ?_)
  · refine x_iload_n 12 hK rfl rfl rfl ?_
    refine x_iconst 13 hK rfl rfl ?_
    refine x_isub 14 hK rfl rfl ?_
    rw [show I ((m - 1)) = I (othF m a) from by rw [eo]; first | rw [if_pos (by omega)] | rw [if_neg (by omega)]]
    refine x_istore 16 hK rfl rfl [(4, .int (I (othF m a))), (0, .ref 0), (1, .int (I m)), (2, .int (I n)), (3, .int (I a))] rfl ?_
    refine x_aload_n 17 hK rfl rfl rfl ?_
    refine x_getR 20 hK rfl rfl (sp_0 (h := h) hG) (rf_0_10 (h := h) hG) ?_
    refine x_getR 23 hK rfl rfl (sp_23 (h := h) hG) (rf_23_7 (h := h) hG) ?_
    refine x_iload_n 24 hK rfl rfl rfl ?_
    refine x_dup2 25 hK rfl rfl rfl rfl ?_
    have g444 := gi_r h 26 m.toNat
    refine x_ialoadE 26 hK rfl rfl (sp_26 (h := h) hG) (by omega) (by omega) (by omega) (e' := (gi h 26 m.toNat)) (rfl) ?_
    refine x_iload_n 27 hK rfl rfl rfl ?_
    refine x_isub 28 hK rfl rfl ?_
    refine x_iastore 29 hK rfl rfl (sp_26 (h := h) hG) (by omega) (by omega) (by omega) ?_
    refine x_aload_n 30 hK rfl rfl rfl ?_
    refine x_getR 33 hK rfl rfl (sp_0 (h := h) hG) (rf_0_10 (h := h) hG) ?_
    refine x_getR 36 hK rfl rfl (sp_23 (h := h) hG) (rf_23_7 (h := h) hG) ?_
    refine x_iload 38 hK rfl rfl rfl ?_
    refine x_dup2 39 hK rfl rfl rfl rfl ?_
    have g445 := gi_r h 26 (othF m a).toNat
    refine x_ialoadE 40 hK rfl rfl (sp_26 (h := h) hG) (by omega) (by omega) (by omega) (e' := (gi h 26 (othF m a).toNat)) (gi_k (by omega) _) ?_
    refine x_iload_n 41 hK rfl rfl rfl ?_
    refine x_iadd 42 hK rfl rfl ?_
    refine x_iastore 43 hK rfl rfl (sp_26 (h := h) hG) (by omega) (by omega) (by omega) ?_
    have hS2 : STR (gi h 0 9) (kS (wI (wI h 26 m.toNat ((gi h 26 m.toNat) - n)) 26 (othF m a).toNat ((gi h 26 (othF m a).toNat) + n)) 23) (psW m n a w) := by
      refine STR_of g9.2 (OKW_eq hS.1 rfl rfl rfl) (((gi_a (by decide) _).trans (gi_a (by decide) _)).trans k0) (((gi_a (by decide) _).trans (gi_a (by decide) _)).trans k1) (((gi_a (by decide) _).trans (gi_a (by decide) _)).trans k2) (((gi_a (by decide) _).trans (gi_a (by decide) _)).trans k3) ?_ fun j hj => ?_
      · rw [show gi (wI (wI h 26 m.toNat ((gi h 26 m.toNat) - n)) 26 (othF m a).toNat ((gi h 26 (othF m a).toNat) + n)) 23 4 = gi h 23 4 from (gi_a (by decide) _).trans (gi_a (by decide) _)]
        exact (kO_eq fun j _ => ⟨(gi_a (by decide) _).trans (gi_a (by decide) _), (gi_a (by decide) _).trans (gi_a (by decide) _)⟩).trans k5
      · refine ⟨?_, ((gi_a (by decide) _).trans (gi_a (by decide) _)).trans (k6 j (by omega) hj).2⟩
        show _ = if (j : Int) = m then w.2.2.2.2.2.1 j - n else if (j : Int) = othF m a then w.2.2.2.2.2.1 j + n else w.2.2.2.2.2.1 j
        by_cases z : (j : Int) = m
        · rw [if_pos z, show j = m.toNat by omega]
          exact (gi_k (by omega) _).trans ((gi_same (by omega)).trans (by omega))
        · rw [if_neg z]
          by_cases y : (j : Int) = othF m a
          · rw [if_pos y, show j = (othF m a).toNat by omega]
            exact (gi_same (by omega)).trans (by omega)
          · rw [if_neg y]
            exact (gi_k (by omega) _).trans ((gi_k (by omega) _).trans (k6 j (by omega) hj).1)
    exact x_vret hK rfl ⟨rfl, GD_wn (GD_wn (hG) (r := 20) rfl rfl) (r := 20) rfl rfl, FRM_wn 0 7 (FRM_wn 0 7 ((FRM.rf : FRM gRL [(0, 20, 0, 7)] h h)) (r := 20) rfl rfl rfl (by omega) (by omega)) (r := 20) rfl rfl rfl (by omega) (by omega), hS2⟩
  · refine x_iload_n 6 hK rfl rfl rfl ?_
    refine x_iconst 7 hK rfl rfl ?_
    refine x_iadd 8 hK rfl rfl ?_
    refine x_goto 14 hK rfl rfl ?_
    rw [show I ((m + 1)) = I (othF m a) from by rw [eo]; first | rw [if_pos (by omega)] | rw [if_neg (by omega)]]
    refine x_istore 16 hK rfl rfl [(4, .int (I (othF m a))), (0, .ref 0), (1, .int (I m)), (2, .int (I n)), (3, .int (I a))] rfl ?_
    refine x_aload_n 17 hK rfl rfl rfl ?_
    refine x_getR 20 hK rfl rfl (sp_0 (h := h) hG) (rf_0_10 (h := h) hG) ?_
    refine x_getR 23 hK rfl rfl (sp_23 (h := h) hG) (rf_23_7 (h := h) hG) ?_
    refine x_iload_n 24 hK rfl rfl rfl ?_
    refine x_dup2 25 hK rfl rfl rfl rfl ?_
    have g446 := gi_r h 26 m.toNat
    refine x_ialoadE 26 hK rfl rfl (sp_26 (h := h) hG) (by omega) (by omega) (by omega) (e' := (gi h 26 m.toNat)) (rfl) ?_
    refine x_iload_n 27 hK rfl rfl rfl ?_
    refine x_isub 28 hK rfl rfl ?_
    refine x_iastore 29 hK rfl rfl (sp_26 (h := h) hG) (by omega) (by omega) (by omega) ?_
    refine x_aload_n 30 hK rfl rfl rfl ?_
    refine x_getR 33 hK rfl rfl (sp_0 (h := h) hG) (rf_0_10 (h := h) hG) ?_
    refine x_getR 36 hK rfl rfl (sp_23 (h := h) hG) (rf_23_7 (h := h) hG) ?_
    refine x_iload 38 hK rfl rfl rfl ?_
    refine x_dup2 39 hK rfl rfl rfl rfl ?_
    have g447 := gi_r h 26 (othF m a).toNat
    refine x_ialoadE 40 hK rfl rfl (sp_26 (h := h) hG) (by omega) (by omega) (by omega) (e' := (gi h 26 (othF m a).toNat)) (gi_k (by omega) _) ?_
    refine x_iload_n 41 hK rfl rfl rfl ?_
    refine x_iadd 42 hK rfl rfl ?_
    refine x_iastore 43 hK rfl rfl (sp_26 (h := h) hG) (by omega) (by omega) (by omega) ?_
    have hS2 : STR (gi h 0 9) (kS (wI (wI h 26 m.toNat ((gi h 26 m.toNat) - n)) 26 (othF m a).toNat ((gi h 26 (othF m a).toNat) + n)) 23) (psW m n a w) := by
      refine STR_of g9.2 (OKW_eq hS.1 rfl rfl rfl) (((gi_a (by decide) _).trans (gi_a (by decide) _)).trans k0) (((gi_a (by decide) _).trans (gi_a (by decide) _)).trans k1) (((gi_a (by decide) _).trans (gi_a (by decide) _)).trans k2) (((gi_a (by decide) _).trans (gi_a (by decide) _)).trans k3) ?_ fun j hj => ?_
      · rw [show gi (wI (wI h 26 m.toNat ((gi h 26 m.toNat) - n)) 26 (othF m a).toNat ((gi h 26 (othF m a).toNat) + n)) 23 4 = gi h 23 4 from (gi_a (by decide) _).trans (gi_a (by decide) _)]
        exact (kO_eq fun j _ => ⟨(gi_a (by decide) _).trans (gi_a (by decide) _), (gi_a (by decide) _).trans (gi_a (by decide) _)⟩).trans k5
      · refine ⟨?_, ((gi_a (by decide) _).trans (gi_a (by decide) _)).trans (k6 j (by omega) hj).2⟩
        show _ = if (j : Int) = m then w.2.2.2.2.2.1 j - n else if (j : Int) = othF m a then w.2.2.2.2.2.1 j + n else w.2.2.2.2.2.1 j
        by_cases z : (j : Int) = m
        · rw [if_pos z, show j = m.toNat by omega]
          exact (gi_k (by omega) _).trans ((gi_same (by omega)).trans (by omega))
        · rw [if_neg z]
          by_cases y : (j : Int) = othF m a
          · rw [if_pos y, show j = (othF m a).toNat by omega]
            exact (gi_same (by omega)).trans (by omega)
          · rw [if_neg y]
            exact (gi_k (by omega) _).trans ((gi_k (by omega) _).trans (k6 j (by omega) hj).1)
    exact x_vret hK rfl ⟨rfl, GD_wn (GD_wn (hG) (r := 20) rfl rfl) (r := 20) rfl rfl, FRM_wn 0 7 (FRM_wn 0 7 ((FRM.rf : FRM gRL [(0, 20, 0, 7)] h h)) (r := 20) rfl rfl rfl (by omega) (by omega)) (r := 20) rfl rfl rfl (by omega) (by omega), hS2⟩
set_option maxRecDepth 4000 in
theorem ctX10_passF {SP : CT} (hSP : MONO SP) {sh : List (Nat × Nat)} {h : aH} (hG : GD gE gRL sh h) (hP : PT h) {b : Int} {w : WS} (hS : STR (gi h 0 9) (kS h 23) w) (hw : WW b w) (hb : b ≤ 950000) {m n a : Int} (rm : r32 m) (rn : r32 n) (ra : r32 a) : CLd SP 4 mX10_pass [.ref 0, .int (I m), .int (I n), .int (I a)] h 0 0 (fun rv h' => (((psR (gi h 0 9) w.2.2.2.2.2.1 m n a) ≠ 0 ∧ rv = some (.int (I (psR (gi h 0 9) w.2.2.2.2.2.1 m n a))) ∧ h' = h) ∨ ((psR (gi h 0 9) w.2.2.2.2.2.1 m n a) = 0 ∧ rv = some (.int (I (w.2.2.2.2.2.1 m.toNat - n))) ∧ STR (gi h 0 9) (kS h' 23) (psW m n a w) ∧ PL h' = pushC (PL h) (kS h 23))) ∧ GD gE gRL sh h' ∧ FRM gRL [(0, 20, 0, 7), (0, 27, 1, 2), (0, 31, 0, 4), (0, 32, 0, 11), (0, 33, 0, 11), (0, 34, 0, 7), (0, 35, 0, 7)] h h') := by
  refine x_met _ rfl (Nat.le_of_ble_eq_true rfl) (fun K hK => ?_)
  have hmono := MONO_CLd hSP 3
  obtain ⟨k0, k1, k2, k3, k4, k5, k6⟩ := STR_to hG hS
  have g9 := gri 0 8 hG (a := 0) (r := 0) (k := 9) rfl rfl
  have w4 := hw.2.2.2.2
  have fm : 0 ≤ m → m < (gi h 0 9) → gi h 26 m.toNat = w.2.2.2.2.2.1 m.toNat ∧ 0 ≤ w.2.2.2.2.2.1 m.toNat ∧ w.2.2.2.2.2.1 m.toNat ≤ 99 := fun y1 y2 => by
    have z := (w4 m.toNat (by omega)).1
    exact ⟨(k6 m.toNat (by omega) (by omega)).1, z⟩
  have fo : 0 ≤ othF m a → othF m a < (gi h 0 9) → gi h 26 (othF m a).toNat = w.2.2.2.2.2.1 (othF m a).toNat ∧ 0 ≤ w.2.2.2.2.2.1 (othF m a).toNat ∧ w.2.2.2.2.2.1 (othF m a).toNat ≤ 99 := fun y1 y2 => by
    have z := (w4 (othF m a).toNat (by omega)).1
    exact ⟨(k6 (othF m a).toNat (by omega) (by omega)).1, z⟩
  have eo : othF m a = if a = 1 then m + 1 else m - 1 := rfl
  have pb : -3 ≤ (psR (gi h 0 9) w.2.2.2.2.2.1 m n a) ∧ (psR (gi h 0 9) w.2.2.2.2.2.1 m n a) ≤ 0 := by unfold psR; (repeat' split) <;> omega
  have hp2 : (psR (gi h 0 9) w.2.2.2.2.2.1 m n a) = 0 → 0 ≤ m ∧ m < (gi h 0 9) := fun hp => by
    unfold psR at hp
    by_cases q : (0 ≤ m ∧ m < gi h 0 9) ∧ (0 ≤ a ∧ a ≤ 1) ∧ (0 ≤ othF m a ∧ othF m a < gi h 0 9) ∧ 1 ≤ n ∧ n ≤ 99
    · exact q.1
    · rw [if_pos q] at hp; omega
  refine x_aload_n 1 hK rfl rfl rfl ?_
  refine x_iload_n 2 hK rfl rfl rfl ?_
  refine x_iload_n 3 hK rfl rfl rfl ?_
  refine x_iload_n 4 hK rfl rfl rfl ?_
  refine x_callV 7 hK hmono rfl rfl [.ref 0, .int (I m), .int (I n), .int (I a)] [] rfl rfl (Nat.le_of_ble_eq_true rfl) (Nat.le_of_ble_eq_true rfl) rfl (sp_0 (h := h) hG) (CLd_le (Nat.le_of_ble_eq_true rfl) (ctX10_passRefusalF hSP hG hS hw hb rm rn ra)) ?_
  rintro v9 h9 ⟨e9, rfl⟩
  rw [e9]
  clear e9
  refine x_istore 9 hK rfl rfl [(4, .int (I (psR (gi h 0 9) w.2.2.2.2.2.1 m n a))), (0, .ref 0), (1, .int (I m)), (2, .int (I n)), (3, .int (I a))] rfl ?_
  refine x_iload 11 hK rfl rfl rfl ?_
  refine x_if_eq 17 14 hK rfl rfl rfl (by omega) (fun c8 => ?_) (fun c8 => ?_)
  · refine x_aload_n 18 hK rfl rfl rfl ?_
    refine x_getR 21 hK rfl rfl (sp_0 (h := h) hG) (rf_0_12 (h := h) hG) ?_
    refine x_aload_n 22 hK rfl rfl rfl ?_
    refine x_getR 25 hK rfl rfl (sp_0 (h := h) hG) (rf_0_10 (h := h) hG) ?_
    refine x_callV 28 hK hmono rfl rfl [.ref 33, .ref 23] [] rfl rfl (Nat.le_of_ble_eq_true rfl) (Nat.le_of_ble_eq_true rfl) rfl (sp_33 (h := h) hG) (CLd_le (Nat.le_of_ble_eq_true rfl) (ctX1_remember_23 hSP hG (show PT h from hP))) ?_
    rintro v448 h448 ⟨rfl, hG448, hF448, pl448⟩
    have eS448 : kS h448 23 = kS h 23 := kS23_F hF448 (by decide)
    have hS448 : STR (gi h 0 9) (kS h448 23) w := by rw [eS448]; exact hS
    have n9448 : gi h448 0 9 = gi h 0 9 := FRM_gi hF448 (r := 0) rfl (by decide)
    refine x_aload_n 29 hK rfl rfl rfl ?_
    refine x_iload_n 30 hK rfl rfl rfl ?_
    refine x_iload_n 31 hK rfl rfl rfl ?_
    refine x_iload_n 32 hK rfl rfl rfl ?_
    have pm := hp2 (by omega)
    refine x_callV 35 hK hmono rfl rfl [.ref 0, .int (I m), .int (I n), .int (I a)] [] rfl rfl (Nat.le_of_ble_eq_true rfl) (Nat.le_of_ble_eq_true rfl) rfl (sp_0 (h := h448) hG448) (CLd_le (Nat.le_of_ble_eq_true rfl) (ctX10_moveFoodF hSP hG448 (by rw [n9448]; exact hS448) hw hb rm rn ra (by rw [n9448]; omega))) ?_
    rw [n9448]
    rintro v449 h449 ⟨rfl, hG449, hF449, hS449⟩
    have em : gi h449 26 m.toNat = w.2.2.2.2.2.1 m.toNat - n := by
      have z := ((STR_to hG449 hS449).2.2.2.2.2.2 m.toNat (by omega) (by omega)).1
      have z : gi h449 26 m.toNat = if ((m.toNat : Nat) : Int) = m then w.2.2.2.2.2.1 m.toNat - n else if ((m.toNat : Nat) : Int) = othF m a then w.2.2.2.2.2.1 m.toNat + n else w.2.2.2.2.2.1 m.toNat := z
      rw [if_pos (by omega)] at z
      exact z
    refine x_aload_n 36 hK rfl rfl rfl ?_
    refine x_getR 39 hK rfl rfl (sp_0 (h := h449) hG449) (rf_0_10 (h := h449) hG449) ?_
    refine x_getR 42 hK rfl rfl (sp_23 (h := h449) hG449) (rf_23_7 (h := h449) hG449) ?_
    refine x_iload_n 43 hK rfl rfl rfl ?_
    refine x_ialoadE 44 hK rfl rfl (sp_26 (h := h449) hG449) (by omega) (by omega) (by omega) (e' := (w.2.2.2.2.2.1 m.toNat - n)) (em) ?_
    exact x_iret hK rfl ⟨Or.inr ⟨by omega, rfl, hS449, (PL_F hF449 rfl).trans pl448⟩, hG449, ((hF448).mono rfl).trans ((hF449).mono rfl)⟩
  · refine x_iload 16 hK rfl rfl rfl ?_
    exact x_iret hK rfl ⟨Or.inl ⟨by omega, rfl, rfl⟩, hG, FRM.rf⟩
set_option maxRecDepth 4000 in
theorem ctX10_cookF {SP : CT} (hSP : MONO SP) {sh : List (Nat × Nat)} {h : aH} (hG : GD gE gRL sh h) (hP : PT h) {b : Int} {w : WS} (hS : STR (gi h 0 9) (kS h 23) w) (hw : WW b w) (hb : b ≤ 950000) {m n : Int} (rm : r32 m) (rn : r32 n) : CLd SP 4 mX10_cook [.ref 0, .int (I m), .int (I n)] h 0 0 (fun rv h' => ((¬ ckOk (gi h 0 9) m n ∧ rv = some (.int (I (-1))) ∧ h' = h) ∨ (ckOk (gi h 0 9) m n ∧ rv = some (.int (I (w.2.2.2.2.2.1 m.toNat))) ∧ STR (gi h 0 9) (kS h' 23) (ckW m n w) ∧ PL h' = pushC (PL h) (kS h 23))) ∧ GD gE gRL sh h' ∧ FRM gRL [(0, 20, 0, 7), (0, 27, 1, 2), (0, 31, 0, 4), (0, 32, 0, 11), (0, 33, 0, 11), (0, 34, 0, 7), (0, 35, 0, 7)] h h') := by
  refine x_met _ rfl (Nat.le_of_ble_eq_true rfl) (fun K hK => ?_)
  have hmono := MONO_CLd hSP 3
  obtain ⟨k0, k1, k2, k3, k4, k5, k6⟩ := STR_to hG hS
  have g9 := gri 0 8 hG (a := 0) (r := 0) (k := 9) rfl rfl
  have w4 := hw.2.2.2.2
  refine x_iload_n 1 hK rfl rfl rfl ?_
  refine x_if_lt 22 4 hK rfl rfl rfl (by omega) (fun c2 => ?_) (fun c2 => ?_)
  · refine x_iconst 23 hK rfl rfl ?_
    exact x_iret hK rfl ⟨Or.inl ⟨fun z => by have z1 := z.1; have z2 := z.2; omega, rfl, rfl⟩, hG, FRM.rf⟩
  · refine x_iload_n 5 hK rfl rfl rfl ?_
    refine x_aload_n 6 hK rfl rfl rfl ?_
    have g450 := gri (0) (8) hG (a := 0) (r := 0) (k := 9) rfl rfl
    refine x_getE 9 hK rfl (Or.inl rfl) rfl (sp_0 (h := h) hG) (e := (gi h 0 9)) (rfl) ?_
    refine x_if_icmp_ge 22 12 hK rfl rfl rfl (by omega) (by omega) (fun c8 => ?_) (fun c8 => ?_)
    · refine x_iconst 23 hK rfl rfl ?_
      exact x_iret hK rfl ⟨Or.inl ⟨fun z => by have z1 := z.1; have z2 := z.2; omega, rfl, rfl⟩, hG, FRM.rf⟩
    · refine x_iload_n 13 hK rfl rfl rfl ?_
      refine x_if_lt 22 16 hK rfl rfl rfl (by omega) (fun c12 => ?_) (fun c12 => ?_)
      · refine x_iconst 23 hK rfl rfl ?_
        exact x_iret hK rfl ⟨Or.inl ⟨fun z => by have z1 := z.1; have z2 := z.2; omega, rfl, rfl⟩, hG, FRM.rf⟩
      · refine x_iload_n 17 hK rfl rfl rfl ?_
        refine x_bipush 19 hK rfl rfl rfl ?_
        refine x_if_icmp_le 24 22 hK rfl rfl rfl (by omega) (by omega) (fun c17 => ?_) (fun c17 => ?_)
        · refine x_aload_n 25 hK rfl rfl rfl ?_
          refine x_getR 28 hK rfl rfl (sp_0 (h := h) hG) (rf_0_12 (h := h) hG) ?_
          refine x_aload_n 29 hK rfl rfl rfl ?_
          refine x_getR 32 hK rfl rfl (sp_0 (h := h) hG) (rf_0_10 (h := h) hG) ?_
          refine x_callV 35 hK hmono rfl rfl [.ref 33, .ref 23] [] rfl rfl (Nat.le_of_ble_eq_true rfl) (Nat.le_of_ble_eq_true rfl) rfl (sp_33 (h := h) hG) (CLd_le (Nat.le_of_ble_eq_true rfl) (ctX1_remember_23 hSP hG (show PT h from hP))) ?_
          rintro v451 h451 ⟨rfl, hG451, hF451, pl451⟩
          have eS451 : kS h451 23 = kS h 23 := kS23_F hF451 (by decide)
          have hS451 : STR (gi h 0 9) (kS h451 23) w := by rw [eS451]; exact hS
          have n9451 : gi h451 0 9 = gi h 0 9 := FRM_gi hF451 (r := 0) rfl (by decide)
          refine x_aload_n 36 hK rfl rfl rfl ?_
          refine x_getR 39 hK rfl rfl (sp_0 (h := h451) hG451) (rf_0_10 (h := h451) hG451) ?_
          refine x_getR 42 hK rfl rfl (sp_23 (h := h451) hG451) (rf_23_7 (h := h451) hG451) ?_
          refine x_iload_n 43 hK rfl rfl rfl ?_
          have g452 := gi_r h 26 m.toNat
          refine x_ialoadE 44 hK rfl rfl (sp_26 (h := h451) hG451) (by omega) (by omega) (by omega) (e' := (gi h 26 m.toNat)) (FRM_gi hF451 (r := 20) rfl rfl) ?_
          refine x_istore_n 45 hK rfl rfl [(3, .int (I (gi h 26 m.toNat))), (0, .ref 0), (1, .int (I m)), (2, .int (I n))] rfl ?_
          refine x_aload_n 46 hK rfl rfl rfl ?_
          refine x_getR 49 hK rfl rfl (sp_0 (h := h451) hG451) (rf_0_10 (h := h451) hG451) ?_
          refine x_getR 52 hK rfl rfl (sp_23 (h := h451) hG451) (rf_23_7 (h := h451) hG451) ?_
          refine x_iload_n 53 hK rfl rfl rfl ?_
          refine x_iload_n 54 hK rfl rfl rfl ?_
          refine x_iastore 55 hK rfl rfl (sp_26 (h := h451) hG451) (by omega) (by omega) (by omega) ?_
          refine x_iload_n 56 hK rfl rfl rfl ?_
          have k6m := k6 m.toNat (by omega) (by omega)
          have hS2 : STR (gi h 0 9) (kS (wI h451 26 m.toNat n) 23) (ckW m n w) := by
            refine STR_of g9.2 (OKW_eq hS.1 rfl rfl rfl) (((gi_a (by decide) _).trans (FRM_gi hF451 (r := 17) rfl rfl)).trans k0) (((gi_a (by decide) _).trans (FRM_gi hF451 (r := 17) rfl rfl)).trans k1) (((gi_a (by decide) _).trans (FRM_gi hF451 (r := 17) rfl rfl)).trans k2) (((gi_a (by decide) _).trans (FRM_gi hF451 (r := 17) rfl rfl)).trans k3) ?_ fun j hj => ?_
            · rw [show gi (wI h451 26 m.toNat n) 23 4 = gi h 23 4 from (gi_a (by decide) _).trans (FRM_gi hF451 (r := 17) rfl rfl)]
              exact (kO_eq fun j _ => ⟨(gi_a (by decide) _).trans (FRM_gi hF451 (r := 18) rfl rfl), (gi_a (by decide) _).trans (FRM_gi hF451 (r := 19) rfl rfl)⟩).trans k5
            · refine ⟨?_, ((gi_a (by decide) _).trans (FRM_gi hF451 (r := 21) rfl rfl)).trans (k6 j (by omega) hj).2⟩
              show _ = if (j : Int) = m then n else w.2.2.2.2.2.1 j
              by_cases z : (j : Int) = m
              · rw [if_pos z, show j = m.toNat by omega]
                exact gi_same (by omega)
              · rw [if_neg z]
                exact (gi_k (by omega) _).trans ((FRM_gi hF451 (r := 20) rfl rfl).trans (k6 j (by omega) hj).1)
          have pl9 : PL (wI h451 26 m.toNat n) = PL h451 := PL_eq (gi_a (by decide) _) (gi_a (by decide) _) fun i hi => kS_ge fun a k h1 h2 => gi_a (by omega) _
          exact x_iret hK rfl ⟨Or.inr ⟨⟨by omega, by omega⟩, by rw [← k6m.1], hS2, pl9.trans pl451⟩, GD_wn (hG451) (r := 20) rfl rfl, FRM_wn 0 7 ((hF451).mono rfl) (r := 20) rfl rfl rfl (by omega) (by omega)⟩
        · refine x_iconst 23 hK rfl rfl ?_
          exact x_iret hK rfl ⟨Or.inl ⟨fun z => by have z1 := z.1; have z2 := z.2; omega, rfl, rfl⟩, hG, FRM.rf⟩
set_option maxRecDepth 4000 in
theorem ctX10_stepsF {SP : CT} (hSP : MONO SP) {sh : List (Nat × Nat)} {h : aH} (hG : GD gE gRL sh h) (hP : PT h) {b : Int} {w : WS} (hS : STR (gi h 0 9) (kS h 23) w) (hw : WW b w) (hb : b ≤ 900000) {n : Int} (rn : r32 n) {ml ln ea : Nat → Int} (hml : ∀ j : Nat, (j : Int) < gi h 19 0 → gi h 20 j = ml j ∧ gi h 21 j = ln j) (hea : ∀ m : Nat, (m : Int) < (gi h 0 9) → gi h 22 m = ea m ∧ 0 ≤ ea m ∧ ea m ≤ 9) : CLd SP 6 mX10_steps [.ref 0, .int (I n)] h 0 0 (fun rv h' => ((¬ (0 ≤ n ∧ n ≤ 60) ∧ rv = some (.int (I (-1))) ∧ h' = h) ∨ ((0 ≤ n ∧ n ≤ 60) ∧ rv = some (.int (I (stI ml ln (gi h 19 0).toNat (gi h 0 9) ea n.toNat w).2.1)) ∧ STR (gi h 0 9) (kS h' 23) (stI ml ln (gi h 19 0).toNat (gi h 0 9) ea n.toNat w) ∧ PL h' = pushC (PL h) (kS h 23) ∧ gi h' 3 1 = 2 ∧ crow h' = [(sHs ml ln (gi h 19 0).toNat (gi h 0 9) ea n.toNat w), (sUs ml ln (gi h 19 0).toNat (gi h 0 9) ea n.toNat w)])) ∧ GD gE gRL sh h' ∧ FRM gRL [(0, 3, 1, 1), (0, 17, 0, 4), (0, 18, 0, 11), (0, 19, 0, 11), (0, 20, 0, 7), (0, 21, 0, 7), (0, 27, 1, 2), (0, 31, 0, 4), (0, 32, 0, 11), (0, 33, 0, 11), (0, 34, 0, 7), (0, 35, 0, 7), (1, 4, 0, 29)] h h') := by
  refine x_met _ rfl (Nat.le_of_ble_eq_true rfl) (fun K hK => ?_)
  have hmono := MONO_CLd hSP 5
  have g9 := gri 0 8 hG (a := 0) (r := 0) (k := 9) rfl rfl
  have g19 := gri 0 16 hG (a := 19) (r := 13) (k := 0) rfl rfl
  have k2 := (STR_to hG hS).2.2.1
  have wh := hw.2.2.1
  have wI := WW_stI (ml := ml) (ln := ln) (ea := ea) (nr := (gi h 19 0).toNat) (by omega) g9.2 (fun m hm => (hea m hm).2) hw
  have loop : ∀ (mz : Nat) (c i : Int) (h4 : aH) (ls : List (Nat × Value)), ((n - i).toNat = mz) → (0 ≤ n ∧ n ≤ 60) → (0 ≤ i ∧ i ≤ n) → (c = (sUs ml ln (gi h 19 0).toNat (gi h 0 9) ea i.toNat w)) → (STR (gi h 0 9) (kS h4 23) (stI ml ln (gi h 19 0).toNat (gi h 0 9) ea i.toNat w)) → ((stI ml ln (gi h 19 0).toNat (gi h 0 9) ea i.toNat w).2.2.1 = w.2.2.1 + (sHs ml ln (gi h 19 0).toNat (gi h 0 9) ea i.toNat w)) → (PL h4 = pushC (PL h) (kS h 23)) → lk ls 0 = some (.ref 0) → lk ls 1 = some (.int (I n)) → lk ls 2 = some (.int (I (gi h 23 2))) → lk ls 3 = some (.int (I c)) → lk ls 4 = some (.int (I i)) → GD gE gRL sh h4 → FRM gRL [(0, 17, 0, 4), (0, 18, 0, 11), (0, 19, 0, 11), (0, 20, 0, 7), (0, 21, 0, 7), (0, 27, 1, 2), (0, 31, 0, 4), (0, 32, 0, 11), (0, 33, 0, 11), (0, 34, 0, 7), (0, 35, 0, 7)] h h4 → K 36 ls [] h4 0 0 := by
    intro mz
    induction mz using Nat.strongRecOn with
    | ind mz ih =>
    intro c i h4 ls hm n0 i0 ce hs hh pl l0 l1 l2 l3 l4 hG4 hF4
    have wi := wI i.toNat
    have sb := sUs_b (ml := ml) (ln := ln) (nr := (gi h 19 0).toNat) (ea := ea) g9.2 w i.toNat
    have hb9 := sHs_b (ml := ml) (ln := ln) (nr := (gi h 19 0).toNat) (ms := (gi h 0 9)) (ea := ea) (by omega) w i.toNat
    have n94 : gi h4 0 9 = (gi h 0 9) := FRM_gi hF4 (r := 0) rfl rfl
    have n19 : gi h4 19 0 = gi h 19 0 := FRM_gi hF4 (r := 13) rfl rfl
    obtain ⟨j0, j1, j2, j3, j4, j5, j6⟩ := STR_to hG4 hs
    have wl9 := wi.2.1
    refine x_iload 38 hK rfl rfl l4 ?_
    refine x_iload_n 39 hK rfl rfl l1 ?_
    refine x_if_icmp_ge 55 42 hK rfl rfl rfl (by omega) (by omega) (fun c3 => ?_) (fun c3 => ?_)
    · refine x_aload_n 56 hK rfl rfl l0 ?_
      refine x_getR 59 hK rfl rfl (sp_0 (h := h4) hG4) (rf_0_1 (h := h4) hG4) ?_
      refine x_aload_n 60 hK rfl rfl l0 ?_
      refine x_getR 63 hK rfl rfl (sp_0 (h := h4) hG4) (rf_0_10 (h := h4) hG4) ?_
      refine x_getE 66 hK rfl (Or.inl rfl) rfl (sp_23 (h := h4) hG4) (e := ((stI ml ln (gi h 19 0).toNat (gi h 0 9) ea i.toNat w).2.2.1)) (j2) ?_
      refine x_iload_n 67 hK rfl rfl l2 ?_
      refine x_isub 68 hK rfl rfl ?_
      refine x_i2l 69 hK rfl rfl (by omega) ?_
      refine x_iload_n 70 hK rfl rfl l3 ?_
      refine x_i2l 71 hK rfl rfl (by omega) ?_
      refine x_callV 74 hK hmono rfl rfl [.ref 3, .long (J (((stI ml ln (gi h 19 0).toNat (gi h 0 9) ea i.toNat w).2.2.1) - (gi h 23 2))), .long (J c)] [] rfl rfl (Nat.le_of_ble_eq_true rfl) (Nat.le_of_ble_eq_true rfl) rfl (sp_3 (h := h4) hG4) (CLd_le (Nat.le_of_ble_eq_true rfl) (ctX3_tellTwo hSP hG4 (by omega) (by omega))) ?_
      rintro v453 h453 ⟨rfl, hG453, hF453, t453, s453⟩
      refine x_aload_n 75 hK rfl rfl l0 ?_
      refine x_getR 78 hK rfl rfl (sp_0 (h := h453) hG453) (rf_0_10 (h := h453) hG453) ?_
      refine x_getE 81 hK rfl (Or.inl rfl) rfl (sp_23 (h := h453) hG453) (e := ((stI ml ln (gi h 19 0).toNat (gi h 0 9) ea i.toNat w).2.1)) ((FRM_gi hF453 (r := 17) rfl rfl).trans (j1)) ?_
      obtain rfl : i = n := by omega
      have eS : kS h453 23 = kS h4 23 := kS23_F hF453 rfl
      exact x_iret hK rfl ⟨Or.inr ⟨n0, rfl, by rw [eS]; exact hs, (PL_F hF453 rfl).trans pl, t453, by rw [s453]; rw [show (stI ml ln (gi h 19 0).toNat (gi h 0 9) ea i.toNat w).2.2.1 - gi h 23 2 = (sHs ml ln (gi h 19 0).toNat (gi h 0 9) ea i.toNat w) by omega, ce]⟩, hG453, ((hF4).mono rfl).trans ((hF453).mono rfl)⟩
    · refine x_iload_n 43 hK rfl rfl l3 ?_
      refine x_aload_n 44 hK rfl rfl l0 ?_
      have ub := hcN_b (stI ml ln (gi h 19 0).toNat (gi h 0 9) ea i.toNat w).2.2.2.2.2.1 ea (gi h 0 9).toNat
      have us : stU (gi h 0 9) ea (stI ml ln (gi h 19 0).toNat (gi h 0 9) ea i.toNat w) = hcN (stI ml ln (gi h 19 0).toNat (gi h 0 9) ea i.toNat w).2.2.2.2.2.1 ea (gi h 0 9).toNat := rfl
      refine x_callV 47 hK hmono rfl rfl [.ref 0] [.int (I c)] rfl rfl (Nat.le_of_ble_eq_true rfl) (Nat.le_of_ble_eq_true rfl) rfl (sp_0 (h := h4) hG4) (CLd_le (Nat.le_of_ble_eq_true rfl) (ctX10_goStepF hSP hG4 (b := b + i.toNat) (w := (stI ml ln (gi h 19 0).toNat (gi h 0 9) ea i.toNat w)) (ml := ml) (ln := ln) (ea := ea) (by rw [n94]; exact hs) wi (by omega) (fun j hj => by rw [n19] at hj; rw [FRM_gi hF4 (a := 20) (r := 14) rfl rfl, FRM_gi hF4 (a := 21) (r := 15) rfl rfl]; exact hml j hj) (fun m hm => by rw [n94] at hm; rw [FRM_gi hF4 (a := 22) (r := 16) rfl rfl]; exact hea m hm))) ?_
      rw [n94, n19]
      rintro v454 h454 ⟨rfl, hG454, hF454, hS454⟩
      refine x_iadd 48 hK rfl rfl ?_
      refine x_istore_n 49 hK rfl rfl _ rfl ?_
      refine x_iinc 52 hK rfl rfl (lk1_n l4 (by decide) (Or.inl rfl)) _ rfl ?_
      refine x_goto 36 hK rfl rfl ?_
      exact ih _ (by omega) (c + (stU (gi h 0 9) ea (stI ml ln (gi h 19 0).toNat (gi h 0 9) ea i.toNat w))) (i + 1) _ _ rfl (n0) (by omega) (by rw [ce, tn_s i0.1]; rfl) (by rw [tn_s i0.1]; exact hS454) (by rw [tn_s i0.1]; show (stI ml ln (gi h 19 0).toNat (gi h 0 9) ea i.toNat w).2.2.1 + stH ml ln (gi h 19 0).toNat (stI ml ln (gi h 19 0).toNat (gi h 0 9) ea i.toNat w) = w.2.2.1 + ((sHs ml ln (gi h 19 0).toNat (gi h 0 9) ea i.toNat w) + stH ml ln (gi h 19 0).toNat (stI ml ln (gi h 19 0).toNat (gi h 0 9) ea i.toNat w)); omega) ((PL_F hF454 rfl).trans pl) (lk1_n (lk1_n l0 (by decide) (Or.inl rfl)) (by decide) (Or.inl rfl)) (lk1_n (lk1_n l1 (by decide) (Or.inl rfl)) (by decide) (Or.inl rfl)) (lk1_n (lk1_n l2 (by decide) (Or.inl rfl)) (by decide) (Or.inl rfl)) (lk1_n lk1_s (by decide) (Or.inl rfl)) lk1_s (hG454) ((hF4).trans ((hF454).mono rfl))
  refine x_iload_n 1 hK rfl rfl rfl ?_
  refine x_if_lt 10 4 hK rfl rfl rfl (by omega) (fun c2 => ?_) (fun c2 => ?_)
  · refine x_iconst 11 hK rfl rfl ?_
    exact x_iret hK rfl ⟨Or.inl ⟨by omega, rfl, rfl⟩, hG, FRM.rf⟩
  · refine x_iload_n 5 hK rfl rfl rfl ?_
    refine x_bipush 7 hK rfl rfl rfl ?_
    refine x_if_icmp_le 12 10 hK rfl rfl rfl (by omega) (by omega) (fun c7 => ?_) (fun c7 => ?_)
    · refine x_aload_n 13 hK rfl rfl rfl ?_
      refine x_getR 16 hK rfl rfl (sp_0 (h := h) hG) (rf_0_12 (h := h) hG) ?_
      refine x_aload_n 17 hK rfl rfl rfl ?_
      refine x_getR 20 hK rfl rfl (sp_0 (h := h) hG) (rf_0_10 (h := h) hG) ?_
      refine x_callV 23 hK hmono rfl rfl [.ref 33, .ref 23] [] rfl rfl (Nat.le_of_ble_eq_true rfl) (Nat.le_of_ble_eq_true rfl) rfl (sp_33 (h := h) hG) (CLd_le (Nat.le_of_ble_eq_true rfl) (ctX1_remember_23 hSP hG (show PT h from hP))) ?_
      rintro v455 h455 ⟨rfl, hG455, hF455, pl455⟩
      have eS455 : kS h455 23 = kS h 23 := kS23_F hF455 (by decide)
      have hS455 : STR (gi h 0 9) (kS h455 23) w := by rw [eS455]; exact hS
      have n9455 : gi h455 0 9 = gi h 0 9 := FRM_gi hF455 (r := 0) rfl (by decide)
      refine x_aload_n 24 hK rfl rfl rfl ?_
      refine x_getR 27 hK rfl rfl (sp_0 (h := h455) hG455) (rf_0_10 (h := h455) hG455) ?_
      have g456 := gi_r h 23 2
      refine x_getE 30 hK rfl (Or.inl rfl) rfl (sp_23 (h := h455) hG455) (e := (gi h 23 2)) (FRM_gi hF455 (r := 17) rfl rfl) ?_
      refine x_istore_n 31 hK rfl rfl [(2, .int (I (gi h 23 2))), (0, .ref 0), (1, .int (I n))] rfl ?_
      refine x_iconst 32 hK rfl rfl ?_
      refine x_istore_n 33 hK rfl rfl [(3, .int (I 0)), (2, .int (I (gi h 23 2))), (0, .ref 0), (1, .int (I n))] rfl ?_
      refine x_iconst 34 hK rfl rfl ?_
      refine x_istore 36 hK rfl rfl [(4, .int (I 0)), (3, .int (I 0)), (2, .int (I (gi h 23 2))), (0, .ref 0), (1, .int (I n))] rfl ?_
      exact loop _ 0 0 _ _ rfl (⟨by omega, by omega⟩) (by omega) (rfl) (hS455) ((Int.add_zero _).symm) (pl455) rfl rfl rfl rfl rfl (hG455) ((hF455).mono rfl)
    · refine x_iconst 11 hK rfl rfl ?_
      exact x_iret hK rfl ⟨Or.inl ⟨by omega, rfl, rfl⟩, hG, FRM.rf⟩
