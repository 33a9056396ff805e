/-! CALLS THAT CHANGE THE STATE (the reference) -/
theorem AW_put {b : Int} {h h1 : aH} (w : AW b h) (e : RC h1 178 0 = RC h 178 0) (f0 : RC h1 186 (57 * (gi h 171 29).toNat) = RC h 178 0) (f1 : ∀ v, v ≠ (gi h 171 29).toNat → RC h1 186 (57 * v) = RC h 186 (57 * v)) (e3 : ∀ u, u < 3 → RC h1 200 (57 * u) = RC h 200 (57 * u)) : AW b h1 := by
  refine ⟨by rw [e]; exact w.1, fun v hv => ?_, fun v hv => by rw [e3 v hv]; exact w.2.2 v hv⟩
  by_cases c : v = (gi h 171 29).toNat
  · rw [c, f0]; exact w.1
  · rw [f1 v c]; exact w.2.1 v hv
/-- n STEPS: the state, HITS, how many were HUNGRY -/
def stI (ml ln : Nat → Int) (nr : Nat) (ms : Int) (ea : Nat → Int) : Nat → WS → WS
  | 0, w => w
  | k + 1, w => stW ml ln nr ms ea (stI ml ln nr ms ea k w)
def sHs (ml ln : Nat → Int) (nr : Nat) (ms : Int) (ea : Nat → Int) : Nat → WS → Int
  | 0, _ => 0
  | k + 1, w => sHs ml ln nr ms ea k w + stH ml ln nr (stI ml ln nr ms ea k w)
def sUs (ml ln : Nat → Int) (nr : Nat) (ms : Int) (ea : Nat → Int) : Nat → WS → Int
  | 0, _ => 0
  | k + 1, w => sUs ml ln nr ms ea k w + stU ms ea (stI ml ln nr ms ea k w)
theorem sHs_b {ml ln : Nat → Int} {nr : Nat} {ms : Int} {ea : Nat → Int} (hn : nr ≤ 16) (w : WS) : ∀ k : Nat, 0 ≤ sHs ml ln nr ms ea k w ∧ sHs ml ln nr ms ea k w ≤ 16 * k
  | 0 => ⟨Int.le_refl _, Int.le_refl _⟩
  | k + 1 => by
    have h1 := sHs_b (ml := ml) (ln := ln) (ms := ms) (ea := ea) hn w k
    have h2 := hitN_b ml ln ((stI ml ln nr ms ea k w).1 + 1) (stL (stI ml ln nr ms ea k w)) nr
    show 0 ≤ sHs ml ln nr ms ea k w + hitN ml ln ((stI ml ln nr ms ea k w).1 + 1) (stL (stI ml ln nr ms ea k w)) nr ∧ sHs ml ln nr ms ea k w + hitN ml ln ((stI ml ln nr ms ea k w).1 + 1) (stL (stI ml ln nr ms ea k w)) nr ≤ _
    omega
theorem sUs_b {ml ln : Nat → Int} {nr : Nat} {ms : Int} {ea : Nat → Int} (hn : ms ≤ 8) (w : WS) : ∀ k : Nat, 0 ≤ sUs ml ln nr ms ea k w ∧ sUs ml ln nr ms ea k w ≤ 8 * k
  | 0 => ⟨Int.le_refl _, Int.le_refl _⟩
  | k + 1 => by
    have h1 := sUs_b (ml := ml) (ln := ln) (nr := nr) (ea := ea) hn w k
    have h2 := hcN_b (stI ml ln nr ms ea k w).2.2.2.2.2.1 ea ms.toNat
    show 0 ≤ sUs ml ln nr ms ea k w + hcN (stI ml ln nr ms ea k w).2.2.2.2.2.1 ea ms.toNat ∧ sUs ml ln nr ms ea k w + hcN (stI ml ln nr ms ea k w).2.2.2.2.2.1 ea ms.toNat ≤ _
    omega
set_option maxRecDepth 4000 in
theorem ctX11_countsF {SP : CT} (hSP : MONO SP) {sh : List (Nat × Nat)} {h : aH} (hG : GD gE gRL sh h) {n : Int} (rn : r32 n) (hu : 0 ≤ gi h 171 29 ∧ gi h 171 29 ≤ 15) : CLd SP 3 mX11_counts [.ref 171, .int (I n)] h 0 0 (fun rv h' => rv = some (.int (I n)) ∧ GD gE gRL sh h' ∧ FRM gRL [(0, 54, 29, 29), (0, 69, 0, 911)] h h' ∧ ((n < 0 ∧ h' = h) ∨ (0 ≤ n ∧ gi h' 171 29 = min 15 (gi h 171 29 + 1) ∧ (gi h 171 29 < 15 → ∀ v, RC h' 186 (57 * v) = RC h 186 (57 * v)) ∧ (gi h 171 29 = 15 → (∀ v, v < 15 → RC h' 186 (57 * v) = RC h 186 (57 * (v + 1))) ∧ RC h' 186 (57 * 15) = RC h 186 (57 * 15))))) := by
  refine x_met _ rfl (Nat.le_of_ble_eq_true rfl) (fun K hK => ?_)
  have hmono := MONO_CLd hSP 2
  refine x_iload_n 1 hK rfl rfl rfl ?_
  refine x_if_ge 8 4 hK rfl rfl rfl (by omega) (fun c2 => ?_) (fun c2 => ?_)
  · refine x_aload_n 9 hK rfl rfl rfl ?_
    refine x_iload_n 10 hK rfl rfl rfl ?_
    refine x_callV 13 hK hmono rfl rfl [.ref 171, .int (I n)] [] rfl rfl (Nat.le_of_ble_eq_true rfl) (Nat.le_of_ble_eq_true rfl) rfl (sp_171 (h := h) hG) (CLd_le (Nat.le_of_ble_eq_true rfl) (ctX11_addsF hSP hG hu)) ?_
    rintro v2 h2 ⟨rfl, hG2, hF2, a2⟩
    exact x_iret hK rfl ⟨rfl, hG2, hF2, Or.inr ⟨by omega, a2⟩⟩
  · refine x_iload_n 5 hK rfl rfl rfl ?_
    refine x_goto 13 hK rfl rfl ?_
    exact x_iret hK rfl ⟨rfl, hG, FRM.rf, Or.inl ⟨by omega, rfl⟩⟩
set_option maxRecDepth 4000 in
theorem ctX11_orderF {SP : CT} (hSP : MONO SP) {sh : List (Nat × Nat)} {h : aH} (hG : GD gE gRL sh h) {v b : Int} (hX : XI h) (hu : 0 ≤ gi h 171 29 ∧ gi h 171 29 ≤ 15) (rv : r32 v) (aw : AW b h) (hb : b ≤ 1000000) : CLd SP 9 mX11_order [.ref 171, .int (I v)] h 0 0 (fun rv h' => (((gvR v (vw (RC h 178 0)) ≠ 0 ∧ rv = some (.int (I (gvR v (vw (RC h 178 0)))))) ∧ RC h' 178 0 = RC h 178 0 ∧ UL h' = UL h) ∨ ((gvR v (vw (RC h 178 0)) = 0 ∧ rv = some (.int (I ((dlA h (gi h 178 0)))))) ∧ vw (RC h' 178 0) = gvW (dlA h (gi h 178 0)) (tvF (gi h 171 5) v) (vw (RC h 178 0)) ∧ UL h' = pushU (UL h) (RC h 178 0))) ∧ GD gE gRL sh h' ∧ FRM gRL [(0, 54, 0, 0), (0, 54, 29, 29), (0, 61, 3, 40), (0, 67, 0, 79), (0, 68, 0, 3), (0, 69, 0, 911)] h h' ∧ gi h' 171 0 = 0 ∧ (0 ≤ gi h' 171 29 ∧ gi h' 171 29 ≤ 15) ∧ AW b h') := by
  refine x_met _ rfl (Nat.le_of_ble_eq_true rfl) (fun K hK => ?_)
  have hmono := MONO_CLd hSP 8
  have wb := aw.1
  have rb0 := wb.1
  rw [RC_0 (by omega)] at rb0
  refine x_aload_n 1 hK rfl rfl rfl ?_
  refine x_iconst 2 hK rfl rfl ?_
  refine x_putI 5 hK rfl rfl (sp_171 (h := h) hG) ?_
  refine x_aload_n 6 hK rfl rfl rfl ?_
  have hGp191 : GD gE gRL sh (wI h 171 0 0) := GD_w1 (hG) (r := 54) rfl (by omega) rfl (by omega) (by omega)
  have u1 : gi (wI h 171 0 0) 171 29 = gi h 171 29 := gi_k (by decide) _
  refine x_callV 9 hK hmono rfl rfl [.ref 171] [] rfl rfl (Nat.le_of_ble_eq_true rfl) (Nat.le_of_ble_eq_true rfl) rfl (sp_171 (h := h) hG) (CLd_le (Nat.le_of_ble_eq_true rfl) (ctX11_putsByF hSP hGp191 (by rw [u1]; exact hu))) ?_
  rintro v2 h2 ⟨rfl, hG2, hF2, p0, p1⟩
  rw [u1, show RC (wI h 171 0 0) 178 0 = RC h 178 0 from RC_w (by decide)] at p0
  rw [u1] at p1
  replace p1 : ∀ v, v ≠ (gi h 171 29).toNat → RC h2 186 (57 * v) = RC h 186 (57 * v) := fun v hv => (p1 v hv).trans (RC_w (by decide))
  have c178 : RC h2 178 0 = RC h 178 0 := (RC_F hF2 (r := 61) rfl rfl 0).trans (RC_w (by decide))
  have u2 : gi h2 171 29 = gi h 171 29 := (FRM_gi hF2 (r := 54) rfl rfl).trans (gi_k (by decide) _)
  have c200 : ∀ v, RC h2 200 v = RC h 200 v := fun v => (RC_F hF2 (r := 83) rfl rfl v).trans (RC_w (by decide))
  refine x_aload_n 10 hK rfl rfl rfl ?_
  refine x_aload_n 11 hK rfl rfl rfl ?_
  refine x_aload_n 12 hK rfl rfl rfl ?_
  refine x_getR 15 hK rfl rfl (sp_171 (h := h2) hG2) (rf_171_14 (h := h2) hG2) ?_
  refine x_iload_n 16 hK rfl rfl rfl ?_
  have wb2 : WB b (RC h2 178 0) := by rw [c178]; exact wb
  have hX2 : XI h2 := (xOk_ok rfl _ h2 hF2 (xOk_ok rfl h (wI h 171 0 0) (FRM_w ((FRM.rf : FRM gRL [(0, 54, 0, 0)] h h)) (r := 54) rfl rfl) hX))
  refine x_callV 19 hK hmono rfl rfl [.ref 171, .ref 178, .int (I v)] [.ref 171] rfl rfl (Nat.le_of_ble_eq_true rfl) (Nat.le_of_ble_eq_true rfl) rfl (sp_171 (h := h2) hG2) (CLd_le (Nat.le_of_ble_eq_true rfl) (ctX11_givesNF hSP hG2 hX2 rv wb2 hb)) ?_
  rw [c178, show gi h2 178 0 = gi h 178 0 from (FRM_gi hF2 (r := 61) rfl rfl).trans (gi_a (by decide) _), show gi h2 171 5 = gi h 171 5 from (FRM_gi hF2 (r := 54) rfl rfl).trans (gi_k (by decide) _), show dlA h2 (gi h 178 0) = dlA h (gi h 178 0) from (dlA_F hF2 rfl _).trans (dlA_F (FRM_w ((FRM.rf : FRM gRL [(0, 54, 0, 0)] h h)) (r := 54) rfl rfl) rfl _)]
  rintro v3 h3 ⟨⟨e3, rfl, s3⟩ | ⟨e3, rfl, s3⟩, hG3, hF3, wb3⟩
  · have u3 : gi h3 171 29 = gi h 171 29 := (FRM_gi hF3 (r := 54) rfl rfl).trans ((FRM_gi hF2 (r := 54) rfl rfl).trans (gi_k (by decide) _))
    have q0 : RC h3 186 (57 * (gi h 171 29).toNat) = RC h 178 0 := (RC_F hF3 (r := 69) rfl rfl _).trans p0
    have q1 : ∀ v, v ≠ (gi h 171 29).toNat → RC h3 186 (57 * v) = RC h 186 (57 * v) := fun v hv => (RC_F hF3 (r := 69) rfl rfl _).trans (p1 v hv)
    have q2 : ∀ v, RC h3 200 v = RC h 200 v := fun v => (RC_F hF3 (r := 83) rfl rfl v).trans (c200 v)
    have an : gvR v (vw (RC h 178 0)) < 0 := by unfold gvR at e3 ⊢; revert e3; (repeat' split) <;> intro e3 <;> omega
    have ar : r32 (gvR v (vw (RC h 178 0))) := by unfold gvR at an ⊢; (repeat' split) <;> omega
    refine x_callV 22 hK hmono rfl rfl [.ref 171, .int (I (gvR v (vw (RC h 178 0))))] [] rfl rfl (Nat.le_of_ble_eq_true rfl) (Nat.le_of_ble_eq_true rfl) rfl (sp_171 (h := h3) hG3) (CLd_le (Nat.le_of_ble_eq_true rfl) (ctX11_countsF hSP hG3 (by omega) (by rw [u3]; exact hu))) ?_
    rintro v4 h4 ⟨rfl, hG4, hF4, ⟨n4, e4⟩ | ⟨n4, a4, a5, a6⟩⟩
    · subst e4
      have ff : FRM gRL [(0, 54, 0, 0), (0, 54, 29, 29), (0, 61, 3, 40), (0, 67, 0, 79), (0, 68, 0, 3), (0, 69, 0, 911)] h h4 := ((FRM_w ((FRM.rf : FRM gRL [(0, 54, 0, 0), (0, 54, 29, 29), (0, 61, 3, 40), (0, 67, 0, 79), (0, 68, 0, 3), (0, 69, 0, 911)] h h)) (r := 54) rfl rfl).trans ((hF2).mono rfl)).trans ((hF3).mono rfl)
      have t4 : gi h4 171 0 = 0 := (FRM_gi hF3 (r := 54) rfl rfl).trans ((FRM_gi hF2 (r := 54) rfl rfl).trans (gi_same (by omega)))
      exact x_iret hK rfl ⟨Or.inl ⟨⟨e3, rfl⟩, s3, UL_eq u3 fun v hv => q1 v (by omega)⟩, hG4, ff, t4, by rw [u3]; exact hu, AW_put aw s3 q0 q1 fun v _ => q2 _⟩
    · exfalso
      omega
  · have u3 : gi h3 171 29 = gi h 171 29 := (FRM_gi hF3 (r := 54) rfl rfl).trans ((FRM_gi hF2 (r := 54) rfl rfl).trans (gi_k (by decide) _))
    have q0 : RC h3 186 (57 * (gi h 171 29).toNat) = RC h 178 0 := (RC_F hF3 (r := 69) rfl rfl _).trans p0
    have q1 : ∀ v, v ≠ (gi h 171 29).toNat → RC h3 186 (57 * v) = RC h 186 (57 * v) := fun v hv => (RC_F hF3 (r := 69) rfl rfl _).trans (p1 v hv)
    have q2 : ∀ v, RC h3 200 v = RC h 200 v := fun v => (RC_F hF3 (r := 83) rfl rfl v).trans (c200 v)
    have an := dlA_b h (gi h 178 0)
    refine x_callV 22 hK hmono rfl rfl [.ref 171, .int (I ((dlA h (gi h 178 0))))] [] rfl rfl (Nat.le_of_ble_eq_true rfl) (Nat.le_of_ble_eq_true rfl) rfl (sp_171 (h := h3) hG3) (CLd_le (Nat.le_of_ble_eq_true rfl) (ctX11_countsF hSP hG3 (by omega) (by rw [u3]; exact hu))) ?_
    rintro v4 h4 ⟨rfl, hG4, hF4, ⟨n4, e4⟩ | ⟨n4, a4, a5, a6⟩⟩
    · exfalso
      omega
    · have w4 : RC h4 178 0 = RC h3 178 0 := RC_F hF4 (r := 61) rfl rfl 0
      exact x_iret hK rfl ⟨Or.inr ⟨⟨e3, rfl⟩, by rw [w4]; exact s3, UL_push hu u3 q0 q1 a4 a5 a6⟩, hG4, (((FRM_w ((FRM.rf : FRM gRL [(0, 54, 0, 0), (0, 54, 29, 29), (0, 61, 3, 40), (0, 67, 0, 79), (0, 68, 0, 3), (0, 69, 0, 911)] h h)) (r := 54) rfl rfl).trans ((hF2).mono rfl)).trans ((hF3).mono rfl)).trans ((hF4).mono rfl), (FRM_gi hF4 (r := 54) rfl rfl).trans ((FRM_gi hF3 (r := 54) rfl rfl).trans ((FRM_gi hF2 (r := 54) rfl rfl).trans (gi_same (by omega)))), by rw [a4, u3]; omega, AW_push aw hu (by rw [w4]; exact wb3) u3 q0 q1 (fun v _ => (RC_F hF4 (r := 83) rfl rfl _).trans (q2 _)) a5 a6⟩
theorem ps_ge {b ms m n a : Int} {s : Nat → Int} (wb : WB b s) (e : psR ms (vw s).2.2.2.2.2.1 m n a = 0) : 0 ≤ (vw s).2.2.2.2.2.1 m.toNat - n ∧ (vw s).2.2.2.2.2.1 m.toNat - n ≤ 99 := by
  have z : (vw s).2.2.2.2.2.1 m.toNat = if m.toNat < 8 then s (41 + m.toNat) else 0 := rfl
  have w5 := wb.2.2.2.2.2
  have w6 := fun q : m.toNat < 8 => w5 m.toNat q
  unfold psR at e
  revert e
  (repeat' split) <;> intro e <;> omega
theorem ck_ge {b ms m n : Int} {s : Nat → Int} (wb : WB b s) (hm : 0 ≤ ms ∧ ms ≤ 8) (e : ckOk ms m n) : 0 ≤ (vw s).2.2.2.2.2.1 m.toNat ∧ (vw s).2.2.2.2.2.1 m.toNat ≤ 99 := by
  have z : (vw s).2.2.2.2.2.1 m.toNat = if m.toNat < 8 then s (41 + m.toNat) else 0 := rfl
  have w6 := fun q : m.toNat < 8 => wb.2.2.2.2.2 m.toNat q
  generalize (vw s).2.2.2.2.2.1 m.toNat = y at *
  split at z <;> omega
set_option maxRecDepth 4000 in
theorem ctX11_passF {SP : CT} (hSP : MONO SP) {sh : List (Nat × Nat)} {h : aH} (hG : GD gE gRL sh h) {m n a b : Int} (hX : XI h) (hu : 0 ≤ gi h 171 29 ∧ gi h 171 29 ≤ 15) (rm : r32 m) (rn : r32 n) (ra : r32 a) (aw : AW b h) (hb : b ≤ 1000000) : CLd SP 9 mX11_pass [.ref 171, .int (I m), .int (I n), .int (I a)] h 0 0 (fun rv h' => (((psR (gi h 171 7) (vw (RC h 178 0)).2.2.2.2.2.1 m n a ≠ 0 ∧ rv = some (.int (I (psR (gi h 171 7) (vw (RC h 178 0)).2.2.2.2.2.1 m n a)))) ∧ RC h' 178 0 = RC h 178 0 ∧ UL h' = UL h) ∨ ((psR (gi h 171 7) (vw (RC h 178 0)).2.2.2.2.2.1 m n a = 0 ∧ rv = some (.int (I ((vw (RC h 178 0)).2.2.2.2.2.1 m.toNat - n)))) ∧ vw (RC h' 178 0) = psW m n a (vw (RC h 178 0)) ∧ UL h' = pushU (UL h) (RC h 178 0))) ∧ GD gE gRL sh h' ∧ FRM gRL [(0, 54, 0, 0), (0, 54, 29, 29), (0, 61, 41, 48), (0, 69, 0, 911)] h h' ∧ gi h' 171 0 = 0 ∧ (0 ≤ gi h' 171 29 ∧ gi h' 171 29 ≤ 15) ∧ AW b h') := by
  refine x_met _ rfl (Nat.le_of_ble_eq_true rfl) (fun K hK => ?_)
  have hmono := MONO_CLd hSP 8
  have wb := aw.1
  have rb0 := wb.1
  rw [RC_0 (by omega)] at rb0
  have g7 := gri 0 8 hG (a := 171) (r := 54) (k := 7) rfl rfl
  refine x_aload_n 1 hK rfl rfl rfl ?_
  refine x_iconst 2 hK rfl rfl ?_
  refine x_putI 5 hK rfl rfl (sp_171 (h := h) hG) ?_
  refine x_aload_n 6 hK rfl rfl rfl ?_
  have hGp192 : GD gE gRL sh (wI h 171 0 0) := GD_w1 (hG) (r := 54) rfl (by omega) rfl (by omega) (by omega)
  have u1 : gi (wI h 171 0 0) 171 29 = gi h 171 29 := gi_k (by decide) _
  refine x_callV 9 hK hmono rfl rfl [.ref 171] [] rfl rfl (Nat.le_of_ble_eq_true rfl) (Nat.le_of_ble_eq_true rfl) rfl (sp_171 (h := h) hG) (CLd_le (Nat.le_of_ble_eq_true rfl) (ctX11_putsByF hSP hGp192 (by rw [u1]; exact hu))) ?_
  rintro v2 h2 ⟨rfl, hG2, hF2, p0, p1⟩
  rw [u1, show RC (wI h 171 0 0) 178 0 = RC h 178 0 from RC_w (by decide)] at p0
  rw [u1] at p1
  replace p1 : ∀ v, v ≠ (gi h 171 29).toNat → RC h2 186 (57 * v) = RC h 186 (57 * v) := fun v hv => (p1 v hv).trans (RC_w (by decide))
  have c178 : RC h2 178 0 = RC h 178 0 := (RC_F hF2 (r := 61) rfl rfl 0).trans (RC_w (by decide))
  have u2 : gi h2 171 29 = gi h 171 29 := (FRM_gi hF2 (r := 54) rfl rfl).trans (gi_k (by decide) _)
  have c200 : ∀ v, RC h2 200 v = RC h 200 v := fun v => (RC_F hF2 (r := 83) rfl rfl v).trans (RC_w (by decide))
  refine x_aload_n 10 hK rfl rfl rfl ?_
  refine x_aload_n 11 hK rfl rfl rfl ?_
  refine x_iload_n 12 hK rfl rfl rfl ?_
  refine x_iload_n 13 hK rfl rfl rfl ?_
  refine x_iload_n 14 hK rfl rfl rfl ?_
  have wb2 : WB b (RC h2 178 0) := by rw [c178]; exact wb
  refine x_callV 17 hK hmono rfl rfl [.ref 171, .int (I m), .int (I n), .int (I a)] [.ref 171] rfl rfl (Nat.le_of_ble_eq_true rfl) (Nat.le_of_ble_eq_true rfl) rfl (sp_171 (h := h2) hG2) (CLd_le (Nat.le_of_ble_eq_true rfl) (ctX11_passesF hSP hG2 rm rn ra wb2)) ?_
  rw [c178, show gi h2 171 7 = gi h 171 7 from (FRM_gi hF2 (r := 54) rfl rfl).trans (gi_k (by decide) _)]
  rintro v3 h3 ⟨⟨e3, rfl, s3⟩ | ⟨e3, rfl, s3⟩, hG3, hF3, wb3⟩
  · have u3 : gi h3 171 29 = gi h 171 29 := (FRM_gi hF3 (r := 54) rfl rfl).trans ((FRM_gi hF2 (r := 54) rfl rfl).trans (gi_k (by decide) _))
    have q0 : RC h3 186 (57 * (gi h 171 29).toNat) = RC h 178 0 := (RC_F hF3 (r := 69) rfl rfl _).trans p0
    have q1 : ∀ v, v ≠ (gi h 171 29).toNat → RC h3 186 (57 * v) = RC h 186 (57 * v) := fun v hv => (RC_F hF3 (r := 69) rfl rfl _).trans (p1 v hv)
    have q2 : ∀ v, RC h3 200 v = RC h 200 v := fun v => (RC_F hF3 (r := 83) rfl rfl v).trans (c200 v)
    have an : psR (gi h 171 7) (vw (RC h 178 0)).2.2.2.2.2.1 m n a < 0 := by unfold psR at e3 ⊢; revert e3; (repeat' split) <;> intro e3 <;> omega
    have ar : r32 (psR (gi h 171 7) (vw (RC h 178 0)).2.2.2.2.2.1 m n a) := by unfold psR at an ⊢; (repeat' split) <;> omega
    refine x_callV 20 hK hmono rfl rfl [.ref 171, .int (I (psR (gi h 171 7) (vw (RC h 178 0)).2.2.2.2.2.1 m n a))] [] rfl rfl (Nat.le_of_ble_eq_true rfl) (Nat.le_of_ble_eq_true rfl) rfl (sp_171 (h := h3) hG3) (CLd_le (Nat.le_of_ble_eq_true rfl) (ctX11_countsF hSP hG3 (by omega) (by rw [u3]; exact hu))) ?_
    rintro v4 h4 ⟨rfl, hG4, hF4, ⟨n4, e4⟩ | ⟨n4, a4, a5, a6⟩⟩
    · subst e4
      have ff : FRM gRL [(0, 54, 0, 0), (0, 54, 29, 29), (0, 61, 41, 48), (0, 69, 0, 911)] h h4 := ((FRM_w ((FRM.rf : FRM gRL [(0, 54, 0, 0), (0, 54, 29, 29), (0, 61, 41, 48), (0, 69, 0, 911)] h h)) (r := 54) rfl rfl).trans ((hF2).mono rfl)).trans ((hF3).mono rfl)
      have t4 : gi h4 171 0 = 0 := (FRM_gi hF3 (r := 54) rfl rfl).trans ((FRM_gi hF2 (r := 54) rfl rfl).trans (gi_same (by omega)))
      exact x_iret hK rfl ⟨Or.inl ⟨⟨e3, rfl⟩, s3, UL_eq u3 fun v hv => q1 v (by omega)⟩, hG4, ff, t4, by rw [u3]; exact hu, AW_put aw s3 q0 q1 fun v _ => q2 _⟩
    · exfalso
      omega
  · have u3 : gi h3 171 29 = gi h 171 29 := (FRM_gi hF3 (r := 54) rfl rfl).trans ((FRM_gi hF2 (r := 54) rfl rfl).trans (gi_k (by decide) _))
    have q0 : RC h3 186 (57 * (gi h 171 29).toNat) = RC h 178 0 := (RC_F hF3 (r := 69) rfl rfl _).trans p0
    have q1 : ∀ v, v ≠ (gi h 171 29).toNat → RC h3 186 (57 * v) = RC h 186 (57 * v) := fun v hv => (RC_F hF3 (r := 69) rfl rfl _).trans (p1 v hv)
    have q2 : ∀ v, RC h3 200 v = RC h 200 v := fun v => (RC_F hF3 (r := 83) rfl rfl v).trans (c200 v)
    have an := ps_ge wb e3
    refine x_callV 20 hK hmono rfl rfl [.ref 171, .int (I ((vw (RC h 178 0)).2.2.2.2.2.1 m.toNat - n))] [] rfl rfl (Nat.le_of_ble_eq_true rfl) (Nat.le_of_ble_eq_true rfl) rfl (sp_171 (h := h3) hG3) (CLd_le (Nat.le_of_ble_eq_true rfl) (ctX11_countsF hSP hG3 (by omega) (by rw [u3]; exact hu))) ?_
    rintro v4 h4 ⟨rfl, hG4, hF4, ⟨n4, e4⟩ | ⟨n4, a4, a5, a6⟩⟩
    · exfalso
      omega
    · have w4 : RC h4 178 0 = RC h3 178 0 := RC_F hF4 (r := 61) rfl rfl 0
      exact x_iret hK rfl ⟨Or.inr ⟨⟨e3, rfl⟩, by rw [w4]; exact s3, UL_push hu u3 q0 q1 a4 a5 a6⟩, hG4, (((FRM_w ((FRM.rf : FRM gRL [(0, 54, 0, 0), (0, 54, 29, 29), (0, 61, 41, 48), (0, 69, 0, 911)] h h)) (r := 54) rfl rfl).trans ((hF2).mono rfl)).trans ((hF3).mono rfl)).trans ((hF4).mono rfl), (FRM_gi hF4 (r := 54) rfl rfl).trans ((FRM_gi hF3 (r := 54) rfl rfl).trans ((FRM_gi hF2 (r := 54) rfl rfl).trans (gi_same (by omega)))), by rw [a4, u3]; omega, AW_push aw hu (by rw [w4]; exact wb3) u3 q0 q1 (fun v _ => (RC_F hF4 (r := 83) rfl rfl _).trans (q2 _)) a5 a6⟩
set_option maxRecDepth 4000 in
theorem ctX11_cookF {SP : CT} (hSP : MONO SP) {sh : List (Nat × Nat)} {h : aH} (hG : GD gE gRL sh h) {m n b : Int} (hX : XI h) (hu : 0 ≤ gi h 171 29 ∧ gi h 171 29 ≤ 15) (rm : r32 m) (rn : r32 n) (aw : AW b h) (hb : b ≤ 1000000) : CLd SP 9 mX11_cook [.ref 171, .int (I m), .int (I n)] h 0 0 (fun rv h' => (((¬ ckOk (gi h 171 7) m n ∧ rv = some (.int (I (-1)))) ∧ RC h' 178 0 = RC h 178 0 ∧ UL h' = UL h) ∨ ((ckOk (gi h 171 7) m n ∧ rv = some (.int (I ((vw (RC h 178 0)).2.2.2.2.2.1 m.toNat)))) ∧ vw (RC h' 178 0) = ckW m n (vw (RC h 178 0)) ∧ UL h' = pushU (UL h) (RC h 178 0))) ∧ GD gE gRL sh h' ∧ FRM gRL [(0, 54, 0, 0), (0, 54, 29, 29), (0, 61, 41, 48), (0, 69, 0, 911)] h h' ∧ gi h' 171 0 = 0 ∧ (0 ≤ gi h' 171 29 ∧ gi h' 171 29 ≤ 15) ∧ AW b h') := by
  refine x_met _ rfl (Nat.le_of_ble_eq_true rfl) (fun K hK => ?_)
  have hmono := MONO_CLd hSP 8
  have wb := aw.1
  have rb0 := wb.1
  rw [RC_0 (by omega)] at rb0
  have g7 := gri 0 8 hG (a := 171) (r := 54) (k := 7) rfl rfl
  refine x_aload_n 1 hK rfl rfl rfl ?_
  refine x_iconst 2 hK rfl rfl ?_
  refine x_putI 5 hK rfl rfl (sp_171 (h := h) hG) ?_
  refine x_aload_n 6 hK rfl rfl rfl ?_
  have hGp193 : GD gE gRL sh (wI h 171 0 0) := GD_w1 (hG) (r := 54) rfl (by omega) rfl (by omega) (by omega)
  have u1 : gi (wI h 171 0 0) 171 29 = gi h 171 29 := gi_k (by decide) _
  refine x_callV 9 hK hmono rfl rfl [.ref 171] [] rfl rfl (Nat.le_of_ble_eq_true rfl) (Nat.le_of_ble_eq_true rfl) rfl (sp_171 (h := h) hG) (CLd_le (Nat.le_of_ble_eq_true rfl) (ctX11_putsByF hSP hGp193 (by rw [u1]; exact hu))) ?_
  rintro v2 h2 ⟨rfl, hG2, hF2, p0, p1⟩
  rw [u1, show RC (wI h 171 0 0) 178 0 = RC h 178 0 from RC_w (by decide)] at p0
  rw [u1] at p1
  replace p1 : ∀ v, v ≠ (gi h 171 29).toNat → RC h2 186 (57 * v) = RC h 186 (57 * v) := fun v hv => (p1 v hv).trans (RC_w (by decide))
  have c178 : RC h2 178 0 = RC h 178 0 := (RC_F hF2 (r := 61) rfl rfl 0).trans (RC_w (by decide))
  have u2 : gi h2 171 29 = gi h 171 29 := (FRM_gi hF2 (r := 54) rfl rfl).trans (gi_k (by decide) _)
  have c200 : ∀ v, RC h2 200 v = RC h 200 v := fun v => (RC_F hF2 (r := 83) rfl rfl v).trans (RC_w (by decide))
  refine x_aload_n 10 hK rfl rfl rfl ?_
  refine x_aload_n 11 hK rfl rfl rfl ?_
  refine x_iload_n 12 hK rfl rfl rfl ?_
  refine x_iload_n 13 hK rfl rfl rfl ?_
  have wb2 : WB b (RC h2 178 0) := by rw [c178]; exact wb
  refine x_callV 16 hK hmono rfl rfl [.ref 171, .int (I m), .int (I n)] [.ref 171] rfl rfl (Nat.le_of_ble_eq_true rfl) (Nat.le_of_ble_eq_true rfl) rfl (sp_171 (h := h2) hG2) (CLd_le (Nat.le_of_ble_eq_true rfl) (ctX11_cooksF hSP hG2 rm rn wb2)) ?_
  rw [c178, show gi h2 171 7 = gi h 171 7 from (FRM_gi hF2 (r := 54) rfl rfl).trans (gi_k (by decide) _)]
  rintro v3 h3 ⟨⟨e3, rfl, s3⟩ | ⟨e3, rfl, s3⟩, hG3, hF3, wb3⟩
  · have u3 : gi h3 171 29 = gi h 171 29 := (FRM_gi hF3 (r := 54) rfl rfl).trans ((FRM_gi hF2 (r := 54) rfl rfl).trans (gi_k (by decide) _))
    have q0 : RC h3 186 (57 * (gi h 171 29).toNat) = RC h 178 0 := (RC_F hF3 (r := 69) rfl rfl _).trans p0
    have q1 : ∀ v, v ≠ (gi h 171 29).toNat → RC h3 186 (57 * v) = RC h 186 (57 * v) := fun v hv => (RC_F hF3 (r := 69) rfl rfl _).trans (p1 v hv)
    have q2 : ∀ v, RC h3 200 v = RC h 200 v := fun v => (RC_F hF3 (r := 83) rfl rfl v).trans (c200 v)
    refine x_callV 19 hK hmono rfl rfl [.ref 171, .int (I (-1))] [] rfl rfl (Nat.le_of_ble_eq_true rfl) (Nat.le_of_ble_eq_true rfl) rfl (sp_171 (h := h3) hG3) (CLd_le (Nat.le_of_ble_eq_true rfl) (ctX11_countsF hSP hG3 (by omega) (by rw [u3]; exact hu))) ?_
    rintro v4 h4 ⟨rfl, hG4, hF4, ⟨n4, e4⟩ | ⟨n4, a4, a5, a6⟩⟩
    · subst e4
      have ff : FRM gRL [(0, 54, 0, 0), (0, 54, 29, 29), (0, 61, 41, 48), (0, 69, 0, 911)] h h4 := ((FRM_w ((FRM.rf : FRM gRL [(0, 54, 0, 0), (0, 54, 29, 29), (0, 61, 41, 48), (0, 69, 0, 911)] h h)) (r := 54) rfl rfl).trans ((hF2).mono rfl)).trans ((hF3).mono rfl)
      have t4 : gi h4 171 0 = 0 := (FRM_gi hF3 (r := 54) rfl rfl).trans ((FRM_gi hF2 (r := 54) rfl rfl).trans (gi_same (by omega)))
      exact x_iret hK rfl ⟨Or.inl ⟨⟨e3, rfl⟩, s3, UL_eq u3 fun v hv => q1 v (by omega)⟩, hG4, ff, t4, by rw [u3]; exact hu, AW_put aw s3 q0 q1 fun v _ => q2 _⟩
    · exfalso
      omega
  · have u3 : gi h3 171 29 = gi h 171 29 := (FRM_gi hF3 (r := 54) rfl rfl).trans ((FRM_gi hF2 (r := 54) rfl rfl).trans (gi_k (by decide) _))
    have q0 : RC h3 186 (57 * (gi h 171 29).toNat) = RC h 178 0 := (RC_F hF3 (r := 69) rfl rfl _).trans p0
    have q1 : ∀ v, v ≠ (gi h 171 29).toNat → RC h3 186 (57 * v) = RC h 186 (57 * v) := fun v hv => (RC_F hF3 (r := 69) rfl rfl _).trans (p1 v hv)
    have q2 : ∀ v, RC h3 200 v = RC h 200 v := fun v => (RC_F hF3 (r := 83) rfl rfl v).trans (c200 v)
    have an := ck_ge wb g7 e3
    refine x_callV 19 hK hmono rfl rfl [.ref 171, .int (I ((vw (RC h 178 0)).2.2.2.2.2.1 m.toNat))] [] rfl rfl (Nat.le_of_ble_eq_true rfl) (Nat.le_of_ble_eq_true rfl) rfl (sp_171 (h := h3) hG3) (CLd_le (Nat.le_of_ble_eq_true rfl) (ctX11_countsF hSP hG3 (by omega) (by rw [u3]; exact hu))) ?_
    rintro v4 h4 ⟨rfl, hG4, hF4, ⟨n4, e4⟩ | ⟨n4, a4, a5, a6⟩⟩
    · exfalso
      omega
    · have w4 : RC h4 178 0 = RC h3 178 0 := RC_F hF4 (r := 61) rfl rfl 0
      exact x_iret hK rfl ⟨Or.inr ⟨⟨e3, rfl⟩, by rw [w4]; exact s3, UL_push hu u3 q0 q1 a4 a5 a6⟩, hG4, (((FRM_w ((FRM.rf : FRM gRL [(0, 54, 0, 0), (0, 54, 29, 29), (0, 61, 41, 48), (0, 69, 0, 911)] h h)) (r := 54) rfl rfl).trans ((hF2).mono rfl)).trans ((hF3).mono rfl)).trans ((hF4).mono rfl), (FRM_gi hF4 (r := 54) rfl rfl).trans ((FRM_gi hF3 (r := 54) rfl rfl).trans ((FRM_gi hF2 (r := 54) rfl rfl).trans (gi_same (by omega)))), by rw [a4, u3]; omega, AW_push aw hu (by rw [w4]; exact wb3) u3 q0 q1 (fun v _ => (RC_F hF4 (r := 83) rfl rfl _).trans (q2 _)) a5 a6⟩
set_option maxRecDepth 4000 in
theorem ctX11_startsCountingF {SP : CT} (hSP : MONO SP) {sh : List (Nat × Nat)} {h : aH} (hG : GD gE gRL sh h) : CLd SP 1 mX11_startsCounting [.ref 171] h 0 0 (fun rv h' => rv = none ∧ GD gE gRL sh h' ∧ FRM gRL [(0, 54, 31, 32)] h h' ∧ gi h' 171 31 = 0 ∧ gi h' 171 32 = 0) := by
  refine x_met _ rfl (Nat.le_of_ble_eq_true rfl) (fun K hK => ?_)
  have hmono := MONO_CLd hSP 0
  refine x_aload_n 1 hK rfl rfl rfl ?_
  refine x_iconst 2 hK rfl rfl ?_
  refine x_putI 5 hK rfl rfl (sp_171 (h := h) hG) ?_
  refine x_aload_n 6 hK rfl rfl rfl ?_
  refine x_iconst 7 hK rfl rfl ?_
  refine x_putI 10 hK rfl rfl (sp_171 (h := h) hG) ?_
  exact x_vret hK rfl ⟨rfl, GD_w0 (GD_w0 (hG) (r := 54) rfl rfl) (r := 54) rfl rfl, FRM_w (FRM_w ((FRM.rf : FRM gRL [(0, 54, 31, 32)] h h)) (r := 54) rfl rfl) (r := 54) rfl rfl, (gi_k (by decide) _).trans (gi_same (by omega)), gi_same (by omega)⟩
set_option maxRecDepth 4000 in
theorem ctX11_stepsF {SP : CT} (hSP : MONO SP) {sh : List (Nat × Nat)} {h : aH} (hG : GD gE gRL sh h) {n b : Int} (hu : 0 ≤ gi h 171 29 ∧ gi h 171 29 ≤ 15) (rn : r32 n) (aw : AW b h) (hb : b ≤ 900000) : CLd SP 9 mX11_steps [.ref 171, .int (I n)] h 0 0 (fun rv h' => ((¬ (0 ≤ n ∧ n ≤ 60) ∧ rv = some (.int (I (-1))) ∧ RC h' 178 0 = RC h 178 0 ∧ UL h' = UL h ∧ mrow h' = mrow h) ∨ ((0 ≤ n ∧ n ≤ 60) ∧ rv = some (.int (I (stI (gi h 175) (gi h 176) (gi h 171 6).toNat (gi h 171 7) (gi h 177) n.toNat (vw (RC h 178 0))).2.1)) ∧ vw (RC h' 178 0) = stI (gi h 175) (gi h 176) (gi h 171 6).toNat (gi h 171 7) (gi h 177) n.toNat (vw (RC h 178 0)) ∧ UL h' = pushU (UL h) (RC h 178 0) ∧ mrow h' = [sHs (gi h 175) (gi h 176) (gi h 171 6).toNat (gi h 171 7) (gi h 177) n.toNat (vw (RC h 178 0)), sUs (gi h 175) (gi h 176) (gi h 171 6).toNat (gi h 171 7) (gi h 177) n.toNat (vw (RC h 178 0))])) ∧ GD gE gRL sh h' ∧ FRM gRL [(0, 54, 0, 0), (0, 54, 1, 1), (0, 54, 29, 29), (0, 54, 31, 32), (0, 61, 0, 56), (0, 69, 0, 911), (1, 55, 0, 39)] h h' ∧ gi h' 171 0 = 0 ∧ (0 ≤ gi h' 171 29 ∧ gi h' 171 29 ≤ 15) ∧ AW (b + 60) h') := by
  refine x_met _ rfl (Nat.le_of_ble_eq_true rfl) (fun K hK => ?_)
  have hmono := MONO_CLd hSP 8
  have g6 := gri 0 16 hG (a := 171) (r := 54) (k := 6) rfl rfl
  have g7 := gri 0 8 hG (a := 171) (r := 54) (k := 7) rfl rfl
  have sb := sHs_b (ml := gi h 175) (ln := gi h 176) (ms := gi h 171 7) (ea := gi h 177) (show (gi h 171 6).toNat ≤ 16 by omega) (vw (RC h 178 0))
  have ub := sUs_b (ml := gi h 175) (ln := gi h 176) (nr := (gi h 171 6).toNat) (ea := gi h 177) g7.2 (vw (RC h 178 0))
  have loop : ∀ (mz : Nat) (k : Int) (h4 : aH) (ls : List (Nat × Value)), ((n - k).toNat = mz) → (0 ≤ n ∧ n ≤ 60) → (0 ≤ k ∧ k ≤ n) → (gi h4 171 0 = 0) → (gi h4 171 29 = gi h 171 29) → (vw (RC h4 178 0) = stI (gi h 175) (gi h 176) (gi h 171 6).toNat (gi h 171 7) (gi h 177) k.toNat (vw (RC h 178 0))) → (gi h4 171 31 = sHs (gi h 175) (gi h 176) (gi h 171 6).toNat (gi h 171 7) (gi h 177) k.toNat (vw (RC h 178 0))) → (gi h4 171 32 = sUs (gi h 175) (gi h 176) (gi h 171 6).toNat (gi h 171 7) (gi h 177) k.toNat (vw (RC h 178 0))) → (WB (b + k) (RC h4 178 0)) → (RC h4 186 (57 * (gi h 171 29).toNat) = RC h 178 0) → (∀ v, v ≠ (gi h 171 29).toNat → RC h4 186 (57 * v) = RC h 186 (57 * v)) → (∀ v, RC h4 200 v = RC h 200 v) → lk ls 0 = some (.ref 171) → lk ls 1 = some (.int (I n)) → lk ls 2 = some (.int (I k)) → GD gE gRL sh h4 → FRM gRL [(0, 54, 0, 0), (0, 54, 1, 1), (0, 54, 29, 29), (0, 54, 31, 32), (0, 61, 0, 56), (0, 69, 0, 911), (1, 55, 0, 39)] h h4 → K 29 ls [] h4 0 0 := by
    intro mz
    induction mz using Nat.strongRecOn with
    | ind mz ih =>
    intro k h4 ls hm n0 k0 t4 u4 sv s31 s32 wb4 q0 q1 q2 l0 l1 l2 hG4 hF4
    have sbk := sb k.toNat
    have ubk := ub k.toNat
    have gl := gri 0 8 hG4 (a := 178) (r := 61) (k := 1) rfl rfl
    refine x_iload_n 30 hK rfl rfl l2 ?_
    refine x_iload_n 31 hK rfl rfl l1 ?_
    refine x_if_icmp_ge 48 34 hK rfl rfl rfl (by omega) (by omega) (fun c3 => ?_) (fun c3 => ?_)
    · refine x_aload_n 49 hK rfl rfl l0 ?_
      refine x_iconst 50 hK rfl rfl ?_
      refine x_putI 53 hK rfl rfl (sp_171 (h := h4) hG4) ?_
      refine x_aload_n 54 hK rfl rfl l0 ?_
      refine x_aload_n 55 hK rfl rfl l0 ?_
      refine x_getE 58 hK rfl (Or.inl rfl) rfl (sp_171 (h := h4) hG4) (e := (sHs (gi h 175) (gi h 176) (gi h 171 6).toNat (gi h 171 7) (gi h 177) k.toNat (vw (RC h 178 0)))) ((gi_k (by decide) _).trans (s31)) ?_
      refine x_i2l 59 hK rfl rfl (by omega) ?_
      have hGp194 : GD gE gRL sh (wI h4 171 1 0) := GD_w1 (hG4) (r := 54) rfl (by omega) rfl (by omega) (by omega)
      have z196 : gi (wI h4 171 1 0) 171 1 = 0 := gi_same (by omega)
      have z196r : mrow (wI h4 171 1 0) = [] := mrow_0 (gi_same (by omega))
      refine x_callV 62 hK hmono rfl rfl [.ref 171, .long (J (sHs (gi h 175) (gi h 176) (gi h 171 6).toNat (gi h 171 7) (gi h 177) k.toNat (vw (RC h 178 0))))] [] rfl rfl (Nat.le_of_ble_eq_true rfl) (Nat.le_of_ble_eq_true rfl) rfl (sp_171 (h := h4) hG4) (CLd_le (Nat.le_of_ble_eq_true rfl) (ctX11_entersF hSP hGp194 (by omega) (by omega))) ?_
      rintro v195 h195 ⟨rfl, hG195, hF195, t195, s195⟩
      rw [z196] at t195
      rw [z196r] at s195
      replace t195 : gi h195 171 1 = 1 := t195
      change mrow h195 = [(sHs (gi h 175) (gi h 176) (gi h 171 6).toNat (gi h 171 7) (gi h 177) k.toNat (vw (RC h 178 0)))] at s195
      refine x_aload_n 63 hK rfl rfl l0 ?_
      refine x_aload_n 64 hK rfl rfl l0 ?_
      refine x_getE 67 hK rfl (Or.inl rfl) rfl (sp_171 (h := h195) hG195) (e := (sUs (gi h 175) (gi h 176) (gi h 171 6).toNat (gi h 171 7) (gi h 177) k.toNat (vw (RC h 178 0)))) ((FRM_gi hF195 (r := 54) rfl rfl).trans ((gi_k (by decide) _).trans (s32))) ?_
      refine x_i2l 68 hK rfl rfl (by omega) ?_
      have z198 : gi h195 171 1 = 1 := t195
      have z198r : mrow h195 = [(sHs (gi h 175) (gi h 176) (gi h 171 6).toNat (gi h 171 7) (gi h 177) k.toNat (vw (RC h 178 0)))] := s195
      refine x_callV 71 hK hmono rfl rfl [.ref 171, .long (J (sUs (gi h 175) (gi h 176) (gi h 171 6).toNat (gi h 171 7) (gi h 177) k.toNat (vw (RC h 178 0))))] [] rfl rfl (Nat.le_of_ble_eq_true rfl) (Nat.le_of_ble_eq_true rfl) rfl (sp_171 (h := h195) hG195) (CLd_le (Nat.le_of_ble_eq_true rfl) (ctX11_entersF hSP hG195 (by omega) (by omega))) ?_
      rintro v197 h197 ⟨rfl, hG197, hF197, t197, s197⟩
      rw [z198] at t197
      rw [z198r] at s197
      replace t197 : gi h197 171 1 = 2 := t197
      change mrow h197 = [(sHs (gi h 175) (gi h 176) (gi h 171 6).toNat (gi h 171 7) (gi h 177) k.toNat (vw (RC h 178 0))), (sUs (gi h 175) (gi h 176) (gi h 171 6).toNat (gi h 171 7) (gi h 177) k.toNat (vw (RC h 178 0)))] at s197
      refine x_aload_n 72 hK rfl rfl l0 ?_
      refine x_aload_n 73 hK rfl rfl l0 ?_
      refine x_getR 76 hK rfl rfl (sp_171 (h := h197) hG197) (rf_171_14 (h := h197) hG197) ?_
      refine x_iconst 77 hK rfl rfl ?_
      have g199 := gri (0) (8) hG4 (a := 178) (r := 61) (k := 1) rfl rfl
      refine x_ialoadE 78 hK rfl rfl (sp_178 (h := h197) hG197) (by omega) (by omega) (by omega) (e' := (gi h4 178 1)) ((FRM_gi hF197 (r := 61) rfl rfl).trans ((FRM_gi hF195 (r := 61) rfl rfl).trans (gi_a (by decide) _))) ?_
      have ua : gi h197 171 29 = gi h 171 29 := (FRM_gi hF197 (r := 54) rfl rfl).trans ((FRM_gi hF195 (r := 54) rfl rfl).trans ((gi_k (by decide) _).trans (u4)))
      have ra : mrow h197 = [(sHs (gi h 175) (gi h 176) (gi h 171 6).toNat (gi h 171 7) (gi h 177) k.toNat (vw (RC h 178 0))), (sUs (gi h 175) (gi h 176) (gi h 171 6).toNat (gi h 171 7) (gi h 177) k.toNat (vw (RC h 178 0)))] := s197
      have ta : gi h197 171 0 = 0 := (FRM_gi hF197 (r := 54) rfl rfl).trans ((FRM_gi hF195 (r := 54) rfl rfl).trans ((gi_k (by decide) _).trans (t4)))
      have fa : FRM gRL [(0, 54, 0, 0), (0, 54, 1, 1), (0, 54, 29, 29), (0, 54, 31, 32), (0, 61, 0, 56), (0, 69, 0, 911), (1, 55, 0, 39)] h h197 := ((FRM_w (hF4) (r := 54) rfl rfl).trans ((hF195).mono rfl)).trans ((hF197).mono rfl)
      refine x_callV 81 hK hmono rfl rfl [.ref 171, .int (I (gi h4 178 1))] [] rfl rfl (Nat.le_of_ble_eq_true rfl) (Nat.le_of_ble_eq_true rfl) rfl (sp_171 (h := h197) hG197) (CLd_le (Nat.le_of_ble_eq_true rfl) (ctX11_addsF hSP hG197 (by rw [ua]; exact hu))) ?_
      rintro v9 h9 ⟨rfl, hG9, hF9, a4, a5, a6⟩
      have y1 : RC h197 178 0 = RC h4 178 0 := (((RC_F hF197 (r := 61) rfl rfl 0)).trans (RC_F hF195 (r := 61) rfl rfl 0)).trans (RC_w (by decide))
      have y2 : ∀ v, RC h197 186 v = RC h4 186 v := fun v => (((RC_F hF197 (r := 69) rfl rfl v)).trans (RC_F hF195 (r := 69) rfl rfl v)).trans (RC_w (by decide))
      have y3 : ∀ v, RC h197 200 v = RC h4 200 v := fun v => (((RC_F hF197 (r := 83) rfl rfl v)).trans (RC_F hF195 (r := 83) rfl rfl v)).trans (RC_w (by decide))
      obtain rfl : k = n := by omega
      have x1 : RC h9 178 0 = RC h4 178 0 := (RC_F hF9 (r := 61) rfl rfl 0).trans y1
      have x2 : gi h4 178 1 = (stI (gi h 175) (gi h 176) (gi h 171 6).toNat (gi h 171 7) (gi h 177) k.toNat (vw (RC h 178 0))).2.1 := by rw [← sv]; show _ = RC h4 178 0 1; rw [RC_0 (by omega)]
      have q0b : RC h197 186 (57 * (gi h 171 29).toNat) = RC h 178 0 := (y2 _).trans q0
      have q1b : ∀ v, v ≠ (gi h 171 29).toNat → RC h197 186 (57 * v) = RC h 186 (57 * v) := fun v hv => (y2 _).trans (q1 v hv)
      have mr : mrow h9 = [sHs (gi h 175) (gi h 176) (gi h 171 6).toNat (gi h 171 7) (gi h 177) k.toNat (vw (RC h 178 0)), sUs (gi h 175) (gi h 176) (gi h 171 6).toNat (gi h 171 7) (gi h 177) k.toNat (vw (RC h 178 0))] := (mrow_F hF9 rfl rfl).trans ra
      exact x_iret hK rfl ⟨Or.inr ⟨n0, by rw [x2], by rw [x1]; exact sv, UL_push hu ua q0b q1b a4 a5 a6, mr⟩, hG9, fa.trans (hF9.mono rfl), (FRM_gi hF9 (r := 54) rfl rfl).trans ta, by rw [a4, ua]; omega, AW_push (aw.mono (by omega)) hu (by rw [x1]; exact wb4.mono (by omega)) ua q0b q1b (fun v _ => (RC_F hF9 (r := 83) rfl rfl _).trans ((y3 _).trans (q2 _))) a5 a6⟩
    · refine x_aload_n 35 hK rfl rfl l0 ?_
      refine x_aload_n 36 hK rfl rfl l0 ?_
      refine x_getR 39 hK rfl rfl (sp_171 (h := h4) hG4) (rf_171_14 (h := h4) hG4) ?_
      refine x_callV 42 hK hmono rfl rfl [.ref 171, .ref 178] [] rfl rfl (Nat.le_of_ble_eq_true rfl) (Nat.le_of_ble_eq_true rfl) rfl (sp_171 (h := h4) hG4) (CLd_le (Nat.le_of_ble_eq_true rfl) (ctX11_stepGoesNF hSP hG4 wb4 (by omega) (by omega) (by omega))) ?_
      rw [sv, show gi h4 175 = gi h 175 from funext fun j => FRM_gi hF4 (r := 58) rfl rfl, show gi h4 176 = gi h 176 from funext fun j => FRM_gi hF4 (r := 59) rfl rfl, show gi h4 171 6 = gi h 171 6 from FRM_gi hF4 (r := 54) rfl rfl, show gi h4 171 7 = gi h 171 7 from FRM_gi hF4 (r := 54) rfl rfl, show gi h4 177 = gi h 177 from funext fun j => FRM_gi hF4 (r := 60) rfl rfl]
      rintro v200 h200 ⟨rfl, hG200, hF200, sv200, x31200, x32200, wb200⟩
      refine x_iinc 45 hK rfl rfl l2 _ rfl ?_
      refine x_goto 29 hK rfl rfl ?_
      exact ih _ (by omega) (k + 1) _ _ rfl (n0) (by omega) ((FRM_gi hF200 (r := 54) rfl rfl).trans (t4)) ((FRM_gi hF200 (r := 54) rfl rfl).trans (u4)) ((by rw [tn_s k0.1]; exact sv200)) ((by rw [tn_s k0.1, x31200, s31]; rfl)) ((by rw [tn_s k0.1, x32200, s32]; rfl)) ((by rw [show b + (k + 1) = b + k + 1 by omega]; exact wb200)) (((RC_F hF200 (r := 69) rfl rfl _).trans q0)) ((fun v hv => (RC_F hF200 (r := 69) rfl rfl _).trans (q1 v hv))) ((fun v => (RC_F hF200 (r := 83) rfl rfl _).trans (q2 v))) (lk1_n l0 (by decide) (Or.inl rfl)) (lk1_n l1 (by decide) (Or.inl rfl)) lk1_s (hG200) ((hF4).trans ((hF200).mono rfl))
  refine x_aload_n 1 hK rfl rfl rfl ?_
  refine x_iconst 2 hK rfl rfl ?_
  refine x_putI 5 hK rfl rfl (sp_171 (h := h) hG) ?_
  refine x_iload_n 6 hK rfl rfl rfl ?_
  refine x_i2l 7 hK rfl rfl (by omega) ?_
  refine x_lconstE 8 0 hK rfl rfl rfl ?_
  refine x_ldc2_w 11 hK rfl rfl ?_
  have hGp201 : GD gE gRL sh (wI h 171 0 0) := GD_w1 (hG) (r := 54) rfl (by omega) rfl (by omega) (by omega)
  refine x_callS 14 hK hmono rfl (Or.inl rfl) rfl [.long (J n), .long (J 0), .long (J 60)] [] rfl rfl (Nat.le_of_ble_eq_true rfl) (Nat.le_of_ble_eq_true rfl) (CLd_le (Nat.le_of_ble_eq_true rfl) (ctX11_in (by omega) (by omega) (by omega))) ?_
  rintro v9 h9 ⟨e9, ⟨rfl, i1202, i2202⟩ | ⟨rfl, i1202⟩⟩ <;> rw [e9] <;> clear e9
  · refine x_if_ne 19 17 hK rfl rfl rfl (by omega) (fun _ => ?_) (fun c => by omega)
    refine x_aload_n 20 hK rfl rfl rfl ?_
    have hGp203 : GD gE gRL sh (wI h 171 0 0) := GD_w1 (hG) (r := 54) rfl (by omega) rfl (by omega) (by omega)
    have u1 : gi (wI h 171 0 0) 171 29 = gi h 171 29 := gi_k (by decide) _
    refine x_callV 23 hK hmono rfl rfl [.ref 171] [] rfl rfl (Nat.le_of_ble_eq_true rfl) (Nat.le_of_ble_eq_true rfl) rfl (sp_171 (h := h) hG) (CLd_le (Nat.le_of_ble_eq_true rfl) (ctX11_putsByF hSP hGp203 (by rw [u1]; exact hu))) ?_
    rintro v2 h2 ⟨rfl, hG2, hF2, p0, p1⟩
    rw [u1, show RC (wI h 171 0 0) 178 0 = RC h 178 0 from RC_w (by decide)] at p0
    rw [u1] at p1
    replace p1 : ∀ v, v ≠ (gi h 171 29).toNat → RC h2 186 (57 * v) = RC h 186 (57 * v) := fun v hv => (p1 v hv).trans (RC_w (by decide))
    have c178 : RC h2 178 0 = RC h 178 0 := (RC_F hF2 (r := 61) rfl rfl 0).trans (RC_w (by decide))
    have u2 : gi h2 171 29 = gi h 171 29 := (FRM_gi hF2 (r := 54) rfl rfl).trans (gi_k (by decide) _)
    have c200 : ∀ v, RC h2 200 v = RC h 200 v := fun v => (RC_F hF2 (r := 83) rfl rfl v).trans (RC_w (by decide))
    refine x_aload_n 24 hK rfl rfl rfl ?_
    refine x_callV 27 hK hmono rfl rfl [.ref 171] [] rfl rfl (Nat.le_of_ble_eq_true rfl) (Nat.le_of_ble_eq_true rfl) rfl (sp_171 (h := h2) hG2) (CLd_le (Nat.le_of_ble_eq_true rfl) (ctX11_startsCountingF hSP hG2)) ?_
    rintro v3 h3 ⟨rfl, hG3, hF3, z31, z32⟩
    refine x_iconst 28 hK rfl rfl ?_
    refine x_istore_n 29 hK rfl rfl [(2, .int (I 0)), (0, .ref 171), (1, .int (I n))] rfl ?_
    have c3 : RC h3 178 0 = RC h 178 0 := (RC_F hF3 (r := 61) rfl rfl 0).trans c178
    exact loop _ 0 _ _ rfl (by omega) (by omega) ((FRM_gi hF3 (r := 54) rfl rfl).trans ((FRM_gi hF2 (r := 54) rfl rfl).trans (gi_same (by omega)))) ((FRM_gi hF3 (r := 54) rfl rfl).trans ((FRM_gi hF2 (r := 54) rfl rfl).trans (gi_k (by decide) _))) ((by rw [c3]; rfl)) (z31) (z32) ((by rw [c3, show b + 0 = b by omega]; exact aw.1)) (((RC_F hF3 (r := 69) rfl rfl _).trans p0)) ((fun v hv => (RC_F hF3 (r := 69) rfl rfl _).trans (p1 v hv))) ((fun v => (RC_F hF3 (r := 83) rfl rfl _).trans (c200 v))) rfl rfl rfl (hG3) (((FRM_w ((FRM.rf : FRM gRL [(0, 54, 0, 0), (0, 54, 1, 1), (0, 54, 29, 29), (0, 54, 31, 32), (0, 61, 0, 56), (0, 69, 0, 911), (1, 55, 0, 39)] h h)) (r := 54) rfl rfl).trans ((hF2).mono rfl)).trans ((hF3).mono rfl))
  · refine x_if_ne 19 17 hK rfl rfl rfl (by omega) (fun c => by omega) (fun _ => ?_)
    refine x_iconst 18 hK rfl rfl ?_
    exact x_iret hK rfl ⟨Or.inl ⟨by omega, rfl, RC_w (by decide), UL_eq (gi_k (by decide) _) fun v _ => RC_w (by decide), mrow_k (by decide)⟩, GD_w1 (hG) (r := 54) rfl (by omega) rfl (by omega) (by omega), FRM_w ((FRM.rf : FRM gRL [(0, 54, 0, 0), (0, 54, 1, 1), (0, 54, 29, 29), (0, 54, 31, 32), (0, 61, 0, 56), (0, 69, 0, 911), (1, 55, 0, 39)] h h)) (r := 54) rfl rfl, gi_same (by omega), by rw [gi_k (by decide)]; exact hu, (aw.w (by decide)).mono (by omega)⟩
