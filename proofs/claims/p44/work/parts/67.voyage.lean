/-! VOYAGES TOLD (the reference) -/
def actJ : List Int32 := byJ.getD 5 []
def rdAct (f : Int → Int) (p : Int) : (Bool × Int) × Int × Int :=
  if fidx (f p) actJ 0 < 0 then ((false, p), 0, 0) else if fidx (f p) actJ 0 < 3 then ((true, p + 1), 0, fidx (f p) actJ 0 - 1)
  else if fidx (f p) actJ 0 = 3 then ((decide (0 ≤ (nmF f 1 (p + 1)).1), (nmF f 1 (p + 1)).2), 1, (nmF f 1 (p + 1)).1) else ((true, p + 1), 2, fidx (f p) actJ 0 - 3)
/-- the signs of a voyage -/
def rdAs (f : Int → Int) (stop : Int) : Nat → Int → (Bool × Int) × List (Int × Int)
  | 0, p => ((true, p), [])
  | n + 1, p => if stop ≤ p then ((true, p), []) else if (rdAct f p).1.1 = true then ((rdAs f stop n (rdAct f p).1.2).1, (rdAct f p).2 :: (rdAs f stop n (rdAct f p).1.2).2) else ((false, (rdAct f p).1.2), [])
/-- one sign of a voyage: can it be done, the state behind it, HITS -/
def doR (ms : Int) (q : Int × Int) (w : WS) : Bool := if q.1 = 0 then decide (gvR q.2 w = 0) else if q.1 = 1 then decide (psR ms w.2.2.2.2.2.1 q.2 1 1 = 0) else true
def doW (dl : Int → Int) (l : Int) (ml ln : Nat → Int) (nr : Nat) (ms : Int) (ea : Nat → Int) (q : Int × Int) (w : WS) : WS := if q.1 = 0 then gvW (dl w.1) (tvF l q.2) w else if q.1 = 1 then psW q.2 1 1 w else stI ml ln nr ms ea q.2.toNat w
def doH (ml ln : Nat → Int) (nr : Nat) (ms : Int) (ea : Nat → Int) (q : Int × Int) (w : WS) : Int := if q.1 = 0 then 0 else if q.1 = 1 then 0 else sHs ml ln nr ms ea q.2.toNat w
/-- how many are done, the state behind them, HITS -/
def vyI (dl : Int → Int) (l : Int) (ml ln : Nat → Int) (nr : Nat) (ms : Int) (ea : Nat → Int) : List (Int × Int) → WS → Nat × WS × Int
  | [], w => (0, w, 0)
  | q :: r, w => if doR ms q w = true then ((vyI dl l ml ln nr ms ea r (doW dl l ml ln nr ms ea q w)).1 + 1, (vyI dl l ml ln nr ms ea r (doW dl l ml ln nr ms ea q w)).2.1, doH ml ln nr ms ea q w + (vyI dl l ml ln nr ms ea r (doW dl l ml ln nr ms ea q w)).2.2) else (0, w, 0)
theorem vyI_l (dl : Int → Int) (l : Int) (ml ln : Nat → Int) (nr : Nat) (ms : Int) (ea : Nat → Int) : ∀ (L : List (Int × Int)) (w : WS), (vyI dl l ml ln nr ms ea L w).1 ≤ L.length
  | [], _ => Nat.le_refl _
  | q :: r, w => by
    have := vyI_l dl l ml ln nr ms ea r (doW dl l ml ln nr ms ea q w)
    unfold vyI
    split
    · show _ + 1 ≤ r.length + 1; omega
    · exact Nat.zero_le _
/-- what was read of a voyage -/
def acL (h : aH) (n : Nat) : List (Int × Int) := (List.range n).map fun j => (gi h 187 j, gi h 188 j)
theorem acL_s (h : aH) (n : Nat) : acL h (n + 1) = acL h n ++ [(gi h 187 n, gi h 188 n)] := by unfold acL; rw [List.range_succ, List.map_append]; rfl
theorem acL_l (h : aH) (n : Nat) : (acL h n).length = n := by unfold acL; rw [List.length_map, List.length_range]
theorem acL_congr {h h' : aH} {n : Nat} (e : ∀ j, j < n → gi h' 187 j = gi h 187 j ∧ gi h' 188 j = gi h 188 j) : acL h' n = acL h n := by
  unfold acL
  refine List.map_congr_left fun j hj => ?_
  have := e j (List.mem_range.mp hj)
  rw [this.1, this.2]
theorem acL_drop {h : aH} {n k : Nat} (hk : k < n) : (acL h n).drop k = (gi h 187 k, gi h 188 k) :: (acL h n).drop (k + 1) := by
  rw [List.drop_eq_getElem_cons (by rw [acL_l]; exact hk)]
  congr 1
  unfold acL
  simp
set_option maxRecDepth 4000 in
theorem ctX11_readsActF (hSP : MONO SPt) {sh : List (Nat × Nat)} {h : aH} (hG : GD gE gRL sh h) (hk : gi h 171 35 < 60) (ha : gi h 171 18 ≤ gi h 171 19) : CLd SPt 5 mX11_readsAct [.ref 171] h 0 0 (fun rv h' => rv = some (.int (I (b2i (rdAct (fm h) (gi h 171 18)).1.1))) ∧ gi h' 171 18 = (rdAct (fm h) (gi h 171 18)).1.2 ∧ ((rdAct (fm h) (gi h 171 18)).1.1 = true → gi h' 171 35 = gi h 171 35 + 1 ∧ gi h' 187 (gi h 171 35).toNat = (rdAct (fm h) (gi h 171 18)).2.1 ∧ gi h' 188 (gi h 171 35).toNat = (rdAct (fm h) (gi h 171 18)).2.2 ∧ (gi h 171 18) < (rdAct (fm h) (gi h 171 18)).1.2 ∧ ∀ j, j ≠ (gi h 171 35).toNat → gi h' 187 j = gi h 187 j ∧ gi h' 188 j = gi h 188 j) ∧ (gi h 171 18) ≤ gi h' 171 18 ∧ gi h' 171 18 ≤ gi h 171 19 ∧ gi h' 171 35 ≤ gi h 171 35 + 1 ∧ GD gE gRL sh h' ∧ FRM gRL [(0, 54, 18, 18), (0, 54, 35, 35), (0, 70, 0, 59), (0, 71, 0, 59)] h h') := by
  refine x_met _ rfl (Nat.le_of_ble_eq_true rfl) (fun K hK => ?_)
  have hmono := MONO_CLd hSP 4
  have g35 := gri 0 60 hG (a := 171) (r := 54) (k := 35) rfl rfl
  have g18 := gri 0 81 hG (a := 171) (r := 54) (k := 18) rfl rfl
  refine x_aload_n 1 hK rfl rfl rfl ?_
  have g213 := gri (0) (60) hG (a := 171) (r := 54) (k := 35) rfl rfl
  refine x_getE 4 hK rfl (Or.inl rfl) rfl (sp_171 (h := h) hG) (e := (gi h 171 35)) (rfl) ?_
  refine x_istore_n 5 hK rfl rfl [(1, .int (I (gi h 171 35))), (0, .ref 171)] rfl ?_
  refine x_aload_n 6 hK rfl rfl rfl ?_
  refine x_ldc_wS 9 hK rfl rfl ?_
  refine x_callV 12 hK hmono rfl rfl [.ref 171, .ref 1000005] [] rfl rfl (Nat.le_of_ble_eq_true rfl) (Nat.le_of_ble_eq_true rfl) rfl (sp_171 (h := h) hG) (CLd_le (Nat.le_of_ble_eq_true rfl) (ctX11_takesOf hSP hG (b := 5) (by decide))) ?_
  rintro v1 h1 ⟨⟨e, rfl, ee, l1, u1, a1, t1⟩, hG1, hF1⟩
  change e = fidx (fm h (gi h 171 18)) actJ 0 at ee
  refine x_istore_n 13 hK rfl rfl [(2, .int (I e)), (1, .int (I (gi h 171 35))), (0, .ref 171)] rfl ?_
  refine x_iload_n 14 hK rfl rfl rfl ?_
  refine x_if_ge 19 17 hK rfl rfl rfl (by omega) (fun c9 => ?_) (fun c9 => ?_)
  · refine x_aload_n 20 hK rfl rfl rfl ?_
    refine x_dup 21 hK rfl rfl rfl ?_
    refine x_getE 24 hK rfl (Or.inl rfl) rfl (sp_171 (h := h1) hG1) (e := (gi h 171 35)) (FRM_gi hF1 (r := 54) rfl rfl) ?_
    refine x_iconst 25 hK rfl rfl ?_
    refine x_iadd 26 hK rfl rfl ?_
    refine x_putI 29 hK rfl rfl (sp_171 (h := h1) hG1) ?_
    refine x_aload_n 30 hK rfl rfl rfl ?_
    refine x_getR 33 hK rfl rfl (sp_171 (h := h1) hG1) (rf_171_33 (h := h1) hG1) ?_
    refine x_iload_n 34 hK rfl rfl rfl ?_
    refine x_iload_n 35 hK rfl rfl rfl ?_
    refine x_iconst 36 hK rfl rfl ?_
    refine x_if_icmp_ge 43 39 hK rfl rfl rfl (by omega) (by omega) (fun c21 => ?_) (fun c21 => ?_)
    · refine x_iload_n 44 hK rfl rfl rfl ?_
      refine x_iconst 45 hK rfl rfl ?_
      refine x_if_icmp_ne 52 48 hK rfl rfl rfl (by omega) (by omega) (fun c24 => ?_) (fun c24 => ?_)
      · refine x_iconst 53 hK rfl rfl ?_
        refine x_iastore 54 hK rfl rfl (sp_187 (h := h1) hG1) (by omega) (by omega) (by omega) ?_
        refine x_aload_n 55 hK rfl rfl rfl ?_
        refine x_getR 58 hK rfl rfl (sp_171 (h := h1) hG1) (rf_171_34 (h := h1) hG1) ?_
        refine x_iload_n 59 hK rfl rfl rfl ?_
        refine x_iload_n 60 hK rfl rfl rfl ?_
        refine x_iconst 61 hK rfl rfl ?_
        refine x_if_icmp_ge 70 64 hK rfl rfl rfl (by omega) (by omega) (fun _ => ?_) (fun c => by omega)
        refine x_iload_n 71 hK rfl rfl rfl ?_
        refine x_iconst 72 hK rfl rfl ?_
        refine x_if_icmp_ne 83 75 hK rfl rfl rfl (by omega) (by omega) (fun _ => ?_) (fun c => by omega)
        refine x_iload_n 84 hK rfl rfl rfl ?_
        refine x_iconst 85 hK rfl rfl ?_
        refine x_isub 86 hK rfl rfl ?_
        refine x_iastore 87 hK rfl rfl (sp_188 (h := h1) hG1) (by omega) (by omega) (by omega) ?_
        refine x_iload_n 88 hK rfl rfl rfl ?_
        refine x_iconst 89 hK rfl rfl ?_
        refine x_if_icmp_ne 101 92 hK rfl rfl rfl (by omega) (by omega) (fun _ => ?_) (fun c => by omega)
        refine x_iconst 102 hK rfl rfl ?_
        refine x_goto 106 hK rfl rfl ?_
        have za : gi (wI (wI (wI h1 171 35 ((gi h 171 35) + 1)) 187 (gi h 171 35).toNat 2) 188 (gi h 171 35).toNat (e - 3)) 171 18 = (gi h1 171 18) := (gi_a (by decide) _).trans ((gi_a (by decide) _).trans (gi_k (by decide) _))
        have zb : gi (wI (wI (wI h1 171 35 ((gi h 171 35) + 1)) 187 (gi h 171 35).toNat 2) 188 (gi h 171 35).toNat (e - 3)) 171 35 = ((gi h 171 35) + 1) := (gi_a (by decide) _).trans ((gi_a (by decide) _).trans (gi_same (by omega)))
        have a2 : gi h1 171 18 = gi h 171 18 + 1 := by rw [a1, if_neg (by omega)]
        have t2 := t1 (by omega)
        have er : (rdAct (fm h) (gi h 171 18)) = ((true, (gi h 171 18) + 1), 2, e - 3) := by unfold rdAct; rw [← ee, if_neg (by omega), if_neg (by omega), if_neg (by omega)]
        have y1 : gi (wI (wI (wI h1 171 35 ((gi h 171 35) + 1)) 187 (gi h 171 35).toNat 2) 188 (gi h 171 35).toNat (e - 3)) 187 (gi h 171 35).toNat = 2 := (gi_a (by decide) _).trans (gi_same (by omega))
        have y2 : gi (wI (wI (wI h1 171 35 ((gi h 171 35) + 1)) 187 (gi h 171 35).toNat 2) 188 (gi h 171 35).toNat (e - 3)) 188 (gi h 171 35).toNat = e - 3 := gi_same (by omega)
        exact x_zret hK rfl (by omega) ⟨by rw [er]; rfl, by rw [er]; show _ = (gi h 171 18) + 1; omega, fun z => ⟨by omega, by rw [er]; exact y1, by rw [er]; exact y2, by rw [er]; show _ < (gi h 171 18) + 1; omega, fun j hj => ⟨(gi_a (by decide) _).trans ((gi_k (by omega) _).trans ((gi_a (by decide) _).trans (FRM_gi hF1 (r := 70) rfl rfl))), (gi_k (by omega) _).trans ((gi_a (by decide) _).trans ((gi_a (by decide) _).trans (FRM_gi hF1 (r := 71) rfl rfl)))⟩⟩, by omega, by omega, by omega, GD_wu (GD_wu (GD_w1 (hG1) (r := 54) rfl (by omega) rfl (by omega) (by omega)) (r := 70) rfl (by omega) rfl (by omega) (by omega)) (r := 71) rfl (by omega) rfl (by omega) (by omega), FRM_wn 0 59 (FRM_wn 0 59 (FRM_w ((hF1).mono rfl) (r := 54) rfl rfl) (r := 70) rfl rfl rfl (by omega) (by omega)) (r := 71) rfl rfl rfl (by omega) (by omega)⟩
      · refine x_iconst 49 hK rfl rfl ?_
        refine x_goto 53 hK rfl rfl ?_
        refine x_iastore 54 hK rfl rfl (sp_187 (h := h1) hG1) (by omega) (by omega) (by omega) ?_
        refine x_aload_n 55 hK rfl rfl rfl ?_
        refine x_getR 58 hK rfl rfl (sp_171 (h := h1) hG1) (rf_171_34 (h := h1) hG1) ?_
        refine x_iload_n 59 hK rfl rfl rfl ?_
        refine x_iload_n 60 hK rfl rfl rfl ?_
        refine x_iconst 61 hK rfl rfl ?_
        refine x_if_icmp_ge 70 64 hK rfl rfl rfl (by omega) (by omega) (fun _ => ?_) (fun c => by omega)
        refine x_iload_n 71 hK rfl rfl rfl ?_
        refine x_iconst 72 hK rfl rfl ?_
        refine x_if_icmp_ne 83 75 hK rfl rfl rfl (by omega) (by omega) (fun c => by omega) (fun _ => ?_)
        refine x_aload_n 76 hK rfl rfl rfl ?_
        refine x_iconst 77 hK rfl rfl ?_
        have g215 := gri (0) (81) hG1 (a := 171) (r := 54) (k := 18) rfl rfl
        have hGp216 : GD gE gRL sh (wI (wI h1 171 35 ((gi h 171 35) + 1)) 187 (gi h 171 35).toNat 1) := GD_wu (GD_w1 (hG1) (r := 54) rfl (by omega) rfl (by omega) (by omega)) (r := 70) rfl (by omega) rfl (by omega) (by omega)
        have at214 : gi (wI (wI h1 171 35 ((gi h 171 35) + 1)) 187 (gi h 171 35).toNat 1) 171 18 = (gi h1 171 18) := (gi_a (by decide) _).trans (gi_k (by decide) _)
        have fe214 : fm (wI (wI h1 171 35 ((gi h 171 35) + 1)) 187 (gi h 171 35).toNat 1) = (fm h) := (fm_wI (by decide) (Or.inl (by decide))).trans ((fm_wI (by decide) (Or.inr (by decide))).trans (fm_F hF1 rfl rfl))
        have to214 : gi (wI (wI h1 171 35 ((gi h 171 35) + 1)) 187 (gi h 171 35).toNat 1) 171 19 = gi h 171 19 := (gi_a (by decide) _).trans ((gi_k (by decide) _).trans (FRM_gi hF1 (r := 54) rfl rfl))
        refine x_callV 80 hK hmono rfl rfl [.ref 171, .int (I 1)] [.int (I (gi h 171 35)), .ref 188] rfl rfl (Nat.le_of_ble_eq_true rfl) (Nat.le_of_ble_eq_true rfl) rfl (sp_171 (h := h1) hG1) (CLd_le (Nat.le_of_ble_eq_true rfl) (ctX11_number hSP hGp216 (n := 1) (by omega))) ?_
        rw [fe214, at214, to214]
        rintro v214 h214 ⟨⟨e214, rfl, nu214, ne214, nf214, ng214⟩, hG214, hF214, np214, nq214, nr214⟩
        have nm214 : nmF (fm h) 1 (gi h1 171 18) = (e214, gi h214 171 18) := by rw [nu214, np214]; rfl
        clear nu214 np214
        generalize eq214 : gi h214 171 18 = p214 at *
        refine x_goto 86 hK rfl rfl ?_
        refine x_iastore 87 hK rfl rfl (sp_188 (h := h214) hG214) (by omega) (by omega) (by omega) ?_
        refine x_iload_n 88 hK rfl rfl rfl ?_
        refine x_iconst 89 hK rfl rfl ?_
        refine x_if_icmp_ne 101 92 hK rfl rfl rfl (by omega) (by omega) (fun c => by omega) (fun _ => ?_)
        refine x_aload_n 93 hK rfl rfl rfl ?_
        refine x_getR 96 hK rfl rfl (sp_171 (h := h214) hG214) (rf_171_34 (h := h214) hG214) ?_
        refine x_iload_n 97 hK rfl rfl rfl ?_
        refine x_ialoadE 98 hK rfl rfl (sp_188 (h := h214) hG214) (by omega) (by omega) (by omega) (e' := e214) (gi_same (by omega)) ?_
        refine x_if_lt 105 101 hK rfl rfl rfl (by omega) (fun c70 => ?_) (fun c70 => ?_)
        · refine x_iconst 106 hK rfl rfl ?_
          have za : gi (wI h214 188 (gi h 171 35).toNat e214) 171 18 = p214 := (gi_a (by decide) _).trans (eq214)
          have zb : gi (wI h214 188 (gi h 171 35).toNat e214) 171 35 = ((gi h 171 35) + 1) := (gi_a (by decide) _).trans ((FRM_gi hF214 (r := 54) rfl rfl).trans ((gi_a (by decide) _).trans (gi_same (by omega))))
          have a2 : gi h1 171 18 = gi h 171 18 + 1 := by rw [a1, if_neg (by omega)]
          have t2 := t1 (by omega)
          rw [a2] at nm214
          have er : (rdAct (fm h) (gi h 171 18)) = ((false, p214), 1, e214) := by unfold rdAct; rw [← ee, if_neg (by omega), if_neg (by omega), if_pos (by omega), nm214]; rw [show decide (0 ≤ (e214, p214).1) = false from decide_eq_false (show ¬ 0 ≤ e214 by omega)]
          have y1 : gi (wI h214 188 (gi h 171 35).toNat e214) 187 (gi h 171 35).toNat = 1 := (gi_a (by decide) _).trans ((FRM_gi hF214 (r := 70) rfl rfl).trans (gi_same (by omega)))
          have y2 : gi (wI h214 188 (gi h 171 35).toNat e214) 188 (gi h 171 35).toNat = e214 := gi_same (by omega)
          exact x_zret hK rfl (by omega) ⟨by rw [er]; rfl, by rw [er]; show _ = p214; omega, fun z => ⟨by omega, by rw [er]; exact y1, by rw [er]; exact y2, by rw [er]; show _ < p214; omega, fun j hj => ⟨(gi_a (by decide) _).trans ((FRM_gi hF214 (r := 70) rfl rfl).trans ((gi_k (by omega) _).trans ((gi_a (by decide) _).trans (FRM_gi hF1 (r := 70) rfl rfl)))), (gi_k (by omega) _).trans ((FRM_gi hF214 (r := 71) rfl rfl).trans ((gi_a (by decide) _).trans ((gi_a (by decide) _).trans (FRM_gi hF1 (r := 71) rfl rfl))))⟩⟩, by omega, by omega, by omega, GD_wu (hG214) (r := 71) rfl (by omega) rfl (by omega) (by omega), FRM_wn 0 59 ((FRM_wn 0 59 (FRM_w ((hF1).mono rfl) (r := 54) rfl rfl) (r := 70) rfl rfl rfl (by omega) (by omega)).trans ((hF214).mono rfl)) (r := 71) rfl rfl rfl (by omega) (by omega)⟩
        · refine x_iconst 102 hK rfl rfl ?_
          refine x_goto 106 hK rfl rfl ?_
          have za : gi (wI h214 188 (gi h 171 35).toNat e214) 171 18 = p214 := (gi_a (by decide) _).trans (eq214)
          have zb : gi (wI h214 188 (gi h 171 35).toNat e214) 171 35 = ((gi h 171 35) + 1) := (gi_a (by decide) _).trans ((FRM_gi hF214 (r := 54) rfl rfl).trans ((gi_a (by decide) _).trans (gi_same (by omega))))
          have a2 : gi h1 171 18 = gi h 171 18 + 1 := by rw [a1, if_neg (by omega)]
          have t2 := t1 (by omega)
          rw [a2] at nm214
          have er : (rdAct (fm h) (gi h 171 18)) = ((true, p214), 1, e214) := by unfold rdAct; rw [← ee, if_neg (by omega), if_neg (by omega), if_pos (by omega), nm214]; rw [show decide (0 ≤ (e214, p214).1) = true from decide_eq_true (show 0 ≤ e214 by omega)]
          have y1 : gi (wI h214 188 (gi h 171 35).toNat e214) 187 (gi h 171 35).toNat = 1 := (gi_a (by decide) _).trans ((FRM_gi hF214 (r := 70) rfl rfl).trans (gi_same (by omega)))
          have y2 : gi (wI h214 188 (gi h 171 35).toNat e214) 188 (gi h 171 35).toNat = e214 := gi_same (by omega)
          exact x_zret hK rfl (by omega) ⟨by rw [er]; rfl, by rw [er]; show _ = p214; omega, fun z => ⟨by omega, by rw [er]; exact y1, by rw [er]; exact y2, by rw [er]; show _ < p214; omega, fun j hj => ⟨(gi_a (by decide) _).trans ((FRM_gi hF214 (r := 70) rfl rfl).trans ((gi_k (by omega) _).trans ((gi_a (by decide) _).trans (FRM_gi hF1 (r := 70) rfl rfl)))), (gi_k (by omega) _).trans ((FRM_gi hF214 (r := 71) rfl rfl).trans ((gi_a (by decide) _).trans ((gi_a (by decide) _).trans (FRM_gi hF1 (r := 71) rfl rfl))))⟩⟩, by omega, by omega, by omega, GD_wu (hG214) (r := 71) rfl (by omega) rfl (by omega) (by omega), FRM_wn 0 59 ((FRM_wn 0 59 (FRM_w ((hF1).mono rfl) (r := 54) rfl rfl) (r := 70) rfl rfl rfl (by omega) (by omega)).trans ((hF214).mono rfl)) (r := 71) rfl rfl rfl (by omega) (by omega)⟩
    · refine x_iconst 40 hK rfl rfl ?_
      refine x_goto 53 hK rfl rfl ?_
      refine x_iastore 54 hK rfl rfl (sp_187 (h := h1) hG1) (by omega) (by omega) (by omega) ?_
      refine x_aload_n 55 hK rfl rfl rfl ?_
      refine x_getR 58 hK rfl rfl (sp_171 (h := h1) hG1) (rf_171_34 (h := h1) hG1) ?_
      refine x_iload_n 59 hK rfl rfl rfl ?_
      refine x_iload_n 60 hK rfl rfl rfl ?_
      refine x_iconst 61 hK rfl rfl ?_
      refine x_if_icmp_ge 70 64 hK rfl rfl rfl (by omega) (by omega) (fun c => by omega) (fun _ => ?_)
      refine x_iload_n 65 hK rfl rfl rfl ?_
      refine x_iconst 66 hK rfl rfl ?_
      refine x_isub 67 hK rfl rfl ?_
      refine x_goto 86 hK rfl rfl ?_
      refine x_iastore 87 hK rfl rfl (sp_188 (h := h1) hG1) (by omega) (by omega) (by omega) ?_
      refine x_iload_n 88 hK rfl rfl rfl ?_
      refine x_iconst 89 hK rfl rfl ?_
      refine x_if_icmp_ne 101 92 hK rfl rfl rfl (by omega) (by omega) (fun _ => ?_) (fun c => by omega)
      refine x_iconst 102 hK rfl rfl ?_
      refine x_goto 106 hK rfl rfl ?_
      have za : gi (wI (wI (wI h1 171 35 ((gi h 171 35) + 1)) 187 (gi h 171 35).toNat 0) 188 (gi h 171 35).toNat (e - 1)) 171 18 = (gi h1 171 18) := (gi_a (by decide) _).trans ((gi_a (by decide) _).trans (gi_k (by decide) _))
      have zb : gi (wI (wI (wI h1 171 35 ((gi h 171 35) + 1)) 187 (gi h 171 35).toNat 0) 188 (gi h 171 35).toNat (e - 1)) 171 35 = ((gi h 171 35) + 1) := (gi_a (by decide) _).trans ((gi_a (by decide) _).trans (gi_same (by omega)))
      have a2 : gi h1 171 18 = gi h 171 18 + 1 := by rw [a1, if_neg (by omega)]
      have t2 := t1 (by omega)
      have er : (rdAct (fm h) (gi h 171 18)) = ((true, (gi h 171 18) + 1), 0, e - 1) := by unfold rdAct; rw [← ee, if_neg (by omega), if_pos (by omega)]
      have y1 : gi (wI (wI (wI h1 171 35 ((gi h 171 35) + 1)) 187 (gi h 171 35).toNat 0) 188 (gi h 171 35).toNat (e - 1)) 187 (gi h 171 35).toNat = 0 := (gi_a (by decide) _).trans (gi_same (by omega))
      have y2 : gi (wI (wI (wI h1 171 35 ((gi h 171 35) + 1)) 187 (gi h 171 35).toNat 0) 188 (gi h 171 35).toNat (e - 1)) 188 (gi h 171 35).toNat = e - 1 := gi_same (by omega)
      exact x_zret hK rfl (by omega) ⟨by rw [er]; rfl, by rw [er]; show _ = (gi h 171 18) + 1; omega, fun z => ⟨by omega, by rw [er]; exact y1, by rw [er]; exact y2, by rw [er]; show _ < (gi h 171 18) + 1; omega, fun j hj => ⟨(gi_a (by decide) _).trans ((gi_k (by omega) _).trans ((gi_a (by decide) _).trans (FRM_gi hF1 (r := 70) rfl rfl))), (gi_k (by omega) _).trans ((gi_a (by decide) _).trans ((gi_a (by decide) _).trans (FRM_gi hF1 (r := 71) rfl rfl)))⟩⟩, by omega, by omega, by omega, GD_wu (GD_wu (GD_w1 (hG1) (r := 54) rfl (by omega) rfl (by omega) (by omega)) (r := 70) rfl (by omega) rfl (by omega) (by omega)) (r := 71) rfl (by omega) rfl (by omega) (by omega), FRM_wn 0 59 (FRM_wn 0 59 (FRM_w ((hF1).mono rfl) (r := 54) rfl rfl) (r := 70) rfl rfl rfl (by omega) (by omega)) (r := 71) rfl rfl rfl (by omega) (by omega)⟩
  · refine x_iconst 18 hK rfl rfl ?_
    have za : gi h1 171 18 = (gi h1 171 18) := rfl
    have zb : gi h1 171 35 = (gi h 171 35) := FRM_gi hF1 (r := 54) rfl rfl
    have er : (rdAct (fm h) (gi h 171 18)) = ((false, (gi h 171 18)), 0, 0) := by unfold rdAct; rw [← ee, if_pos (by omega)]
    have a2 : gi h1 171 18 = gi h 171 18 := by rw [a1, if_pos (by omega)]; omega
    exact x_zret hK rfl (by omega) ⟨by rw [er]; rfl, by rw [er]; exact a2, fun z => (by rw [er] at z; cases z), by omega, by omega, by omega, hG1, (hF1).mono rfl⟩
set_option maxRecDepth 4000 in
theorem ctX11_doesF {SP : CT} (hSP : MONO SP) {sh : List (Nat × Nat)} {h : aH} (hG : GD gE gRL sh h) {k b : Int} (hX : XI h) (hk : 0 ≤ k ∧ k < 60) (wb : WB b (RC h 178 0)) (hb : b ≤ 900000) (h31 : 0 ≤ gi h 171 31 ∧ gi h 171 31 ≤ 1000000) (h32 : 0 ≤ gi h 171 32 ∧ gi h 171 32 ≤ 1000000) : CLd SP 9 mX11_does [.ref 171, .int (I k)] h 0 0 (fun rv h' => (((doR (gi h 171 7) (gi h 187 k.toNat, gi h 188 k.toNat) (vw (RC h 178 0))) = true ∧ rv = some (.int (I 1)) ∧ vw (RC h' 178 0) = doW (dlA h) (gi h 171 5) (gi h 175) (gi h 176) (gi h 171 6).toNat (gi h 171 7) (gi h 177) (gi h 187 k.toNat, gi h 188 k.toNat) (vw (RC h 178 0)) ∧ gi h' 171 31 = gi h 171 31 + doH (gi h 175) (gi h 176) (gi h 171 6).toNat (gi h 171 7) (gi h 177) (gi h 187 k.toNat, gi h 188 k.toNat) (vw (RC h 178 0))) ∨ ((doR (gi h 171 7) (gi h 187 k.toNat, gi h 188 k.toNat) (vw (RC h 178 0))) = false ∧ rv = some (.int (I 0)) ∧ RC h' 178 0 = RC h 178 0 ∧ gi h' 171 31 = gi h 171 31)) ∧ GD gE gRL sh h' ∧ FRM gRL [(0, 54, 31, 32), (0, 61, 0, 56), (0, 67, 0, 79), (0, 68, 0, 3)] h h' ∧ WB (b + 9) (RC h' 178 0) ∧ (gi h 171 31 ≤ gi h' 171 31 ∧ gi h' 171 31 ≤ gi h 171 31 + 144) ∧ (gi h 171 32 ≤ gi h' 171 32 ∧ gi h' 171 32 ≤ gi h 171 32 + 72)) := by
  refine x_met _ rfl (Nat.le_of_ble_eq_true rfl) (fun K hK => ?_)
  have hmono := MONO_CLd hSP 8
  have go := grn (-1) 9 hG (a := 188) (r := 71) (k := k.toNat) rfl rfl (by omega)
  have gs := grn 0 2 hG (a := 187) (r := 70) (k := k.toNat) rfl rfl (by omega)
  have g6 := gri 0 16 hG (a := 171) (r := 54) (k := 6) rfl rfl
  have g7 := gri 0 8 hG (a := 171) (r := 54) (k := 7) rfl rfl
  have sb := sHs_b (ml := gi h 175) (ln := gi h 176) (ms := gi h 171 7) (ea := gi h 177) (show (gi h 171 6).toNat ≤ 16 by omega) (vw (RC h 178 0))
  have ub := sUs_b (ml := gi h 175) (ln := gi h 176) (nr := (gi h 171 6).toNat) (ea := gi h 177) g7.2 (vw (RC h 178 0))
  have dr : (doR (gi h 171 7) (gi h 187 k.toNat, gi h 188 k.toNat) (vw (RC h 178 0))) = if gi h 187 k.toNat = 0 then decide (gvR (gi h 188 k.toNat) (vw (RC h 178 0)) = 0) else if gi h 187 k.toNat = 1 then decide (psR (gi h 171 7) (vw (RC h 178 0)).2.2.2.2.2.1 (gi h 188 k.toNat) 1 1 = 0) else true := rfl
  have dw : doW (dlA h) (gi h 171 5) (gi h 175) (gi h 176) (gi h 171 6).toNat (gi h 171 7) (gi h 177) (gi h 187 k.toNat, gi h 188 k.toNat) (vw (RC h 178 0)) = if gi h 187 k.toNat = 0 then gvW (dlA h (vw (RC h 178 0)).1) (tvF (gi h 171 5) (gi h 188 k.toNat)) (vw (RC h 178 0)) else if gi h 187 k.toNat = 1 then psW (gi h 188 k.toNat) 1 1 (vw (RC h 178 0)) else stI (gi h 175) (gi h 176) (gi h 171 6).toNat (gi h 171 7) (gi h 177) (gi h 188 k.toNat).toNat (vw (RC h 178 0)) := rfl
  have dh : doH (gi h 175) (gi h 176) (gi h 171 6).toNat (gi h 171 7) (gi h 177) (gi h 187 k.toNat, gi h 188 k.toNat) (vw (RC h 178 0)) = if gi h 187 k.toNat = 0 then 0 else if gi h 187 k.toNat = 1 then 0 else sHs (gi h 175) (gi h 176) (gi h 171 6).toNat (gi h 171 7) (gi h 177) (gi h 188 k.toNat).toNat (vw (RC h 178 0)) := rfl
  have w1 : (vw (RC h 178 0)).1 = gi h 178 0 := by show RC h 178 0 0 = _; exact RC_0 (by omega)
  rw [w1] at dw
  have loop : ∀ (mz : Nat) (i : Int) (h4 : aH) (ls : List (Nat × Value)), ((9 - i).toNat = mz) → (gi h 187 k.toNat = 2) → (0 ≤ i ∧ (i ≤ gi h 188 k.toNat ∨ i = 0)) → (vw (RC h4 178 0) = stI (gi h 175) (gi h 176) (gi h 171 6).toNat (gi h 171 7) (gi h 177) i.toNat (vw (RC h 178 0))) → (gi h4 171 31 = gi h 171 31 + sHs (gi h 175) (gi h 176) (gi h 171 6).toNat (gi h 171 7) (gi h 177) i.toNat (vw (RC h 178 0))) → (gi h4 171 32 = gi h 171 32 + sUs (gi h 175) (gi h 176) (gi h 171 6).toNat (gi h 171 7) (gi h 177) i.toNat (vw (RC h 178 0))) → (WB (b + i) (RC h4 178 0)) → lk ls 0 = some (.ref 171) → lk ls 1 = some (.int (I k)) → lk ls 2 = some (.int (I i)) → GD gE gRL sh h4 → FRM gRL [(0, 54, 31, 32), (0, 61, 0, 56)] h h4 → K 65 ls [] h4 0 0 := by
    intro mz
    induction mz using Nat.strongRecOn with
    | ind mz ih =>
    intro i h4 ls hm s2 i0 sv s31 s32 wb4 l0 l1 l2 hG4 hF4
    have sbk := sb i.toNat
    have ubk := ub i.toNat
    refine x_iload_n 66 hK rfl rfl l2 ?_
    refine x_aload_n 67 hK rfl rfl l0 ?_
    refine x_getR 70 hK rfl rfl (sp_171 (h := h4) hG4) (rf_171_34 (h := h4) hG4) ?_
    refine x_iload_n 71 hK rfl rfl l1 ?_
    have g217 := grn (-1) (9) hG (a := 188) (r := 71) (k := k.toNat) rfl rfl (by omega)
    refine x_ialoadE 72 hK rfl rfl (sp_188 (h := h4) hG4) (by omega) (by omega) (by omega) (e' := (gi h 188 k.toNat)) (FRM_gi hF4 (r := 71) rfl rfl) ?_
    refine x_if_icmp_ge 89 75 hK rfl rfl rfl (by omega) (by omega) (fun c6 => ?_) (fun c6 => ?_)
    · refine x_iconst 90 hK rfl rfl ?_
      have ie : (gi h 188 k.toNat).toNat = i.toNat := by omega
      rw [ie] at dw dh
      rw [if_neg (by omega), if_neg (by omega)] at dr dw dh
      exact x_zret hK rfl (by omega) ⟨Or.inl ⟨dr, rfl, by rw [dw]; exact sv, by rw [dh]; exact s31⟩, hG4, (hF4).mono rfl, wb4.mono (by omega), by omega, by omega⟩
    · refine x_aload_n 76 hK rfl rfl l0 ?_
      refine x_aload_n 77 hK rfl rfl l0 ?_
      refine x_getR 80 hK rfl rfl (sp_171 (h := h4) hG4) (rf_171_14 (h := h4) hG4) ?_
      refine x_callV 83 hK hmono rfl rfl [.ref 171, .ref 178] [] rfl rfl (Nat.le_of_ble_eq_true rfl) (Nat.le_of_ble_eq_true rfl) rfl (sp_171 (h := h4) hG4) (CLd_le (Nat.le_of_ble_eq_true rfl) (ctX11_stepGoesNF hSP hG4 wb4 (by omega) (by omega) (by omega))) ?_
      rw [sv, show gi h4 175 = gi h 175 from funext fun j => FRM_gi hF4 (r := 58) rfl rfl, show gi h4 176 = gi h 176 from funext fun j => FRM_gi hF4 (r := 59) rfl rfl, show gi h4 171 6 = gi h 171 6 from FRM_gi hF4 (r := 54) rfl rfl, show gi h4 171 7 = gi h 171 7 from FRM_gi hF4 (r := 54) rfl rfl, show gi h4 177 = gi h 177 from funext fun j => FRM_gi hF4 (r := 60) rfl rfl]
      rintro v218 h218 ⟨rfl, hG218, hF218, sv218, x31218, x32218, wb218⟩
      refine x_iinc 86 hK rfl rfl l2 _ rfl ?_
      refine x_goto 65 hK rfl rfl ?_
      exact ih _ (by omega) (i + 1) _ _ rfl (s2) (by omega) ((by rw [tn_s i0.1]; exact sv218)) ((by rw [tn_s i0.1, x31218, s31]; show _ = _ + (_ + _); omega)) ((by rw [tn_s i0.1, x32218, s32]; show _ = _ + (_ + _); omega)) ((by rw [show b + (i + 1) = b + i + 1 by omega]; exact wb218)) (lk1_n l0 (by decide) (Or.inl rfl)) (lk1_n l1 (by decide) (Or.inl rfl)) lk1_s (hG218) ((hF4).trans ((hF218).mono rfl))
  refine x_aload_n 1 hK rfl rfl rfl ?_
  refine x_getR 4 hK rfl rfl (sp_171 (h := h) hG) (rf_171_33 (h := h) hG) ?_
  refine x_iload_n 5 hK rfl rfl rfl ?_
  have g219 := grn (0) (2) hG (a := 187) (r := 70) (k := k.toNat) rfl rfl (by omega)
  refine x_ialoadE 6 hK rfl rfl (sp_187 (h := h) hG) (by omega) (by omega) (by omega) (e' := (gi h 187 k.toNat)) (rfl) ?_
  refine x_if_ne 32 9 hK rfl rfl rfl (by omega) (fun c5 => ?_) (fun c5 => ?_)
  · refine x_aload_n 33 hK rfl rfl rfl ?_
    refine x_getR 36 hK rfl rfl (sp_171 (h := h) hG) (rf_171_33 (h := h) hG) ?_
    refine x_iload_n 37 hK rfl rfl rfl ?_
    refine x_ialoadE 38 hK rfl rfl (sp_187 (h := h) hG) (by omega) (by omega) (by omega) (e' := (gi h 187 k.toNat)) (rfl) ?_
    refine x_iconst 39 hK rfl rfl ?_
    refine x_if_icmp_ne 63 42 hK rfl rfl rfl (by omega) (by omega) (fun c11 => ?_) (fun c11 => ?_)
    · refine x_iconst 64 hK rfl rfl ?_
      refine x_istore_n 65 hK rfl rfl [(2, .int (I 0)), (0, .ref 171), (1, .int (I k))] rfl ?_
      exact loop _ 0 _ _ rfl (by omega) (by omega) (rfl) ((Int.add_zero _).symm) ((Int.add_zero _).symm) ((by rw [Int.add_zero]; exact wb)) rfl rfl rfl (hG) ((FRM.rf : FRM gRL [(0, 54, 31, 32), (0, 61, 0, 56)] h h))
    · refine x_aload_n 43 hK rfl rfl rfl ?_
      refine x_aload_n 44 hK rfl rfl rfl ?_
      refine x_getR 47 hK rfl rfl (sp_171 (h := h) hG) (rf_171_34 (h := h) hG) ?_
      refine x_iload_n 48 hK rfl rfl rfl ?_
      have g220 := grn (-1) (9) hG (a := 188) (r := 71) (k := k.toNat) rfl rfl (by omega)
      refine x_ialoadE 49 hK rfl rfl (sp_188 (h := h) hG) (by omega) (by omega) (by omega) (e' := (gi h 188 k.toNat)) (rfl) ?_
      refine x_iconst 50 hK rfl rfl ?_
      refine x_iconst 51 hK rfl rfl ?_
      refine x_callV 54 hK hmono rfl rfl [.ref 171, .int (I (gi h 188 k.toNat)), .int (I 1), .int (I 1)] [] rfl rfl (Nat.le_of_ble_eq_true rfl) (Nat.le_of_ble_eq_true rfl) rfl (sp_171 (h := h) hG) (CLd_le (Nat.le_of_ble_eq_true rfl) (ctX11_passesF hSP hG (m := gi h 188 k.toNat) (n := 1) (a := 1) (by omega) (by omega) (by omega) wb)) ?_
      rintro v2 h2 ⟨⟨e2, rfl, s2⟩ | ⟨e2, rfl, s2⟩, hG2, hF2, wb2⟩
      · have an : psR (gi h 171 7) (vw (RC h 178 0)).2.2.2.2.2.1 (gi h 188 k.toNat) 1 1 < 0 := by unfold psR at e2 ⊢; revert e2; (repeat' split) <;> intro e2 <;> omega
        have ar : r32 (psR (gi h 171 7) (vw (RC h 178 0)).2.2.2.2.2.1 (gi h 188 k.toNat) 1 1) := by unfold psR at an ⊢; (repeat' split) <;> omega
        refine x_if_lt 61 57 hK rfl rfl rfl (by omega) (fun c23 => ?_) (fun c23 => ?_)
        · refine x_iconst 62 hK rfl rfl ?_
          have y1 : gi h2 171 31 = gi h 171 31 := FRM_gi hF2 (r := 54) rfl rfl
          have y2 : gi h2 171 32 = gi h 171 32 := FRM_gi hF2 (r := 54) rfl rfl
          rw [if_neg (by omega), if_pos (by omega)] at dr dw dh
          exact x_zret hK rfl (by omega) ⟨Or.inr ⟨dr.trans (decide_eq_false e2), rfl, s2, y1⟩, hG2, (hF2).mono rfl, wb2.mono (by omega), by omega, by omega⟩
        · refine x_iconst 58 hK rfl rfl ?_
          refine x_goto 62 hK rfl rfl ?_
          exfalso
          omega
      · have an := ps_ge wb e2
        refine x_if_lt 61 57 hK rfl rfl rfl (by omega) (fun c29 => ?_) (fun c29 => ?_)
        · refine x_iconst 62 hK rfl rfl ?_
          exfalso
          omega
        · refine x_iconst 58 hK rfl rfl ?_
          refine x_goto 62 hK rfl rfl ?_
          have y1 : gi h2 171 31 = gi h 171 31 := FRM_gi hF2 (r := 54) rfl rfl
          have y2 : gi h2 171 32 = gi h 171 32 := FRM_gi hF2 (r := 54) rfl rfl
          rw [if_neg (by omega), if_pos (by omega)] at dr dw dh
          exact x_zret hK rfl (by omega) ⟨Or.inl ⟨dr.trans (decide_eq_true e2), rfl, by rw [dw]; exact s2, by rw [dh, y1]; omega⟩, hG2, (hF2).mono rfl, wb2.mono (by omega), by omega, by omega⟩
  · refine x_aload_n 10 hK rfl rfl rfl ?_
    refine x_aload_n 11 hK rfl rfl rfl ?_
    refine x_getR 14 hK rfl rfl (sp_171 (h := h) hG) (rf_171_14 (h := h) hG) ?_
    refine x_aload_n 15 hK rfl rfl rfl ?_
    refine x_getR 18 hK rfl rfl (sp_171 (h := h) hG) (rf_171_34 (h := h) hG) ?_
    refine x_iload_n 19 hK rfl rfl rfl ?_
    have g221 := grn (-1) (9) hG (a := 188) (r := 71) (k := k.toNat) rfl rfl (by omega)
    refine x_ialoadE 20 hK rfl rfl (sp_188 (h := h) hG) (by omega) (by omega) (by omega) (e' := (gi h 188 k.toNat)) (rfl) ?_
    refine x_callV 23 hK hmono rfl rfl [.ref 171, .ref 178, .int (I (gi h 188 k.toNat))] [] rfl rfl (Nat.le_of_ble_eq_true rfl) (Nat.le_of_ble_eq_true rfl) rfl (sp_171 (h := h) hG) (CLd_le (Nat.le_of_ble_eq_true rfl) (ctX11_givesNF hSP hG hX (v := gi h 188 k.toNat) (by omega) wb (by omega))) ?_
    rintro v2 h2 ⟨⟨e2, rfl, s2⟩ | ⟨e2, rfl, s2⟩, hG2, hF2, wb2⟩
    · have an : gvR (gi h 188 k.toNat) (vw (RC h 178 0)) < 0 := by unfold gvR at e2 ⊢; revert e2; (repeat' split) <;> intro e2 <;> omega
      have ar : r32 (gvR (gi h 188 k.toNat) (vw (RC h 178 0))) := by unfold gvR at an ⊢; (repeat' split) <;> omega
      refine x_if_lt 30 26 hK rfl rfl rfl (by omega) (fun c43 => ?_) (fun c43 => ?_)
      · refine x_iconst 31 hK rfl rfl ?_
        have y1 : gi h2 171 31 = gi h 171 31 := FRM_gi hF2 (r := 54) rfl rfl
        have y2 : gi h2 171 32 = gi h 171 32 := FRM_gi hF2 (r := 54) rfl rfl
        rw [if_pos (by omega)] at dr dw dh
        exact x_zret hK rfl (by omega) ⟨Or.inr ⟨dr.trans (decide_eq_false e2), rfl, s2, y1⟩, hG2, (hF2).mono rfl, wb2.mono (by omega), by omega, by omega⟩
      · refine x_iconst 27 hK rfl rfl ?_
        refine x_goto 31 hK rfl rfl ?_
        exfalso
        omega
    · have an := dlA_b h (gi h 178 0)
      refine x_if_lt 30 26 hK rfl rfl rfl (by omega) (fun c49 => ?_) (fun c49 => ?_)
      · refine x_iconst 31 hK rfl rfl ?_
        exfalso
        omega
      · refine x_iconst 27 hK rfl rfl ?_
        refine x_goto 31 hK rfl rfl ?_
        have y1 : gi h2 171 31 = gi h 171 31 := FRM_gi hF2 (r := 54) rfl rfl
        have y2 : gi h2 171 32 = gi h 171 32 := FRM_gi hF2 (r := 54) rfl rfl
        rw [if_pos (by omega)] at dr dw dh
        exact x_zret hK rfl (by omega) ⟨Or.inl ⟨dr.trans (decide_eq_true e2), rfl, by rw [dw]; exact s2, by rw [dh, y1]; omega⟩, hG2, (hF2).mono rfl, wb2.mono (by omega), by omega, by omega⟩
theorem aw_at {b : Int} {h h1 : aH} (w : AW b h) (f0 : RC h1 186 (57 * (gi h 171 29).toNat) = RC h 178 0) (f1 : ∀ v, v ≠ (gi h 171 29).toNat → RC h1 186 (57 * v) = RC h 186 (57 * v)) (v : Nat) (hv : v < 16) : WB b (RC h1 186 (57 * v)) := by
  by_cases c : v = (gi h 171 29).toNat
  · rw [c, f0]; exact w.1
  · rw [f1 v c]; exact w.2.1 v hv
set_option maxRecDepth 4000 in
theorem ctX11_voyageF (hSP : MONO SPt) {sh : List (Nat × Nat)} {h : aH} (hG : GD gE gRL sh h) {b : Int} (hX : XI h) (hu : 0 ≤ gi h 171 29 ∧ gi h 171 29 ≤ 15) (aw : AW b h) (hb : b ≤ 400000) : CLd SPt 10 mX11_voyage [.ref 171] h 0 0 (fun rv h' => (((fltF (gi h 171 17) 60 (rdAs (txF (gi h 180) (min (gi h 171 17) 60)) (min (gi h 171 17) 60) 60 0).1) < 0 ∧ rv = some (.int (I (fltF (gi h 171 17) 60 (rdAs (txF (gi h 180) (min (gi h 171 17) 60)) (min (gi h 171 17) 60) 60 0).1))) ∧ RC h' 178 0 = RC h 178 0 ∧ UL h' = UL h ∧ mrow h' = mrow h) ∨ ((fltF (gi h 171 17) 60 (rdAs (txF (gi h 180) (min (gi h 171 17) 60)) (min (gi h 171 17) 60) 60 0).1) = 0 ∧ rv = some (.int (I (((vyI (dlA h) (gi h 171 5) (gi h 175) (gi h 176) (gi h 171 6).toNat (gi h 171 7) (gi h 177) (rdAs (txF (gi h 180) (min (gi h 171 17) 60)) (min (gi h 171 17) 60) 60 0).2 (vw (RC h 178 0))).1 : Nat) : Int))) ∧ vw (RC h' 178 0) = (vyI (dlA h) (gi h 171 5) (gi h 175) (gi h 176) (gi h 171 6).toNat (gi h 171 7) (gi h 177) (rdAs (txF (gi h 180) (min (gi h 171 17) 60)) (min (gi h 171 17) 60) 60 0).2 (vw (RC h 178 0))).2.1 ∧ UL h' = (if 0 < (vyI (dlA h) (gi h 171 5) (gi h 175) (gi h 176) (gi h 171 6).toNat (gi h 171 7) (gi h 177) (rdAs (txF (gi h 180) (min (gi h 171 17) 60)) (min (gi h 171 17) 60) 60 0).2 (vw (RC h 178 0))).1 then pushU (UL h) (RC h 178 0) else UL h) ∧ mrow h' = [if (vyI (dlA h) (gi h 171 5) (gi h 175) (gi h 176) (gi h 171 6).toNat (gi h 171 7) (gi h 177) (rdAs (txF (gi h 180) (min (gi h 171 17) 60)) (min (gi h 171 17) 60) 60 0).2 (vw (RC h 178 0))).1 < (rdAs (txF (gi h 180) (min (gi h 171 17) 60)) (min (gi h 171 17) 60) 60 0).2.length then 1 else 0, (vyI (dlA h) (gi h 171 5) (gi h 175) (gi h 176) (gi h 171 6).toNat (gi h 171 7) (gi h 177) (rdAs (txF (gi h 180) (min (gi h 171 17) 60)) (min (gi h 171 17) 60) 60 0).2 (vw (RC h 178 0))).2.2])) ∧ GD gE gRL sh h' ∧ FRM gRL [(0, 54, 0, 0), (0, 54, 1, 1), (0, 54, 17, 20), (0, 54, 29, 29), (0, 54, 31, 32), (0, 54, 35, 35), (0, 61, 0, 56), (0, 67, 0, 79), (0, 68, 0, 3), (0, 69, 0, 911), (0, 70, 0, 59), (0, 71, 0, 59), (1, 55, 0, 39)] h h' ∧ gi h' 171 0 = 0 ∧ gi h' 171 17 = 0 ∧ (0 ≤ gi h' 171 29 ∧ gi h' 171 29 ≤ 15) ∧ AW (b + 540) h') := by
  refine x_met _ rfl (Nat.le_of_ble_eq_true rfl) (fun K hK => ?_)
  have hmono := MONO_CLd hSP 9
  have gsz := gri 0 80 hG (a := 171) (r := 54) (k := 17) rfl rfl
  obtain ⟨T, hT⟩ : ∃ T, (txF (gi h 180) (min (gi h 171 17) 60)) = T := ⟨_, rfl⟩
  obtain ⟨RR, hRR⟩ : ∃ RR, rdAs T (min (gi h 171 17) 60) 60 0 = RR := ⟨_, rfl⟩
  obtain ⟨V, hV⟩ : ∃ V, vyI (dlA h) (gi h 171 5) (gi h 175) (gi h 176) (gi h 171 6).toNat (gi h 171 7) (gi h 177) RR.2 (vw (RC h 178 0)) = V := ⟨_, rfl⟩
  rw [hT, hRR, hV] at hK
  have vl := vyI_l (dlA h) (gi h 171 5) (gi h 175) (gi h 176) (gi h 171 6).toNat (gi h 171 7) (gi h 177) RR.2 (vw (RC h 178 0))
  rw [hV] at vl
  have end1 : ∀ (k : Int) (h5 : aH) (ls : List (Nat × Value)), (0 ≤ k ∧ k ≤ (RR.2.length : Nat)) → ((V.1 : Int) = k) → (vw (RC h5 178 0) = V.2.1) → (gi h5 171 31 = V.2.2 ∧ 0 ≤ V.2.2 ∧ V.2.2 ≤ 100000) → (WB (b + 540) (RC h5 178 0)) → (gi h5 171 0 = 0) → (gi h5 171 17 = 0) → (gi h5 171 29 = gi h 171 29) → (RC h5 186 (57 * (gi h 171 29).toNat) = RC h 178 0) → (∀ v, v ≠ (gi h 171 29).toNat → RC h5 186 (57 * v) = RC h 186 (57 * v)) → (∀ v, RC h5 200 v = RC h 200 v) → (gi h5 171 35 = (RR.2.length : Nat)) → (fltF (gi h 171 17) 60 RR.1 = 0) → (RR.2.length ≤ 60) → lk ls 0 = some (.ref 171) → lk ls 4 = some (.int (I k)) → GD gE gRL sh h5 → FRM gRL [(0, 54, 0, 0), (0, 54, 1, 1), (0, 54, 17, 20), (0, 54, 29, 29), (0, 54, 31, 32), (0, 54, 35, 35), (0, 61, 0, 56), (0, 67, 0, 79), (0, 68, 0, 3), (0, 69, 0, 911), (0, 70, 0, 59), (0, 71, 0, 59), (1, 55, 0, 39)] h h5 → K 92 ls [] h5 0 0 := by
    intro k h5 ls k0 v1 v2 v3 wb5 t5 z5 u5 q0 q1 q2 n5 f0 l60 l0 l4 hG5 hF5
    refine x_aload_n 93 hK rfl rfl l0 ?_
    refine x_iconst 94 hK rfl rfl ?_
    refine x_putI 97 hK rfl rfl (sp_171 (h := h5) hG5) ?_
    refine x_aload_n 98 hK rfl rfl l0 ?_
    refine x_iload 100 hK rfl rfl l4 ?_
    refine x_aload_n 101 hK rfl rfl l0 ?_
    refine x_getE 104 hK rfl (Or.inl rfl) rfl (sp_171 (h := h5) hG5) (e := ((RR.2.length : Nat) : Int)) ((gi_k (by decide) _).trans (n5)) ?_
    refine x_if_icmp_ge 111 107 hK rfl rfl rfl (by omega) (by omega) (fun c8 => ?_) (fun c8 => ?_)
    · refine x_iconst 112 hK rfl rfl ?_
      have hGp222 : GD gE gRL sh (wI h5 171 1 0) := GD_w1 (hG5) (r := 54) rfl (by omega) rfl (by omega) (by omega)
      refine x_callS 115 hK hmono rfl (Or.inl rfl) rfl [.int (I 0)] [.ref 171] rfl rfl (Nat.le_of_ble_eq_true rfl) (Nat.le_of_ble_eq_true rfl) (CLd_le (Nat.le_of_ble_eq_true rfl) (ctX11_flag (by omega))) ?_
      rintro v9 h9 ⟨e9, rfl⟩
      rw [e9]
      clear e9
      refine x_i2l 116 hK rfl rfl (by omega) ?_
      have hGp224 : GD gE gRL sh (wI h5 171 1 0) := GD_w1 (hG5) (r := 54) rfl (by omega) rfl (by omega) (by omega)
      have z226 : gi (wI h5 171 1 0) 171 1 = 0 := gi_same (by omega)
      have z226r : mrow (wI h5 171 1 0) = [] := mrow_0 (gi_same (by omega))
      refine x_callV 119 hK hmono rfl rfl [.ref 171, .long (J 0)] [] rfl rfl (Nat.le_of_ble_eq_true rfl) (Nat.le_of_ble_eq_true rfl) rfl (sp_171 (h := h5) hG5) (CLd_le (Nat.le_of_ble_eq_true rfl) (ctX11_entersF hSP hGp224 (by omega) (by omega))) ?_
      rintro v225 h225 ⟨rfl, hG225, hF225, t225, s225⟩
      rw [z226] at t225
      rw [z226r] at s225
      replace t225 : gi h225 171 1 = 1 := t225
      change mrow h225 = [0] at s225
      refine x_aload_n 120 hK rfl rfl l0 ?_
      refine x_aload_n 121 hK rfl rfl l0 ?_
      refine x_getE 124 hK rfl (Or.inl rfl) rfl (sp_171 (h := h225) hG225) (e := V.2.2) ((FRM_gi hF225 (r := 54) rfl rfl).trans ((gi_k (by decide) _).trans (v3.1))) ?_
      refine x_i2l 125 hK rfl rfl (by omega) ?_
      have z228 : gi h225 171 1 = 1 := t225
      have z228r : mrow h225 = [0] := s225
      refine x_callV 128 hK hmono rfl rfl [.ref 171, .long (J V.2.2)] [] rfl rfl (Nat.le_of_ble_eq_true rfl) (Nat.le_of_ble_eq_true rfl) rfl (sp_171 (h := h225) hG225) (CLd_le (Nat.le_of_ble_eq_true rfl) (ctX11_entersF hSP hG225 (by omega) (by omega))) ?_
      rintro v227 h227 ⟨rfl, hG227, hF227, t227, s227⟩
      rw [z228] at t227
      rw [z228r] at s227
      replace t227 : gi h227 171 1 = 2 := t227
      change mrow h227 = [0, V.2.2] at s227
      refine x_iload 130 hK rfl rfl l4 ?_
      refine x_if_le 142 133 hK rfl rfl rfl (by omega) (fun c19 => ?_) (fun c19 => ?_)
      · refine x_iconst 143 hK rfl rfl ?_
        have y1 : RC h227 178 0 = RC h5 178 0 := (((RC_F hF227 (r := 61) rfl rfl 0)).trans (RC_F hF225 (r := 61) rfl rfl 0)).trans (RC_w (by decide))
        have y2 : ∀ v, RC h227 186 v = RC h5 186 v := fun v => (((RC_F hF227 (r := 69) rfl rfl v)).trans (RC_F hF225 (r := 69) rfl rfl v)).trans (RC_w (by decide))
        have y3 : ∀ v, RC h227 200 v = RC h5 200 v := fun v => (((RC_F hF227 (r := 83) rfl rfl v)).trans (RC_F hF225 (r := 83) rfl rfl v)).trans (RC_w (by decide))
        have q0b : RC h227 186 (57 * (gi h 171 29).toNat) = RC h 178 0 := (y2 _).trans q0
        have q1b : ∀ v, v ≠ (gi h 171 29).toNat → RC h227 186 (57 * v) = RC h 186 (57 * v) := fun v hv => (y2 _).trans (q1 v hv)
        have fl : (if V.1 < RR.2.length then (1 : Int) else 0) = 0 := by first | rw [if_pos (by omega)] | rw [if_neg (by omega)]
        have ua : gi h227 171 29 = gi h 171 29 := (FRM_gi hF227 (r := 54) rfl rfl).trans ((FRM_gi hF225 (r := 54) rfl rfl).trans ((gi_k (by decide) _).trans (u5)))
        have mr : mrow h227 = [0, V.2.2] := s227
        exact x_iret hK rfl ⟨Or.inr ⟨f0, by rw [v1, show k = 0 by omega], by rw [y1]; exact v2, by rw [if_neg (by omega)]; exact UL_eq ua fun v hv => q1b v (by omega), by rw [fl]; exact mr⟩, hG227, ((FRM_w (hF5) (r := 54) rfl rfl).trans ((hF225).mono rfl)).trans ((hF227).mono rfl), (FRM_gi hF227 (r := 54) rfl rfl).trans ((FRM_gi hF225 (r := 54) rfl rfl).trans ((gi_k (by decide) _).trans (t5))), (FRM_gi hF227 (r := 54) rfl rfl).trans ((FRM_gi hF225 (r := 54) rfl rfl).trans ((gi_k (by decide) _).trans (z5))), by rw [ua]; exact hu, ⟨by rw [y1]; exact wb5, fun v hv => aw_at (aw.mono (by omega)) q0b q1b v hv, fun v hv => by rw [y3, q2]; exact (aw.2.2 v hv).mono (by omega)⟩⟩
      · refine x_aload_n 134 hK rfl rfl l0 ?_
        refine x_iload 136 hK rfl rfl l4 ?_
        have ua : gi h227 171 29 = gi h 171 29 := (FRM_gi hF227 (r := 54) rfl rfl).trans ((FRM_gi hF225 (r := 54) rfl rfl).trans ((gi_k (by decide) _).trans (u5)))
        have ra : mrow h227 = [0, V.2.2] := s227
        have ta : gi h227 171 0 = 0 := (FRM_gi hF227 (r := 54) rfl rfl).trans ((FRM_gi hF225 (r := 54) rfl rfl).trans ((gi_k (by decide) _).trans (t5)))
        have zz : gi h227 171 17 = 0 := (FRM_gi hF227 (r := 54) rfl rfl).trans ((FRM_gi hF225 (r := 54) rfl rfl).trans ((gi_k (by decide) _).trans (z5)))
        have fa : FRM gRL [(0, 54, 0, 0), (0, 54, 1, 1), (0, 54, 17, 20), (0, 54, 29, 29), (0, 54, 31, 32), (0, 54, 35, 35), (0, 61, 0, 56), (0, 67, 0, 79), (0, 68, 0, 3), (0, 69, 0, 911), (0, 70, 0, 59), (0, 71, 0, 59), (1, 55, 0, 39)] h h227 := ((FRM_w (hF5) (r := 54) rfl rfl).trans ((hF225).mono rfl)).trans ((hF227).mono rfl)
        refine x_callV 139 hK hmono rfl rfl [.ref 171, .int (I k)] [] rfl rfl (Nat.le_of_ble_eq_true rfl) (Nat.le_of_ble_eq_true rfl) rfl (sp_171 (h := h227) hG227) (CLd_le (Nat.le_of_ble_eq_true rfl) (ctX11_addsF hSP hG227 (by rw [ua]; exact hu))) ?_
        rintro v9 h9 ⟨rfl, hG9, hF9, a4, a5, a6⟩
        refine x_goto 143 hK rfl rfl ?_
        have y1 : RC h227 178 0 = RC h5 178 0 := (((RC_F hF227 (r := 61) rfl rfl 0)).trans (RC_F hF225 (r := 61) rfl rfl 0)).trans (RC_w (by decide))
        have y2 : ∀ v, RC h227 186 v = RC h5 186 v := fun v => (((RC_F hF227 (r := 69) rfl rfl v)).trans (RC_F hF225 (r := 69) rfl rfl v)).trans (RC_w (by decide))
        have y3 : ∀ v, RC h227 200 v = RC h5 200 v := fun v => (((RC_F hF227 (r := 83) rfl rfl v)).trans (RC_F hF225 (r := 83) rfl rfl v)).trans (RC_w (by decide))
        have q0b : RC h227 186 (57 * (gi h 171 29).toNat) = RC h 178 0 := (y2 _).trans q0
        have q1b : ∀ v, v ≠ (gi h 171 29).toNat → RC h227 186 (57 * v) = RC h 186 (57 * v) := fun v hv => (y2 _).trans (q1 v hv)
        have fl : (if V.1 < RR.2.length then (1 : Int) else 0) = 0 := by first | rw [if_pos (by omega)] | rw [if_neg (by omega)]
        have x1 : RC h9 178 0 = RC h5 178 0 := (RC_F hF9 (r := 61) rfl rfl 0).trans y1
        have mr : mrow h9 = _ := (mrow_F hF9 rfl rfl).trans ra
        exact x_iret hK rfl ⟨Or.inr ⟨f0, by rw [v1], by rw [x1]; exact v2, by rw [if_pos (by omega)]; exact UL_push hu ua q0b q1b a4 a5 a6, by rw [fl]; exact mr⟩, hG9, fa.trans (hF9.mono rfl), (FRM_gi hF9 (r := 54) rfl rfl).trans ta, (FRM_gi hF9 (r := 54) rfl rfl).trans zz, by rw [a4, ua]; omega, AW_push (aw.mono (by omega)) hu (by rw [x1]; exact wb5) ua q0b q1b (fun v _ => (RC_F hF9 (r := 83) rfl rfl _).trans ((y3 _).trans (q2 _))) a5 a6⟩
    · refine x_iconst 108 hK rfl rfl ?_
      refine x_goto 112 hK rfl rfl ?_
      have hGp229 : GD gE gRL sh (wI h5 171 1 0) := GD_w1 (hG5) (r := 54) rfl (by omega) rfl (by omega) (by omega)
      refine x_callS 115 hK hmono rfl (Or.inl rfl) rfl [.int (I 1)] [.ref 171] rfl rfl (Nat.le_of_ble_eq_true rfl) (Nat.le_of_ble_eq_true rfl) (CLd_le (Nat.le_of_ble_eq_true rfl) (ctX11_flag (by omega))) ?_
      rintro v9 h9 ⟨e9, rfl⟩
      rw [e9]
      clear e9
      refine x_i2l 116 hK rfl rfl (by omega) ?_
      have hGp231 : GD gE gRL sh (wI h5 171 1 0) := GD_w1 (hG5) (r := 54) rfl (by omega) rfl (by omega) (by omega)
      have z233 : gi (wI h5 171 1 0) 171 1 = 0 := gi_same (by omega)
      have z233r : mrow (wI h5 171 1 0) = [] := mrow_0 (gi_same (by omega))
      refine x_callV 119 hK hmono rfl rfl [.ref 171, .long (J 1)] [] rfl rfl (Nat.le_of_ble_eq_true rfl) (Nat.le_of_ble_eq_true rfl) rfl (sp_171 (h := h5) hG5) (CLd_le (Nat.le_of_ble_eq_true rfl) (ctX11_entersF hSP hGp231 (by omega) (by omega))) ?_
      rintro v232 h232 ⟨rfl, hG232, hF232, t232, s232⟩
      rw [z233] at t232
      rw [z233r] at s232
      replace t232 : gi h232 171 1 = 1 := t232
      change mrow h232 = [1] at s232
      refine x_aload_n 120 hK rfl rfl l0 ?_
      refine x_aload_n 121 hK rfl rfl l0 ?_
      refine x_getE 124 hK rfl (Or.inl rfl) rfl (sp_171 (h := h232) hG232) (e := V.2.2) ((FRM_gi hF232 (r := 54) rfl rfl).trans ((gi_k (by decide) _).trans (v3.1))) ?_
      refine x_i2l 125 hK rfl rfl (by omega) ?_
      have z235 : gi h232 171 1 = 1 := t232
      have z235r : mrow h232 = [1] := s232
      refine x_callV 128 hK hmono rfl rfl [.ref 171, .long (J V.2.2)] [] rfl rfl (Nat.le_of_ble_eq_true rfl) (Nat.le_of_ble_eq_true rfl) rfl (sp_171 (h := h232) hG232) (CLd_le (Nat.le_of_ble_eq_true rfl) (ctX11_entersF hSP hG232 (by omega) (by omega))) ?_
      rintro v234 h234 ⟨rfl, hG234, hF234, t234, s234⟩
      rw [z235] at t234
      rw [z235r] at s234
      replace t234 : gi h234 171 1 = 2 := t234
      change mrow h234 = [1, V.2.2] at s234
      refine x_iload 130 hK rfl rfl l4 ?_
      refine x_if_le 142 133 hK rfl rfl rfl (by omega) (fun c38 => ?_) (fun c38 => ?_)
      · refine x_iconst 143 hK rfl rfl ?_
        have y1 : RC h234 178 0 = RC h5 178 0 := (((RC_F hF234 (r := 61) rfl rfl 0)).trans (RC_F hF232 (r := 61) rfl rfl 0)).trans (RC_w (by decide))
        have y2 : ∀ v, RC h234 186 v = RC h5 186 v := fun v => (((RC_F hF234 (r := 69) rfl rfl v)).trans (RC_F hF232 (r := 69) rfl rfl v)).trans (RC_w (by decide))
        have y3 : ∀ v, RC h234 200 v = RC h5 200 v := fun v => (((RC_F hF234 (r := 83) rfl rfl v)).trans (RC_F hF232 (r := 83) rfl rfl v)).trans (RC_w (by decide))
        have q0b : RC h234 186 (57 * (gi h 171 29).toNat) = RC h 178 0 := (y2 _).trans q0
        have q1b : ∀ v, v ≠ (gi h 171 29).toNat → RC h234 186 (57 * v) = RC h 186 (57 * v) := fun v hv => (y2 _).trans (q1 v hv)
        have fl : (if V.1 < RR.2.length then (1 : Int) else 0) = 1 := by first | rw [if_pos (by omega)] | rw [if_neg (by omega)]
        have ua : gi h234 171 29 = gi h 171 29 := (FRM_gi hF234 (r := 54) rfl rfl).trans ((FRM_gi hF232 (r := 54) rfl rfl).trans ((gi_k (by decide) _).trans (u5)))
        have mr : mrow h234 = [1, V.2.2] := s234
        exact x_iret hK rfl ⟨Or.inr ⟨f0, by rw [v1, show k = 0 by omega], by rw [y1]; exact v2, by rw [if_neg (by omega)]; exact UL_eq ua fun v hv => q1b v (by omega), by rw [fl]; exact mr⟩, hG234, ((FRM_w (hF5) (r := 54) rfl rfl).trans ((hF232).mono rfl)).trans ((hF234).mono rfl), (FRM_gi hF234 (r := 54) rfl rfl).trans ((FRM_gi hF232 (r := 54) rfl rfl).trans ((gi_k (by decide) _).trans (t5))), (FRM_gi hF234 (r := 54) rfl rfl).trans ((FRM_gi hF232 (r := 54) rfl rfl).trans ((gi_k (by decide) _).trans (z5))), by rw [ua]; exact hu, ⟨by rw [y1]; exact wb5, fun v hv => aw_at (aw.mono (by omega)) q0b q1b v hv, fun v hv => by rw [y3, q2]; exact (aw.2.2 v hv).mono (by omega)⟩⟩
      · refine x_aload_n 134 hK rfl rfl l0 ?_
        refine x_iload 136 hK rfl rfl l4 ?_
        have ua : gi h234 171 29 = gi h 171 29 := (FRM_gi hF234 (r := 54) rfl rfl).trans ((FRM_gi hF232 (r := 54) rfl rfl).trans ((gi_k (by decide) _).trans (u5)))
        have ra : mrow h234 = [1, V.2.2] := s234
        have ta : gi h234 171 0 = 0 := (FRM_gi hF234 (r := 54) rfl rfl).trans ((FRM_gi hF232 (r := 54) rfl rfl).trans ((gi_k (by decide) _).trans (t5)))
        have zz : gi h234 171 17 = 0 := (FRM_gi hF234 (r := 54) rfl rfl).trans ((FRM_gi hF232 (r := 54) rfl rfl).trans ((gi_k (by decide) _).trans (z5)))
        have fa : FRM gRL [(0, 54, 0, 0), (0, 54, 1, 1), (0, 54, 17, 20), (0, 54, 29, 29), (0, 54, 31, 32), (0, 54, 35, 35), (0, 61, 0, 56), (0, 67, 0, 79), (0, 68, 0, 3), (0, 69, 0, 911), (0, 70, 0, 59), (0, 71, 0, 59), (1, 55, 0, 39)] h h234 := ((FRM_w (hF5) (r := 54) rfl rfl).trans ((hF232).mono rfl)).trans ((hF234).mono rfl)
        refine x_callV 139 hK hmono rfl rfl [.ref 171, .int (I k)] [] rfl rfl (Nat.le_of_ble_eq_true rfl) (Nat.le_of_ble_eq_true rfl) rfl (sp_171 (h := h234) hG234) (CLd_le (Nat.le_of_ble_eq_true rfl) (ctX11_addsF hSP hG234 (by rw [ua]; exact hu))) ?_
        rintro v9 h9 ⟨rfl, hG9, hF9, a4, a5, a6⟩
        refine x_goto 143 hK rfl rfl ?_
        have y1 : RC h234 178 0 = RC h5 178 0 := (((RC_F hF234 (r := 61) rfl rfl 0)).trans (RC_F hF232 (r := 61) rfl rfl 0)).trans (RC_w (by decide))
        have y2 : ∀ v, RC h234 186 v = RC h5 186 v := fun v => (((RC_F hF234 (r := 69) rfl rfl v)).trans (RC_F hF232 (r := 69) rfl rfl v)).trans (RC_w (by decide))
        have y3 : ∀ v, RC h234 200 v = RC h5 200 v := fun v => (((RC_F hF234 (r := 83) rfl rfl v)).trans (RC_F hF232 (r := 83) rfl rfl v)).trans (RC_w (by decide))
        have q0b : RC h234 186 (57 * (gi h 171 29).toNat) = RC h 178 0 := (y2 _).trans q0
        have q1b : ∀ v, v ≠ (gi h 171 29).toNat → RC h234 186 (57 * v) = RC h 186 (57 * v) := fun v hv => (y2 _).trans (q1 v hv)
        have fl : (if V.1 < RR.2.length then (1 : Int) else 0) = 1 := by first | rw [if_pos (by omega)] | rw [if_neg (by omega)]
        have x1 : RC h9 178 0 = RC h5 178 0 := (RC_F hF9 (r := 61) rfl rfl 0).trans y1
        have mr : mrow h9 = _ := (mrow_F hF9 rfl rfl).trans ra
        exact x_iret hK rfl ⟨Or.inr ⟨f0, by rw [v1], by rw [x1]; exact v2, by rw [if_pos (by omega)]; exact UL_push hu ua q0b q1b a4 a5 a6, by rw [fl]; exact mr⟩, hG9, fa.trans (hF9.mono rfl), (FRM_gi hF9 (r := 54) rfl rfl).trans ta, (FRM_gi hF9 (r := 54) rfl rfl).trans zz, by rw [a4, ua]; omega, AW_push (aw.mono (by omega)) hu (by rw [x1]; exact wb5) ua q0b q1b (fun v _ => (RC_F hF9 (r := 83) rfl rfl _).trans ((y3 _).trans (q2 _))) a5 a6⟩
  have loop2 : ∀ (mz : Nat) (k : Int) (h4 : aH) (ls : List (Nat × Value)), (((RR.2.length : Int) - k).toNat = mz) → (0 ≤ k ∧ k ≤ (RR.2.length : Nat)) → ((V.1 : Int) = k + ((vyI (dlA h) (gi h 171 5) (gi h 175) (gi h 176) (gi h 171 6).toNat (gi h 171 7) (gi h 177) (RR.2.drop k.toNat) (vw (RC h4 178 0))).1 : Nat)) → (V.2.1 = (vyI (dlA h) (gi h 171 5) (gi h 175) (gi h 176) (gi h 171 6).toNat (gi h 171 7) (gi h 177) (RR.2.drop k.toNat) (vw (RC h4 178 0))).2.1) → (V.2.2 = gi h4 171 31 + (vyI (dlA h) (gi h 171 5) (gi h 175) (gi h 176) (gi h 171 6).toNat (gi h 171 7) (gi h 177) (RR.2.drop k.toNat) (vw (RC h4 178 0))).2.2) → (WB (b + 9 * k) (RC h4 178 0)) → (0 ≤ gi h4 171 31 ∧ gi h4 171 31 ≤ 144 * k) → (0 ≤ gi h4 171 32 ∧ gi h4 171 32 ≤ 72 * k) → (acL h4 RR.2.length = RR.2) → (gi h4 171 0 = 0) → (gi h4 171 17 = 0) → (gi h4 171 29 = gi h 171 29) → (RC h4 186 (57 * (gi h 171 29).toNat) = RC h 178 0) → (∀ v, v ≠ (gi h 171 29).toNat → RC h4 186 (57 * v) = RC h 186 (57 * v)) → (∀ v, RC h4 200 v = RC h 200 v) → (gi h4 171 35 = (RR.2.length : Nat)) → (fltF (gi h 171 17) 60 RR.1 = 0) → (RR.2.length ≤ 60) → lk ls 0 = some (.ref 171) → lk ls 4 = some (.int (I k)) → GD gE gRL sh h4 → FRM gRL [(0, 54, 0, 0), (0, 54, 1, 1), (0, 54, 17, 20), (0, 54, 29, 29), (0, 54, 31, 32), (0, 54, 35, 35), (0, 61, 0, 56), (0, 67, 0, 79), (0, 68, 0, 3), (0, 69, 0, 911), (0, 70, 0, 59), (0, 71, 0, 59), (1, 55, 0, 39)] h h4 → K 68 ls [] h4 0 0 := by
    intro mz
    induction mz using Nat.strongRecOn with
    | ind mz ih =>
    intro k h4 ls hm k0 v1 v2 v3 wb4 s31 s32 al t4 z4 u4 q0 q1 q2 n4 f0 l60 l0 l4 hG4 hF4
    have hX4 : XI h4 := xOk_ok rfl h h4 hF4 hX
    refine x_iload 70 hK rfl rfl l4 ?_
    refine x_aload_n 71 hK rfl rfl l0 ?_
    refine x_getE 74 hK rfl (Or.inl rfl) rfl (sp_171 (h := h4) hG4) (e := ((RR.2.length : Nat) : Int)) (n4) ?_
    refine x_if_icmp_ge 92 77 hK rfl rfl rfl (by omega) (by omega) (fun c4 => ?_) (fun c4 => ?_)
    · have kn : k.toNat = RR.2.length := by omega
      rw [kn, List.drop_length] at v1 v2 v3
      unfold vyI at v1 v2 v3
      have v1b : (V.1 : Int) = k + ((0 : Nat) : Int) := v1
      have v3b : V.2.2 = gi h4 171 31 + 0 := v3
      exact end1 k _ _ (by omega) ((by omega)) (v2.symm) (⟨by omega, by omega, by omega⟩) ((wb4.mono (by omega))) (t4) (z4) (u4) (q0) (q1) (q2) (n4) (f0) (l60) l0 l4 (hG4) (hF4)
    · refine x_aload_n 78 hK rfl rfl l0 ?_
      refine x_iload 80 hK rfl rfl l4 ?_
      have ad : RR.2.drop k.toNat = (gi h4 187 k.toNat, gi h4 188 k.toNat) :: RR.2.drop (k.toNat + 1) := by
        have z := acL_drop (h := h4) (n := RR.2.length) (k := k.toNat) (by omega)
        rw [al] at z
        exact z
      rw [ad] at v1 v2 v3
      unfold vyI at v1 v2 v3
      refine x_callV 83 hK hmono rfl rfl [.ref 171, .int (I k)] [] rfl rfl (Nat.le_of_ble_eq_true rfl) (Nat.le_of_ble_eq_true rfl) rfl (sp_171 (h := h4) hG4) (CLd_le (Nat.le_of_ble_eq_true rfl) (ctX11_doesF hSP hG4 hX4 (k := k) (by omega) wb4 (by omega) (by omega) (by omega))) ?_
      rw [show gi h4 175 = gi h 175 from funext fun j => FRM_gi hF4 (r := 58) rfl rfl, show gi h4 176 = gi h 176 from funext fun j => FRM_gi hF4 (r := 59) rfl rfl, show gi h4 171 6 = gi h 171 6 from FRM_gi hF4 (r := 54) rfl rfl, show gi h4 171 7 = gi h 171 7 from FRM_gi hF4 (r := 54) rfl rfl, show gi h4 177 = gi h 177 from funext fun j => FRM_gi hF4 (r := 60) rfl rfl, show gi h4 171 5 = gi h 171 5 from FRM_gi hF4 (r := 54) rfl rfl, show dlA h4 = dlA h from funext fun s => dlA_F hF4 rfl s]
      rintro v6 h6 ⟨⟨d1, rfl, d2, d3⟩ | ⟨d1, rfl, d2, d3⟩, hG6, hF6, wb6, y31, y32⟩
      · rw [if_pos d1] at v1 v2 v3
        rw [← d2] at v1 v2 v3
        refine x_if_eq 92 86 hK rfl rfl rfl (by omega) (fun c => by omega) (fun _ => ?_)
        refine x_iinc 89 hK rfl rfl l4 _ rfl ?_
        refine x_goto 68 hK rfl rfl ?_
        exact ih _ (by omega) (k + 1) _ _ rfl (by omega) ((by rw [tn_s k0.1]; omega)) ((by rw [tn_s k0.1]; exact v2)) ((v3.trans (by rw [tn_s k0.1]; show gi h4 171 31 + (_ + _) = gi h6 171 31 + _; rw [d3]; omega))) ((by rw [show b + 9 * (k + 1) = b + 9 * k + 9 by omega]; exact wb6)) (by omega) (by omega) (((acL_congr fun j _ => ⟨FRM_gi hF6 (r := 70) rfl rfl, FRM_gi hF6 (r := 71) rfl rfl⟩).trans al)) ((FRM_gi hF6 (r := 54) rfl rfl).trans (t4)) ((FRM_gi hF6 (r := 54) rfl rfl).trans (z4)) ((FRM_gi hF6 (r := 54) rfl rfl).trans (u4)) (((RC_F hF6 (r := 69) rfl rfl _).trans q0)) ((fun v hv => (RC_F hF6 (r := 69) rfl rfl _).trans (q1 v hv))) ((fun v => (RC_F hF6 (r := 83) rfl rfl v).trans (q2 v))) ((FRM_gi hF6 (r := 54) rfl rfl).trans (n4)) (f0) (l60) (lk1_n l0 (by decide) (Or.inl rfl)) lk1_s (hG6) ((hF4).trans ((hF6).mono rfl))
      · rw [if_neg (by rw [d1]; exact Bool.noConfusion)] at v1 v2 v3
        refine x_if_eq 92 86 hK rfl rfl rfl (by omega) (fun _ => ?_) (fun c => by omega)
        have v1b : (V.1 : Int) = k + ((0 : Nat) : Int) := v1
        have v3b : V.2.2 = gi h4 171 31 + 0 := v3
        exact end1 k _ _ (by omega) ((by omega)) ((by rw [d2]; exact v2.symm)) (⟨by omega, by omega, by omega⟩) ((by rw [d2]; exact wb4.mono (by omega))) ((FRM_gi hF6 (r := 54) rfl rfl).trans (t4)) ((FRM_gi hF6 (r := 54) rfl rfl).trans (z4)) ((FRM_gi hF6 (r := 54) rfl rfl).trans (u4)) (((RC_F hF6 (r := 69) rfl rfl _).trans q0)) ((fun v hv => (RC_F hF6 (r := 69) rfl rfl _).trans (q1 v hv))) ((fun v => (RC_F hF6 (r := 83) rfl rfl v).trans (q2 v))) ((FRM_gi hF6 (r := 54) rfl rfl).trans (n4)) (f0) (l60) l0 l4 (hG6) ((hF4).trans ((hF6).mono rfl))
  have end0 : ∀ (is : Int) (h7 : aH) (ls : List (Nat × Value)), (is = b2i RR.1.1) → (gi h7 171 18 = RR.1.2) → (0 ≤ RR.1.2 ∧ RR.1.2 ≤ 80) → (gi h7 171 19 = min (gi h 171 17) 60) → (gi h7 171 0 = 0) → (gi h7 171 17 = 0) → (RR.1.1 = true → acL h7 (gi h7 171 35).toNat = RR.2) → lk ls 0 = some (.ref 171) → lk ls 1 = some (.int (I (gi h 171 17))) → lk ls 2 = some (.int (I is)) → GD gE gRL sh h7 → FRM gRL [(0, 54, 0, 0), (0, 54, 17, 20), (0, 54, 35, 35), (0, 70, 0, 59), (0, 71, 0, 59)] h h7 → K 42 ls [] h7 0 0 := by
    intro is h7 ls ib a7 a0 to7 t7 z7 n7 l0 l1 l2 hG7 hF7
    have g35 := gri 0 60 hG7 (a := 171) (r := 54) (k := 35) rfl rfl
    have is01 := b2i_r RR.1.1
    have fb := fltF_le (n := gi h 171 17) (most := 60) (r := RR.1) (by omega) a0.1
    refine x_aload_n 43 hK rfl rfl l0 ?_
    refine x_iload_n 44 hK rfl rfl l1 ?_
    refine x_bipush 46 hK rfl rfl rfl ?_
    refine x_iload_n 47 hK rfl rfl l2 ?_
    refine x_callV 50 hK hmono rfl rfl [.ref 171, .int (I (gi h 171 17)), .int (I 60), .int (I is)] [] rfl rfl (Nat.le_of_ble_eq_true rfl) (Nat.le_of_ble_eq_true rfl) rfl (sp_171 (h := h7) hG7) (CLd_le (Nat.le_of_ble_eq_true rfl) (ctX11_faultOf hSP hG7 (by omega) (by omega) (by omega))) ?_
    rintro v9 h9 ⟨e9, rfl⟩
    rw [e9, a7, to7]
    clear e9
    rw [show (if 60 < gi h 171 17 ∧ ((is = 1 ∧ RR.1.2 = min (gi h 171 17) 60) ∨ 60 ≤ RR.1.2) then -1 - 60 else if is = 1 ∧ RR.1.2 = min (gi h 171 17) 60 then 0 else -1 - RR.1.2) = fltF (gi h 171 17) 60 RR.1 from by rw [ib]; exact flt_i]
    have fr : r32 (fltF (gi h 171 17) 60 RR.1) := by unfold fltF at fb ⊢; (repeat' split) <;> omega
    refine x_istore_n 51 hK rfl rfl _ rfl ?_
    refine x_iload_n 52 hK rfl rfl lk1_s ?_
    refine x_if_ge 57 55 hK rfl rfl rfl (by omega) (fun c8 => ?_) (fun c8 => ?_)
    · refine x_aload_n 58 hK rfl rfl (lk1_n l0 (by decide) (Or.inl rfl)) ?_
      have f0 : fltF (gi h 171 17) 60 RR.1 = 0 := by omega
      have al7 := n7 (fltF_0 (n := gi h 171 17) (most := 60) (by omega) a0.1 f0).1
      have ln : RR.2.length = (gi h7 171 35).toNat := by rw [← al7, acL_l]
      have u7 : gi h7 171 29 = gi h 171 29 := FRM_gi hF7 (r := 54) rfl rfl
      refine x_callV 61 hK hmono rfl rfl [.ref 171] [] rfl rfl (Nat.le_of_ble_eq_true rfl) (Nat.le_of_ble_eq_true rfl) rfl (sp_171 (h := h7) hG7) (CLd_le (Nat.le_of_ble_eq_true rfl) (ctX11_putsByF hSP hG7 (by rw [u7]; exact hu))) ?_
      rintro v2 h2 ⟨rfl, hG2, hF2, p0, p1⟩
      rw [u7, show RC h7 178 0 = RC h 178 0 from RC_F hF7 (r := 61) rfl rfl 0] at p0
      rw [u7] at p1
      refine x_aload_n 62 hK rfl rfl (lk1_n l0 (by decide) (Or.inl rfl)) ?_
      refine x_callV 65 hK hmono rfl rfl [.ref 171] [] rfl rfl (Nat.le_of_ble_eq_true rfl) (Nat.le_of_ble_eq_true rfl) rfl (sp_171 (h := h2) hG2) (CLd_le (Nat.le_of_ble_eq_true rfl) (ctX11_startsCountingF hSP hG2)) ?_
      rintro v3 h3 ⟨rfl, hG3, hF3, z31, z32⟩
      refine x_iconst 66 hK rfl rfl ?_
      refine x_istore 68 hK rfl rfl _ rfl ?_
      have c178 : RC h3 178 0 = RC h 178 0 := (RC_F hF3 (r := 61) rfl rfl 0).trans ((RC_F hF2 (r := 61) rfl rfl 0).trans (RC_F hF7 (r := 61) rfl rfl 0))
      exact loop2 _ 0 _ _ rfl (⟨by omega, by omega⟩) ((by rw [c178, ← hV]; show _ = (0 : Int) + _; rw [Int.zero_add]; rfl)) ((by rw [c178, ← hV]; rfl)) ((by rw [c178, ← hV, z31, Int.zero_add]; rfl)) ((by rw [c178]; exact aw.1.mono (by omega))) ((by rw [z31]; omega)) ((by rw [z32]; omega)) ((by rw [ln]; exact (acL_congr fun j _ => ⟨(FRM_gi hF3 (r := 70) rfl rfl).trans (FRM_gi hF2 (r := 70) rfl rfl), (FRM_gi hF3 (r := 71) rfl rfl).trans (FRM_gi hF2 (r := 71) rfl rfl)⟩).trans al7)) ((FRM_gi hF3 (r := 54) rfl rfl).trans ((FRM_gi hF2 (r := 54) rfl rfl).trans (t7))) ((FRM_gi hF3 (r := 54) rfl rfl).trans ((FRM_gi hF2 (r := 54) rfl rfl).trans (z7))) ((FRM_gi hF3 (r := 54) rfl rfl).trans ((FRM_gi hF2 (r := 54) rfl rfl).trans (FRM_gi hF7 (r := 54) rfl rfl))) (((RC_F hF3 (r := 69) rfl rfl _).trans p0)) ((fun v hv => (RC_F hF3 (r := 69) rfl rfl _).trans ((p1 v hv).trans (RC_F hF7 (r := 69) rfl rfl _)))) ((fun v => (RC_F hF3 (r := 83) rfl rfl v).trans ((RC_F hF2 (r := 83) rfl rfl v).trans (RC_F hF7 (r := 83) rfl rfl v)))) ((((FRM_gi hF3 (r := 54) rfl rfl).trans (FRM_gi hF2 (r := 54) rfl rfl)).trans (by omega))) (f0) (by omega) (lk1_n (lk1_n l0 (by decide) (Or.inl rfl)) (by decide) (Or.inl rfl)) lk1_s (hG3) ((((hF7).mono rfl).trans ((hF2).mono rfl)).trans ((hF3).mono rfl))
    · refine x_iload_n 56 hK rfl rfl lk1_s ?_
      exact x_iret hK rfl ⟨Or.inl ⟨by omega, rfl, RC_F hF7 (r := 61) rfl rfl 0, UL_eq (FRM_gi hF7 (r := 54) rfl rfl) fun v _ => RC_F hF7 (r := 69) rfl rfl _, mrow_F hF7 rfl rfl⟩, hG7, (hF7).mono rfl, t7, z7, by rw [show gi h7 171 29 = gi h 171 29 from FRM_gi hF7 (r := 54) rfl rfl]; exact hu, (AW_F hF7 rfl aw).mono (by omega)⟩
  have loop1 : ∀ (mz : Nat) (h8 : aH) (ls : List (Nat × Value)), ((61 - gi h8 171 35).toNat = mz) → ((gi h8 171 18) ≤ min (gi h 171 17) 60) → (gi h8 171 35 ≤ gi h8 171 18) → (gi h8 171 19 = min (gi h 171 17) 60) → (gi h8 171 0 = 0) → (gi h8 171 17 = 0) → (RR.1 = (rdAs T (min (gi h 171 17) 60) (60 - gi h8 171 35).toNat (gi h8 171 18)).1) → (RR.2 = acL h8 (gi h8 171 35).toNat ++ (rdAs T (min (gi h 171 17) 60) (60 - gi h8 171 35).toNat (gi h8 171 18)).2) → lk ls 0 = some (.ref 171) → lk ls 1 = some (.int (I (gi h 171 17))) → lk ls 2 = some (.int (I 1)) → GD gE gRL sh h8 → FRM gRL [(0, 54, 0, 0), (0, 54, 17, 20), (0, 54, 35, 35), (0, 70, 0, 59), (0, 71, 0, 59)] h h8 → K 23 ls [] h8 0 0 := by
    intro mz
    induction mz using Nat.strongRecOn with
    | ind mz ih =>
    intro  h8 ls hm a8 c8 to8 t8 z8 e1 e2 l0 l1 l2 hG8 hF8
    have g35 := gri 0 60 hG8 (a := 171) (r := 54) (k := 35) rfl rfl
    have g18 := gri 0 81 hG8 (a := 171) (r := 54) (k := 18) rfl rfl
    have ft8 : fm h8 = T := by rw [fm_tx, to8, ← hT, show gi h8 180 = gi h 180 from funext fun k => FRM_gi hF8 (r := 63) rfl rfl]
    refine x_aload_n 24 hK rfl rfl l0 ?_
    have g236 := gri (0) (81) hG8 (a := 171) (r := 54) (k := 18) rfl rfl
    refine x_getE 27 hK rfl (Or.inl rfl) rfl (sp_171 (h := h8) hG8) (e := (gi h8 171 18)) (rfl) ?_
    refine x_aload_n 28 hK rfl rfl l0 ?_
    refine x_getE 31 hK rfl (Or.inl rfl) rfl (sp_171 (h := h8) hG8) (e := (min (gi h 171 17) 60)) (to8) ?_
    refine x_if_icmp_ge 42 34 hK rfl rfl rfl (by omega) (by omega) (fun c5 => ?_) (fun c5 => ?_)
    · have st : ∀ n, rdAs T (min (gi h 171 17) 60) n (gi h8 171 18) = ((true, (gi h8 171 18)), []) := fun n => by cases n with
        | zero => rfl
        | succ n => unfold rdAs; rw [if_pos (by omega)]
      rw [st] at e1 e2
      rw [List.append_nil] at e2
      exact end0 1 _ _ ((by rw [e1]; rfl)) ((by rw [e1])) ((by rw [e1]; show 0 ≤ (gi h8 171 18) ∧ (gi h8 171 18) ≤ 80; omega)) (to8) (t8) (z8) ((fun _ => e2.symm)) l0 l1 l2 (hG8) (hF8)
    · refine x_aload_n 35 hK rfl rfl l0 ?_
      obtain ⟨n, hn⟩ : ∃ n : Nat, (60 - gi h8 171 35).toNat = n + 1 := ⟨(60 - gi h8 171 35).toNat - 1, by omega⟩
      rw [hn] at e1 e2
      unfold rdAs at e1 e2
      rw [if_neg (by omega)] at e1 e2
      refine x_callV 38 hK hmono rfl rfl [.ref 171] [] rfl rfl (Nat.le_of_ble_eq_true rfl) (Nat.le_of_ble_eq_true rfl) rfl (sp_171 (h := h8) hG8) (CLd_le (Nat.le_of_ble_eq_true rfl) (ctX11_readsActF hSP hG8 (by omega) (by omega))) ?_
      rw [ft8, to8]
      rintro v9 h9 ⟨rfl, y1, y2, ya, yb, yc, hG9, hF9⟩
      cases hb : (rdAct T (gi h8 171 18)).1.1
      · rw [show b2i false = 0 from rfl]
        rw [if_neg (by rw [hb]; exact Bool.noConfusion)] at e1 e2
        refine x_istore_n 39 hK rfl rfl _ rfl ?_
        refine x_goto 19 hK rfl rfl ?_
        refine x_iload_n 20 hK rfl rfl lk1_s ?_
        refine x_if_eq 42 23 hK rfl rfl rfl (by omega) (fun _ => ?_) (fun c => by omega)
        have g18b := gri 0 81 hG9 (a := 171) (r := 54) (k := 18) rfl rfl
        exact end0 0 _ _ ((by rw [e1]; rfl)) ((by rw [e1]; exact y1)) ((by rw [e1]; show 0 ≤ (rdAct T (gi h8 171 18)).1.2 ∧ (rdAct T (gi h8 171 18)).1.2 ≤ 80; omega)) ((FRM_gi hF9 (r := 54) rfl rfl).trans (to8)) ((FRM_gi hF9 (r := 54) rfl rfl).trans (t8)) ((FRM_gi hF9 (r := 54) rfl rfl).trans (z8)) ((fun z => by rw [e1] at z; cases z)) (lk1_n l0 (by decide) (Or.inl rfl)) (lk1_n l1 (by decide) (Or.inl rfl)) lk1_s (hG9) ((hF8).trans ((hF9).mono rfl))
      · rw [show b2i true = 1 from rfl]
        obtain ⟨k1, k2, k3, k4, k5⟩ := y2 hb
        rw [if_pos hb] at e1 e2
        have rq : acL h9 (gi h9 171 35).toNat = acL h8 (gi h8 171 35).toNat ++ [(rdAct T (gi h8 171 18)).2] := by
          rw [show (gi h9 171 35).toNat = (gi h8 171 35).toNat + 1 by omega, acL_s, k2, k3]
          congr 1
          exact acL_congr fun j hj => k5 j (by omega)
        refine x_istore_n 39 hK rfl rfl _ rfl ?_
        refine x_goto 19 hK rfl rfl ?_
        refine x_iload_n 20 hK rfl rfl lk1_s ?_
        refine x_if_eq 42 23 hK rfl rfl rfl (by omega) (fun c => by omega) (fun _ => ?_)
        exact ih _ (by omega)  _ _ rfl (by omega) (by omega) ((FRM_gi hF9 (r := 54) rfl rfl).trans (to8)) ((FRM_gi hF9 (r := 54) rfl rfl).trans (t8)) ((FRM_gi hF9 (r := 54) rfl rfl).trans (z8)) ((by rw [e1, y1, show (60 - gi h9 171 35).toNat = n by omega])) ((by rw [e2, rq, y1, show (60 - gi h9 171 35).toNat = n by omega, List.append_assoc]; rfl)) (lk1_n l0 (by decide) (Or.inl rfl)) (lk1_n l1 (by decide) (Or.inl rfl)) lk1_s (hG9) ((hF8).trans ((hF9).mono rfl))
  refine x_aload_n 1 hK rfl rfl rfl ?_
  refine x_iconst 2 hK rfl rfl ?_
  refine x_putI 5 hK rfl rfl (sp_171 (h := h) hG) ?_
  refine x_aload_n 6 hK rfl rfl rfl ?_
  refine x_bipush 8 hK rfl rfl rfl ?_
  have hGp237 : GD gE gRL sh (wI h 171 0 0) := GD_w1 (hG) (r := 54) rfl (by omega) rfl (by omega) (by omega)
  have sz0 : gi (wI h 171 0 0) 171 17 = gi h 171 17 := gi_k (by decide) _
  refine x_callV 11 hK hmono rfl rfl [.ref 171, .int (I 60)] [] rfl rfl (Nat.le_of_ble_eq_true rfl) (Nat.le_of_ble_eq_true rfl) rfl (sp_171 (h := h) hG) (CLd_le (Nat.le_of_ble_eq_true rfl) (ctX11_begins hSP hGp237 (by omega))) ?_
  rintro v1 h1 ⟨rfl, hG1, hF1, b17, b18, b20, b19⟩
  rw [sz0] at b19 ⊢
  have f1 : fm h1 = txF (gi h 180) (min (gi h 171 17) 60) := by rw [fm_tx, b19, show gi h1 180 = gi h 180 from funext fun k => (FRM_gi hF1 (r := 63) rfl rfl).trans (gi_a (by decide) _)]
  refine x_istore_n 12 hK rfl rfl [(1, .int (I (gi h 171 17))), (0, .ref 171)] rfl ?_
  refine x_aload_n 13 hK rfl rfl rfl ?_
  refine x_iconst 14 hK rfl rfl ?_
  refine x_putI 17 hK rfl rfl (sp_171 (h := h1) hG1) ?_
  refine x_iconst 18 hK rfl rfl ?_
  refine x_istore_n 19 hK rfl rfl [(2, .int (I 1)), (1, .int (I (gi h 171 17))), (0, .ref 171)] rfl ?_
  refine x_iload_n 20 hK rfl rfl rfl ?_
  refine x_if_eq 42 23 hK rfl rfl rfl (by omega) (fun c => by omega) (fun _ => ?_)
  exact loop1 _  _ _ rfl ((by rw [show gi (wI h1 171 35 0) 171 18 = 0 from (gi_k (by decide) _).trans (b18)]; omega)) ((by rw [show gi (wI h1 171 35 0) 171 18 = 0 from (gi_k (by decide) _).trans (b18), show gi (wI h1 171 35 0) 171 35 = 0 from gi_same (by omega)]; omega)) ((gi_k (by decide) _).trans (b19)) ((gi_k (by decide) _).trans ((FRM_gi hF1 (r := 54) rfl rfl).trans (gi_same (by omega)))) ((gi_k (by decide) _).trans (b17)) ((by rw [show gi (wI h1 171 35 0) 171 35 = 0 from gi_same (by omega), show gi (wI h1 171 35 0) 171 18 = 0 from (gi_k (by decide) _).trans (b18), ← hRR]; rfl)) ((by rw [show gi (wI h1 171 35 0) 171 35 = 0 from gi_same (by omega), show gi (wI h1 171 35 0) 171 18 = 0 from (gi_k (by decide) _).trans (b18), ← hRR]; rfl)) rfl rfl rfl (GD_w1 (hG1) (r := 54) rfl (by omega) rfl (by omega) (by omega)) (FRM_w ((FRM_w ((FRM.rf : FRM gRL [(0, 54, 0, 0), (0, 54, 17, 20), (0, 54, 35, 35), (0, 70, 0, 59), (0, 71, 0, 59)] h h)) (r := 54) rfl rfl).trans ((hF1).mono rfl)) (r := 54) rfl rfl)
