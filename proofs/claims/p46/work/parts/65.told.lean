/-! MESSES AND VOYAGES TOLD (the reference), by what the text tells -/
/-- the sign at a place of a text, of which the first ones are seen; -1 at its end -/
def txF (t : Nat → Int) (stop a : Int) : Int := if 0 ≤ a ∧ a < stop ∧ a < 80 then t a.toNat else -1
theorem fm_tx (h : aH) : fm h = txF (gi h 180) (gi h 171 19) := rfl
theorem fx_tx (h : aH) : fx h = txF (gi h 2) (gi h 1 3) := rfl
theorem txF_r {t : Nat → Int} {stop : Int} (ht : ∀ k, k < 80 → 0 ≤ t k ∧ t k ≤ 65535) (a : Int) : -1 ≤ txF t stop a ∧ txF t stop a ≤ 65535 := by
  unfold txF
  split
  · have := ht a.toNat (by omega); omega
  · omega
/-- a number of at most n digits, and the place behind it; -1 if there is none -/
def nmF (f : Int → Int) (n : Nat) (p : Int) : Int × Int := (if (tkv f n p 0).2 = p then -1 else (tkv f n p 0).1, (tkv f n p 0).2)
/-- what is told at the end: n signs, of which most are seen; can it stand, and up to where -/
def fltF (n most : Int) (r : Bool × Int) : Int := if most < n ∧ ((r.1 = true ∧ r.2 = min n most) ∨ most ≤ r.2) then -1 - most else if r.1 = true ∧ r.2 = min n most then 0 else -1 - r.2
def rdMess (f : Int → Int) (p : Int) : (Bool × Int) × Int × Int :=
  if (nmF f 2 p).1 < 0 then ((false, (nmF f 2 p).2), 0, 0) else if f (nmF f 2 p).2 ≠ 42 then ((false, (nmF f 2 p).2), 0, 0)
  else if (nmF f 1 ((nmF f 2 p).2 + 1)).1 < 0 then ((false, (nmF f 1 ((nmF f 2 p).2 + 1)).2), 0, 0) else ((true, (nmF f 1 ((nmF f 2 p).2 + 1)).2), (nmF f 2 p).1, (nmF f 1 ((nmF f 2 p).2 + 1)).1)
/-- LINES of MESSES, of which n at most have room -/
def rdMs (f : Int → Int) : Nat → Int → (Bool × Int) × List (Int × Int)
  | 0, p => ((false, p), [])
  | n + 1, p => if (rdMess f p).1.1 = true then (if f (rdMess f p).1.2 = 59 then ((rdMs f n ((rdMess f p).1.2 + 1)).1, (rdMess f p).2 :: (rdMs f n ((rdMess f p).1.2 + 1)).2) else ((true, (rdMess f p).1.2), [(rdMess f p).2])) else ((false, (rdMess f p).1.2), [])
theorem fm_F {M : MD} {h h' : aH} (hF : FRM gRL M h h') (h1 : mHas M 0 54 19 = false) (h2 : (M.all fun q => !(Nat.beq q.1 0 && Nat.beq q.2.1 63)) = true) : fm h' = fm h := by
  rw [fm_tx, fm_tx, FRM_gi hF (r := 54) rfl h1, show gi h' 180 = gi h 180 from funext fun k => FRM_gi hF (r := 63) rfl (mHas_non h2 k)]
theorem fm_wI {h : aH} {a k : Nat} {e : Int} (h1 : a ≠ 180) (h2 : a ≠ 171 ∨ k ≠ 19) : fm (wI h a k e) = fm h := by
  rw [fm_tx, fm_tx, show gi (wI h a k e) 180 = gi h 180 from funext fun j => gi_a (fun z => h1 z.symm) j]
  rcases h2 with h2 | h2
  · rw [gi_a (fun z => h2 z.symm)]
  · rw [gi_k (fun z => h2 z.symm)]
set_option maxRecDepth 4000 in
theorem ctX11_readsMessF {SP : CT} (hSP : MONO SP) {sh : List (Nat × Nat)} {h : aH} (hG : GD gE gRL sh h) (hc : gi h 171 7 + gi h 171 22 ≤ 8) (ha : gi h 171 18 ≤ gi h 171 19) : CLd SP 6 mX11_readsMess [.ref 171] h 0 0 (fun rv h' => ((gi h 171 7 + gi h 171 22 = 8 ∧ rv = some (.int (I 0)) ∧ gi h' 171 18 = (gi h 171 18) ∧ gi h' 171 22 = gi h 171 22) ∨ (gi h 171 7 + gi h 171 22 < 8 ∧ (rdMess (fm h) (gi h 171 18)).1.1 = false ∧ rv = some (.int (I 0)) ∧ gi h' 171 18 = (rdMess (fm h) (gi h 171 18)).1.2 ∧ gi h' 171 22 ≤ gi h 171 22 + 1) ∨ (gi h 171 7 + gi h 171 22 < 8 ∧ (rdMess (fm h) (gi h 171 18)).1.1 = true ∧ rv = some (.int (I 1)) ∧ gi h' 171 18 = (rdMess (fm h) (gi h 171 18)).1.2 ∧ gi h' 171 22 = gi h 171 22 + 1 ∧ gi h' 181 (2 * gi h 171 22).toNat = (rdMess (fm h) (gi h 171 18)).2.1 ∧ gi h' 181 (2 * gi h 171 22 + 1).toNat = (rdMess (fm h) (gi h 171 18)).2.2 ∧ (gi h 171 18) < (rdMess (fm h) (gi h 171 18)).1.2 ∧ (0 ≤ (rdMess (fm h) (gi h 171 18)).2.1 ∧ (rdMess (fm h) (gi h 171 18)).2.1 ≤ 99) ∧ (0 ≤ (rdMess (fm h) (gi h 171 18)).2.2 ∧ (rdMess (fm h) (gi h 171 18)).2.2 ≤ 9) ∧ ∀ j, j ≠ (2 * gi h 171 22).toNat → j ≠ (2 * gi h 171 22 + 1).toNat → gi h' 181 j = gi h 181 j)) ∧ (gi h 171 18) ≤ gi h' 171 18 ∧ gi h' 171 18 ≤ gi h 171 19 ∧ GD gE gRL sh h' ∧ FRM gRL [(0, 54, 18, 18), (0, 54, 22, 22), (0, 64, 0, 31)] h h') := by
  refine x_met _ rfl (Nat.le_of_ble_eq_true rfl) (fun K hK => ?_)
  have hmono := MONO_CLd hSP 5
  have g22 := gri 0 16 hG (a := 171) (r := 54) (k := 22) rfl rfl
  have gc := gri 0 8 hG (a := 171) (r := 54) (k := 7) rfl rfl
  refine x_aload_n 1 hK rfl rfl rfl ?_
  have g218 := gri (0) (8) hG (a := 171) (r := 54) (k := 7) rfl rfl
  refine x_getE 4 hK rfl (Or.inl rfl) rfl (sp_171 (h := h) hG) (e := (gi h 171 7)) (rfl) ?_
  refine x_aload_n 5 hK rfl rfl rfl ?_
  have g219 := gri (0) (16) hG (a := 171) (r := 54) (k := 22) rfl rfl
  refine x_getE 8 hK rfl (Or.inl rfl) rfl (sp_171 (h := h) hG) (e := (gi h 171 22)) (rfl) ?_
  refine x_iadd 9 hK rfl rfl ?_
  refine x_bipush 11 hK rfl rfl rfl ?_
  refine x_if_icmp_ne 16 14 hK rfl rfl rfl (by omega) (by omega) (fun c7 => ?_) (fun c7 => ?_)
  · refine x_iconst 17 hK rfl rfl ?_
    refine x_aload_n 18 hK rfl rfl rfl ?_
    refine x_getE 21 hK rfl (Or.inl rfl) rfl (sp_171 (h := h) hG) (e := (gi h 171 22)) (rfl) ?_
    refine x_imul 22 hK rfl rfl ?_
    refine x_istore_n 23 hK rfl rfl [(1, .int (I (2 * (gi h 171 22)))), (0, .ref 171)] rfl ?_
    refine x_aload_n 24 hK rfl rfl rfl ?_
    refine x_getR 27 hK rfl rfl (sp_171 (h := h) hG) (rf_171_21 (h := h) hG) ?_
    refine x_iload_n 28 hK rfl rfl rfl ?_
    refine x_aload_n 29 hK rfl rfl rfl ?_
    refine x_iconst 30 hK rfl rfl ?_
    have g221 := gri (0) (81) hG (a := 171) (r := 54) (k := 18) rfl rfl
    have at220 : gi h 171 18 = (gi h 171 18) := rfl
    have fe220 : fm h = (fm h) := rfl
    have to220 : gi h 171 19 = gi h 171 19 := rfl
    refine x_callV 33 hK hmono rfl rfl [.ref 171, .int (I 2)] [.int (I (2 * (gi h 171 22))), .ref 181] rfl rfl (Nat.le_of_ble_eq_true rfl) (Nat.le_of_ble_eq_true rfl) rfl (sp_171 (h := h) hG) (CLd_le (Nat.le_of_ble_eq_true rfl) (ctX11_number hSP hG (n := 2) (by omega))) ?_
    rw [fe220, at220, to220]
    rintro v220 h220 ⟨⟨e220, rfl, nu220, ne220, nf220, ng220⟩, hG220, hF220, np220, nq220, nr220⟩
    have nm220 : nmF (fm h) 2 (gi h 171 18) = (e220, gi h220 171 18) := by rw [nu220, np220]; rfl
    clear nu220 np220
    generalize eq220 : gi h220 171 18 = p220 at *
    refine x_iastore 34 hK rfl rfl (sp_181 (h := h220) hG220) (by omega) (by omega) (by omega) ?_
    refine x_aload_n 35 hK rfl rfl rfl ?_
    refine x_getR 38 hK rfl rfl (sp_171 (h := h220) hG220) (rf_171_21 (h := h220) hG220) ?_
    refine x_iload_n 39 hK rfl rfl rfl ?_
    refine x_ialoadE 40 hK rfl rfl (sp_181 (h := h220) hG220) (by omega) (by omega) (by omega) (e' := e220) (gi_same (by omega)) ?_
    refine x_if_lt 52 43 hK rfl rfl rfl (by omega) (fun c24 => ?_) (fun c24 => ?_)
    · refine x_iconst 53 hK rfl rfl ?_
      have za : gi (wI h220 181 (2 * (gi h 171 22)).toNat e220) 171 18 = p220 := (gi_a (by decide) _).trans (eq220)
      have zb : gi (wI h220 181 (2 * (gi h 171 22)).toNat e220) 171 22 = (gi h 171 22) := (gi_a (by decide) _).trans (FRM_gi hF220 (r := 54) rfl rfl)
      have er : (rdMess (fm h) (gi h 171 18)) = ((false, p220), 0, 0) := by unfold rdMess; rw [nm220, if_pos (show e220 < 0 by omega)]
      exact x_zret hK rfl (by omega) ⟨Or.inr (Or.inl ⟨by omega, by rw [er], rfl, by rw [er]; exact za, by omega⟩), by omega, by omega, GD_wn (hG220) (r := 64) rfl rfl, FRM_wn 0 31 ((hF220).mono rfl) (r := 64) rfl rfl rfl (by omega) (by omega)⟩
    · refine x_aload_n 44 hK rfl rfl rfl ?_
      refine x_bipush 46 hK rfl rfl rfl ?_
      have hGp223 : GD gE gRL sh (wI h220 181 (2 * (gi h 171 22)).toNat e220) := GD_wn (hG220) (r := 64) rfl rfl
      have at222 : gi (wI h220 181 (2 * (gi h 171 22)).toNat e220) 171 18 = p220 := (gi_a (by decide) _).trans (eq220)
      have fe222 : fm (wI h220 181 (2 * (gi h 171 22)).toNat e220) = (fm h) := (fm_wI (by decide) (Or.inl (by decide))).trans (fm_F hF220 rfl rfl)
      have to222 : gi (wI h220 181 (2 * (gi h 171 22)).toNat e220) 171 19 = gi h 171 19 := (gi_a (by decide) _).trans (FRM_gi hF220 (r := 54) rfl rfl)
      refine x_callV 49 hK hmono rfl rfl [.ref 171, .int (I 42)] [] rfl rfl (Nat.le_of_ble_eq_true rfl) (Nat.le_of_ble_eq_true rfl) rfl (sp_171 (h := h220) hG220) (CLd_le (Nat.le_of_ble_eq_true rfl) (ctX11_takes hSP hGp223 (s := 42) (by omega))) ?_
      rw [fe222, at222, to222]
      rintro v222 h222 ⟨hG222, hF222, ⟨rfl, tk222, tt222, eq222⟩ | ⟨rfl, tk222, eq222⟩⟩
      · refine x_if_ne 54 52 hK rfl rfl rfl (by omega) (fun _ => ?_) (fun c => by omega)
        refine x_aload_n 55 hK rfl rfl rfl ?_
        refine x_getR 58 hK rfl rfl (sp_171 (h := h222) hG222) (rf_171_21 (h := h222) hG222) ?_
        refine x_iload_n 59 hK rfl rfl rfl ?_
        refine x_iconst 60 hK rfl rfl ?_
        refine x_iadd 61 hK rfl rfl ?_
        refine x_aload_n 62 hK rfl rfl rfl ?_
        refine x_iconst 63 hK rfl rfl ?_
        have at224 : gi h222 171 18 = (p220 + 1) := eq222
        have fe224 : fm h222 = (fm h) := (fm_F hF222 rfl rfl).trans ((fm_wI (by decide) (Or.inl (by decide))).trans (fm_F hF220 rfl rfl))
        have to224 : gi h222 171 19 = gi h 171 19 := (FRM_gi hF222 (r := 54) rfl rfl).trans ((gi_a (by decide) _).trans (FRM_gi hF220 (r := 54) rfl rfl))
        refine x_callV 66 hK hmono rfl rfl [.ref 171, .int (I 1)] [.int (I ((2 * (gi h 171 22)) + 1)), .ref 181] rfl rfl (Nat.le_of_ble_eq_true rfl) (Nat.le_of_ble_eq_true rfl) rfl (sp_171 (h := h222) hG222) (CLd_le (Nat.le_of_ble_eq_true rfl) (ctX11_number hSP hG222 (n := 1) (by omega))) ?_
        rw [fe224, at224, to224]
        rintro v224 h224 ⟨⟨e224, rfl, nu224, ne224, nf224, ng224⟩, hG224, hF224, np224, nq224, nr224⟩
        have nm224 : nmF (fm h) 1 (p220 + 1) = (e224, gi h224 171 18) := by rw [nu224, np224]; rfl
        clear nu224 np224
        generalize eq224 : gi h224 171 18 = p224 at *
        refine x_iastore 67 hK rfl rfl (sp_181 (h := h224) hG224) (by omega) (by omega) (by omega) ?_
        refine x_aload_n 68 hK rfl rfl rfl ?_
        refine x_dup 69 hK rfl rfl rfl ?_
        refine x_getE 72 hK rfl (Or.inl rfl) rfl (sp_171 (h := h224) hG224) (e := (gi h 171 22)) ((gi_a (by decide) _).trans ((FRM_gi hF224 (r := 54) rfl rfl).trans ((FRM_gi hF222 (r := 54) rfl rfl).trans ((gi_a (by decide) _).trans (FRM_gi hF220 (r := 54) rfl rfl))))) ?_
        refine x_iconst 73 hK rfl rfl ?_
        refine x_iadd 74 hK rfl rfl ?_
        refine x_putI 77 hK rfl rfl (sp_171 (h := h224) hG224) ?_
        refine x_aload_n 78 hK rfl rfl rfl ?_
        refine x_getR 81 hK rfl rfl (sp_171 (h := h224) hG224) (rf_171_21 (h := h224) hG224) ?_
        refine x_iload_n 82 hK rfl rfl rfl ?_
        refine x_iconst 83 hK rfl rfl ?_
        refine x_iadd 84 hK rfl rfl ?_
        refine x_ialoadE 85 hK rfl rfl (sp_181 (h := h224) hG224) (by omega) (by omega) (by omega) (e' := e224) ((gi_a (by decide) _).trans (gi_same (by omega))) ?_
        refine x_if_lt 92 88 hK rfl rfl rfl (by omega) (fun c52 => ?_) (fun c52 => ?_)
        · refine x_iconst 93 hK rfl rfl ?_
          have za : gi (wI (wI h224 181 ((2 * (gi h 171 22)) + 1).toNat e224) 171 22 ((gi h 171 22) + 1)) 171 18 = p224 := (gi_k (by decide) _).trans ((gi_a (by decide) _).trans (eq224))
          have zb : gi (wI (wI h224 181 ((2 * (gi h 171 22)) + 1).toNat e224) 171 22 ((gi h 171 22) + 1)) 171 22 = ((gi h 171 22) + 1) := gi_same (by omega)
          have er : (rdMess (fm h) (gi h 171 18)) = ((false, p224), 0, 0) := by unfold rdMess; rw [nm220]; show (if e220 < 0 then _ else if fm h p220 ≠ 42 then _ else if (nmF (fm h) 1 (p220 + 1)).1 < 0 then _ else _) = _; rw [if_neg (by omega), if_neg (by omega), nm224, if_pos (show e224 < 0 by omega)]
          exact x_zret hK rfl (by omega) ⟨Or.inr (Or.inl ⟨by omega, by rw [er], rfl, by rw [er]; exact za, by omega⟩), by omega, by omega, GD_w1 (GD_wn (hG224) (r := 64) rfl rfl) (r := 54) rfl (by omega) rfl (by omega) (by omega), FRM_w (FRM_wn 0 31 (((FRM_wn 0 31 ((hF220).mono rfl) (r := 64) rfl rfl rfl (by omega) (by omega)).trans ((hF222).mono rfl)).trans ((hF224).mono rfl)) (r := 64) rfl rfl rfl (by omega) (by omega)) (r := 54) rfl rfl⟩
        · refine x_iconst 89 hK rfl rfl ?_
          refine x_goto 93 hK rfl rfl ?_
          have za : gi (wI (wI h224 181 ((2 * (gi h 171 22)) + 1).toNat e224) 171 22 ((gi h 171 22) + 1)) 171 18 = p224 := (gi_k (by decide) _).trans ((gi_a (by decide) _).trans (eq224))
          have zb : gi (wI (wI h224 181 ((2 * (gi h 171 22)) + 1).toNat e224) 171 22 ((gi h 171 22) + 1)) 171 22 = ((gi h 171 22) + 1) := gi_same (by omega)
          have er : (rdMess (fm h) (gi h 171 18)) = ((true, p224), e220, e224) := by unfold rdMess; rw [nm220]; show (if e220 < 0 then _ else if fm h p220 ≠ 42 then _ else if (nmF (fm h) 1 (p220 + 1)).1 < 0 then _ else _) = _; rw [if_neg (by omega), if_neg (by omega), nm224, if_neg (show ¬ e224 < 0 by omega)]
          have y0 : gi (wI (wI h224 181 ((2 * (gi h 171 22)) + 1).toNat e224) 171 22 ((gi h 171 22) + 1)) 181 (2 * (gi h 171 22)).toNat = e220 := (gi_a (by decide) _).trans ((gi_k (by omega) _).trans ((FRM_gi hF224 (r := 64) rfl rfl).trans ((FRM_gi hF222 (r := 64) rfl rfl).trans (gi_same (by omega)))))
          have y1 : gi (wI (wI h224 181 ((2 * (gi h 171 22)) + 1).toNat e224) 171 22 ((gi h 171 22) + 1)) 181 ((2 * (gi h 171 22)) + 1).toNat = e224 := (gi_a (by decide) _).trans (gi_same (by omega))
          exact x_zret hK rfl (by omega) ⟨Or.inr (Or.inr ⟨by omega, by rw [er], rfl, by rw [er]; exact za, by omega, by rw [er]; exact y0, by rw [er]; exact y1, by rw [er]; show _ < p224; omega, by rw [er]; show 0 ≤ e220 ∧ e220 ≤ 99; omega, by rw [er]; show 0 ≤ e224 ∧ e224 ≤ 9; omega, fun j h5 h6 => (gi_a (by decide) _).trans ((gi_k (by omega) _).trans ((FRM_gi hF224 (r := 64) rfl rfl).trans ((FRM_gi hF222 (r := 64) rfl rfl).trans ((gi_k (by omega) _).trans (FRM_gi hF220 (r := 64) rfl rfl)))))⟩), by omega, by omega, GD_w1 (GD_wn (hG224) (r := 64) rfl rfl) (r := 54) rfl (by omega) rfl (by omega) (by omega), FRM_w (FRM_wn 0 31 (((FRM_wn 0 31 ((hF220).mono rfl) (r := 64) rfl rfl rfl (by omega) (by omega)).trans ((hF222).mono rfl)).trans ((hF224).mono rfl)) (r := 64) rfl rfl rfl (by omega) (by omega)) (r := 54) rfl rfl⟩
      · refine x_if_ne 54 52 hK rfl rfl rfl (by omega) (fun c => by omega) (fun _ => ?_)
        refine x_iconst 53 hK rfl rfl ?_
        have za : gi h222 171 18 = p220 := eq222
        have zb : gi h222 171 22 = (gi h 171 22) := (FRM_gi hF222 (r := 54) rfl rfl).trans ((gi_a (by decide) _).trans (FRM_gi hF220 (r := 54) rfl rfl))
        have er : (rdMess (fm h) (gi h 171 18)) = ((false, p220), 0, 0) := by unfold rdMess; rw [nm220, if_neg (show ¬ e220 < 0 by omega), if_pos (show fm h p220 ≠ 42 by omega)]
        exact x_zret hK rfl (by omega) ⟨Or.inr (Or.inl ⟨by omega, by rw [er], rfl, by rw [er]; exact za, by omega⟩), by omega, by omega, hG222, (FRM_wn 0 31 ((hF220).mono rfl) (r := 64) rfl rfl rfl (by omega) (by omega)).trans ((hF222).mono rfl)⟩
  · refine x_iconst 15 hK rfl rfl ?_
    exact x_zret hK rfl (by omega) ⟨Or.inl ⟨by omega, rfl, rfl, rfl⟩, Int.le_refl _, ha, hG, (FRM.rf : FRM gRL [(0, 54, 18, 18), (0, 54, 22, 22), (0, 64, 0, 31)] h h)⟩
