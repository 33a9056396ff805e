/-! MESSES AND VOYAGES TOLD (the reference), by what the text tells -/
/-- the sign at a place of a text, of which the first ones are seen; -1 at its end -/
def txF (t : Nat → Int) (stop a : Int) : Int := if 0 ≤ a ∧ a < stop ∧ a < 80 then t a.toNat else -1
theorem fm_tx (h : aH) : fm h = txF (gi h 180) (gi h 171 19) := rfl
/-- a number of at most n digits, and the place behind it; -1 if there is none -/
def nmF (f : Int → Int) (n : Nat) (p : Int) : Int × Int := (if (tkv f n p 0).2 = p then -1 else (tkv f n p 0).1, (tkv f n p 0).2)
/-- what is told at the end: n signs, of which most are seen; can it stand, and up to where -/
def fltF (n most : Int) (r : Bool × Int) : Int := if most < n ∧ ((r.1 = true ∧ r.2 = min n most) ∨ most ≤ r.2) then -1 - most else if r.1 = true ∧ r.2 = min n most then 0 else -1 - r.2
def rdMess (f : Int → Int) (p : Int) : (Bool × Int) × Int × Int :=
  if (nmF f 2 p).1 < 0 then ((false, (nmF f 2 p).2), 0, 0) else if f (nmF f 2 p).2 ≠ 42 then ((false, (nmF f 2 p).2), 0, 0)
  else if (nmF f 1 ((nmF f 2 p).2 + 1)).1 < 0 then ((false, (nmF f 1 ((nmF f 2 p).2 + 1)).2), 0, 0) else ((true, (nmF f 1 ((nmF f 2 p).2 + 1)).2), (nmF f 2 p).1, (nmF f 1 ((nmF f 2 p).2 + 1)).1)
/-- LINES of MESSES, of which n at most have room -/
def rdMs (f : Int → Int) : Nat → Int → (Bool × Int) × List (Int × Int)
  | 0, p => ((false, p), [])
  | n + 1, p => if (rdMess f p).1.1 = true then (if f (rdMess f p).1.2 = 59 then ((rdMs f n ((rdMess f p).1.2 + 1)).1, (rdMess f p).2 :: (rdMs f n ((rdMess f p).1.2 + 1)).2) else ((true, (rdMess f p).1.2), [(rdMess f p).2])) else ((false, (rdMess f p).1.2), [])
theorem fm_F {M : MD} {h h' : aH} (hF : FRM gRL M h h') (h1 : mHas M 0 54 19 = false) (h2 : (M.all fun q => !(Nat.beq q.1 0 && Nat.beq q.2.1 63)) = true) : fm h' = fm h := by
  rw [fm_tx, fm_tx, FRM_gi hF (r := 54) rfl h1, show gi h' 180 = gi h 180 from funext fun k => FRM_gi hF (r := 63) rfl (mHas_non h2 k)]
theorem fm_wI {h : aH} {a k : Nat} {e : Int} (h1 : a ≠ 180) (h2 : a ≠ 171 ∨ k ≠ 19) : fm (wI h a k e) = fm h := by
  rw [fm_tx, fm_tx, show gi (wI h a k e) 180 = gi h 180 from funext fun j => gi_a (fun z => h1 z.symm) j]
  rcases h2 with h2 | h2
  · rw [gi_a (fun z => h2 z.symm)]
  · rw [gi_k (fun z => h2 z.symm)]
set_option maxRecDepth 4000 in
theorem ctX11_readsMessF {SP : CT} (hSP : MONO SP) {sh : List (Nat × Nat)} {h : aH} (hG : GD gE gRL sh h) (hc : gi h 171 7 + gi h 171 22 ≤ 8) (ha : gi h 171 18 ≤ gi h 171 19) : CLd SP 6 mX11_readsMess [.ref 171] h 0 0 (fun rv h' => ((gi h 171 7 + gi h 171 22 = 8 ∧ rv = some (.int (I 0)) ∧ gi h' 171 18 = (gi h 171 18) ∧ gi h' 171 22 = gi h 171 22) ∨ (gi h 171 7 + gi h 171 22 < 8 ∧ (rdMess (fm h) (gi h 171 18)).1.1 = false ∧ rv = some (.int (I 0)) ∧ gi h' 171 18 = (rdMess (fm h) (gi h 171 18)).1.2 ∧ gi h' 171 22 ≤ gi h 171 22 + 1) ∨ (gi h 171 7 + gi h 171 22 < 8 ∧ (rdMess (fm h) (gi h 171 18)).1.1 = true ∧ rv = some (.int (I 1)) ∧ gi h' 171 18 = (rdMess (fm h) (gi h 171 18)).1.2 ∧ gi h' 171 22 = gi h 171 22 + 1 ∧ gi h' 181 (2 * gi h 171 22).toNat = (rdMess (fm h) (gi h 171 18)).2.1 ∧ gi h' 181 (2 * gi h 171 22 + 1).toNat = (rdMess (fm h) (gi h 171 18)).2.2 ∧ (gi h 171 18) < (rdMess (fm h) (gi h 171 18)).1.2 ∧ (0 ≤ (rdMess (fm h) (gi h 171 18)).2.1 ∧ (rdMess (fm h) (gi h 171 18)).2.1 ≤ 99) ∧ (0 ≤ (rdMess (fm h) (gi h 171 18)).2.2 ∧ (rdMess (fm h) (gi h 171 18)).2.2 ≤ 9) ∧ ∀ j, j ≠ (2 * gi h 171 22).toNat → j ≠ (2 * gi h 171 22 + 1).toNat → gi h' 181 j = gi h 181 j)) ∧ (gi h 171 18) ≤ gi h' 171 18 ∧ gi h' 171 18 ≤ gi h 171 19 ∧ GD gE gRL sh h' ∧ FRM gRL [(0, 54, 18, 18), (0, 54, 22, 22), (0, 64, 0, 31)] h h') := by
  refine x_met _ rfl (Nat.le_of_ble_eq_true rfl) (fun K hK => ?_)
  have hmono := MONO_CLd hSP 5
  have g22 := gri 0 16 hG (a := 171) (r := 54) (k := 22) rfl rfl
  have gc := gri 0 8 hG (a := 171) (r := 54) (k := 7) rfl rfl
  refine x_aload_n 1 hK rfl rfl rfl ?_
  have g204 := gri (0) (8) hG (a := 171) (r := 54) (k := 7) rfl rfl
  refine x_getE 4 hK rfl (Or.inl rfl) rfl (sp_171 (h := h) hG) (e := (gi h 171 7)) (rfl) ?_
  refine x_aload_n 5 hK rfl rfl rfl ?_
  have g205 := gri (0) (16) hG (a := 171) (r := 54) (k := 22) rfl rfl
  refine x_getE 8 hK rfl (Or.inl rfl) rfl (sp_171 (h := h) hG) (e := (gi h 171 22)) (rfl) ?_
  refine x_iadd 9 hK rfl rfl ?_
  refine x_bipush 11 hK rfl rfl rfl ?_
  refine x_if_icmp_ne 16 14 hK rfl rfl rfl (by omega) (by omega) (fun c7 => ?_) (fun c7 => ?_)
  · refine x_iconst 17 hK rfl rfl ?_
    refine x_aload_n 18 hK rfl rfl rfl ?_
    refine x_getE 21 hK rfl (Or.inl rfl) rfl (sp_171 (h := h) hG) (e := (gi h 171 22)) (rfl) ?_
    refine x_imul 22 hK rfl rfl ?_
    refine x_istore_n 23 hK rfl rfl [(1, .int (I (2 * (gi h 171 22)))), (0, .ref 171)] rfl ?_
    refine x_aload_n 24 hK rfl rfl rfl ?_
    refine x_getR 27 hK rfl rfl (sp_171 (h := h) hG) (rf_171_21 (h := h) hG) ?_
    refine x_iload_n 28 hK rfl rfl rfl ?_
    refine x_aload_n 29 hK rfl rfl rfl ?_
    refine x_iconst 30 hK rfl rfl ?_
    have g207 := gri (0) (81) hG (a := 171) (r := 54) (k := 18) rfl rfl
    have at206 : gi h 171 18 = (gi h 171 18) := rfl
    have fe206 : fm h = (fm h) := rfl
    have to206 : gi h 171 19 = gi h 171 19 := rfl
    refine x_callV 33 hK hmono rfl rfl [.ref 171, .int (I 2)] [.int (I (2 * (gi h 171 22))), .ref 181] rfl rfl (Nat.le_of_ble_eq_true rfl) (Nat.le_of_ble_eq_true rfl) rfl (sp_171 (h := h) hG) (CLd_le (Nat.le_of_ble_eq_true rfl) (ctX11_number hSP hG (n := 2) (by omega))) ?_
    rw [fe206, at206, to206]
    rintro v206 h206 ⟨⟨e206, rfl, nu206, ne206, nf206, ng206⟩, hG206, hF206, np206, nq206, nr206⟩
    have nm206 : nmF (fm h) 2 (gi h 171 18) = (e206, gi h206 171 18) := by rw [nu206, np206]; rfl
    clear nu206 np206
    generalize eq206 : gi h206 171 18 = p206 at *
    refine x_iastore 34 hK rfl rfl (sp_181 (h := h206) hG206) (by omega) (by omega) (by omega) ?_
    refine x_aload_n 35 hK rfl rfl rfl ?_
    refine x_getR 38 hK rfl rfl (sp_171 (h := h206) hG206) (rf_171_21 (h := h206) hG206) ?_
    refine x_iload_n 39 hK rfl rfl rfl ?_
    refine x_ialoadE 40 hK rfl rfl (sp_181 (h := h206) hG206) (by omega) (by omega) (by omega) (e' := e206) (gi_same (by omega)) ?_
    refine x_if_lt 52 43 hK rfl rfl rfl (by omega) (fun c24 => ?_) (fun c24 => ?_)
    · refine x_iconst 53 hK rfl rfl ?_
      have za : gi (wI h206 181 (2 * (gi h 171 22)).toNat e206) 171 18 = p206 := (gi_a (by decide) _).trans (eq206)
      have zb : gi (wI h206 181 (2 * (gi h 171 22)).toNat e206) 171 22 = (gi h 171 22) := (gi_a (by decide) _).trans (FRM_gi hF206 (r := 54) rfl rfl)
      have er : (rdMess (fm h) (gi h 171 18)) = ((false, p206), 0, 0) := by unfold rdMess; rw [nm206, if_pos (show e206 < 0 by omega)]
      exact x_zret hK rfl (by omega) ⟨Or.inr (Or.inl ⟨by omega, by rw [er], rfl, by rw [er]; exact za, by omega⟩), by omega, by omega, GD_wn (hG206) (r := 64) rfl rfl, FRM_wn 0 31 ((hF206).mono rfl) (r := 64) rfl rfl rfl (by omega) (by omega)⟩
    · refine x_aload_n 44 hK rfl rfl rfl ?_
      refine x_bipush 46 hK rfl rfl rfl ?_
      have hGp209 : GD gE gRL sh (wI h206 181 (2 * (gi h 171 22)).toNat e206) := GD_wn (hG206) (r := 64) rfl rfl
      have at208 : gi (wI h206 181 (2 * (gi h 171 22)).toNat e206) 171 18 = p206 := (gi_a (by decide) _).trans (eq206)
      have fe208 : fm (wI h206 181 (2 * (gi h 171 22)).toNat e206) = (fm h) := (fm_wI (by decide) (Or.inl (by decide))).trans (fm_F hF206 rfl rfl)
      have to208 : gi (wI h206 181 (2 * (gi h 171 22)).toNat e206) 171 19 = gi h 171 19 := (gi_a (by decide) _).trans (FRM_gi hF206 (r := 54) rfl rfl)
      refine x_callV 49 hK hmono rfl rfl [.ref 171, .int (I 42)] [] rfl rfl (Nat.le_of_ble_eq_true rfl) (Nat.le_of_ble_eq_true rfl) rfl (sp_171 (h := h206) hG206) (CLd_le (Nat.le_of_ble_eq_true rfl) (ctX11_takes hSP hGp209 (s := 42) (by omega))) ?_
      rw [fe208, at208, to208]
      rintro v208 h208 ⟨hG208, hF208, ⟨rfl, tk208, tt208, eq208⟩ | ⟨rfl, tk208, eq208⟩⟩
      · refine x_if_ne 54 52 hK rfl rfl rfl (by omega) (fun _ => ?_) (fun c => by omega)
        refine x_aload_n 55 hK rfl rfl rfl ?_
        refine x_getR 58 hK rfl rfl (sp_171 (h := h208) hG208) (rf_171_21 (h := h208) hG208) ?_
        refine x_iload_n 59 hK rfl rfl rfl ?_
        refine x_iconst 60 hK rfl rfl ?_
        refine x_iadd 61 hK rfl rfl ?_
        refine x_aload_n 62 hK rfl rfl rfl ?_
        refine x_iconst 63 hK rfl rfl ?_
        have at210 : gi h208 171 18 = (p206 + 1) := eq208
        have fe210 : fm h208 = (fm h) := (fm_F hF208 rfl rfl).trans ((fm_wI (by decide) (Or.inl (by decide))).trans (fm_F hF206 rfl rfl))
        have to210 : gi h208 171 19 = gi h 171 19 := (FRM_gi hF208 (r := 54) rfl rfl).trans ((gi_a (by decide) _).trans (FRM_gi hF206 (r := 54) rfl rfl))
        refine x_callV 66 hK hmono rfl rfl [.ref 171, .int (I 1)] [.int (I ((2 * (gi h 171 22)) + 1)), .ref 181] rfl rfl (Nat.le_of_ble_eq_true rfl) (Nat.le_of_ble_eq_true rfl) rfl (sp_171 (h := h208) hG208) (CLd_le (Nat.le_of_ble_eq_true rfl) (ctX11_number hSP hG208 (n := 1) (by omega))) ?_
        rw [fe210, at210, to210]
        rintro v210 h210 ⟨⟨e210, rfl, nu210, ne210, nf210, ng210⟩, hG210, hF210, np210, nq210, nr210⟩
        have nm210 : nmF (fm h) 1 (p206 + 1) = (e210, gi h210 171 18) := by rw [nu210, np210]; rfl
        clear nu210 np210
        generalize eq210 : gi h210 171 18 = p210 at *
        refine x_iastore 67 hK rfl rfl (sp_181 (h := h210) hG210) (by omega) (by omega) (by omega) ?_
        refine x_aload_n 68 hK rfl rfl rfl ?_
        refine x_dup 69 hK rfl rfl rfl ?_
        refine x_getE 72 hK rfl (Or.inl rfl) rfl (sp_171 (h := h210) hG210) (e := (gi h 171 22)) ((gi_a (by decide) _).trans ((FRM_gi hF210 (r := 54) rfl rfl).trans ((FRM_gi hF208 (r := 54) rfl rfl).trans ((gi_a (by decide) _).trans (FRM_gi hF206 (r := 54) rfl rfl))))) ?_
        refine x_iconst 73 hK rfl rfl ?_
        refine x_iadd 74 hK rfl rfl ?_
        refine x_putI 77 hK rfl rfl (sp_171 (h := h210) hG210) ?_
        refine x_aload_n 78 hK rfl rfl rfl ?_
        refine x_getR 81 hK rfl rfl (sp_171 (h := h210) hG210) (rf_171_21 (h := h210) hG210) ?_
        refine x_iload_n 82 hK rfl rfl rfl ?_
        refine x_iconst 83 hK rfl rfl ?_
        refine x_iadd 84 hK rfl rfl ?_
        refine x_ialoadE 85 hK rfl rfl (sp_181 (h := h210) hG210) (by omega) (by omega) (by omega) (e' := e210) ((gi_a (by decide) _).trans (gi_same (by omega))) ?_
        refine x_if_lt 92 88 hK rfl rfl rfl (by omega) (fun c52 => ?_) (fun c52 => ?_)
        · refine x_iconst 93 hK rfl rfl ?_
          have za : gi (wI (wI h210 181 ((2 * (gi h 171 22)) + 1).toNat e210) 171 22 ((gi h 171 22) + 1)) 171 18 = p210 := (gi_k (by decide) _).trans ((gi_a (by decide) _).trans (eq210))
          have zb : gi (wI (wI h210 181 ((2 * (gi h 171 22)) + 1).toNat e210) 171 22 ((gi h 171 22) + 1)) 171 22 = ((gi h 171 22) + 1) := gi_same (by omega)
          have er : (rdMess (fm h) (gi h 171 18)) = ((false, p210), 0, 0) := by unfold rdMess; rw [nm206]; show (if e206 < 0 then _ else if fm h p206 ≠ 42 then _ else if (nmF (fm h) 1 (p206 + 1)).1 < 0 then _ else _) = _; rw [if_neg (by omega), if_neg (by omega), nm210, if_pos (show e210 < 0 by omega)]
          exact x_zret hK rfl (by omega) ⟨Or.inr (Or.inl ⟨by omega, by rw [er], rfl, by rw [er]; exact za, by omega⟩), by omega, by omega, GD_w1 (GD_wn (hG210) (r := 64) rfl rfl) (r := 54) rfl (by omega) rfl (by omega) (by omega), FRM_w (FRM_wn 0 31 (((FRM_wn 0 31 ((hF206).mono rfl) (r := 64) rfl rfl rfl (by omega) (by omega)).trans ((hF208).mono rfl)).trans ((hF210).mono rfl)) (r := 64) rfl rfl rfl (by omega) (by omega)) (r := 54) rfl rfl⟩
        · refine x_iconst 89 hK rfl rfl ?_
          refine x_goto 93 hK rfl rfl ?_
          have za : gi (wI (wI h210 181 ((2 * (gi h 171 22)) + 1).toNat e210) 171 22 ((gi h 171 22) + 1)) 171 18 = p210 := (gi_k (by decide) _).trans ((gi_a (by decide) _).trans (eq210))
          have zb : gi (wI (wI h210 181 ((2 * (gi h 171 22)) + 1).toNat e210) 171 22 ((gi h 171 22) + 1)) 171 22 = ((gi h 171 22) + 1) := gi_same (by omega)
          have er : (rdMess (fm h) (gi h 171 18)) = ((true, p210), e206, e210) := by unfold rdMess; rw [nm206]; show (if e206 < 0 then _ else if fm h p206 ≠ 42 then _ else if (nmF (fm h) 1 (p206 + 1)).1 < 0 then _ else _) = _; rw [if_neg (by omega), if_neg (by omega), nm210, if_neg (show ¬ e210 < 0 by omega)]
          have y0 : gi (wI (wI h210 181 ((2 * (gi h 171 22)) + 1).toNat e210) 171 22 ((gi h 171 22) + 1)) 181 (2 * (gi h 171 22)).toNat = e206 := (gi_a (by decide) _).trans ((gi_k (by omega) _).trans ((FRM_gi hF210 (r := 64) rfl rfl).trans ((FRM_gi hF208 (r := 64) rfl rfl).trans (gi_same (by omega)))))
          have y1 : gi (wI (wI h210 181 ((2 * (gi h 171 22)) + 1).toNat e210) 171 22 ((gi h 171 22) + 1)) 181 ((2 * (gi h 171 22)) + 1).toNat = e210 := (gi_a (by decide) _).trans (gi_same (by omega))
          exact x_zret hK rfl (by omega) ⟨Or.inr (Or.inr ⟨by omega, by rw [er], rfl, by rw [er]; exact za, by omega, by rw [er]; exact y0, by rw [er]; exact y1, by rw [er]; show _ < p210; omega, by rw [er]; show 0 ≤ e206 ∧ e206 ≤ 99; omega, by rw [er]; show 0 ≤ e210 ∧ e210 ≤ 9; omega, fun j h5 h6 => (gi_a (by decide) _).trans ((gi_k (by omega) _).trans ((FRM_gi hF210 (r := 64) rfl rfl).trans ((FRM_gi hF208 (r := 64) rfl rfl).trans ((gi_k (by omega) _).trans (FRM_gi hF206 (r := 64) rfl rfl)))))⟩), by omega, by omega, GD_w1 (GD_wn (hG210) (r := 64) rfl rfl) (r := 54) rfl (by omega) rfl (by omega) (by omega), FRM_w (FRM_wn 0 31 (((FRM_wn 0 31 ((hF206).mono rfl) (r := 64) rfl rfl rfl (by omega) (by omega)).trans ((hF208).mono rfl)).trans ((hF210).mono rfl)) (r := 64) rfl rfl rfl (by omega) (by omega)) (r := 54) rfl rfl⟩
      · refine x_if_ne 54 52 hK rfl rfl rfl (by omega) (fun c => by omega) (fun _ => ?_)
        refine x_iconst 53 hK rfl rfl ?_
        have za : gi h208 171 18 = p206 := eq208
        have zb : gi h208 171 22 = (gi h 171 22) := (FRM_gi hF208 (r := 54) rfl rfl).trans ((gi_a (by decide) _).trans (FRM_gi hF206 (r := 54) rfl rfl))
        have er : (rdMess (fm h) (gi h 171 18)) = ((false, p206), 0, 0) := by unfold rdMess; rw [nm206, if_neg (show ¬ e206 < 0 by omega), if_pos (show fm h p206 ≠ 42 by omega)]
        exact x_zret hK rfl (by omega) ⟨Or.inr (Or.inl ⟨by omega, by rw [er], rfl, by rw [er]; exact za, by omega⟩), by omega, by omega, hG208, (FRM_wn 0 31 ((hF206).mono rfl) (r := 64) rfl rfl rfl (by omega) (by omega)).trans ((hF208).mono rfl)⟩
  · refine x_iconst 15 hK rfl rfl ?_
    exact x_zret hK rfl (by omega) ⟨Or.inl ⟨by omega, rfl, rfl, rfl⟩, Int.le_refl _, ha, hG, (FRM.rf : FRM gRL [(0, 54, 18, 18), (0, 54, 22, 22), (0, 64, 0, 31)] h h)⟩
