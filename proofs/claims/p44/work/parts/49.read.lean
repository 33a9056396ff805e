/-! THE REFERENCE READS A TEXT; the texts that it holds it against -/
/-- what is said of the JDK's own String.length and String.charAt, at the six texts -/
def SPt : CT := fun mid as h _ _ Q => (mid = mJ0_length_8abf5 ∧ ∃ b, b < 6 ∧ as = [.ref (1000000 + b)] ∧ Q (some (.int (I (leJ.getD b 0 : Nat)))) h) ∨ (mid = mJ0_charAt_5068e ∧ ∃ (b : Nat) (k : Int), b < 6 ∧ 0 ≤ k ∧ k < (leJ.getD b 0 : Nat) ∧ as = [.ref (1000000 + b), .int (I k)] ∧ Q (some (.int ((byJ.getD b []).getD k.toNat 0))) h)
theorem SPt_mono : MONO SPt := by
  intro mid as h mc ms Q Q' hq hs
  rcases hs with ⟨e, b, h1, h2, h3⟩ | ⟨e, b, k, h1, h2, h3, h4, h5⟩
  · exact Or.inl ⟨e, b, h1, h2, hq _ _ h3⟩
  · exact Or.inr ⟨e, b, k, h1, h2, h3, h4, hq _ _ h5⟩
theorem tx_length {h : aH} {b : Nat} (hb : b < 6) {d : Nat} : CLd SPt (d + 1) mJ0_length_8abf5 [.ref (1000000 + b)] h 0 0 (fun rv h' => h' = h ∧ rv = some (.int (I (leJ.getD b 0 : Nat)))) := Or.inl (Or.inl ⟨rfl, b, hb, rfl, rfl, rfl⟩)
theorem tx_charAt {h : aH} {b : Nat} {k : Int} (hb : b < 6) (h0 : 0 ≤ k) (h1 : k < (leJ.getD b 0 : Nat)) {d : Nat} : CLd SPt (d + 1) mJ0_charAt_5068e [.ref (1000000 + b), .int (I k)] h 0 0 (fun rv h' => h' = h ∧ rv = some (.int ((byJ.getD b []).getD k.toNat 0))) := Or.inl (Or.inr ⟨rfl, b, k, hb, h0, h1, rfl, rfl, rfl⟩)
theorem le_by {b : Nat} (hb : b < 6) : (byJ.getD b []).length = leJ.getD b 0 ∧ leJ.getD b 0 ≤ 13 := by
  have : ∀ b, b < 6 → (byJ.getD b []).length = leJ.getD b 0 ∧ leJ.getD b 0 ≤ 13 := by decide
  exact this b hb
/-- the sign at place a of the reference's text; -1 at its end -/
def fm (h : aH) (a : Int) : Int := if 0 ≤ a ∧ a < gi h 171 19 ∧ a < 80 then gi h 180 a.toNat else -1
/-- where a sign stands among some; -1: nowhere -/
def fidx (s : Int) : List Int32 → Nat → Int
  | [], _ => -1
  | c :: t, k => if c.toInt = s then k else fidx s t (k + 1)
theorem fidx_cons (s : Int) (c : Int32) (t : List Int32) (k : Nat) : fidx s (c :: t) k = if c.toInt = s then (k : Int) else fidx s t (k + 1) := rfl
theorem drop_getD {l : List Int32} {k : Nat} (hk : k < l.length) : l.drop k = l.getD k 0 :: l.drop (k + 1) := by
  rw [List.drop_eq_getElem_cons hk]
  simp [List.getD, List.getElem?_eq_getElem hk]
theorem fidx_r (s : Int) : ∀ (l : List Int32) (k : Nat), -1 ≤ fidx s l k ∧ fidx s l k < k + l.length
  | [], k => ⟨Int.le_refl _, by show (-1 : Int) < k + 0; omega⟩
  | c :: t, k => by
    unfold fidx
    have := fidx_r s t (k + 1)
    simp only [List.length_cons]
    split <;> omega
/-- (place, end) of the reader -/
theorem at_r {sh : List (Nat × Nat)} {h : aH} (hG : GD gE gRL sh h) : (0 ≤ gi h 171 18 ∧ gi h 171 18 ≤ 81) ∧ (0 ≤ gi h 171 19 ∧ gi h 171 19 ≤ 80) := ⟨gri 0 81 hG (r := 54) rfl rfl, gri 0 80 hG (r := 54) rfl rfl⟩
theorem fm_pos {h : aH} {a : Int} (h0 : 0 ≤ a) (h1 : a < gi h 171 19) (h2 : gi h 171 19 ≤ 80) : fm h a = gi h 180 a.toNat := by
  unfold fm
  rw [if_pos ⟨h0, h1, by omega⟩]
theorem fm_neg {h : aH} {a : Int} (h1 : gi h 171 19 ≤ a) : fm h a = -1 := by
  unfold fm
  rw [if_neg (by omega)]
theorem ctX11_isDigit {SP : CT} (hSP : MONO SP) {sh : List (Nat × Nat)} {h : aH} (hG : GD gE gRL sh h) : CLd SP 2 mX11_isDigit [.ref 171] h 0 0 (fun rv h' => h' = h ∧ ((rv = some (.int (I 1)) ∧ 48 ≤ fm h (gi h 171 18) ∧ fm h (gi h 171 18) ≤ 57 ∧ gi h 171 18 < gi h 171 19) ∨ (rv = some (.int (I 0)) ∧ ¬ (48 ≤ fm h (gi h 171 18) ∧ fm h (gi h 171 18) ≤ 57)))) := by
  refine x_met _ rfl (Nat.le_of_ble_eq_true rfl) (fun K hK => ?_)
  have hmono := MONO_CLd hSP 1
  have ar := at_r hG
  have g18 := gi_r h 171 18
  have g180 := gi_r h 180 (gi h 171 18).toNat
  refine x_aload_n 1 hK rfl rfl rfl ?_
  refine x_getE 4 hK rfl (Or.inl rfl) rfl (sp_171 (h := h) hG) (e := (gi h 171 18)) (rfl) ?_
  refine x_aload_n 5 hK rfl rfl rfl ?_
  refine x_getE 8 hK rfl (Or.inl rfl) rfl (sp_171 (h := h) hG) (e := (gi h 171 19)) (rfl) ?_
  refine x_if_icmp_ge 37 11 hK rfl rfl rfl (by omega) (by omega) (fun c5 => ?_) (fun c5 => ?_)
  · refine x_iconst 38 hK rfl rfl ?_
    first
      | (rw [← fm_pos (h := h) (by omega) (by omega) (by omega)] at i1; exact x_zret hK rfl (by omega) ⟨rfl, Or.inr ⟨rfl, i1⟩⟩)
      | exact x_zret hK rfl (by omega) ⟨rfl, Or.inr ⟨rfl, by rw [fm_neg (by omega)]; omega⟩⟩
  · refine x_aload_n 12 hK rfl rfl rfl ?_
    refine x_getR 15 hK rfl rfl (sp_171 (h := h) hG) (rf_171_16 (h := h) hG) ?_
    refine x_aload_n 16 hK rfl rfl rfl ?_
    refine x_getE 19 hK rfl (Or.inl rfl) rfl (sp_171 (h := h) hG) (e := (gi h 171 18)) (rfl) ?_
    refine x_ialoadE 20 hK rfl rfl (sp_180 (h := h) hG) (by omega) (by omega) (by omega) (e' := (gi h 180 (gi h 171 18).toNat)) (rfl) ?_
    refine x_i2l 21 hK rfl rfl (by omega) ?_
    refine x_ldc2_w 24 hK rfl rfl ?_
    refine x_ldc2_w 27 hK rfl rfl ?_
    refine x_callS 30 hK hmono rfl (Or.inl rfl) rfl [.long (J (gi h 180 (gi h 171 18).toNat)), .long (J 48), .long (J 57)] [] rfl rfl (Nat.le_of_ble_eq_true rfl) (Nat.le_of_ble_eq_true rfl) (CLd_le (Nat.le_of_ble_eq_true rfl) (ctX11_in (by omega) (by omega) (by omega))) ?_
    rintro v9 h9 ⟨e9, ⟨rfl, i1, i2⟩ | ⟨rfl, i1⟩⟩ <;> rw [e9] <;> clear e9
    · refine x_if_eq 37 33 hK rfl rfl rfl (by omega) (fun c => by omega) (fun _ => ?_)
      refine x_iconst 34 hK rfl rfl ?_
      refine x_goto 38 hK rfl rfl ?_
      rw [← fm_pos (h := h) (by omega) (by omega) (by omega)] at i1 i2
      exact x_zret hK rfl (by omega) ⟨rfl, Or.inl ⟨rfl, i1, i2, by omega⟩⟩
    · refine x_if_eq 37 33 hK rfl rfl rfl (by omega) (fun _ => ?_) (fun c => by omega)
      refine x_iconst 38 hK rfl rfl ?_
      first
        | (rw [← fm_pos (h := h) (by omega) (by omega) (by omega)] at i1; exact x_zret hK rfl (by omega) ⟨rfl, Or.inr ⟨rfl, i1⟩⟩)
        | exact x_zret hK rfl (by omega) ⟨rfl, Or.inr ⟨rfl, by rw [fm_neg (by omega)]; omega⟩⟩
theorem ctX11_takes {SP : CT} (hSP : MONO SP) {sh : List (Nat × Nat)} {h : aH} (hG : GD gE gRL sh h) {s : Int} (hs : 0 ≤ s ∧ s ≤ 65535) : CLd SP 2 mX11_takes [.ref 171, .int (I s)] h 0 0 (fun rv h' => GD gE gRL sh h' ∧ FRM gRL [(0, 54, 18, 18)] h h' ∧ ((rv = some (.int (I 1)) ∧ fm h (gi h 171 18) = s ∧ gi h 171 18 < gi h 171 19 ∧ gi h' 171 18 = gi h 171 18 + 1) ∨ (rv = some (.int (I 0)) ∧ fm h (gi h 171 18) ≠ s ∧ gi h' 171 18 = gi h 171 18))) := by
  refine x_met _ rfl (Nat.le_of_ble_eq_true rfl) (fun K hK => ?_)
  have hmono := MONO_CLd hSP 1
  have ar := at_r hG
  have g18 := gi_r h 171 18
  have g180 := gi_r h 180 (gi h 171 18).toNat
  refine x_aload_n 1 hK rfl rfl rfl ?_
  refine x_getE 4 hK rfl (Or.inl rfl) rfl (sp_171 (h := h) hG) (e := (gi h 171 18)) (rfl) ?_
  refine x_aload_n 5 hK rfl rfl rfl ?_
  refine x_getE 8 hK rfl (Or.inl rfl) rfl (sp_171 (h := h) hG) (e := (gi h 171 19)) (rfl) ?_
  refine x_if_icmp_ge 28 11 hK rfl rfl rfl (by omega) (by omega) (fun c5 => ?_) (fun c5 => ?_)
  · refine x_iconst 29 hK rfl rfl ?_
    refine x_istore_n 30 hK rfl rfl [(2, .int (I 0)), (0, .ref 171), (1, .int (I s))] rfl ?_
    refine x_aload_n 31 hK rfl rfl rfl ?_
    refine x_dup 32 hK rfl rfl rfl ?_
    refine x_getE 35 hK rfl (Or.inl rfl) rfl (sp_171 (h := h) hG) (e := (gi h 171 18)) (rfl) ?_
    refine x_iload_n 36 hK rfl rfl rfl ?_
    refine x_callS 39 hK hmono rfl (Or.inl rfl) rfl [.int (I 0)] [.int (I (gi h 171 18)), .ref 171] rfl rfl (Nat.le_of_ble_eq_true rfl) (Nat.le_of_ble_eq_true rfl) (CLd_le (Nat.le_of_ble_eq_true rfl) (ctX11_flag (by omega))) ?_
    rintro v9 h9 ⟨e9, rfl⟩
    rw [e9]
    clear e9
    refine x_iadd 40 hK rfl rfl ?_
    refine x_putI 43 hK rfl rfl (sp_171 (h := h) hG) ?_
    refine x_iload_n 44 hK rfl rfl rfl ?_
    exact x_zret hK rfl (by omega) ⟨GD_w1 (hG) (r := 54) rfl (by omega) rfl (by omega) (by omega), FRM_w (FRM.rf) (r := 54) rfl rfl, Or.inr ⟨rfl, by first | (rw [fm_neg (by omega)]; omega) | (rw [fm_pos (by omega) (by omega) (by omega)]; omega), (gi_same (by omega)).trans (Int.add_zero _)⟩⟩
  · refine x_aload_n 12 hK rfl rfl rfl ?_
    refine x_getR 15 hK rfl rfl (sp_171 (h := h) hG) (rf_171_16 (h := h) hG) ?_
    refine x_aload_n 16 hK rfl rfl rfl ?_
    refine x_getE 19 hK rfl (Or.inl rfl) rfl (sp_171 (h := h) hG) (e := (gi h 171 18)) (rfl) ?_
    refine x_ialoadE 20 hK rfl rfl (sp_180 (h := h) hG) (by omega) (by omega) (by omega) (e' := (gi h 180 (gi h 171 18).toNat)) (rfl) ?_
    refine x_iload_n 21 hK rfl rfl rfl ?_
    refine x_if_icmp_ne 28 24 hK rfl rfl rfl (by omega) (by omega) (fun c23 => ?_) (fun c23 => ?_)
    · refine x_iconst 29 hK rfl rfl ?_
      refine x_istore_n 30 hK rfl rfl [(2, .int (I 0)), (0, .ref 171), (1, .int (I s))] rfl ?_
      refine x_aload_n 31 hK rfl rfl rfl ?_
      refine x_dup 32 hK rfl rfl rfl ?_
      refine x_getE 35 hK rfl (Or.inl rfl) rfl (sp_171 (h := h) hG) (e := (gi h 171 18)) (rfl) ?_
      refine x_iload_n 36 hK rfl rfl rfl ?_
      refine x_callS 39 hK hmono rfl (Or.inl rfl) rfl [.int (I 0)] [.int (I (gi h 171 18)), .ref 171] rfl rfl (Nat.le_of_ble_eq_true rfl) (Nat.le_of_ble_eq_true rfl) (CLd_le (Nat.le_of_ble_eq_true rfl) (ctX11_flag (by omega))) ?_
      rintro v9 h9 ⟨e9, rfl⟩
      rw [e9]
      clear e9
      refine x_iadd 40 hK rfl rfl ?_
      refine x_putI 43 hK rfl rfl (sp_171 (h := h) hG) ?_
      refine x_iload_n 44 hK rfl rfl rfl ?_
      exact x_zret hK rfl (by omega) ⟨GD_w1 (hG) (r := 54) rfl (by omega) rfl (by omega) (by omega), FRM_w (FRM.rf) (r := 54) rfl rfl, Or.inr ⟨rfl, by first | (rw [fm_neg (by omega)]; omega) | (rw [fm_pos (by omega) (by omega) (by omega)]; omega), (gi_same (by omega)).trans (Int.add_zero _)⟩⟩
    · refine x_iconst 25 hK rfl rfl ?_
      refine x_goto 29 hK rfl rfl ?_
      refine x_istore_n 30 hK rfl rfl [(2, .int (I 1)), (0, .ref 171), (1, .int (I s))] rfl ?_
      refine x_aload_n 31 hK rfl rfl rfl ?_
      refine x_dup 32 hK rfl rfl rfl ?_
      refine x_getE 35 hK rfl (Or.inl rfl) rfl (sp_171 (h := h) hG) (e := (gi h 171 18)) (rfl) ?_
      refine x_iload_n 36 hK rfl rfl rfl ?_
      refine x_callS 39 hK hmono rfl (Or.inl rfl) rfl [.int (I 1)] [.int (I (gi h 171 18)), .ref 171] rfl rfl (Nat.le_of_ble_eq_true rfl) (Nat.le_of_ble_eq_true rfl) (CLd_le (Nat.le_of_ble_eq_true rfl) (ctX11_flag (by omega))) ?_
      rintro v9 h9 ⟨e9, rfl⟩
      rw [e9]
      clear e9
      refine x_iadd 40 hK rfl rfl ?_
      refine x_putI 43 hK rfl rfl (sp_171 (h := h) hG) ?_
      refine x_iload_n 44 hK rfl rfl rfl ?_
      exact x_zret hK rfl (by omega) ⟨GD_w1 (hG) (r := 54) rfl (by omega) rfl (by omega) (by omega), FRM_w (FRM.rf) (r := 54) rfl rfl, Or.inl ⟨rfl, by rw [fm_pos (by omega) (by omega) (by omega)]; omega, by omega, gi_same (by omega)⟩⟩
theorem ctX11_begins {SP : CT} (hSP : MONO SP) {sh : List (Nat × Nat)} {h : aH} (hG : GD gE gRL sh h) {n : Int} (hn : 0 ≤ n ∧ n ≤ 80) : CLd SP 1 mX11_begins [.ref 171, .int (I n)] h 0 0 (fun rv h' => rv = some (.int (I (gi h 171 17))) ∧ GD gE gRL sh h' ∧ FRM gRL [(0, 54, 17, 20)] h h' ∧ gi h' 171 17 = 0 ∧ gi h' 171 18 = 0 ∧ gi h' 171 20 = 0 ∧ gi h' 171 19 = min (gi h 171 17) n) := by
  refine x_met _ rfl (Nat.le_of_ble_eq_true rfl) (fun K hK => ?_)
  have hmono := MONO_CLd hSP 0
  have gt := gri 0 80 hG (a := 171) (r := 54) (k := 17) rfl rfl
  refine x_aload_n 1 hK rfl rfl rfl ?_
  refine x_getE 4 hK rfl (Or.inl rfl) rfl (sp_171 (h := h) hG) (e := (gi h 171 17)) (rfl) ?_
  refine x_istore_n 5 hK rfl rfl [(2, .int (I (gi h 171 17))), (0, .ref 171), (1, .int (I n))] rfl ?_
  refine x_aload_n 6 hK rfl rfl rfl ?_
  refine x_iconst 7 hK rfl rfl ?_
  refine x_putI 10 hK rfl rfl (sp_171 (h := h) hG) ?_
  refine x_aload_n 11 hK rfl rfl rfl ?_
  refine x_iconst 12 hK rfl rfl ?_
  refine x_putI 15 hK rfl rfl (sp_171 (h := h) hG) ?_
  refine x_aload_n 16 hK rfl rfl rfl ?_
  refine x_iconst 17 hK rfl rfl ?_
  refine x_putI 20 hK rfl rfl (sp_171 (h := h) hG) ?_
  refine x_aload_n 21 hK rfl rfl rfl ?_
  refine x_iload_n 22 hK rfl rfl rfl ?_
  refine x_iload_n 23 hK rfl rfl rfl ?_
  refine x_min 26 hK rfl rfl (Nat.le_of_ble_eq_true rfl) (by omega) (by omega) ?_
  refine x_putI 29 hK rfl rfl (sp_171 (h := h) hG) ?_
  refine x_iload_n 30 hK rfl rfl rfl ?_
  exact x_iret hK rfl ⟨rfl, GD_w1 (GD_w1 (GD_w1 (GD_w1 (hG) (r := 54) rfl (by omega) rfl (by omega) (by omega)) (r := 54) rfl (by omega) rfl (by omega) (by omega)) (r := 54) rfl (by omega) rfl (by omega) (by omega)) (r := 54) rfl (by omega) rfl (by omega) (by omega), FRM_w (FRM_w (FRM_w (FRM_w (FRM.rf) (r := 54) rfl rfl) (r := 54) rfl rfl) (r := 54) rfl rfl) (r := 54) rfl rfl, (gi_k (by decide) _).trans ((gi_k (by decide) _).trans ((gi_k (by decide) _).trans (gi_same (by omega)))), (gi_k (by decide) _).trans ((gi_k (by decide) _).trans (gi_same (by omega))), (gi_k (by decide) _).trans (gi_same (by omega)), gi_same (by omega)⟩
theorem ctX11_faultOf {SP : CT} (hSP : MONO SP) {sh : List (Nat × Nat)} {h : aH} (hG : GD gE gRL sh h) {n m e : Int} (hn : r32 n) (hm : 0 ≤ m ∧ m ≤ 80) (he : e = 0 ∨ e = 1) : CLd SP 1 mX11_faultOf [.ref 171, .int (I n), .int (I m), .int (I e)] h 0 0 (fun rv h' => h' = h ∧ rv = some (.int (I (if m < n ∧ ((e = 1 ∧ gi h 171 18 = gi h 171 19) ∨ m ≤ gi h 171 18) then -1 - m else if e = 1 ∧ gi h 171 18 = gi h 171 19 then 0 else -1 - gi h 171 18)))) := by
  refine x_met _ rfl (Nat.le_of_ble_eq_true rfl) (fun K hK => ?_)
  have hmono := MONO_CLd hSP 0
  have ar := at_r hG
  have g18 := gi_r h 171 18
  refine x_iload_n 1 hK rfl rfl rfl ?_
  refine x_if_eq 19 4 hK rfl rfl rfl (by omega) (fun c2 => ?_) (fun c2 => ?_)
  · refine x_iconst 20 hK rfl rfl ?_
    refine x_istore 22 hK rfl rfl [(4, .int (I 0)), (0, .ref 171), (1, .int (I n)), (2, .int (I m)), (3, .int (I e))] rfl ?_
    refine x_iload_n 23 hK rfl rfl rfl ?_
    refine x_iload_n 24 hK rfl rfl rfl ?_
    refine x_if_icmp_le 44 27 hK rfl rfl rfl (by omega) (by omega) (fun c7 => ?_) (fun c7 => ?_)
    · refine x_iload 46 hK rfl rfl rfl ?_
      refine x_if_eq 53 49 hK rfl rfl rfl (by omega) (fun _ => ?_) (fun c => by omega)
      refine x_iconst 54 hK rfl rfl ?_
      refine x_aload_n 55 hK rfl rfl rfl ?_
      refine x_getE 58 hK rfl (Or.inl rfl) rfl (sp_171 (h := h) hG) (e := (gi h 171 18)) (rfl) ?_
      refine x_isub 59 hK rfl rfl ?_
      refine x_iret hK rfl ⟨rfl, ?_⟩
      rw [if_neg (by omega), if_neg (by omega)]
    · refine x_iload 29 hK rfl rfl rfl ?_
      refine x_if_ne 40 32 hK rfl rfl rfl (by omega) (fun c => by omega) (fun _ => ?_)
      refine x_aload_n 33 hK rfl rfl rfl ?_
      refine x_getE 36 hK rfl (Or.inl rfl) rfl (sp_171 (h := h) hG) (e := (gi h 171 18)) (rfl) ?_
      refine x_iload_n 37 hK rfl rfl rfl ?_
      refine x_if_icmp_lt 44 40 hK rfl rfl rfl (by omega) (by omega) (fun c20 => ?_) (fun c20 => ?_)
      · refine x_iload 46 hK rfl rfl rfl ?_
        refine x_if_eq 53 49 hK rfl rfl rfl (by omega) (fun _ => ?_) (fun c => by omega)
        refine x_iconst 54 hK rfl rfl ?_
        refine x_aload_n 55 hK rfl rfl rfl ?_
        refine x_getE 58 hK rfl (Or.inl rfl) rfl (sp_171 (h := h) hG) (e := (gi h 171 18)) (rfl) ?_
        refine x_isub 59 hK rfl rfl ?_
        refine x_iret hK rfl ⟨rfl, ?_⟩
        rw [if_neg (by omega), if_neg (by omega)]
      · refine x_iconst 41 hK rfl rfl ?_
        refine x_iload_n 42 hK rfl rfl rfl ?_
        refine x_isub 43 hK rfl rfl ?_
        refine x_iret hK rfl ⟨rfl, ?_⟩
        rw [if_pos (by omega)]
  · refine x_aload_n 5 hK rfl rfl rfl ?_
    refine x_getE 8 hK rfl (Or.inl rfl) rfl (sp_171 (h := h) hG) (e := (gi h 171 18)) (rfl) ?_
    refine x_aload_n 9 hK rfl rfl rfl ?_
    refine x_getE 12 hK rfl (Or.inl rfl) rfl (sp_171 (h := h) hG) (e := (gi h 171 19)) (rfl) ?_
    refine x_if_icmp_ne 19 15 hK rfl rfl rfl (by omega) (by omega) (fun c36 => ?_) (fun c36 => ?_)
    · refine x_iconst 20 hK rfl rfl ?_
      refine x_istore 22 hK rfl rfl [(4, .int (I 0)), (0, .ref 171), (1, .int (I n)), (2, .int (I m)), (3, .int (I e))] rfl ?_
      refine x_iload_n 23 hK rfl rfl rfl ?_
      refine x_iload_n 24 hK rfl rfl rfl ?_
      refine x_if_icmp_le 44 27 hK rfl rfl rfl (by omega) (by omega) (fun c41 => ?_) (fun c41 => ?_)
      · refine x_iload 46 hK rfl rfl rfl ?_
        refine x_if_eq 53 49 hK rfl rfl rfl (by omega) (fun _ => ?_) (fun c => by omega)
        refine x_iconst 54 hK rfl rfl ?_
        refine x_aload_n 55 hK rfl rfl rfl ?_
        refine x_getE 58 hK rfl (Or.inl rfl) rfl (sp_171 (h := h) hG) (e := (gi h 171 18)) (rfl) ?_
        refine x_isub 59 hK rfl rfl ?_
        refine x_iret hK rfl ⟨rfl, ?_⟩
        rw [if_neg (by omega), if_neg (by omega)]
      · refine x_iload 29 hK rfl rfl rfl ?_
        refine x_if_ne 40 32 hK rfl rfl rfl (by omega) (fun c => by omega) (fun _ => ?_)
        refine x_aload_n 33 hK rfl rfl rfl ?_
        refine x_getE 36 hK rfl (Or.inl rfl) rfl (sp_171 (h := h) hG) (e := (gi h 171 18)) (rfl) ?_
        refine x_iload_n 37 hK rfl rfl rfl ?_
        refine x_if_icmp_lt 44 40 hK rfl rfl rfl (by omega) (by omega) (fun c54 => ?_) (fun c54 => ?_)
        · refine x_iload 46 hK rfl rfl rfl ?_
          refine x_if_eq 53 49 hK rfl rfl rfl (by omega) (fun _ => ?_) (fun c => by omega)
          refine x_iconst 54 hK rfl rfl ?_
          refine x_aload_n 55 hK rfl rfl rfl ?_
          refine x_getE 58 hK rfl (Or.inl rfl) rfl (sp_171 (h := h) hG) (e := (gi h 171 18)) (rfl) ?_
          refine x_isub 59 hK rfl rfl ?_
          refine x_iret hK rfl ⟨rfl, ?_⟩
          rw [if_neg (by omega), if_neg (by omega)]
        · refine x_iconst 41 hK rfl rfl ?_
          refine x_iload_n 42 hK rfl rfl rfl ?_
          refine x_isub 43 hK rfl rfl ?_
          refine x_iret hK rfl ⟨rfl, ?_⟩
          rw [if_pos (by omega)]
    · refine x_iconst 16 hK rfl rfl ?_
      refine x_goto 20 hK rfl rfl ?_
      refine x_istore 22 hK rfl rfl [(4, .int (I 1)), (0, .ref 171), (1, .int (I n)), (2, .int (I m)), (3, .int (I e))] rfl ?_
      refine x_iload_n 23 hK rfl rfl rfl ?_
      refine x_iload_n 24 hK rfl rfl rfl ?_
      refine x_if_icmp_le 44 27 hK rfl rfl rfl (by omega) (by omega) (fun c71 => ?_) (fun c71 => ?_)
      · refine x_iload 46 hK rfl rfl rfl ?_
        refine x_if_eq 53 49 hK rfl rfl rfl (by omega) (fun c => by omega) (fun _ => ?_)
        refine x_iconst 50 hK rfl rfl ?_
        refine x_goto 59 hK rfl rfl ?_
        refine x_iret hK rfl ⟨rfl, ?_⟩
        rw [if_neg (by omega), if_pos (by omega)]
      · refine x_iload 29 hK rfl rfl rfl ?_
        refine x_if_ne 40 32 hK rfl rfl rfl (by omega) (fun _ => ?_) (fun c => by omega)
        refine x_iconst 41 hK rfl rfl ?_
        refine x_iload_n 42 hK rfl rfl rfl ?_
        refine x_isub 43 hK rfl rfl ?_
        refine x_iret hK rfl ⟨rfl, ?_⟩
        rw [if_pos (by omega)]
theorem ctX11_number {SP : CT} (hSP : MONO SP) {sh : List (Nat × Nat)} {h : aH} (hG : GD gE gRL sh h) {n : Int} (hn : 1 ≤ n ∧ n ≤ 3) : CLd SP 3 mX11_number [.ref 171, .int (I n)] h 0 0 (fun rv h' => (∃ e, rv = some (.int (I e)) ∧ (e = if (tkv (fm h) n.toNat (gi h 171 18) 0).2 = gi h 171 18 then -1 else (tkv (fm h) n.toNat (gi h 171 18) 0).1) ∧ (e = -1 ∨ (0 ≤ e ∧ (n = 1 → e ≤ 9) ∧ (n = 2 → e ≤ 99) ∧ e ≤ 999)) ∧ (0 ≤ e → gi h 171 18 < gi h' 171 18) ∧ (e = -1 → gi h' 171 18 = gi h 171 18)) ∧ GD gE gRL sh h' ∧ FRM gRL [(0, 54, 18, 18)] h h' ∧ gi h' 171 18 = (tkv (fm h) n.toNat (gi h 171 18) 0).2 ∧ gi h 171 18 ≤ gi h' 171 18 ∧ (gi h 171 18 ≤ gi h 171 19 → gi h' 171 18 ≤ gi h 171 19)) := by
  refine x_met _ rfl (Nat.le_of_ble_eq_true rfl) (fun K hK => ?_)
  have hmono := MONO_CLd hSP 2
  have ar := at_r hG
  have g18 := gi_r h 171 18
  have loop : ∀ (m : Nat) (r v : Int) (h1 : aH) (ls : List (Nat × Value)), ((n - r).toNat = m) → 0 ≤ r → r ≤ n → (0 ≤ v ∧ (r = 0 → v = 0) ∧ (r = 1 → v ≤ 9) ∧ (r = 2 → v ≤ 99) ∧ v ≤ 999) → tkv (fm h) m (gi h 171 18 + r) v = (tkv (fm h) n.toNat (gi h 171 18) 0) → gi h1 171 18 = gi h 171 18 + r → (r = 0 ∨ gi h 171 18 + r ≤ gi h 171 19) → (r = 0 → 48 ≤ fm h (gi h 171 18) ∧ fm h (gi h 171 18) ≤ 57) → lk ls 0 = some (.ref 171) → lk ls 1 = some (.int (I n)) → lk ls 2 = some (.int (I v)) → lk ls 3 = some (.int (I r)) → GD gE gRL sh h1 → FRM gRL [(0, 54, 18, 18)] h h1 → K 13 ls [] h1 0 0 := by
    intro m
    induction m with
    | zero =>
      intro r v h1 ls hm h0 hr hv htk hat h80 hd0 l0 l1 l2 l3 hG1 hF
      have e1 : (v, gi h 171 18 + r) = (tkv (fm h) n.toNat (gi h 171 18) 0) := htk
      refine x_iload_n 14 hK rfl rfl l3 ?_
      refine x_iload_n 15 hK rfl rfl l1 ?_
      refine x_if_icmp_ge 59 18 hK rfl rfl rfl (by omega) (by omega) (fun _ => ?_) (fun c => by omega)
      refine x_iload_n 60 hK rfl rfl l2 ?_
      refine x_iret hK rfl ?_
      rw [← e1]
      refine ⟨⟨v, rfl, ?_, by omega, by omega, by omega⟩, hG1, hF, hat, by omega, by omega⟩
      rw [if_neg (by show ¬ (_ + _ = _); omega)]
    | succ m ih =>
      intro r v h1 ls hm h0 hr hv htk hat h80 hd0 l0 l1 l2 l3 hG1 hF
      have f3 : gi h1 171 19 = gi h 171 19 := FRM_gi hF (r := 54) rfl rfl
      have fs : ∀ j, gi h1 180 j = gi h 180 j := fun j => FRM_gi hF (r := 63) rfl rfl
      have hfx : fm h1 (gi h1 171 18) = fm h (gi h 171 18 + r) := by unfold fm; rw [hat, f3, fs]
      have hst := fun z => tkv_step (f := fm h) (n := m) (a := gi h 171 18 + r) (v := v) z
      have hsp := fun z => tkv_stop (f := fm h) (n := m + 1) (a := gi h 171 18 + r) (v := v) z
      refine x_iload_n 14 hK rfl rfl l3 ?_
      refine x_iload_n 15 hK rfl rfl l1 ?_
      refine x_if_icmp_ge 59 18 hK rfl rfl rfl (by omega) (by omega) (fun c => by omega) (fun _ => ?_)
      refine x_aload_n 19 hK rfl rfl l0 ?_
      refine x_callV 22 hK hmono rfl rfl [.ref 171] [] rfl rfl (Nat.le_of_ble_eq_true rfl) (Nat.le_of_ble_eq_true rfl) rfl (sp_171 (h := h1) hG1) (CLd_le (Nat.le_of_ble_eq_true rfl) (ctX11_isDigit hSP hG1)) ?_
      rw [hfx, f3, hat]
      rintro v9 h9 ⟨e9, ⟨rfl, d1, d2, d3⟩ | ⟨rfl, d1⟩⟩ <;> rw [e9] <;> clear e9
      · refine x_if_eq 59 25 hK rfl rfl rfl (by omega) (fun c => by omega) (fun _ => ?_)
        refine x_bipush 27 hK rfl rfl rfl ?_
        refine x_iload_n 28 hK rfl rfl l2 ?_
        refine x_imul 29 hK rfl rfl ?_
        refine x_aload_n 30 hK rfl rfl l0 ?_
        refine x_getR 33 hK rfl rfl (sp_171 (h := h1) hG1) (rf_171_16 (h := h1) hG1) ?_
        refine x_aload_n 34 hK rfl rfl l0 ?_
        refine x_getE 37 hK rfl (Or.inl rfl) rfl (sp_171 (h := h1) hG1) (e := (gi h 171 18 + r)) (hat) ?_
        have hpos := fm_pos (h := h) (a := gi h 171 18 + r) (by omega) d3 (by omega)
        rw [hpos] at d1 d2 hst
        have g180 := gi_r h 180 (gi h 171 18 + r).toNat
        refine x_ialoadE 38 hK rfl rfl (sp_180 (h := h1) hG1) (by omega) (by omega) (by omega) (e' := gi h 180 (gi h 171 18 + r).toNat) (fs _) ?_
        generalize gi h 180 (gi h 171 18 + r).toNat = s at *
        refine x_iadd 39 hK rfl rfl ?_
        refine x_bipush 41 hK rfl rfl rfl ?_
        refine x_isub 42 hK rfl rfl ?_
        refine x_istore_n 43 hK rfl rfl _ rfl ?_
        refine x_aload_n 44 hK rfl rfl (lk1_n l0 (by decide) (Or.inl rfl)) ?_
        refine x_dup 45 hK rfl rfl rfl ?_
        refine x_getE 48 hK rfl (Or.inl rfl) rfl (sp_171 (h := h1) hG1) (e := (gi h 171 18 + r)) (hat) ?_
        refine x_iconst 49 hK rfl rfl ?_
        refine x_iadd 50 hK rfl rfl ?_
        refine x_putI 53 hK rfl rfl (sp_171 (h := h1) hG1) ?_
        refine x_iinc 56 hK rfl rfl (lk1_n l3 (by decide) (Or.inl rfl)) _ rfl ?_
        refine x_goto 13 hK rfl rfl ?_
        refine ih (r + 1) _ _ _ (by omega) (by omega) (by omega) (by omega) ?_ ((gi_same (by omega)).trans (by omega)) (by omega) (by omega) (lk1_n (lk1_n l0 (by decide) (Or.inl rfl)) (by decide) (Or.inl rfl)) (lk1_n (lk1_n l1 (by decide) (Or.inl rfl)) (by decide) (Or.inl rfl)) (lk1_n lk1_s (by decide) (Or.inl rfl)) lk1_s (GD_w1 (hG1) (r := 54) rfl (by omega) rfl (by omega) (by omega)) (FRM_w (hF) (r := 54) rfl rfl)
        rw [← htk, hst ⟨d1, d2⟩, show gi h 171 18 + (r + 1) = gi h 171 18 + r + 1 by omega, show 10 * v + s - 48 = v * 10 + s - 48 by omega]
      · have e1 : (v, gi h 171 18 + r) = (tkv (fm h) n.toNat (gi h 171 18) 0) := (hsp d1).symm.trans htk
        have hr0 : r ≠ 0 := fun z => d1 (by rw [z, Int.add_zero]; exact hd0 z)
        refine x_if_eq 59 25 hK rfl rfl rfl (by omega) (fun _ => ?_) (fun c => by omega)
        refine x_iload_n 60 hK rfl rfl l2 ?_
        refine x_iret hK rfl ?_
        rw [← e1]
        refine ⟨⟨v, rfl, ?_, by omega, by omega, by omega⟩, hG1, hF, hat, by omega, by omega⟩
        rw [if_neg (by show ¬ (_ + _ = _); omega)]
  refine x_aload_n 1 hK rfl rfl rfl ?_
  refine x_callV 4 hK hmono rfl rfl [.ref 171] [] rfl rfl (Nat.le_of_ble_eq_true rfl) (Nat.le_of_ble_eq_true rfl) rfl (sp_171 (h := h) hG) (CLd_le (Nat.le_of_ble_eq_true rfl) (ctX11_isDigit hSP hG)) ?_
  rintro v9 h9 ⟨e9, ⟨rfl, d1, d2, d3⟩ | ⟨rfl, d1⟩⟩ <;> rw [e9] <;> clear e9
  · refine x_if_ne 9 7 hK rfl rfl rfl (by omega) (fun _ => ?_) (fun c => by omega)
    refine x_iconst 10 hK rfl rfl ?_
    refine x_istore_n 11 hK rfl rfl [(2, .int (I 0)), (0, .ref 171), (1, .int (I n))] rfl ?_
    refine x_iconst 12 hK rfl rfl ?_
    refine x_istore_n 13 hK rfl rfl [(3, .int (I 0)), (2, .int (I 0)), (0, .ref 171), (1, .int (I n))] rfl ?_
    exact loop _ 0 0 h _ rfl (by omega) (by omega) (by omega) (by rw [Int.add_zero, Int.sub_zero]) (by omega) (by omega) (fun _ => ⟨d1, d2⟩) rfl rfl rfl rfl hG FRM.rf
  · refine x_if_ne 9 7 hK rfl rfl rfl (by omega) (fun c => by omega) (fun _ => ?_)
    refine x_iconst 8 hK rfl rfl ?_
    have e1 : tkv (fm h) n.toNat (gi h 171 18) 0 = (0, gi h 171 18) := tkv_stop d1
    refine x_iret hK rfl ?_
    rw [e1]
    refine ⟨⟨-1, rfl, ?_, by omega, by omega, by omega⟩, hG, FRM.rf, rfl, by omega, by omega⟩
    rw [if_pos rfl]
theorem ctX11_numberIn {SP : CT} (hSP : MONO SP) {sh : List (Nat × Nat)} {h : aH} (hG : GD gE gRL sh h) {n lo hi : Int} (hn : 1 ≤ n ∧ n ≤ 3) (hlo : r32 lo) (hhi : r32 hi) : CLd SP 4 mX11_numberIn [.ref 171, .int (I n), .int (I lo), .int (I hi)] h 0 0 (fun rv h' => (∃ e, rv = some (.int (I e)) ∧ (e = -1 ∨ (lo ≤ e ∧ e ≤ hi ∧ 0 ≤ e ∧ (n = 1 → e ≤ 9) ∧ (n = 2 → e ≤ 99) ∧ e ≤ 999)) ∧ e = (if (tkv (fm h) n.toNat (gi h 171 18) 0).2 = gi h 171 18 then -1 else if lo ≤ (tkv (fm h) n.toNat (gi h 171 18) 0).1 ∧ (tkv (fm h) n.toNat (gi h 171 18) 0).1 ≤ hi then (tkv (fm h) n.toNat (gi h 171 18) 0).1 else -1) ∧ (0 ≤ e → gi h 171 18 < gi h' 171 18)) ∧ GD gE gRL sh h' ∧ FRM gRL [(0, 54, 18, 18)] h h' ∧ gi h' 171 18 = (if (tkv (fm h) n.toNat (gi h 171 18) 0).2 = gi h 171 18 then (tkv (fm h) n.toNat (gi h 171 18) 0).2 else if lo ≤ (tkv (fm h) n.toNat (gi h 171 18) 0).1 ∧ (tkv (fm h) n.toNat (gi h 171 18) 0).1 ≤ hi then (tkv (fm h) n.toNat (gi h 171 18) 0).2 else (tkv (fm h) n.toNat (gi h 171 18) 0).2 - 1) ∧ gi h 171 18 ≤ gi h' 171 18 ∧ (gi h 171 18 ≤ gi h 171 19 → gi h' 171 18 ≤ gi h 171 19)) := by
  refine x_met _ rfl (Nat.le_of_ble_eq_true rfl) (fun K hK => ?_)
  have hmono := MONO_CLd hSP 3
  have ar := at_r hG
  have g18 := gi_r h 171 18
  refine x_aload_n 1 hK rfl rfl rfl ?_
  refine x_iload_n 2 hK rfl rfl rfl ?_
  refine x_callV 5 hK hmono rfl rfl [.ref 171, .int (I n)] [] rfl rfl (Nat.le_of_ble_eq_true rfl) (Nat.le_of_ble_eq_true rfl) rfl (sp_171 (h := h) hG) (CLd_le (Nat.le_of_ble_eq_true rfl) (ctX11_number hSP hG hn)) ?_
  rintro v9 h9 ⟨⟨e, rfl, he, hr, hup, hsm⟩, hG9, hF9, hat, hle, hto⟩
  generalize (tkv (fm h) n.toNat (gi h 171 18) 0) = t at *
  have g9 := gi_r h9 171 18
  have ar9 := at_r hG9
  have hcase : (e = -1 ∧ t.2 = gi h 171 18) ∨ (0 ≤ e ∧ e = t.1 ∧ t.2 ≠ gi h 171 18) := by
    by_cases et : t.2 = gi h 171 18
    · rw [if_pos et] at he; exact Or.inl ⟨he, et⟩
    · rw [if_neg et] at he
      refine Or.inr ⟨?_, he, et⟩
      rcases hr with hr | hr
      · have := hsm hr; omega
      · exact hr.1
  refine x_istore 7 hK rfl rfl [(4, .int (I e)), (0, .ref 171), (1, .int (I n)), (2, .int (I lo)), (3, .int (I hi))] rfl ?_
  refine x_iload 9 hK rfl rfl rfl ?_
  refine x_if_lt 25 12 hK rfl rfl rfl (by omega) (fun c6 => ?_) (fun c6 => ?_)
  · refine x_iload 27 hK rfl rfl rfl ?_
    rcases hcase with ⟨q0, q1⟩ | ⟨q0, q1, q2⟩
    · refine x_iret hK rfl ⟨⟨e, rfl, Or.inl q0, ?_, by omega⟩, hG9, hF9, ?_, hle, hto⟩
      · rw [if_pos q1]; exact q0
      · rw [if_pos q1]; exact hat
    · first
      | omega
      | (refine x_iret hK rfl ⟨⟨e, rfl, Or.inr ⟨by omega, by omega, by omega, by omega, by omega, by omega⟩, ?_, hup⟩, hG9, hF9, ?_, hle, hto⟩
         · rw [if_neg q2, if_pos (by omega)]; exact q1
         · rw [if_neg q2, if_pos (by omega)]; exact hat)
  · refine x_iload 14 hK rfl rfl rfl ?_
    refine x_i2l 15 hK rfl rfl (by omega) ?_
    refine x_iload_n 16 hK rfl rfl rfl ?_
    refine x_i2l 17 hK rfl rfl (by omega) ?_
    refine x_iload_n 18 hK rfl rfl rfl ?_
    refine x_i2l 19 hK rfl rfl (by omega) ?_
    refine x_callS 22 hK hmono rfl (Or.inl rfl) rfl [.long (J e), .long (J lo), .long (J hi)] [] rfl rfl (Nat.le_of_ble_eq_true rfl) (Nat.le_of_ble_eq_true rfl) (CLd_le (Nat.le_of_ble_eq_true rfl) (ctX11_in (by omega) (by omega) (by omega))) ?_
    rintro v8 h8 ⟨e8, ⟨rfl, i1, i2⟩ | ⟨rfl, i1⟩⟩ <;> rw [e8] <;> clear e8
    · refine x_if_eq 28 25 hK rfl rfl rfl (by omega) (fun c => by omega) (fun _ => ?_)
      refine x_iload 27 hK rfl rfl rfl ?_
      rcases hcase with ⟨q0, q1⟩ | ⟨q0, q1, q2⟩
      · refine x_iret hK rfl ⟨⟨e, rfl, Or.inl q0, ?_, by omega⟩, hG9, hF9, ?_, hle, hto⟩
        · rw [if_pos q1]; exact q0
        · rw [if_pos q1]; exact hat
      · first
        | omega
        | (refine x_iret hK rfl ⟨⟨e, rfl, Or.inr ⟨by omega, by omega, by omega, by omega, by omega, by omega⟩, ?_, hup⟩, hG9, hF9, ?_, hle, hto⟩
           · rw [if_neg q2, if_pos (by omega)]; exact q1
           · rw [if_neg q2, if_pos (by omega)]; exact hat)
    · refine x_if_eq 28 25 hK rfl rfl rfl (by omega) (fun _ => ?_) (fun c => by omega)
      refine x_aload_n 29 hK rfl rfl rfl ?_
      refine x_dup 30 hK rfl rfl rfl ?_
      refine x_getE 33 hK rfl (Or.inl rfl) rfl (sp_171 (h := h9) hG9) (e := (gi h9 171 18)) (rfl) ?_
      refine x_iconst 34 hK rfl rfl ?_
      refine x_isub 35 hK rfl rfl ?_
      refine x_putI 38 hK rfl rfl (sp_171 (h := h9) hG9) ?_
      refine x_iconst 39 hK rfl rfl ?_
      obtain ⟨q0, q1, q2⟩ := hcase.resolve_left (by omega)
      refine x_iret hK rfl ⟨⟨-1, rfl, Or.inl rfl, ?_, by omega⟩, GD_w1 (hG9) (r := 54) rfl (by omega) rfl (by omega) (by omega), FRM_w (hF9) (r := 54) rfl rfl, ?_, ?_, ?_⟩
      · rw [if_neg q2, if_neg (by omega)]
      · rw [if_neg q2, if_neg (by omega), gi_same (by omega)]; omega
      · rw [gi_same (by omega)]; have := hup q0; omega
      · rw [gi_same (by omega)]; intro z; have := hto z; omega
theorem ctX11_among (hSP : MONO SPt) {sh : List (Nat × Nat)} {h : aH} (hG : GD gE gRL sh h) {b : Nat} (hb : b < 6) : CLd SPt 2 mX11_among [.ref 171, .ref (1000000 + b)] h 0 0 (fun rv h' => h' = h ∧ rv = some (.int (I (fidx (fm h (gi h 171 18)) (byJ.getD b []) 0))) ∧ (gi h 171 19 ≤ gi h 171 18 → fidx (fm h (gi h 171 18)) (byJ.getD b []) 0 = -1)) := by
  refine x_met _ rfl (Nat.le_of_ble_eq_true rfl) (fun K hK => ?_)
  have hmono := MONO_CLd hSP 1
  have ar := at_r hG
  have g18 := gi_r h 171 18
  obtain ⟨hl1, hl2⟩ := le_by hb
  have hby : ∀ c ∈ byJ.getD b [], c.toInt ≠ -1 := by
    have : ∀ b, b < 6 → ∀ c ∈ byJ.getD b [], c.toInt ≠ -1 := by decide
    exact this b hb
  have hm1 : ∀ (l : List Int32) (k : Nat), (∀ c ∈ l, c.toInt ≠ -1) → fidx (-1) l k = -1 := by
    intro l
    induction l with
    | nil => intro k _; rfl
    | cons c t ih =>
      intro k hc
      unfold fidx
      rw [if_neg (hc c List.mem_cons_self)]
      exact ih (k + 1) fun c' h' => hc c' (List.mem_cons_of_mem _ h')
  have hend : gi h 171 19 ≤ gi h 171 18 → fidx (fm h (gi h 171 18)) (byJ.getD b []) 0 = -1 := fun z => by
    rw [fm_neg z]
    exact hm1 _ _ hby
  have loop : ∀ (m : Nat) (k : Nat) (ls : List (Nat × Value)), leJ.getD b 0 - k = m → k ≤ leJ.getD b 0 → fidx (fm h (gi h 171 18)) ((byJ.getD b []).drop k) k = fidx (fm h (gi h 171 18)) (byJ.getD b []) 0 → lk ls 0 = some (.ref 171) → lk ls 1 = some (.ref (1000000 + b)) → lk ls 2 = some (.int (I (k : Int))) → K 2 ls [] h 0 0 := by
    intro m
    induction m using Nat.strongRecOn with
    | ind m ih =>
    intro k ls hm hk hf l0 l1 l2
    refine x_iload_n 3 hK rfl rfl l2 ?_
    refine x_aload_n 4 hK rfl rfl l1 ?_
    refine x_callT 7 hK hmono rfl rfl [.ref (1000000 + b)] [.int (I (k : Int))] rfl rfl (Nat.le_of_ble_eq_true rfl) (Nat.le_of_ble_eq_true rfl) rfl hb (CLd_le (Nat.le_of_ble_eq_true rfl : 1 ≤ 1) (tx_length hb)) ?_
    rintro v9 h9 ⟨e9, rfl⟩
    rw [e9]
    clear e9
    refine x_if_icmp_ge 46 10 hK rfl rfl rfl (by omega) (by omega) (fun c4 => ?_) (fun c4 => ?_)
    · refine x_iconst 47 hK rfl rfl ?_
      first
        | exact x_iret hK rfl ⟨rfl, by rw [hend (by omega)], hend⟩
        | (refine x_iret hK rfl ⟨rfl, ?_, hend⟩
           rw [← hf, List.drop_eq_nil_of_le (by omega)]
           rfl)
    · refine x_aload_n 11 hK rfl rfl l0 ?_
      refine x_getE 14 hK rfl (Or.inl rfl) rfl (sp_171 (h := h) hG) (e := (gi h 171 18)) (rfl) ?_
      refine x_aload_n 15 hK rfl rfl l0 ?_
      refine x_getE 18 hK rfl (Or.inl rfl) rfl (sp_171 (h := h) hG) (e := (gi h 171 19)) (rfl) ?_
      refine x_if_icmp_ge 46 21 hK rfl rfl rfl (by omega) (by omega) (fun c11 => ?_) (fun c11 => ?_)
      · refine x_iconst 47 hK rfl rfl ?_
        first
          | exact x_iret hK rfl ⟨rfl, by rw [hend (by omega)], hend⟩
          | (refine x_iret hK rfl ⟨rfl, ?_, hend⟩
             rw [← hf, List.drop_eq_nil_of_le (by omega)]
             rfl)
      · refine x_aload_n 22 hK rfl rfl l1 ?_
        refine x_iload_n 23 hK rfl rfl l2 ?_
        refine x_callT 26 hK hmono rfl rfl [.ref (1000000 + b), .int (I (k : Int))] [] rfl rfl (Nat.le_of_ble_eq_true rfl) (Nat.le_of_ble_eq_true rfl) rfl hb (CLd_le (Nat.le_of_ble_eq_true rfl : 1 ≤ 1) (tx_charAt hb (by omega) (by omega))) ?_
        rintro v9 h9 ⟨e9, rfl⟩
        rw [e9]
        clear e9
        have hdr := drop_getD (l := byJ.getD b []) (k := k) (by omega)
        rw [hdr, fidx_cons] at hf
        have hp := fm_pos (h := h) (a := gi h 171 18) (by omega) (by omega) (by omega)
        have g180 := gi_r h 180 (gi h 171 18).toNat
        rw [Int.toNat_natCast, ← t_I ((byJ.getD b []).getD k 0)]
        have gc := r_I ((byJ.getD b []).getD k 0)
        generalize ((byJ.getD b []).getD k 0).toInt = c at *
        refine x_aload_n 27 hK rfl rfl l0 ?_
        refine x_getR 30 hK rfl rfl (sp_171 (h := h) hG) (rf_171_16 (h := h) hG) ?_
        refine x_aload_n 31 hK rfl rfl l0 ?_
        refine x_getE 34 hK rfl (Or.inl rfl) rfl (sp_171 (h := h) hG) (e := (gi h 171 18)) (rfl) ?_
        refine x_ialoadE 35 hK rfl rfl (sp_180 (h := h) hG) (by omega) (by omega) (by omega) (e' := (gi h 180 (gi h 171 18).toNat)) (rfl) ?_
        refine x_if_icmp_ne 40 38 hK rfl rfl rfl (by omega) (by omega) (fun c22 => ?_) (fun c22 => ?_)
        · refine x_iinc 43 hK rfl rfl l2 _ rfl ?_
          refine x_goto 2 hK rfl rfl ?_
          refine ih _ (by omega) (k + 1) _ rfl (by omega) ?_ (lk1_n l0 (by decide) (Or.inl rfl)) (lk1_n l1 (by decide) (Or.inl rfl)) lk1_s
          rw [← hf, if_neg (by omega)]
        · refine x_iload_n 39 hK rfl rfl l2 ?_
          refine x_iret hK rfl ⟨rfl, ?_, hend⟩
          rw [← hf, if_pos (by omega)]
  refine x_iconst 1 hK rfl rfl ?_
  refine x_istore_n 2 hK rfl rfl [(2, .int (I 0)), (0, .ref 171), (1, .ref (1000000 + b))] rfl ?_
  exact loop _ 0 _ rfl (by omega) rfl rfl rfl rfl
theorem ctX11_takesOf (hSP : MONO SPt) {sh : List (Nat × Nat)} {h : aH} (hG : GD gE gRL sh h) {b : Nat} (hb : b < 6) : CLd SPt 3 mX11_takesOf [.ref 171, .ref (1000000 + b)] h 0 0 (fun rv h' => (∃ e, rv = some (.int (I e)) ∧ e = fidx (fm h (gi h 171 18)) (byJ.getD b []) 0 ∧ -1 ≤ e ∧ e ≤ 12 ∧ gi h' 171 18 = gi h 171 18 + (if e < 0 then 0 else 1) ∧ (0 ≤ e → gi h 171 18 < gi h 171 19)) ∧ GD gE gRL sh h' ∧ FRM gRL [(0, 54, 18, 18)] h h') := by
  refine x_met _ rfl (Nat.le_of_ble_eq_true rfl) (fun K hK => ?_)
  have hmono := MONO_CLd hSP 2
  have ar := at_r hG
  have g18 := gi_r h 171 18
  obtain ⟨hl1, hl2⟩ := le_by hb
  have hr := fidx_r (fm h (gi h 171 18)) (byJ.getD b []) 0
  refine x_aload_n 1 hK rfl rfl rfl ?_
  refine x_aload_n 2 hK rfl rfl rfl ?_
  refine x_callV 5 hK hmono rfl rfl [.ref 171, .ref (1000000 + b)] [] rfl rfl (Nat.le_of_ble_eq_true rfl) (Nat.le_of_ble_eq_true rfl) rfl (sp_171 (h := h) hG) (CLd_le (Nat.le_of_ble_eq_true rfl) (ctX11_among hSP hG hb)) ?_
  rintro v9 h9 ⟨e9, rfl, hend⟩
  rw [e9]
  clear e9
  generalize he : fidx (fm h (gi h 171 18)) (byJ.getD b []) 0 = e at *
  refine x_istore_n 6 hK rfl rfl [(2, .int (I e)), (0, .ref 171), (1, .ref (1000000 + b))] rfl ?_
  refine x_aload_n 7 hK rfl rfl rfl ?_
  refine x_dup 8 hK rfl rfl rfl ?_
  refine x_getE 11 hK rfl (Or.inl rfl) rfl (sp_171 (h := h) hG) (e := (gi h 171 18)) (rfl) ?_
  refine x_iload_n 12 hK rfl rfl rfl ?_
  refine x_if_lt 19 15 hK rfl rfl rfl (by omega) (fun c9 => ?_) (fun c9 => ?_)
  · refine x_iconst 20 hK rfl rfl ?_
    refine x_callS 23 hK hmono rfl (Or.inl rfl) rfl [.int (I 0)] [.int (I (gi h 171 18)), .ref 171] rfl rfl (Nat.le_of_ble_eq_true rfl) (Nat.le_of_ble_eq_true rfl) (CLd_le (Nat.le_of_ble_eq_true rfl) (ctX11_flag (by omega))) ?_
    rintro v9 h9 ⟨e9, rfl⟩
    rw [e9]
    clear e9
    refine x_iadd 24 hK rfl rfl ?_
    refine x_putI 27 hK rfl rfl (sp_171 (h := h) hG) ?_
    refine x_iload_n 28 hK rfl rfl rfl ?_
    refine x_iret hK rfl ⟨⟨e, rfl, rfl, by omega, by omega, ?_, fun z => ?_⟩, GD_w1 (hG) (r := 54) rfl (by omega) rfl (by omega) (by omega), FRM_w (FRM.rf) (r := 54) rfl rfl⟩
    · rw [gi_same (by omega), if_pos (by omega)]
    · omega
  · refine x_iconst 16 hK rfl rfl ?_
    refine x_goto 20 hK rfl rfl ?_
    refine x_callS 23 hK hmono rfl (Or.inl rfl) rfl [.int (I 1)] [.int (I (gi h 171 18)), .ref 171] rfl rfl (Nat.le_of_ble_eq_true rfl) (Nat.le_of_ble_eq_true rfl) (CLd_le (Nat.le_of_ble_eq_true rfl) (ctX11_flag (by omega))) ?_
    rintro v9 h9 ⟨e9, rfl⟩
    rw [e9]
    clear e9
    refine x_iadd 24 hK rfl rfl ?_
    refine x_putI 27 hK rfl rfl (sp_171 (h := h) hG) ?_
    refine x_iload_n 28 hK rfl rfl rfl ?_
    refine x_iret hK rfl ⟨⟨e, rfl, rfl, by omega, by omega, ?_, fun z => ?_⟩, GD_w1 (hG) (r := 54) rfl (by omega) rfl (by omega) (by omega), FRM_w (FRM.rf) (r := 54) rfl rfl⟩
    · rw [gi_same (by omega), if_neg (by omega)]
    · by_cases c9 : gi h 171 18 < gi h 171 19
      · exact c9
      · have := hend (by omega); omega
