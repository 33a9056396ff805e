/-! THE TEXT: sign(), end() (both), the class opens it -/
/-- the byte k of v, the highest first -/
def byF (v k : Int) : Int := bAnd (bShr v (24 - 8 * k)) 255
theorem by_bv (x : BitVec 32) (s : Nat) (hs : s ≤ 24) : (x >>> s) &&& 255#32 = (x.sshiftRight s) &&& 255#32 := by
  apply BitVec.eq_of_getLsbD_eq
  intro i hi
  by_cases h8 : i < 8
  · have e : (x >>> s).getLsbD i = (x.sshiftRight s).getLsbD i := by
      rw [BitVec.getLsbD_ushiftRight, BitVec.getLsbD_sshiftRight]
      simp [show ¬ (32 ≤ i) by omega, show s + i < 32 by omega]
    rw [BitVec.getLsbD_and, BitVec.getLsbD_and, e]
  · have e : (255#32).getLsbD i = false := by
      have : ∀ i, i < 32 → 8 ≤ i → (255#32).getLsbD i = false := by decide
      exact this i hi (by omega)
    rw [BitVec.getLsbD_and, BitVec.getLsbD_and, e, Bool.and_false, Bool.and_false]
theorem by_us (v : Int) (s : Nat) (hs : s = 24 ∨ s = 16 ∨ s = 8 ∨ s = 0) : bAnd (bUsh v s) 255 = bAnd (bShr v s) 255 := by
  have key : ((I v).toUInt32 >>> ((I s).toUInt32 &&& Int32.toUInt32 31)).toInt32 &&& I 255 = (I v >>> (I s &&& 31)) &&& I 255 := by
    apply Int32.toBitVec.inj
    rcases hs with rfl | rfl | rfl | rfl
    · exact by_bv (I v).toBitVec 24 (by omega)
    · exact by_bv (I v).toBitVec 16 (by omega)
    · exact by_bv (I v).toBitVec 8 (by omega)
    · exact by_bv (I v).toBitVec 0 (by omega)
  unfold bAnd bUsh bShr
  rw [t_I, t_I, key]
theorem by_r (v k : Int) : 0 ≤ byF v k ∧ byF v k ≤ 255 := by
  have h : ∀ x : BitVec 32, (x &&& 255#32).toNat ≤ 255 := fun x => by
    rw [BitVec.toNat_and]
    exact Nat.and_le_right
  have e : byF v k = ((I (bShr v (24 - 8 * k)) &&& I 255).toBitVec.toInt) := rfl
  have e2 : (I (bShr v (24 - 8 * k)) &&& I 255).toBitVec = (I (bShr v (24 - 8 * k))).toBitVec &&& 255#32 := rfl
  rw [e, e2]
  have h2 := h (I (bShr v (24 - 8 * k))).toBitVec
  rw [BitVec.toInt_eq_toNat_of_lt (by omega)]
  omega
def sgR (n : Int) : Int := if 76 < n then -1 else n + 4
/-- the signs behind sign() -/
def sgT (t : Nat → Int) (n v : Int) (j : Nat) : Int := if n ≤ 76 ∧ n ≤ j ∧ (j : Int) < n + 4 then byF v (j - n) else t j
theorem sgT_4 {t : Nat → Int} {n v : Int} (h0 : 0 ≤ n) (h : n ≤ 76) (j : Nat) : (if j = (n + 3).toNat then byF v 3 else if j = (n + 2).toNat then byF v 2 else if j = (n + 1).toNat then byF v 1 else if j = n.toNat then byF v 0 else t j) = sgT t n v j := by
  unfold sgT
  by_cases c : n ≤ 76 ∧ n ≤ j ∧ (j : Int) < n + 4
  · rw [if_pos c]
    rcases (show (j : Int) = n + 3 ∨ (j : Int) = n + 2 ∨ (j : Int) = n + 1 ∨ (j : Int) = n by omega) with e | e | e | e
    · rw [if_pos (by omega), e, show n + 3 - n = 3 by omega]
    · rw [if_neg (by omega), if_pos (by omega), e, show n + 2 - n = 2 by omega]
    · rw [if_neg (by omega), if_neg (by omega), if_pos (by omega), e, show n + 1 - n = 1 by omega]
    · rw [if_neg (by omega), if_neg (by omega), if_neg (by omega), if_pos (by omega), e, show n - n = 0 by omega]
  · rw [if_neg c, if_neg (by omega), if_neg (by omega), if_neg (by omega), if_neg (by omega)]
theorem sgT_no {t : Nat → Int} {n v : Int} (h : 76 < n) : sgT t n v = t := funext fun j => if_neg (by omega)
theorem wI_if {h : aH} {a k : Nat} {e : Int} (he : r32 e) (j : Nat) : gi (wI h a k e) a j = if j = k then e else gi h a j := by
  by_cases c : j = k
  · rw [if_pos c, c]; exact gi_same he
  · rw [if_neg c]; exact gi_k c _
set_option maxRecDepth 4000 in
theorem ctX9_append {SP : CT} (hSP : MONO SP) {sh : List (Nat × Nat)} {h : aH} (hG : GD gE gRL sh h) {s : Int} (hs : 0 ≤ s ∧ s ≤ 65535) (hn : gi h 1 1 < 80) : CLd SP 1 mX9_append [.ref 1, .int (I s)] h 0 0 (fun rv h' => rv = none ∧ GD gE gRL sh h' ∧ FRM gRL [(0, 1, 1, 1), (0, 2, 0, 79)] h h' ∧ gi h' 1 1 = gi h 1 1 + 1 ∧ ∀ j, gi h' 2 j = if j = (gi h 1 1).toNat then s else gi h 2 j) := by
  refine x_met _ rfl (Nat.le_of_ble_eq_true rfl) (fun K hK => ?_)
  have hmono := MONO_CLd hSP 0
  refine x_aload_n 1 hK rfl rfl rfl ?_
  have g64 := gri (0) (80) hG (a := 1) (r := 1) (k := 1) rfl rfl
  refine x_getE 4 hK rfl (Or.inl rfl) rfl (sp_1 (h := h) hG) (e := (gi h 1 1)) (rfl) ?_
  refine x_bipush 6 hK rfl rfl rfl ?_
  refine x_if_icmp_ge 29 9 hK rfl rfl rfl (by omega) (by omega) (fun c4 => ?_) (fun c4 => ?_)
  · exact absurd hn (by omega)
  · refine x_aload_n 10 hK rfl rfl rfl ?_
    refine x_getR 13 hK rfl rfl (sp_1 (h := h) hG) (rf_1_0 (h := h) hG) ?_
    refine x_aload_n 14 hK rfl rfl rfl ?_
    refine x_getE 17 hK rfl (Or.inl rfl) rfl (sp_1 (h := h) hG) (e := (gi h 1 1)) (rfl) ?_
    refine x_iload_n 18 hK rfl rfl rfl ?_
    refine x_castore 19 hK rfl rfl (sp_2 (h := h) hG) (by omega) (by omega) (by omega) (chr_ok (by omega)) ?_
    refine x_aload_n 20 hK rfl rfl rfl ?_
    refine x_dup 21 hK rfl rfl rfl ?_
    refine x_getE 24 hK rfl (Or.inl rfl) rfl (sp_1 (h := h) hG) (e := (gi h 1 1)) (gi_a (by decide) _) ?_
    refine x_iconst 25 hK rfl rfl ?_
    refine x_iadd 26 hK rfl rfl ?_
    refine x_putI 29 hK rfl rfl (sp_1 (h := h) hG) ?_
    exact x_vret hK rfl ⟨rfl, GD_w1 (GD_wu (hG) (r := 2) rfl (by omega) rfl (by omega) (by omega)) (r := 1) rfl (by omega) rfl (by omega) (by omega), FRM_w (FRM_wn 0 79 ((FRM.rf : FRM gRL [(0, 1, 1, 1), (0, 2, 0, 79)] h h)) (r := 2) rfl rfl rfl (by omega) (by omega)) (r := 1) rfl rfl, gi_same (by omega), fun j => (gi_a (by decide) _).trans (wI_if (by omega) j)⟩
set_option maxRecDepth 4000 in
theorem ctX10_sign {SP : CT} (hSP : MONO SP) {sh : List (Nat × Nat)} {h : aH} (hG : GD gE gRL sh h) {v : Int} (rv : r32 v) : CLd SP 2 mX10_sign [.ref 0, .int (I v)] h 0 0 (fun rv h' => rv = some (.int (I (sgR (gi h 1 1)))) ∧ GD gE gRL sh h' ∧ FRM gRL [(0, 1, 1, 1), (0, 2, 0, 79)] h h' ∧ gi h' 1 1 = (if 76 < gi h 1 1 then gi h 1 1 else gi h 1 1 + 4) ∧ ∀ j, gi h' 2 j = sgT (gi h 2) (gi h 1 1) v j) := by
  refine x_met _ rfl (Nat.le_of_ble_eq_true rfl) (fun K hK => ?_)
  have hmono := MONO_CLd hSP 1
  have gs := gri 0 80 hG (a := 1) (r := 1) (k := 1) rfl rfl
  have b0 := by_r v 0
  have b1 := by_r v 1
  have b2 := by_r v 2
  have b3 := by_r v 3
  have u0 : bAnd (bUsh v 24) 255 = byF v 0 := by_us v 24 (by omega)
  have u1 : bAnd (bUsh v 16) 255 = byF v 1 := by_us v 16 (by omega)
  have u2 : bAnd (bUsh v 8) 255 = byF v 2 := by_us v 8 (by omega)
  have u3 : bAnd (bUsh v 0) 255 = byF v 3 := by_us v 0 (by omega)
  refine x_aload_n 1 hK rfl rfl rfl ?_
  refine x_getR 4 hK rfl rfl (sp_0 (h := h) hG) (rf_0_0 (h := h) hG) ?_
  have g65 := gri (0) (80) hG (a := 1) (r := 1) (k := 1) rfl rfl
  refine x_getE 7 hK rfl (Or.inl rfl) rfl (sp_1 (h := h) hG) (e := (gi h 1 1)) (rfl) ?_
  refine x_iconst 8 hK rfl rfl ?_
  refine x_iadd 9 hK rfl rfl ?_
  refine x_bipush 11 hK rfl rfl rfl ?_
  refine x_if_icmp_le 16 14 hK rfl rfl rfl (by omega) (by omega) (fun c7 => ?_) (fun c7 => ?_)
  · refine x_bipush 18 hK rfl rfl rfl ?_
    refine x_istore_n 19 hK rfl rfl [(2, .int (I 24)), (0, .ref 0), (1, .int (I v))] rfl ?_
    refine x_iload_n 20 hK rfl rfl rfl ?_
    refine x_if_lt 44 23 hK rfl rfl rfl (by omega) (fun c => by omega) (fun _ => ?_)
    refine x_aload_n 24 hK rfl rfl rfl ?_
    refine x_getR 27 hK rfl rfl (sp_0 (h := h) hG) (rf_0_0 (h := h) hG) ?_
    refine x_iload_n 28 hK rfl rfl rfl ?_
    refine x_iload_n 29 hK rfl rfl rfl ?_
    have g66 := bUsh_r v 24
    refine x_iushrF 30 hK rfl rfl ?_
    refine x_sipush 33 hK rfl rfl rfl ?_
    have g67 := bAnd_r (bUsh v 24) 255
    refine x_iandF 34 hK rfl rfl ?_
    rw [u0]
    refine x_i2c 35 hK rfl rfl (chr_ok (by omega)) ?_
    have z69 : gi h 1 1 = (gi h 1 1) := rfl
    refine x_callV 38 hK hmono rfl rfl [.ref 1, .int (I (byF v 0))] [] rfl rfl (Nat.le_of_ble_eq_true rfl) (Nat.le_of_ble_eq_true rfl) rfl (sp_1 (h := h) hG) (CLd_le (Nat.le_of_ble_eq_true rfl) (ctX9_append hSP hG (by omega) (by omega))) ?_
    rintro v68 h68 ⟨rfl, hG68, hF68, t68, s68⟩
    rw [z69] at t68 s68
    refine x_iinc 41 hK rfl rfl rfl [(2, .int (I 16)), (0, .ref 0), (1, .int (I v))] rfl ?_
    refine x_goto 19 hK rfl rfl ?_
    refine x_iload_n 20 hK rfl rfl rfl ?_
    refine x_if_lt 44 23 hK rfl rfl rfl (by omega) (fun c => by omega) (fun _ => ?_)
    refine x_aload_n 24 hK rfl rfl rfl ?_
    refine x_getR 27 hK rfl rfl (sp_0 (h := h68) hG68) (rf_0_0 (h := h68) hG68) ?_
    refine x_iload_n 28 hK rfl rfl rfl ?_
    refine x_iload_n 29 hK rfl rfl rfl ?_
    have g70 := bUsh_r v 16
    refine x_iushrF 30 hK rfl rfl ?_
    refine x_sipush 33 hK rfl rfl rfl ?_
    have g71 := bAnd_r (bUsh v 16) 255
    refine x_iandF 34 hK rfl rfl ?_
    rw [u1]
    refine x_i2c 35 hK rfl rfl (chr_ok (by omega)) ?_
    have z73 : gi h68 1 1 = ((gi h 1 1) + 1) := t68
    refine x_callV 38 hK hmono rfl rfl [.ref 1, .int (I (byF v 1))] [] rfl rfl (Nat.le_of_ble_eq_true rfl) (Nat.le_of_ble_eq_true rfl) rfl (sp_1 (h := h68) hG68) (CLd_le (Nat.le_of_ble_eq_true rfl) (ctX9_append hSP hG68 (by omega) (by omega))) ?_
    rintro v72 h72 ⟨rfl, hG72, hF72, t72, s72⟩
    rw [z73] at t72 s72
    refine x_iinc 41 hK rfl rfl rfl [(2, .int (I 8)), (0, .ref 0), (1, .int (I v))] rfl ?_
    refine x_goto 19 hK rfl rfl ?_
    refine x_iload_n 20 hK rfl rfl rfl ?_
    refine x_if_lt 44 23 hK rfl rfl rfl (by omega) (fun c => by omega) (fun _ => ?_)
    refine x_aload_n 24 hK rfl rfl rfl ?_
    refine x_getR 27 hK rfl rfl (sp_0 (h := h72) hG72) (rf_0_0 (h := h72) hG72) ?_
    refine x_iload_n 28 hK rfl rfl rfl ?_
    refine x_iload_n 29 hK rfl rfl rfl ?_
    have g74 := bUsh_r v 8
    refine x_iushrF 30 hK rfl rfl ?_
    refine x_sipush 33 hK rfl rfl rfl ?_
    have g75 := bAnd_r (bUsh v 8) 255
    refine x_iandF 34 hK rfl rfl ?_
    rw [u2]
    refine x_i2c 35 hK rfl rfl (chr_ok (by omega)) ?_
    have z77 : gi h72 1 1 = (((gi h 1 1) + 1) + 1) := t72
    refine x_callV 38 hK hmono rfl rfl [.ref 1, .int (I (byF v 2))] [] rfl rfl (Nat.le_of_ble_eq_true rfl) (Nat.le_of_ble_eq_true rfl) rfl (sp_1 (h := h72) hG72) (CLd_le (Nat.le_of_ble_eq_true rfl) (ctX9_append hSP hG72 (by omega) (by omega))) ?_
    rintro v76 h76 ⟨rfl, hG76, hF76, t76, s76⟩
    rw [z77] at t76 s76
    refine x_iinc 41 hK rfl rfl rfl [(2, .int (I 0)), (0, .ref 0), (1, .int (I v))] rfl ?_
    refine x_goto 19 hK rfl rfl ?_
    refine x_iload_n 20 hK rfl rfl rfl ?_
    refine x_if_lt 44 23 hK rfl rfl rfl (by omega) (fun c => by omega) (fun _ => ?_)
    refine x_aload_n 24 hK rfl rfl rfl ?_
    refine x_getR 27 hK rfl rfl (sp_0 (h := h76) hG76) (rf_0_0 (h := h76) hG76) ?_
    refine x_iload_n 28 hK rfl rfl rfl ?_
    refine x_iload_n 29 hK rfl rfl rfl ?_
    have g78 := bUsh_r v 0
    refine x_iushrF 30 hK rfl rfl ?_
    refine x_sipush 33 hK rfl rfl rfl ?_
    have g79 := bAnd_r (bUsh v 0) 255
    refine x_iandF 34 hK rfl rfl ?_
    rw [u3]
    refine x_i2c 35 hK rfl rfl (chr_ok (by omega)) ?_
    have z81 : gi h76 1 1 = ((((gi h 1 1) + 1) + 1) + 1) := t76
    refine x_callV 38 hK hmono rfl rfl [.ref 1, .int (I (byF v 3))] [] rfl rfl (Nat.le_of_ble_eq_true rfl) (Nat.le_of_ble_eq_true rfl) rfl (sp_1 (h := h76) hG76) (CLd_le (Nat.le_of_ble_eq_true rfl) (ctX9_append hSP hG76 (by omega) (by omega))) ?_
    rintro v80 h80 ⟨rfl, hG80, hF80, t80, s80⟩
    rw [z81] at t80 s80
    refine x_iinc 41 hK rfl rfl rfl [(2, .int (I (-8))), (0, .ref 0), (1, .int (I v))] rfl ?_
    refine x_goto 19 hK rfl rfl ?_
    refine x_iload_n 20 hK rfl rfl rfl ?_
    refine x_if_lt 44 23 hK rfl rfl rfl (by omega) (fun _ => ?_) (fun c => by omega)
    refine x_aload_n 45 hK rfl rfl rfl ?_
    refine x_getR 48 hK rfl rfl (sp_0 (h := h80) hG80) (rf_0_0 (h := h80) hG80) ?_
    refine x_getE 51 hK rfl (Or.inl rfl) rfl (sp_1 (h := h80) hG80) (e := (((((gi h 1 1) + 1) + 1) + 1) + 1)) (t80) ?_
    have e9 : sgR (gi h 1 1) = gi h 1 1 + 4 := if_neg (by omega)
    have t9 : gi h80 1 1 = gi h 1 1 + 4 := (t80).trans (by omega)
    have c9 : ∀ j, gi h80 2 j = sgT (gi h 2) (gi h 1 1) v j := fun j => by
      rw [s80, s76, s72, s68]
      rw [← sgT_4 (by omega) (by omega)]
      rw [show gi h 1 1 + 1 + 1 + 1 = gi h 1 1 + 3 by omega, show gi h 1 1 + 1 + 1 = gi h 1 1 + 2 by omega]
    exact x_iret hK rfl ⟨by rw [e9, show (((((gi h 1 1) + 1) + 1) + 1) + 1) = gi h 1 1 + 4 by omega], hG80, (((hF68).trans ((hF72).mono rfl)).trans ((hF76).mono rfl)).trans ((hF80).mono rfl), t9.trans (if_neg (by omega)).symm, c9⟩
  · refine x_iconst 15 hK rfl rfl ?_
    exact x_iret hK rfl ⟨by rw [show sgR (gi h 1 1) = -1 from if_pos (by omega)], hG, (FRM.rf : FRM gRL [(0, 1, 1, 1), (0, 2, 0, 79)] h h), (if_pos (by omega)).symm, fun j => by rw [sgT_no (by omega)]⟩
set_option maxRecDepth 4000 in
theorem ctX10_end {SP : CT} (hSP : MONO SP) {sh : List (Nat × Nat)} {h : aH} (hG : GD gE gRL sh h) {n : Int} (rn : r32 n) : CLd SP 2 mX10_end [.ref 0, .int (I n)] h 0 0 (fun rv h' => rv = some (.int (I (if 0 ≤ n ∧ n ≤ gi h 1 1 then 1 else 0))) ∧ GD gE gRL sh h' ∧ FRM gRL [(0, 1, 1, 1)] h h' ∧ gi h' 1 1 = (if 0 ≤ n ∧ n ≤ gi h 1 1 then n else gi h 1 1)) := by
  refine x_met _ rfl (Nat.le_of_ble_eq_true rfl) (fun K hK => ?_)
  have hmono := MONO_CLd hSP 1
  have gs := gri 0 80 hG (a := 1) (r := 1) (k := 1) rfl rfl
  refine x_iload_n 1 hK rfl rfl rfl ?_
  refine x_if_lt 15 4 hK rfl rfl rfl (by omega) (fun c2 => ?_) (fun c2 => ?_)
  · refine x_iconst 16 hK rfl rfl ?_
    exact x_zret hK rfl (by omega) ⟨by rw [if_neg (by omega)], hG, (FRM.rf : FRM gRL [(0, 1, 1, 1)] h h), by rw [if_neg (by omega)]⟩
  · refine x_iload_n 5 hK rfl rfl rfl ?_
    refine x_aload_n 6 hK rfl rfl rfl ?_
    refine x_getR 9 hK rfl rfl (sp_0 (h := h) hG) (rf_0_0 (h := h) hG) ?_
    have g82 := gri (0) (80) hG (a := 1) (r := 1) (k := 1) rfl rfl
    refine x_getE 12 hK rfl (Or.inl rfl) rfl (sp_1 (h := h) hG) (e := (gi h 1 1)) (rfl) ?_
    refine x_if_icmp_le 17 15 hK rfl rfl rfl (by omega) (by omega) (fun c9 => ?_) (fun c9 => ?_)
    · refine x_aload_n 18 hK rfl rfl rfl ?_
      refine x_getR 21 hK rfl rfl (sp_0 (h := h) hG) (rf_0_0 (h := h) hG) ?_
      refine x_iload_n 22 hK rfl rfl rfl ?_
      refine x_putI 25 hK rfl rfl (sp_1 (h := h) hG) ?_
      refine x_iconst 26 hK rfl rfl ?_
      exact x_zret hK rfl (by omega) ⟨by rw [if_pos (by omega)], GD_w1 (hG) (r := 1) rfl (by omega) rfl (by omega) (by omega), FRM_w ((FRM.rf : FRM gRL [(0, 1, 1, 1)] h h)) (r := 1) rfl rfl, by rw [if_pos (by omega)]; exact gi_same (by omega)⟩
    · refine x_iconst 16 hK rfl rfl ?_
      exact x_zret hK rfl (by omega) ⟨by rw [if_neg (by omega)], hG, (FRM.rf : FRM gRL [(0, 1, 1, 1)] h h), by rw [if_neg (by omega)]⟩
set_option maxRecDepth 4000 in
theorem ctX11_sign {SP : CT} (hSP : MONO SP) {sh : List (Nat × Nat)} {h : aH} (hG : GD gE gRL sh h) {v : Int} (rv : r32 v) : CLd SP 2 mX11_sign [.ref 171, .int (I v)] h 0 0 (fun rv h' => rv = some (.int (I (sgR (gi h 171 17)))) ∧ GD gE gRL sh h' ∧ FRM gRL [(0, 54, 0, 0), (0, 54, 17, 17), (0, 63, 0, 79)] h h' ∧ gi h' 171 17 = (if 76 < gi h 171 17 then gi h 171 17 else gi h 171 17 + 4) ∧ ∀ j, gi h' 180 j = sgT (gi h 180) (gi h 171 17) v j) := by
  refine x_met _ rfl (Nat.le_of_ble_eq_true rfl) (fun K hK => ?_)
  have hmono := MONO_CLd hSP 1
  have gs := gri 0 80 hG (a := 171) (r := 54) (k := 17) rfl rfl
  have b0 := by_r v 0
  have b1 := by_r v 1
  have b2 := by_r v 2
  have b3 := by_r v 3
  refine x_aload_n 1 hK rfl rfl rfl ?_
  refine x_iconst 2 hK rfl rfl ?_
  refine x_putI 5 hK rfl rfl (sp_171 (h := h) hG) ?_
  refine x_aload_n 6 hK rfl rfl rfl ?_
  have g83 := gri (0) (80) hG (a := 171) (r := 54) (k := 17) rfl rfl
  refine x_getE 9 hK rfl (Or.inl rfl) rfl (sp_171 (h := h) hG) (e := (gi h 171 17)) (gi_k (by decide) _) ?_
  refine x_bipush 11 hK rfl rfl rfl ?_
  refine x_if_icmp_le 16 14 hK rfl rfl rfl (by omega) (by omega) (fun c7 => ?_) (fun c7 => ?_)
  · refine x_iconst 17 hK rfl rfl ?_
    refine x_istore_n 18 hK rfl rfl [(2, .int (I 0)), (0, .ref 171), (1, .int (I v))] rfl ?_
    refine x_iload_n 19 hK rfl rfl rfl ?_
    refine x_iconst 20 hK rfl rfl ?_
    refine x_if_icmp_ge 53 23 hK rfl rfl rfl (by omega) (by omega) (fun c => by omega) (fun _ => ?_)
    refine x_aload_n 24 hK rfl rfl rfl ?_
    refine x_getR 27 hK rfl rfl (sp_171 (h := h) hG) (rf_171_16 (h := h) hG) ?_
    refine x_aload_n 28 hK rfl rfl rfl ?_
    refine x_getE 31 hK rfl (Or.inl rfl) rfl (sp_171 (h := h) hG) (e := (gi h 171 17)) (gi_k (by decide) _) ?_
    refine x_iload_n 32 hK rfl rfl rfl ?_
    refine x_iadd 33 hK rfl rfl ?_
    refine x_iload_n 34 hK rfl rfl rfl ?_
    refine x_bipush 36 hK rfl rfl rfl ?_
    refine x_bipush 38 hK rfl rfl rfl ?_
    refine x_iload_n 39 hK rfl rfl rfl ?_
    refine x_imul 40 hK rfl rfl ?_
    refine x_isub 41 hK rfl rfl ?_
    have g84 := bShr_r v 24
    refine x_ishrF 42 hK rfl rfl ?_
    refine x_sipush 45 hK rfl rfl rfl ?_
    have g85 := bAnd_r (bShr v 24) 255
    refine x_iandF 46 hK rfl rfl ?_
    rw [show bAnd (bShr v (24 - 8 * 0)) 255 = byF v 0 from rfl]
    refine x_iastore 47 hK rfl rfl (sp_180 (h := h) hG) (by omega) (by omega) (by omega) ?_
    refine x_iinc 50 hK rfl rfl rfl [(2, .int (I 1)), (0, .ref 171), (1, .int (I v))] rfl ?_
    refine x_goto 18 hK rfl rfl ?_
    refine x_iload_n 19 hK rfl rfl rfl ?_
    refine x_iconst 20 hK rfl rfl ?_
    refine x_if_icmp_ge 53 23 hK rfl rfl rfl (by omega) (by omega) (fun c => by omega) (fun _ => ?_)
    refine x_aload_n 24 hK rfl rfl rfl ?_
    refine x_getR 27 hK rfl rfl (sp_171 (h := h) hG) (rf_171_16 (h := h) hG) ?_
    refine x_aload_n 28 hK rfl rfl rfl ?_
    refine x_getE 31 hK rfl (Or.inl rfl) rfl (sp_171 (h := h) hG) (e := (gi h 171 17)) ((gi_a (by decide) _).trans (gi_k (by decide) _)) ?_
    refine x_iload_n 32 hK rfl rfl rfl ?_
    refine x_iadd 33 hK rfl rfl ?_
    refine x_iload_n 34 hK rfl rfl rfl ?_
    refine x_bipush 36 hK rfl rfl rfl ?_
    refine x_bipush 38 hK rfl rfl rfl ?_
    refine x_iload_n 39 hK rfl rfl rfl ?_
    refine x_imul 40 hK rfl rfl ?_
    refine x_isub 41 hK rfl rfl ?_
    have g86 := bShr_r v 16
    refine x_ishrF 42 hK rfl rfl ?_
    refine x_sipush 45 hK rfl rfl rfl ?_
    have g87 := bAnd_r (bShr v 16) 255
    refine x_iandF 46 hK rfl rfl ?_
    rw [show bAnd (bShr v (24 - 8 * 1)) 255 = byF v 1 from rfl]
    refine x_iastore 47 hK rfl rfl (sp_180 (h := h) hG) (by omega) (by omega) (by omega) ?_
    refine x_iinc 50 hK rfl rfl rfl [(2, .int (I 2)), (0, .ref 171), (1, .int (I v))] rfl ?_
    refine x_goto 18 hK rfl rfl ?_
    refine x_iload_n 19 hK rfl rfl rfl ?_
    refine x_iconst 20 hK rfl rfl ?_
    refine x_if_icmp_ge 53 23 hK rfl rfl rfl (by omega) (by omega) (fun c => by omega) (fun _ => ?_)
    refine x_aload_n 24 hK rfl rfl rfl ?_
    refine x_getR 27 hK rfl rfl (sp_171 (h := h) hG) (rf_171_16 (h := h) hG) ?_
    refine x_aload_n 28 hK rfl rfl rfl ?_
    refine x_getE 31 hK rfl (Or.inl rfl) rfl (sp_171 (h := h) hG) (e := (gi h 171 17)) ((gi_a (by decide) _).trans ((gi_a (by decide) _).trans (gi_k (by decide) _))) ?_
    refine x_iload_n 32 hK rfl rfl rfl ?_
    refine x_iadd 33 hK rfl rfl ?_
    refine x_iload_n 34 hK rfl rfl rfl ?_
    refine x_bipush 36 hK rfl rfl rfl ?_
    refine x_bipush 38 hK rfl rfl rfl ?_
    refine x_iload_n 39 hK rfl rfl rfl ?_
    refine x_imul 40 hK rfl rfl ?_
    refine x_isub 41 hK rfl rfl ?_
    have g88 := bShr_r v 8
    refine x_ishrF 42 hK rfl rfl ?_
    refine x_sipush 45 hK rfl rfl rfl ?_
    have g89 := bAnd_r (bShr v 8) 255
    refine x_iandF 46 hK rfl rfl ?_
    rw [show bAnd (bShr v (24 - 8 * 2)) 255 = byF v 2 from rfl]
    refine x_iastore 47 hK rfl rfl (sp_180 (h := h) hG) (by omega) (by omega) (by omega) ?_
    refine x_iinc 50 hK rfl rfl rfl [(2, .int (I 3)), (0, .ref 171), (1, .int (I v))] rfl ?_
    refine x_goto 18 hK rfl rfl ?_
    refine x_iload_n 19 hK rfl rfl rfl ?_
    refine x_iconst 20 hK rfl rfl ?_
    refine x_if_icmp_ge 53 23 hK rfl rfl rfl (by omega) (by omega) (fun c => by omega) (fun _ => ?_)
    refine x_aload_n 24 hK rfl rfl rfl ?_
    refine x_getR 27 hK rfl rfl (sp_171 (h := h) hG) (rf_171_16 (h := h) hG) ?_
    refine x_aload_n 28 hK rfl rfl rfl ?_
    refine x_getE 31 hK rfl (Or.inl rfl) rfl (sp_171 (h := h) hG) (e := (gi h 171 17)) ((gi_a (by decide) _).trans ((gi_a (by decide) _).trans ((gi_a (by decide) _).trans (gi_k (by decide) _)))) ?_
    refine x_iload_n 32 hK rfl rfl rfl ?_
    refine x_iadd 33 hK rfl rfl ?_
    refine x_iload_n 34 hK rfl rfl rfl ?_
    refine x_bipush 36 hK rfl rfl rfl ?_
    refine x_bipush 38 hK rfl rfl rfl ?_
    refine x_iload_n 39 hK rfl rfl rfl ?_
    refine x_imul 40 hK rfl rfl ?_
    refine x_isub 41 hK rfl rfl ?_
    have g90 := bShr_r v 0
    refine x_ishrF 42 hK rfl rfl ?_
    refine x_sipush 45 hK rfl rfl rfl ?_
    have g91 := bAnd_r (bShr v 0) 255
    refine x_iandF 46 hK rfl rfl ?_
    rw [show bAnd (bShr v (24 - 8 * 3)) 255 = byF v 3 from rfl]
    refine x_iastore 47 hK rfl rfl (sp_180 (h := h) hG) (by omega) (by omega) (by omega) ?_
    refine x_iinc 50 hK rfl rfl rfl [(2, .int (I 4)), (0, .ref 171), (1, .int (I v))] rfl ?_
    refine x_goto 18 hK rfl rfl ?_
    refine x_iload_n 19 hK rfl rfl rfl ?_
    refine x_iconst 20 hK rfl rfl ?_
    refine x_if_icmp_ge 53 23 hK rfl rfl rfl (by omega) (by omega) (fun _ => ?_) (fun c => by omega)
    refine x_aload_n 54 hK rfl rfl rfl ?_
    refine x_dup 55 hK rfl rfl rfl ?_
    refine x_getE 58 hK rfl (Or.inl rfl) rfl (sp_171 (h := h) hG) (e := (gi h 171 17)) ((gi_a (by decide) _).trans ((gi_a (by decide) _).trans ((gi_a (by decide) _).trans ((gi_a (by decide) _).trans (gi_k (by decide) _))))) ?_
    refine x_iconst 59 hK rfl rfl ?_
    refine x_iadd 60 hK rfl rfl ?_
    refine x_putI 63 hK rfl rfl (sp_171 (h := h) hG) ?_
    refine x_aload_n 64 hK rfl rfl rfl ?_
    refine x_getE 67 hK rfl (Or.inl rfl) rfl (sp_171 (h := h) hG) (e := ((gi h 171 17) + 4)) (gi_same (by omega)) ?_
    have e9 : sgR (gi h 171 17) = gi h 171 17 + 4 := if_neg (by omega)
    exact x_iret hK rfl ⟨by rw [e9], GD_w1 (GD_wu (GD_wu (GD_wu (GD_wu (GD_w1 (hG) (r := 54) rfl (by omega) rfl (by omega) (by omega)) (r := 63) rfl (by omega) rfl (by omega) (by omega)) (r := 63) rfl (by omega) rfl (by omega) (by omega)) (r := 63) rfl (by omega) rfl (by omega) (by omega)) (r := 63) rfl (by omega) rfl (by omega) (by omega)) (r := 54) rfl (by omega) rfl (by omega) (by omega), FRM_w (FRM_wn 0 79 (FRM_wn 0 79 (FRM_wn 0 79 (FRM_wn 0 79 (FRM_w ((FRM.rf : FRM gRL [(0, 54, 0, 0), (0, 54, 17, 17), (0, 63, 0, 79)] h h)) (r := 54) rfl rfl) (r := 63) rfl rfl rfl (by omega) (by omega)) (r := 63) rfl rfl rfl (by omega) (by omega)) (r := 63) rfl rfl rfl (by omega) (by omega)) (r := 63) rfl rfl rfl (by omega) (by omega)) (r := 54) rfl rfl, (gi_same (by omega)).trans (if_neg (by omega)).symm, fun j => by
        rw [← sgT_4 (by omega) (by omega), gi_a (by decide), wI_if (by omega), wI_if (by omega), wI_if (by omega), wI_if (by omega), gi_a (by decide), show gi h 171 17 + 0 = gi h 171 17 by omega]⟩
  · refine x_iconst 15 hK rfl rfl ?_
    exact x_iret hK rfl ⟨by rw [show sgR (gi h 171 17) = -1 from if_pos (by omega)], GD_w1 (hG) (r := 54) rfl (by omega) rfl (by omega) (by omega), FRM_w ((FRM.rf : FRM gRL [(0, 54, 0, 0), (0, 54, 17, 17), (0, 63, 0, 79)] h h)) (r := 54) rfl rfl, (gi_k (by decide) _).trans (if_pos (by omega)).symm, fun j => by rw [sgT_no (by omega)]; exact gi_a (by decide) _⟩
set_option maxRecDepth 4000 in
theorem ctX11_end {SP : CT} (hSP : MONO SP) {sh : List (Nat × Nat)} {h : aH} (hG : GD gE gRL sh h) {n : Int} (rn : r32 n) : CLd SP 2 mX11_end [.ref 171, .int (I n)] h 0 0 (fun rv h' => rv = some (.int (I (if 0 ≤ n ∧ n ≤ gi h 171 17 then 1 else 0))) ∧ GD gE gRL sh h' ∧ FRM gRL [(0, 54, 0, 0), (0, 54, 17, 17)] h h' ∧ gi h' 171 17 = (if 0 ≤ n ∧ n ≤ gi h 171 17 then n else gi h 171 17)) := by
  refine x_met _ rfl (Nat.le_of_ble_eq_true rfl) (fun K hK => ?_)
  have hmono := MONO_CLd hSP 1
  have gs := gri 0 80 hG (a := 171) (r := 54) (k := 17) rfl rfl
  refine x_aload_n 1 hK rfl rfl rfl ?_
  refine x_iconst 2 hK rfl rfl ?_
  refine x_putI 5 hK rfl rfl (sp_171 (h := h) hG) ?_
  refine x_iload_n 6 hK rfl rfl rfl ?_
  refine x_i2l 7 hK rfl rfl (by omega) ?_
  refine x_lconstE 8 0 hK rfl rfl rfl ?_
  refine x_aload_n 9 hK rfl rfl rfl ?_
  have g92 := gri (0) (80) hG (a := 171) (r := 54) (k := 17) rfl rfl
  refine x_getE 12 hK rfl (Or.inl rfl) rfl (sp_171 (h := h) hG) (e := (gi h 171 17)) (gi_k (by decide) _) ?_
  refine x_i2l 13 hK rfl rfl (by omega) ?_
  have hGp93 : GD gE gRL sh (wI h 171 0 0) := GD_w1 (hG) (r := 54) rfl (by omega) rfl (by omega) (by omega)
  refine x_callS 16 hK hmono rfl (Or.inl rfl) rfl [.long (J n), .long (J 0), .long (J (gi h 171 17))] [] rfl rfl (Nat.le_of_ble_eq_true rfl) (Nat.le_of_ble_eq_true rfl) (CLd_le (Nat.le_of_ble_eq_true rfl) (ctX11_in (by omega) (by omega) (by omega))) ?_
  rintro v9 h9 ⟨e9, ⟨rfl, i194, i294⟩ | ⟨rfl, i194⟩⟩ <;> rw [e9] <;> clear e9
  · refine x_if_ne 21 19 hK rfl rfl rfl (by omega) (fun _ => ?_) (fun c => by omega)
    refine x_aload_n 22 hK rfl rfl rfl ?_
    refine x_iload_n 23 hK rfl rfl rfl ?_
    refine x_putI 26 hK rfl rfl (sp_171 (h := h) hG) ?_
    refine x_iconst 27 hK rfl rfl ?_
    exact x_zret hK rfl (by omega) ⟨by rw [if_pos (by omega)], GD_w1 (GD_w1 (hG) (r := 54) rfl (by omega) rfl (by omega) (by omega)) (r := 54) rfl (by omega) rfl (by omega) (by omega), FRM_w (FRM_w ((FRM.rf : FRM gRL [(0, 54, 0, 0), (0, 54, 17, 17)] h h)) (r := 54) rfl rfl) (r := 54) rfl rfl, by rw [if_pos (by omega)]; exact gi_same (by omega)⟩
  · refine x_if_ne 21 19 hK rfl rfl rfl (by omega) (fun c => by omega) (fun _ => ?_)
    refine x_iconst 20 hK rfl rfl ?_
    exact x_zret hK rfl (by omega) ⟨by rw [if_neg (by omega)], GD_w1 (hG) (r := 54) rfl (by omega) rfl (by omega) (by omega), FRM_w ((FRM.rf : FRM gRL [(0, 54, 0, 0), (0, 54, 17, 17)] h h)) (r := 54) rfl rfl, by rw [if_neg (by omega)]; exact gi_k (by decide) _⟩
set_option maxRecDepth 4000 in
theorem ctX9_open {SP : CT} (hSP : MONO SP) {sh : List (Nat × Nat)} {h : aH} (hG : GD gE gRL sh h) {n : Int} (hn : 0 ≤ n ∧ n ≤ 76) : CLd SP 1 mX9_open [.ref 1, .int (I n)] h 0 0 (fun rv h' => rv = none ∧ GD gE gRL sh h' ∧ FRM gRL [(0, 1, 2, 2), (0, 1, 3, 3), (0, 1, 4, 4), (0, 1, 5, 5)] h h' ∧ gi h' 1 2 = 0 ∧ gi h' 1 3 = min (gi h 1 1) n ∧ gi h' 1 4 = (if n < gi h 1 1 then 1 else 0) ∧ gi h' 1 5 = 0) := by
  refine x_met _ rfl (Nat.le_of_ble_eq_true rfl) (fun K hK => ?_)
  have hmono := MONO_CLd hSP 0
  have gs := gri 0 80 hG (a := 1) (r := 1) (k := 1) rfl rfl
  refine x_aload_n 1 hK rfl rfl rfl ?_
  refine x_iconst 2 hK rfl rfl ?_
  refine x_putI 5 hK rfl rfl (sp_1 (h := h) hG) ?_
  refine x_aload_n 6 hK rfl rfl rfl ?_
  refine x_aload_n 7 hK rfl rfl rfl ?_
  have g95 := gri (0) (80) hG (a := 1) (r := 1) (k := 1) rfl rfl
  refine x_getE 10 hK rfl (Or.inl rfl) rfl (sp_1 (h := h) hG) (e := (gi h 1 1)) (gi_k (by decide) _) ?_
  refine x_iload_n 11 hK rfl rfl rfl ?_
  refine x_min 14 hK rfl rfl (Nat.le_of_ble_eq_true rfl) (by omega) (by omega) ?_
  refine x_putI 17 hK rfl rfl (sp_1 (h := h) hG) ?_
  refine x_aload_n 18 hK rfl rfl rfl ?_
  refine x_aload_n 19 hK rfl rfl rfl ?_
  refine x_getE 22 hK rfl (Or.inl rfl) rfl (sp_1 (h := h) hG) (e := (gi h 1 1)) ((gi_k (by decide) _).trans (gi_k (by decide) _)) ?_
  refine x_iload_n 23 hK rfl rfl rfl ?_
  refine x_if_icmp_le 30 26 hK rfl rfl rfl (by omega) (by omega) (fun c14 => ?_) (fun c14 => ?_)
  · refine x_iconst 31 hK rfl rfl ?_
    refine x_putZ 34 hK rfl rfl (sp_1 (h := h) hG) (by omega) ?_
    refine x_aload_n 35 hK rfl rfl rfl ?_
    refine x_iconst 36 hK rfl rfl ?_
    refine x_putZ 39 hK rfl rfl (sp_1 (h := h) hG) (by omega) ?_
    exact x_vret hK rfl ⟨rfl, GD_w1 (GD_w1 (GD_w1 (GD_w0 (hG) (r := 1) rfl rfl) (r := 1) rfl (by omega) rfl (by omega) (by omega)) (r := 1) rfl (by omega) rfl (by omega) (by omega)) (r := 1) rfl (by omega) rfl (by omega) (by omega), FRM_w (FRM_w (FRM_w (FRM_w ((FRM.rf : FRM gRL [(0, 1, 2, 2), (0, 1, 3, 3), (0, 1, 4, 4), (0, 1, 5, 5)] h h)) (r := 1) rfl rfl) (r := 1) rfl rfl) (r := 1) rfl rfl) (r := 1) rfl rfl, (gi_k (by decide) _).trans ((gi_k (by decide) _).trans ((gi_k (by decide) _).trans (gi_same (by omega)))), (gi_k (by decide) _).trans ((gi_k (by decide) _).trans (gi_same (by omega))), ((gi_k (by decide) _).trans (gi_same (by omega))).trans (by first | rw [if_pos (by omega)] | rw [if_neg (by omega)]), gi_same (by omega)⟩
  · refine x_iconst 27 hK rfl rfl ?_
    refine x_goto 31 hK rfl rfl ?_
    refine x_putZ 34 hK rfl rfl (sp_1 (h := h) hG) (by omega) ?_
    refine x_aload_n 35 hK rfl rfl rfl ?_
    refine x_iconst 36 hK rfl rfl ?_
    refine x_putZ 39 hK rfl rfl (sp_1 (h := h) hG) (by omega) ?_
    exact x_vret hK rfl ⟨rfl, GD_w1 (GD_w1 (GD_w1 (GD_w0 (hG) (r := 1) rfl rfl) (r := 1) rfl (by omega) rfl (by omega) (by omega)) (r := 1) rfl (by omega) rfl (by omega) (by omega)) (r := 1) rfl (by omega) rfl (by omega) (by omega), FRM_w (FRM_w (FRM_w (FRM_w ((FRM.rf : FRM gRL [(0, 1, 2, 2), (0, 1, 3, 3), (0, 1, 4, 4), (0, 1, 5, 5)] h h)) (r := 1) rfl rfl) (r := 1) rfl rfl) (r := 1) rfl rfl) (r := 1) rfl rfl, (gi_k (by decide) _).trans ((gi_k (by decide) _).trans ((gi_k (by decide) _).trans (gi_same (by omega)))), (gi_k (by decide) _).trans ((gi_k (by decide) _).trans (gi_same (by omega))), ((gi_k (by decide) _).trans (gi_same (by omega))).trans (by first | rw [if_pos (by omega)] | rw [if_neg (by omega)]), gi_same (by omega)⟩
