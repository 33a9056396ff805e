/-! THE PAST OF THE CLASS -/
def PL (h : aH) : List CWS := (List.range (gi h 33 2).toNat).map fun i => kS h (37 + 5 * (((gi h 33 1).toNat + i) % 15))
def pushC (l : List CWS) (x : CWS) : List CWS := if l.length < 15 then l ++ [x] else l.drop 1 ++ [x]
theorem PL_l (h : aH) : (PL h).length = (gi h 33 2).toNat := by unfold PL; rw [List.length_map, List.length_range]
theorem kS_ge {h h' : aH} {c : Nat} (e : ∀ a k : Nat, c ≤ a → a ≤ c + 4 → gi h' a k = gi h a k) : kS h' c = kS h c := by
  unfold kS
  have e0 : ∀ k, gi h' c k = gi h c k := fun k => e _ k (by omega) (by omega)
  rw [e0, e0, e0, e0, e0, kO_eq fun j _ => ⟨e (c + 1) j (by omega) (by omega), e (c + 2) j (by omega) (by omega)⟩]
  simp only [e (c + 3) _ (by omega) (by omega), e (c + 4) _ (by omega) (by omega)]
theorem PL_eq {h h' : aH} (e1 : gi h' 33 1 = gi h 33 1) (e2 : gi h' 33 2 = gi h 33 2) (e : ∀ i, i < 15 → kS h' (37 + 5 * i) = kS h (37 + 5 * i)) : PL h' = PL h := by
  unfold PL
  rw [e1, e2]
  exact List.map_congr_left fun i _ => e _ (Nat.mod_lt _ (by decide))
theorem PL_push {h h' : aH} {f n : Nat} {x : CWS} (hf : gi h 33 1 = (f : Int)) (hn : gi h 33 2 = (n : Int)) (f1 : f < 15) (n1 : n ≤ 15) (ex : kS h' (37 + 5 * ((f + n) % 15)) = x) (eo : ∀ i, i < 15 → i ≠ (f + n) % 15 → kS h' (37 + 5 * i) = kS h (37 + 5 * i))
    (hc : (n < 15 ∧ gi h' 33 1 = (f : Int) ∧ gi h' 33 2 = ((n + 1 : Nat) : Int)) ∨ (n = 15 ∧ gi h' 33 1 = (((f + 1) % 15 : Nat) : Int) ∧ gi h' 33 2 = 15)) : PL h' = pushC (PL h) x := by
  unfold pushC
  rw [PL_l, hn, Int.toNat_natCast]
  unfold PL
  rw [hf, hn, Int.toNat_natCast, Int.toNat_natCast]
  rcases hc with ⟨c, g1, g2⟩ | ⟨c, g1, g2⟩
  · rw [if_pos c, g1, g2, Int.toNat_natCast, Int.toNat_natCast, List.range_succ, List.map_append]
    congr 1
    · refine List.map_congr_left fun i hi => ?_
      have := List.mem_range.mp hi
      exact eo _ (Nat.mod_lt _ (by decide)) (by omega)
    · rw [List.map_cons, List.map_nil, ex]
  · subst c
    rw [if_neg (by omega), g1, g2, Int.toNat_natCast]
    show (List.range 15).map (fun i => kS h' (37 + 5 * (((f + 1) % 15 + i) % 15))) = ((List.range 15).map (fun i => kS h (37 + 5 * ((f + i) % 15)))).drop 1 ++ [x]
    have e1 : ∀ F : Nat → CWS, (List.range 15).map F = (List.range 14).map F ++ [F 14] := fun F => rfl
    have e2 : ∀ F : Nat → CWS, ((List.range 15).map F).drop 1 = (List.range 14).map fun i => F (1 + i) := fun F => rfl
    rw [e1, e2]
    congr 1
    · refine List.map_congr_left fun i hi => ?_
      have := List.mem_range.mp hi
      show kS h' (37 + 5 * (((f + 1) % 15 + i) % 15)) = kS h (37 + 5 * ((f + (1 + i)) % 15))
      rw [show ((f + 1) % 15 + i) % 15 = (f + (1 + i)) % 15 by omega]
      exact eo _ (Nat.mod_lt _ (by decide)) (by omega)
    · rw [show ((f + 1) % 15 + 14) % 15 = (f + 15) % 15 by omega, ex]
theorem PL_pop {h h' : aH} {f n : Nat} (hf : gi h 33 1 = (f : Int)) (hn : gi h 33 2 = ((n + 1 : Nat) : Int)) (g1 : gi h' 33 1 = (f : Int)) (g2 : gi h' 33 2 = (n : Int)) (eo : ∀ i, i < 15 → kS h' (37 + 5 * i) = kS h (37 + 5 * i)) : PL h = PL h' ++ [kS h (37 + 5 * ((f + n) % 15))] := by
  unfold PL
  rw [hf, hn, g1, g2, Int.toNat_natCast, Int.toNat_natCast, Int.toNat_natCast, List.range_succ, List.map_append]
  congr 1
  exact List.map_congr_left fun i _ => (eo _ (Nat.mod_lt _ (by decide))).symm
set_option maxRecDepth 4000 in
theorem ctX1_remember_23 {SP : CT} (hSP : MONO SP) {sh : List (Nat × Nat)} {h : aH} (hG : GD gE gRL sh h) (hP : PT h) : CLd SP 2 mX1_remember [.ref 33, .ref 23] h 0 0 (fun rv h' => rv = none ∧ GD gE gRL sh h' ∧ FRM gRL [(0, 27, 1, 2), (0, 31, 0, 4), (0, 32, 0, 11), (0, 33, 0, 11), (0, 34, 0, 7), (0, 35, 0, 7)] h h' ∧ PL h' = pushC (PL h) (kS h 23)) := by
  refine x_met _ rfl (Nat.le_of_ble_eq_true rfl) (fun K hK => ?_)
  have hmono := MONO_CLd hSP 1
  have g1 := gri 0 14 hG (a := 33) (r := 27) (k := 1) rfl rfl
  have g2 := gri 0 15 hG (a := 33) (r := 27) (k := 2) rfl rfl
  obtain ⟨f, hf⟩ : ∃ f : Nat, gi h 33 1 = f := ⟨(gi h 33 1).toNat, by omega⟩
  obtain ⟨n, hn⟩ : ∃ n : Nat, gi h 33 2 = n := ⟨(gi h 33 2).toNat, by omega⟩
  rw [hf] at g1
  rw [hn] at g2
  obtain ⟨c, hcd⟩ : ∃ c : Nat, c = 37 + 5 * ((f + n) % 15) := ⟨_, rfl⟩
  have hc : rgA c := ⟨_, Nat.mod_lt _ (by decide), hcd⟩
  have hcb := rg_b hc
  refine x_aload_n 1 hK rfl rfl rfl ?_
  refine x_getR 4 hK rfl rfl (sp_33 (h := h) hG) (rf_33_0 (h := h) hG) ?_
  refine x_aload_n 5 hK rfl rfl rfl ?_
  refine x_getE 8 hK rfl (Or.inl rfl) rfl (sp_33 (h := h) hG) (e := (f : Int)) (hf) ?_
  refine x_aload_n 9 hK rfl rfl rfl ?_
  refine x_getE 12 hK rfl (Or.inl rfl) rfl (sp_33 (h := h) hG) (e := (n : Int)) (hn) ?_
  refine x_iadd 13 hK rfl rfl ?_
  refine x_bipush 15 hK rfl rfl rfl ?_
  refine x_iremp 16 hK rfl rfl (by omega) (by omega) (by omega) (by omega) ?_
  refine x_aaload 17 hK rfl rfl (sp_34 (h := h) hG) (by decide) (by omega) (by omega) (by omega) (show aR h 34 (((((f : Int) + (n : Int)) % 15))).toNat = some c from by rw [hcd, show (((((f : Int) + (n : Int)) % 15))).toNat = (f + n) % 15 from by omega]; exact ((show PT h from hP).2.1 _ (Nat.mod_lt _ (by decide))).1) ?_
  refine x_aload_n 18 hK rfl rfl rfl ?_
  refine x_callV 21 hK hmono rfl rfl [.ref c, .ref 23] [] rfl rfl (Nat.le_of_ble_eq_true rfl) (Nat.le_of_ble_eq_true rfl) rfl (shx (h := h) hG (r := 31) (rg_r hc).1 rfl) (CLd_le (Nat.le_of_ble_eq_true rfl) (ctX8_copyFrom_rg_23 hSP hG (show PT h from hP) hc)) ?_
  rintro v297 h297 ⟨rfl, hG297, hF297, eS297, ot297⟩
  refine x_aload_n 22 hK rfl rfl rfl ?_
  refine x_getE 25 hK rfl (Or.inl rfl) rfl (sp_33 (h := h297) hG297) (e := (n : Int)) ((FRM_gi hF297 (r := 27) rfl rfl).trans (hn)) ?_
  refine x_bipush 27 hK rfl rfl rfl ?_
  refine x_if_icmp_ge 43 30 hK rfl rfl rfl (by omega) (by omega) (fun c16 => ?_) (fun c16 => ?_)
  · refine x_aload_n 44 hK rfl rfl rfl ?_
    refine x_aload_n 45 hK rfl rfl rfl ?_
    refine x_getE 48 hK rfl (Or.inl rfl) rfl (sp_33 (h := h297) hG297) (e := (f : Int)) ((FRM_gi hF297 (r := 27) rfl rfl).trans (hf)) ?_
    refine x_iconst 49 hK rfl rfl ?_
    refine x_iadd 50 hK rfl rfl ?_
    refine x_bipush 52 hK rfl rfl rfl ?_
    refine x_iremp 53 hK rfl rfl (by omega) (by omega) (by omega) (by omega) ?_
    refine x_putI 56 hK rfl rfl (sp_33 (h := h297) hG297) ?_
    have ex : kS (wI h297 33 1 (((f : Int) + 1) % 15)) (37 + 5 * ((f + n) % 15)) = kS h 23 := by
      rw [← hcd]
      refine (kS_ge (h := h297) fun a k k1 k2 => gi_a (by omega) _).trans ?_
      exact eS297
    have eo : ∀ i, i < 15 → i ≠ (f + n) % 15 → kS (wI h297 33 1 (((f : Int) + 1) % 15)) (37 + 5 * i) = kS h (37 + 5 * i) := fun i h1 h2 => by
      refine (kS_ge (h := h297) fun a k k1 k2 => gi_a (by omega) _).trans ?_
      exact oth_S ot297 (by omega)
    exact x_vret hK rfl ⟨rfl, GD_w1 (hG297) (r := 27) rfl (by omega) rfl (by omega) (by omega), FRM_w ((hF297).mono rfl) (r := 27) rfl rfl, PL_push hf hn (by omega) (by omega) ex eo (Or.inr ⟨by omega, (gi_same (by omega)).trans (by omega), ((gi_k (by decide) _).trans ((FRM_gi hF297 (r := 27) rfl rfl).trans (hn))).trans (by omega)⟩)⟩
  · refine x_aload_n 31 hK rfl rfl rfl ?_
    refine x_dup 32 hK rfl rfl rfl ?_
    refine x_getE 35 hK rfl (Or.inl rfl) rfl (sp_33 (h := h297) hG297) (e := (n : Int)) ((FRM_gi hF297 (r := 27) rfl rfl).trans (hn)) ?_
    refine x_iconst 36 hK rfl rfl ?_
    refine x_iadd 37 hK rfl rfl ?_
    refine x_putI 40 hK rfl rfl (sp_33 (h := h297) hG297) ?_
    refine x_goto 56 hK rfl rfl ?_
    have ex : kS (wI h297 33 2 ((n : Int) + 1)) (37 + 5 * ((f + n) % 15)) = kS h 23 := by
      rw [← hcd]
      refine (kS_ge (h := h297) fun a k k1 k2 => gi_a (by omega) _).trans ?_
      exact eS297
    have eo : ∀ i, i < 15 → i ≠ (f + n) % 15 → kS (wI h297 33 2 ((n : Int) + 1)) (37 + 5 * i) = kS h (37 + 5 * i) := fun i h1 h2 => by
      refine (kS_ge (h := h297) fun a k k1 k2 => gi_a (by omega) _).trans ?_
      exact oth_S ot297 (by omega)
    exact x_vret hK rfl ⟨rfl, GD_w1 (hG297) (r := 27) rfl (by omega) rfl (by omega) (by omega), FRM_w ((hF297).mono rfl) (r := 27) rfl rfl, PL_push hf hn (by omega) (by omega) ex eo (Or.inl ⟨by omega, ((gi_k (by decide) _).trans ((FRM_gi hF297 (r := 27) rfl rfl).trans (hf))).trans (by omega), (gi_same (by omega)).trans (by omega)⟩)⟩
set_option maxRecDepth 4000 in
theorem ctX1_remember_28 {SP : CT} (hSP : MONO SP) {sh : List (Nat × Nat)} {h : aH} (hG : GD gE gRL sh h) (hP : PT h) : CLd SP 2 mX1_remember [.ref 33, .ref 28] h 0 0 (fun rv h' => rv = none ∧ GD gE gRL sh h' ∧ FRM gRL [(0, 27, 1, 2), (0, 31, 0, 4), (0, 32, 0, 11), (0, 33, 0, 11), (0, 34, 0, 7), (0, 35, 0, 7)] h h' ∧ PL h' = pushC (PL h) (kS h 28)) := by
  refine x_met _ rfl (Nat.le_of_ble_eq_true rfl) (fun K hK => ?_)
  have hmono := MONO_CLd hSP 1
  have g1 := gri 0 14 hG (a := 33) (r := 27) (k := 1) rfl rfl
  have g2 := gri 0 15 hG (a := 33) (r := 27) (k := 2) rfl rfl
  obtain ⟨f, hf⟩ : ∃ f : Nat, gi h 33 1 = f := ⟨(gi h 33 1).toNat, by omega⟩
  obtain ⟨n, hn⟩ : ∃ n : Nat, gi h 33 2 = n := ⟨(gi h 33 2).toNat, by omega⟩
  rw [hf] at g1
  rw [hn] at g2
  obtain ⟨c, hcd⟩ : ∃ c : Nat, c = 37 + 5 * ((f + n) % 15) := ⟨_, rfl⟩
  have hc : rgA c := ⟨_, Nat.mod_lt _ (by decide), hcd⟩
  have hcb := rg_b hc
  refine x_aload_n 1 hK rfl rfl rfl ?_
  refine x_getR 4 hK rfl rfl (sp_33 (h := h) hG) (rf_33_0 (h := h) hG) ?_
  refine x_aload_n 5 hK rfl rfl rfl ?_
  refine x_getE 8 hK rfl (Or.inl rfl) rfl (sp_33 (h := h) hG) (e := (f : Int)) (hf) ?_
  refine x_aload_n 9 hK rfl rfl rfl ?_
  refine x_getE 12 hK rfl (Or.inl rfl) rfl (sp_33 (h := h) hG) (e := (n : Int)) (hn) ?_
  refine x_iadd 13 hK rfl rfl ?_
  refine x_bipush 15 hK rfl rfl rfl ?_
  refine x_iremp 16 hK rfl rfl (by omega) (by omega) (by omega) (by omega) ?_
  refine x_aaload 17 hK rfl rfl (sp_34 (h := h) hG) (by decide) (by omega) (by omega) (by omega) (show aR h 34 (((((f : Int) + (n : Int)) % 15))).toNat = some c from by rw [hcd, show (((((f : Int) + (n : Int)) % 15))).toNat = (f + n) % 15 from by omega]; exact ((show PT h from hP).2.1 _ (Nat.mod_lt _ (by decide))).1) ?_
  refine x_aload_n 18 hK rfl rfl rfl ?_
  refine x_callV 21 hK hmono rfl rfl [.ref c, .ref 28] [] rfl rfl (Nat.le_of_ble_eq_true rfl) (Nat.le_of_ble_eq_true rfl) rfl (shx (h := h) hG (r := 31) (rg_r hc).1 rfl) (CLd_le (Nat.le_of_ble_eq_true rfl) (ctX8_copyFrom_rg_28 hSP hG (show PT h from hP) hc)) ?_
  rintro v298 h298 ⟨rfl, hG298, hF298, eS298, ot298⟩
  refine x_aload_n 22 hK rfl rfl rfl ?_
  refine x_getE 25 hK rfl (Or.inl rfl) rfl (sp_33 (h := h298) hG298) (e := (n : Int)) ((FRM_gi hF298 (r := 27) rfl rfl).trans (hn)) ?_
  refine x_bipush 27 hK rfl rfl rfl ?_
  refine x_if_icmp_ge 43 30 hK rfl rfl rfl (by omega) (by omega) (fun c16 => ?_) (fun c16 => ?_)
  · refine x_aload_n 44 hK rfl rfl rfl ?_
    refine x_aload_n 45 hK rfl rfl rfl ?_
    refine x_getE 48 hK rfl (Or.inl rfl) rfl (sp_33 (h := h298) hG298) (e := (f : Int)) ((FRM_gi hF298 (r := 27) rfl rfl).trans (hf)) ?_
    refine x_iconst 49 hK rfl rfl ?_
    refine x_iadd 50 hK rfl rfl ?_
    refine x_bipush 52 hK rfl rfl rfl ?_
    refine x_iremp 53 hK rfl rfl (by omega) (by omega) (by omega) (by omega) ?_
    refine x_putI 56 hK rfl rfl (sp_33 (h := h298) hG298) ?_
    have ex : kS (wI h298 33 1 (((f : Int) + 1) % 15)) (37 + 5 * ((f + n) % 15)) = kS h 28 := by
      rw [← hcd]
      refine (kS_ge (h := h298) fun a k k1 k2 => gi_a (by omega) _).trans ?_
      exact eS298
    have eo : ∀ i, i < 15 → i ≠ (f + n) % 15 → kS (wI h298 33 1 (((f : Int) + 1) % 15)) (37 + 5 * i) = kS h (37 + 5 * i) := fun i h1 h2 => by
      refine (kS_ge (h := h298) fun a k k1 k2 => gi_a (by omega) _).trans ?_
      exact oth_S ot298 (by omega)
    exact x_vret hK rfl ⟨rfl, GD_w1 (hG298) (r := 27) rfl (by omega) rfl (by omega) (by omega), FRM_w ((hF298).mono rfl) (r := 27) rfl rfl, PL_push hf hn (by omega) (by omega) ex eo (Or.inr ⟨by omega, (gi_same (by omega)).trans (by omega), ((gi_k (by decide) _).trans ((FRM_gi hF298 (r := 27) rfl rfl).trans (hn))).trans (by omega)⟩)⟩
  · refine x_aload_n 31 hK rfl rfl rfl ?_
    refine x_dup 32 hK rfl rfl rfl ?_
    refine x_getE 35 hK rfl (Or.inl rfl) rfl (sp_33 (h := h298) hG298) (e := (n : Int)) ((FRM_gi hF298 (r := 27) rfl rfl).trans (hn)) ?_
    refine x_iconst 36 hK rfl rfl ?_
    refine x_iadd 37 hK rfl rfl ?_
    refine x_putI 40 hK rfl rfl (sp_33 (h := h298) hG298) ?_
    refine x_goto 56 hK rfl rfl ?_
    have ex : kS (wI h298 33 2 ((n : Int) + 1)) (37 + 5 * ((f + n) % 15)) = kS h 28 := by
      rw [← hcd]
      refine (kS_ge (h := h298) fun a k k1 k2 => gi_a (by omega) _).trans ?_
      exact eS298
    have eo : ∀ i, i < 15 → i ≠ (f + n) % 15 → kS (wI h298 33 2 ((n : Int) + 1)) (37 + 5 * i) = kS h (37 + 5 * i) := fun i h1 h2 => by
      refine (kS_ge (h := h298) fun a k k1 k2 => gi_a (by omega) _).trans ?_
      exact oth_S ot298 (by omega)
    exact x_vret hK rfl ⟨rfl, GD_w1 (hG298) (r := 27) rfl (by omega) rfl (by omega) (by omega), FRM_w ((hF298).mono rfl) (r := 27) rfl rfl, PL_push hf hn (by omega) (by omega) ex eo (Or.inl ⟨by omega, ((gi_k (by decide) _).trans ((FRM_gi hF298 (r := 27) rfl rfl).trans (hf))).trans (by omega), (gi_same (by omega)).trans (by omega)⟩)⟩
set_option maxRecDepth 4000 in
theorem ctX1_bringBack {SP : CT} (hSP : MONO SP) {sh : List (Nat × Nat)} {h : aH} (hG : GD gE gRL sh h) (hP : PT h) : CLd SP 2 mX1_bringBack [.ref 33, .ref 23] h 0 0 (fun rv h' => ((gi h 33 2 = 0 ∧ rv = some (.int (I 0)) ∧ h' = h) ∨ (0 < gi h 33 2 ∧ rv = some (.int (I 1)) ∧ gi h' 33 2 = gi h 33 2 - 1 ∧ PL h = PL h' ++ [kS h' 23])) ∧ GD gE gRL sh h' ∧ FRM gRL [(0, 17, 0, 4), (0, 18, 0, 11), (0, 19, 0, 11), (0, 20, 0, 7), (0, 21, 0, 7), (0, 27, 2, 2)] h h') := by
  refine x_met _ rfl (Nat.le_of_ble_eq_true rfl) (fun K hK => ?_)
  have hmono := MONO_CLd hSP 1
  have g1 := gri 0 14 hG (a := 33) (r := 27) (k := 1) rfl rfl
  have g2 := gri 0 15 hG (a := 33) (r := 27) (k := 2) rfl rfl
  obtain ⟨f, hf⟩ : ∃ f : Nat, gi h 33 1 = f := ⟨(gi h 33 1).toNat, by omega⟩
  obtain ⟨n, hn⟩ : ∃ n : Nat, (gi h 33 2 - 1).toNat = n := ⟨_, rfl⟩
  rw [hf] at g1
  obtain ⟨c, hcd⟩ : ∃ c : Nat, c = 37 + 5 * ((f + n) % 15) := ⟨_, rfl⟩
  have hc : rgA c := ⟨_, Nat.mod_lt _ (by decide), hcd⟩
  have hcb := rg_b hc
  refine x_aload_n 1 hK rfl rfl rfl ?_
  have g299 := gri (0) (15) hG (a := 33) (r := 27) (k := 2) rfl rfl
  refine x_getE 4 hK rfl (Or.inl rfl) rfl (sp_33 (h := h) hG) (e := (gi h 33 2)) (rfl) ?_
  refine x_if_gt 9 7 hK rfl rfl rfl (by omega) (fun c3 => ?_) (fun c3 => ?_)
  · refine x_aload_n 10 hK rfl rfl rfl ?_
    refine x_dup 11 hK rfl rfl rfl ?_
    refine x_getE 14 hK rfl (Or.inl rfl) rfl (sp_33 (h := h) hG) (e := (gi h 33 2)) (rfl) ?_
    refine x_iconst 15 hK rfl rfl ?_
    refine x_isub 16 hK rfl rfl ?_
    refine x_putI 19 hK rfl rfl (sp_33 (h := h) hG) ?_
    refine x_aload_n 20 hK rfl rfl rfl ?_
    refine x_aload_n 21 hK rfl rfl rfl ?_
    refine x_getR 24 hK rfl rfl (sp_33 (h := h) hG) (rf_33_0 (h := h) hG) ?_
    refine x_aload_n 25 hK rfl rfl rfl ?_
    refine x_getE 28 hK rfl (Or.inl rfl) rfl (sp_33 (h := h) hG) (e := (f : Int)) ((gi_k (by decide) _).trans (hf)) ?_
    refine x_aload_n 29 hK rfl rfl rfl ?_
    refine x_getE 32 hK rfl (Or.inl rfl) rfl (sp_33 (h := h) hG) (e := ((gi h 33 2) - 1)) (gi_same (by omega)) ?_
    refine x_iadd 33 hK rfl rfl ?_
    refine x_bipush 35 hK rfl rfl rfl ?_
    refine x_iremp 36 hK rfl rfl (by omega) (by omega) (by omega) (by omega) ?_
    refine x_aaload 37 hK rfl rfl (sp_34 (h := h) hG) (by decide) (by omega) (by omega) (by omega) (show aR h 34 (((((f : Int) + ((gi h 33 2) - 1)) % 15))).toNat = some c from by rw [hcd, show (((((f : Int) + ((gi h 33 2) - 1)) % 15))).toNat = (f + n) % 15 from by omega]; exact ((show PT h from hP).2.1 _ (Nat.mod_lt _ (by decide))).1) ?_
    have hGp300 : GD gE gRL sh (wI h 33 2 ((gi h 33 2) - 1)) := GD_w1 (hG) (r := 27) rfl (by omega) rfl (by omega) (by omega)
    refine x_callV 40 hK hmono rfl rfl [.ref 23, .ref c] [] rfl rfl (Nat.le_of_ble_eq_true rfl) (Nat.le_of_ble_eq_true rfl) rfl (sp_23 (h := h) hG) (CLd_le (Nat.le_of_ble_eq_true rfl) (ctX8_copyFrom_23_rg hSP hGp300 (show PT h from hP) hc)) ?_
    rintro v301 h301 ⟨rfl, hG301, hF301, eS301, ot301⟩
    refine x_iconst 41 hK rfl rfl ?_
    have e2 : gi h301 33 2 = gi h 33 2 - 1 := (FRM_gi hF301 (r := 27) rfl rfl).trans (gi_same (by omega))
    have ep : PL h = PL h301 ++ [kS h (37 + 5 * ((f + n) % 15))] := PL_pop hf (by omega) ((FRM_gi hF301 (r := 27) rfl rfl).trans ((gi_k (by decide) _).trans (hf))) (e2.trans (by omega)) fun i hi => (oth_S ot301 (by omega)).trans (kS_ge fun a k k1 k2 => gi_a (by omega) _)
    have es : kS h301 23 = kS h (37 + 5 * ((f + n) % 15)) := by rw [eS301, ← hcd]; exact kS_ge fun a k k1 k2 => gi_a (by omega) _
    exact x_zret hK rfl (by omega) ⟨Or.inr ⟨by omega, rfl, e2, by rw [es]; exact ep⟩, hG301, (FRM_w ((FRM.rf : FRM gRL [(0, 17, 0, 4), (0, 18, 0, 11), (0, 19, 0, 11), (0, 20, 0, 7), (0, 21, 0, 7), (0, 27, 2, 2)] h h)) (r := 27) rfl rfl).trans ((hF301).mono rfl)⟩
  · refine x_iconst 8 hK rfl rfl ?_
    exact x_zret hK rfl (by omega) ⟨Or.inl ⟨by omega, rfl, rfl⟩, hG, FRM.rf⟩
set_option maxRecDepth 4000 in
theorem ctX10_keepF {SP : CT} (hSP : MONO SP) {sh : List (Nat × Nat)} {h : aH} (hG : GD gE gRL sh h) {n : Int} (rn : r32 n) (hP : PT h) : CLd SP 3 mX10_keep [.ref 0, .int (I n)] h 0 0 (fun rv h' => (((0 ≤ n ∧ n ≤ 2) ∧ rv = some (.int (I 1)) ∧ kS h' (112 + 5 * n.toNat) = kS h 23 ∧ (∀ i : Nat, i < 3 → i ≠ n.toNat → kS h' (112 + 5 * i) = kS h (112 + 5 * i)) ∧ ∀ i : Nat, gi h' 36 i = if i = n.toNat then 1 else gi h 36 i) ∨ (¬ (0 ≤ n ∧ n ≤ 2) ∧ rv = some (.int (I 0)) ∧ h' = h)) ∧ GD gE gRL sh h' ∧ FRM gRL [(0, 30, 0, 2), (0, 36, 0, 4), (0, 37, 0, 11), (0, 38, 0, 11), (0, 39, 0, 7), (0, 40, 0, 7)] h h') := by
  refine x_met _ rfl (Nat.le_of_ble_eq_true rfl) (fun K hK => ?_)
  have hmono := MONO_CLd hSP 2
  obtain ⟨c, hcd⟩ : ∃ c : Nat, c = 112 + 5 * n.toNat := ⟨_, rfl⟩
  have hc : 0 ≤ n ∧ n ≤ 2 → kpA c := fun z => ⟨n.toNat, by omega, hcd⟩
  refine x_iload_n 1 hK rfl rfl rfl ?_
  refine x_if_lt 9 4 hK rfl rfl rfl (by omega) (fun c2 => ?_) (fun c2 => ?_)
  · refine x_iconst 10 hK rfl rfl ?_
    exact x_zret hK rfl (by omega) ⟨Or.inr ⟨by omega, rfl, rfl⟩, hG, FRM.rf⟩
  · refine x_iload_n 5 hK rfl rfl rfl ?_
    refine x_iconst 6 hK rfl rfl ?_
    refine x_if_icmp_lt 11 9 hK rfl rfl rfl (by omega) (by omega) (fun c7 => ?_) (fun c7 => ?_)
    · refine x_aload_n 12 hK rfl rfl rfl ?_
      refine x_getR 15 hK rfl rfl (sp_0 (h := h) hG) (rf_0_12 (h := h) hG) ?_
      refine x_getR 18 hK rfl rfl (sp_33 (h := h) hG) (rf_33_3 (h := h) hG) ?_
      refine x_iload_n 19 hK rfl rfl rfl ?_
      replace hc := hc (by omega)
      have hcb := kp_b hc
      refine x_aaload 20 hK rfl rfl (sp_35 (h := h) hG) (by decide) (by omega) (by omega) (by omega) (show aR h 35 (n).toNat = some c from by rw [hcd]; exact ((show PT h from hP).2.2.1 _ (by omega)).1) ?_
      refine x_aload_n 21 hK rfl rfl rfl ?_
      refine x_getR 24 hK rfl rfl (sp_0 (h := h) hG) (rf_0_10 (h := h) hG) ?_
      refine x_callV 27 hK hmono rfl rfl [.ref c, .ref 23] [] rfl rfl (Nat.le_of_ble_eq_true rfl) (Nat.le_of_ble_eq_true rfl) rfl (shx (h := h) hG (r := 36) (kp_r hc).1 rfl) (CLd_le (Nat.le_of_ble_eq_true rfl) (ctX8_copyFrom_kp_23 hSP hG (show PT h from hP) hc)) ?_
      rintro v302 h302 ⟨rfl, hG302, hF302, eS302, ot302⟩
      refine x_aload_n 28 hK rfl rfl rfl ?_
      refine x_getR 31 hK rfl rfl (sp_0 (h := h302) hG302) (rf_0_12 (h := h302) hG302) ?_
      refine x_getR 34 hK rfl rfl (sp_33 (h := h302) hG302) (rf_33_4 (h := h302) hG302) ?_
      refine x_iload_n 35 hK rfl rfl rfl ?_
      refine x_iconst 36 hK rfl rfl ?_
      refine x_bastore 37 hK rfl rfl (sp_36 (h := h302) hG302) (by omega) (by omega) (by omega) (by omega) ?_
      refine x_iconst 38 hK rfl rfl ?_
      have ex : kS (wI h302 36 n.toNat 1) (112 + 5 * n.toNat) = kS h 23 := by
        rw [← hcd]
        exact (kS_ge (h := h302) fun a k k1 k2 => gi_a (by omega) _).trans eS302
      have eo : ∀ i : Nat, i < 3 → i ≠ n.toNat → kS (wI h302 36 n.toNat 1) (112 + 5 * i) = kS h (112 + 5 * i) := fun i h1 h2 => (kS_ge (h := h302) fun a k k1 k2 => gi_a (by omega) _).trans (oth_S ot302 (by omega))
      have ek : ∀ i : Nat, gi (wI h302 36 n.toNat 1) 36 i = if i = n.toNat then 1 else gi h 36 i := fun i => by
        by_cases q : i = n.toNat
        · rw [if_pos q, q]; exact gi_same (by omega)
        · rw [if_neg q]; exact (gi_k q _).trans (FRM_gi hF302 (r := 30) rfl rfl)
      exact x_zret hK rfl (by omega) ⟨Or.inl ⟨by omega, rfl, ex, eo, ek⟩, GD_wu (hG302) (r := 30) rfl (by omega) rfl (by omega) (by omega), FRM_wn 0 2 ((hF302).mono rfl) (r := 30) rfl rfl rfl (by omega) (by omega)⟩
    · refine x_iconst 10 hK rfl rfl ?_
      exact x_zret hK rfl (by omega) ⟨Or.inr ⟨by omega, rfl, rfl⟩, hG, FRM.rf⟩
set_option maxRecDepth 4000 in
theorem ctX10_againF {SP : CT} (hSP : MONO SP) {sh : List (Nat × Nat)} {h : aH} (hG : GD gE gRL sh h) {n : Int} (rn : r32 n) (hP : PT h) : CLd SP 3 mX10_again [.ref 0, .int (I n)] h 0 0 (fun rv h' => ((((0 ≤ n ∧ n ≤ 2) ∧ gi h 36 n.toNat = 1) ∧ rv = some (.int (I 1)) ∧ kS h' 23 = kS h (112 + 5 * n.toNat) ∧ gi h' 33 2 = 0) ∨ (¬ ((0 ≤ n ∧ n ≤ 2) ∧ gi h 36 n.toNat = 1) ∧ rv = some (.int (I 0)) ∧ h' = h)) ∧ GD gE gRL sh h' ∧ FRM gRL [(0, 17, 0, 4), (0, 18, 0, 11), (0, 19, 0, 11), (0, 20, 0, 7), (0, 21, 0, 7), (0, 27, 2, 2)] h h') := by
  refine x_met _ rfl (Nat.le_of_ble_eq_true rfl) (fun K hK => ?_)
  have hmono := MONO_CLd hSP 2
  obtain ⟨c, hcd⟩ : ∃ c : Nat, c = 112 + 5 * n.toNat := ⟨_, rfl⟩
  have hc : 0 ≤ n ∧ n ≤ 2 → kpA c := fun z => ⟨n.toNat, by omega, hcd⟩
  have gk : ∀ k, k < 3 → 0 ≤ gi h 36 k ∧ gi h 36 k ≤ 1 := fun k hk => grn 0 1 hG (a := 36) (r := 30) rfl rfl (by omega)
  refine x_iload_n 1 hK rfl rfl rfl ?_
  refine x_if_lt 21 4 hK rfl rfl rfl (by omega) (fun c2 => ?_) (fun c2 => ?_)
  · refine x_iconst 22 hK rfl rfl ?_
    exact x_zret hK rfl (by omega) ⟨Or.inr ⟨by omega, rfl, rfl⟩, hG, FRM.rf⟩
  · refine x_iload_n 5 hK rfl rfl rfl ?_
    refine x_iconst 6 hK rfl rfl ?_
    refine x_if_icmp_ge 21 9 hK rfl rfl rfl (by omega) (by omega) (fun c7 => ?_) (fun c7 => ?_)
    · refine x_iconst 22 hK rfl rfl ?_
      exact x_zret hK rfl (by omega) ⟨Or.inr ⟨by omega, rfl, rfl⟩, hG, FRM.rf⟩
    · refine x_aload_n 10 hK rfl rfl rfl ?_
      refine x_getR 13 hK rfl rfl (sp_0 (h := h) hG) (rf_0_12 (h := h) hG) ?_
      refine x_getR 16 hK rfl rfl (sp_33 (h := h) hG) (rf_33_4 (h := h) hG) ?_
      refine x_iload_n 17 hK rfl rfl rfl ?_
      have g303 := grn (0) (1) hG (a := 36) (r := 30) (k := n.toNat) rfl rfl (by omega)
      refine x_baloadE 18 hK rfl rfl (sp_36 (h := h) hG) (by omega) (by omega) (by omega) (e' := (gi h 36 n.toNat)) (rfl) ?_
      refine x_if_ne 23 21 hK rfl rfl rfl (by omega) (fun c15 => ?_) (fun c15 => ?_)
      · refine x_aload_n 24 hK rfl rfl rfl ?_
        refine x_getR 27 hK rfl rfl (sp_0 (h := h) hG) (rf_0_10 (h := h) hG) ?_
        refine x_aload_n 28 hK rfl rfl rfl ?_
        refine x_getR 31 hK rfl rfl (sp_0 (h := h) hG) (rf_0_12 (h := h) hG) ?_
        refine x_getR 34 hK rfl rfl (sp_33 (h := h) hG) (rf_33_3 (h := h) hG) ?_
        refine x_iload_n 35 hK rfl rfl rfl ?_
        replace hc := hc (by omega)
        have hcb := kp_b hc
        refine x_aaload 36 hK rfl rfl (sp_35 (h := h) hG) (by decide) (by omega) (by omega) (by omega) (show aR h 35 (n).toNat = some c from by rw [hcd]; exact ((show PT h from hP).2.2.1 _ (by omega)).1) ?_
        refine x_callV 39 hK hmono rfl rfl [.ref 23, .ref c] [] rfl rfl (Nat.le_of_ble_eq_true rfl) (Nat.le_of_ble_eq_true rfl) rfl (sp_23 (h := h) hG) (CLd_le (Nat.le_of_ble_eq_true rfl) (ctX8_copyFrom_23_kp hSP hG (show PT h from hP) hc)) ?_
        rintro v304 h304 ⟨rfl, hG304, hF304, eS304, ot304⟩
        refine x_aload_n 40 hK rfl rfl rfl ?_
        refine x_getR 43 hK rfl rfl (sp_0 (h := h304) hG304) (rf_0_12 (h := h304) hG304) ?_
        refine x_iconst 44 hK rfl rfl ?_
        refine x_putI 47 hK rfl rfl (sp_33 (h := h304) hG304) ?_
        refine x_iconst 48 hK rfl rfl ?_
        have ex : kS (wI h304 33 2 0) 23 = kS h (112 + 5 * n.toNat) := by
          rw [← hcd]
          exact (kS_ge (h := h304) fun a k k1 k2 => gi_a (by omega) _).trans eS304
        exact x_zret hK rfl (by omega) ⟨Or.inl ⟨by omega, rfl, ex, gi_same (by omega)⟩, GD_w1 (hG304) (r := 27) rfl (by omega) rfl (by omega) (by omega), FRM_w ((hF304).mono rfl) (r := 27) rfl rfl⟩
      · refine x_iconst 22 hK rfl rfl ?_
        exact x_zret hK rfl (by omega) ⟨Or.inr ⟨by omega, rfl, rfl⟩, hG, FRM.rf⟩
set_option maxRecDepth 4000 in
theorem ctX10_undoF {SP : CT} (hSP : MONO SP) {sh : List (Nat × Nat)} {h : aH} (hG : GD gE gRL sh h) (hP : PT h) : CLd SP 3 mX10_undo [.ref 0] h 0 0 (fun rv h' => ((gi h 33 2 = 0 ∧ rv = some (.int (I (-1))) ∧ h' = h) ∨ (0 < gi h 33 2 ∧ rv = some (.int (I (gi h 33 2 - 1))) ∧ gi h' 33 2 = gi h 33 2 - 1 ∧ PL h = PL h' ++ [kS h' 23])) ∧ GD gE gRL sh h' ∧ FRM gRL [(0, 17, 0, 4), (0, 18, 0, 11), (0, 19, 0, 11), (0, 20, 0, 7), (0, 21, 0, 7), (0, 27, 2, 2)] h h') := by
  refine x_met _ rfl (Nat.le_of_ble_eq_true rfl) (fun K hK => ?_)
  have hmono := MONO_CLd hSP 2
  refine x_aload_n 1 hK rfl rfl rfl ?_
  refine x_getR 4 hK rfl rfl (sp_0 (h := h) hG) (rf_0_12 (h := h) hG) ?_
  refine x_aload_n 5 hK rfl rfl rfl ?_
  refine x_getR 8 hK rfl rfl (sp_0 (h := h) hG) (rf_0_10 (h := h) hG) ?_
  refine x_callV 11 hK hmono rfl rfl [.ref 33, .ref 23] [] rfl rfl (Nat.le_of_ble_eq_true rfl) (Nat.le_of_ble_eq_true rfl) rfl (sp_33 (h := h) hG) (CLd_le (Nat.le_of_ble_eq_true rfl) (ctX1_bringBack hSP hG hP)) ?_
  rintro v305 h305 ⟨⟨n0, rfl, e9⟩ | ⟨n0, rfl, e2, ep⟩, hG305, hF305⟩
  · rw [e9]
    refine x_if_eq 24 14 hK rfl rfl rfl (by omega) (fun _ => ?_) (fun c => by omega)
    refine x_iconst 25 hK rfl rfl ?_
    exact x_iret hK rfl ⟨Or.inl ⟨n0, rfl, rfl⟩, hG, FRM.rf⟩
  · refine x_if_eq 24 14 hK rfl rfl rfl (by omega) (fun c => by omega) (fun _ => ?_)
    refine x_aload_n 15 hK rfl rfl rfl ?_
    refine x_getR 18 hK rfl rfl (sp_0 (h := h305) hG305) (rf_0_12 (h := h305) hG305) ?_
    refine x_getE 21 hK rfl (Or.inl rfl) rfl (sp_33 (h := h305) hG305) (e := (gi h 33 2 - 1)) (e2) ?_
    refine x_goto 25 hK rfl rfl ?_
    exact x_iret hK rfl ⟨Or.inr ⟨n0, rfl, e2, ep⟩, hG305, hF305⟩
