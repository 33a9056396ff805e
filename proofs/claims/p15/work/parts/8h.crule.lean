/-! THE RULE as the reader reads it -/
theorem su_r {u : Nat} (hu : u = 11 ∨ u = 14) : gRL[u]? = some 8 ∧ gRL[u + 1]? = some 9 := by rcases hu with rfl | rfl <;> decide
theorem su_p {u : Nat} {h : aH} (hP : PT h) (hu : u = 11 ∨ u = 14) : aR h u 0 = some (u + 1) := by
  obtain ⟨_, _, _, _, _, _, ⟨c9, _⟩, d2, _⟩ := hP
  rcases hu with rfl | rfl
  · exact c9
  · exact d2
def cdL (h : aH) (u n : Nat) : List Int := (List.range n).map (gi h (u + 1))
def wtL (h : aH) : Nat → List Int
  | 0 => []
  | n + 1 => gi h 18 n :: wtL h n
theorem cdL_s {h h' : aH} {u n : Nat} {v : Int} (h1 : gi h' (u + 1) n = v) (h2 : ∀ j, j < n → gi h' (u + 1) j = gi h (u + 1) j) : cdL h' u (n + 1) = cdL h u n ++ [v] := by
  unfold cdL
  rw [List.range_succ, List.map_append, List.map_cons, List.map_nil, h1]
  congr 1
  exact List.map_congr_left fun j hj => h2 j (List.mem_range.mp hj)
theorem cdL_e {h h' : aH} {u n : Nat} (h2 : ∀ j, j < n → gi h' (u + 1) j = gi h (u + 1) j) : cdL h' u n = cdL h u n := by
  unfold cdL
  exact List.map_congr_left fun j hj => h2 j (List.mem_range.mp hj)
def touB (M : MD) : Option Nat → Bool
  | some r => M.any fun q => Nat.beq q.2.1 r
  | none => false
theorem frm_o {M : MD} {h h' : aH} (hF : FRM gRL M h h') (as : List Nat) (hm : ((List.range 202).all fun a => decide (a ∈ as) || !touB M gRL[a]?) = true) {a : Nat} (ha : a ∉ as) (k : Nat) : gi h' a k = gi h a k := by
  show (aI h' a k).toInt = (aI h a k).toInt
  rw [hF.1 a k fun r hr => by
    have la : a < 202 := (List.getElem?_eq_some_iff.mp hr).1
    have z := List.all_eq_true.mp hm a (List.mem_range.mpr la)
    rw [hr, decide_eq_false ha, Bool.false_or] at z
    cases hc : mHas M 0 r k with
    | false => rfl
    | true =>
      obtain ⟨q, hq, h2⟩ := List.any_eq_true.mp hc
      simp only [Bool.and_eq_true, Nat.beq_eq] at h2
      have y : touB M (some r) = true := List.any_eq_true.mpr ⟨q, hq, Nat.beq_eq.mpr h2.1.1.2⟩
      rw [y] at z
      cases z]
theorem wtL_e {h h' : aH} : ∀ {n : Nat}, (∀ j, j < n → gi h' 18 j = gi h 18 j) → wtL h' n = wtL h n
  | 0, _ => rfl
  | n + 1, h2 => by
    show gi h' 18 n :: wtL h' n = gi h 18 n :: wtL h n
    rw [h2 n (by omega), wtL_e fun j hj => h2 j (by omega)]
set_option maxRecDepth 4000 in
theorem ctX4_add {SP : CT} (hSP : MONO SP) {sh : List (Nat × Nat)} {h : aH} (hG : GD gE gRL sh h) {u : Nat} (hP : PT h) (hu : u = 11 ∨ u = 14) {v : Int} (hv : r32 v) (hn : gi h u 1 < 40) : CLd SP 1 mX4_add [.ref u, .int (I v)] h 0 0 (fun rv h' => rv = none ∧ GD gE gRL sh h' ∧ FRM gRL [(0, 8, 1, 1), (0, 9, 0, 39)] h h' ∧ gi h' u 1 = gi h u 1 + 1 ∧ gi h' (u + 1) (gi h u 1).toNat = v ∧ (∀ j, j < (gi h u 1).toNat → gi h' (u + 1) j = gi h (u + 1) j) ∧ ∀ a k : Nat, a ≠ u → a ≠ u + 1 → gi h' a k = gi h a k) := by
  refine x_met _ rfl (Nat.le_of_ble_eq_true rfl) (fun K hK => ?_)
  have hmono := MONO_CLd hSP 0
  have gn := gri 0 40 hG (a := u) (r := 8) (k := 1) (su_r hu).1 rfl
  refine x_aload_n 1 hK rfl rfl rfl ?_
  have g292 := gri (0) (40) hG (a := u) (r := 8) (k := 1) (su_r hu).1 rfl
  refine x_getE 4 hK rfl (Or.inl rfl) rfl (shx (h := h) hG (r := 8) (su_r hu).1 rfl) (e := (gi h u 1)) (rfl) ?_
  refine x_bipush 6 hK rfl rfl rfl ?_
  refine x_if_icmp_ge 29 9 hK rfl rfl rfl (by omega) (by omega) (fun c4 => ?_) (fun c4 => ?_)
  · exact absurd hn (by omega)
  · refine x_aload_n 10 hK rfl rfl rfl ?_
    refine x_getR 13 hK rfl rfl (shx (h := h) hG (r := 8) (su_r hu).1 rfl) (su_p hP hu) ?_
    refine x_aload_n 14 hK rfl rfl rfl ?_
    refine x_getE 17 hK rfl (Or.inl rfl) rfl (shx (h := h) hG (r := 8) (su_r hu).1 rfl) (e := (gi h u 1)) (rfl) ?_
    refine x_iload_n 18 hK rfl rfl rfl ?_
    refine x_iastore 19 hK rfl rfl (shx (h := h) hG (r := 9) (su_r hu).2 rfl) (by omega) (by omega) (by omega) ?_
    refine x_aload_n 20 hK rfl rfl rfl ?_
    refine x_dup 21 hK rfl rfl rfl ?_
    refine x_getE 24 hK rfl (Or.inl rfl) rfl (shx (h := h) hG (r := 8) (su_r hu).1 rfl) (e := (gi h u 1)) (gi_a (by omega) _) ?_
    refine x_iconst 25 hK rfl rfl ?_
    refine x_iadd 26 hK rfl rfl ?_
    refine x_putI 29 hK rfl rfl (shx (h := h) hG (r := 8) (su_r hu).1 rfl) ?_
    exact x_vret hK rfl ⟨rfl, GD_w1 (GD_wn (hG) (r := 9) (su_r hu).2 rfl) (r := 8) (su_r hu).1 (by omega) rfl (by omega) (by omega), FRM_w (FRM_wn 0 39 ((FRM.rf : FRM gRL [(0, 8, 1, 1), (0, 9, 0, 39)] h h)) (r := 9) (su_r hu).2 rfl rfl (by omega) (by omega)) (r := 8) (su_r hu).1 rfl, gi_same (by omega), (gi_a (by omega) _).trans (gi_same (by omega)), fun j hj => (gi_a (by omega) _).trans (gi_k (by omega) _), fun a k n1 n2 => (gi_a (by omega) _).trans (gi_a (by omega) _)⟩
set_option maxRecDepth 4000 in
theorem ctX5_holdF {SP : CT} (hSP : MONO SP) {sh : List (Nat × Nat)} {h : aH} (hG : GD gE gRL sh h) {v : Int} (hv : r32 v) (hn : gi h 17 1 < 40) : CLd SP 1 mX5_hold [.ref 17, .int (I v)] h 0 0 (fun rv h' => rv = none ∧ GD gE gRL sh h' ∧ FRM gRL [(0, 11, 1, 1), (0, 12, 0, 39)] h h' ∧ gi h' 17 1 = gi h 17 1 + 1 ∧ wtL h' (gi h 17 1 + 1).toNat = v :: wtL h (gi h 17 1).toNat) := by
  refine x_met _ rfl (Nat.le_of_ble_eq_true rfl) (fun K hK => ?_)
  have hmono := MONO_CLd hSP 0
  have gn := gri 0 40 hG (a := 17) (r := 11) (k := 1) rfl rfl
  refine x_aload_n 1 hK rfl rfl rfl ?_
  have g293 := gri (0) (40) hG (a := 17) (r := 11) (k := 1) rfl rfl
  refine x_getE 4 hK rfl (Or.inl rfl) rfl (sp_17 (h := h) hG) (e := (gi h 17 1)) (rfl) ?_
  refine x_bipush 6 hK rfl rfl rfl ?_
  refine x_if_icmp_ge 29 9 hK rfl rfl rfl (by omega) (by omega) (fun c4 => ?_) (fun c4 => ?_)
  · exact absurd hn (by omega)
  · refine x_aload_n 10 hK rfl rfl rfl ?_
    refine x_getR 13 hK rfl rfl (sp_17 (h := h) hG) (rf_17_0 (h := h) hG) ?_
    refine x_aload_n 14 hK rfl rfl rfl ?_
    refine x_getE 17 hK rfl (Or.inl rfl) rfl (sp_17 (h := h) hG) (e := (gi h 17 1)) (rfl) ?_
    refine x_iload_n 18 hK rfl rfl rfl ?_
    refine x_iastore 19 hK rfl rfl (sp_18 (h := h) hG) (by omega) (by omega) (by omega) ?_
    refine x_aload_n 20 hK rfl rfl rfl ?_
    refine x_dup 21 hK rfl rfl rfl ?_
    refine x_getE 24 hK rfl (Or.inl rfl) rfl (sp_17 (h := h) hG) (e := (gi h 17 1)) (gi_a (by decide) _) ?_
    refine x_iconst 25 hK rfl rfl ?_
    refine x_iadd 26 hK rfl rfl ?_
    refine x_putI 29 hK rfl rfl (sp_17 (h := h) hG) ?_
    have y1 : gi (wI (wI h 18 (gi h 17 1).toNat v) 17 1 ((gi h 17 1) + 1)) 18 (gi h 17 1).toNat = v := (gi_a (by decide) _).trans (gi_same (by omega))
    have y2 : wtL (wI (wI h 18 (gi h 17 1).toNat v) 17 1 ((gi h 17 1) + 1)) (gi h 17 1).toNat = wtL h (gi h 17 1).toNat := wtL_e fun j hj => (gi_a (by decide) _).trans (gi_k (by omega) _)
    exact x_vret hK rfl ⟨rfl, GD_w1 (GD_wn (hG) (r := 12) rfl rfl) (r := 11) rfl (by omega) rfl (by omega) (by omega), FRM_w (FRM_wn 0 39 ((FRM.rf : FRM gRL [(0, 11, 1, 1), (0, 12, 0, 39)] h h)) (r := 12) rfl rfl rfl (by omega) (by omega)) (r := 11) rfl rfl, gi_same (by omega), by rw [tn_s gn.1]; show gi (wI (wI h 18 (gi h 17 1).toNat v) 17 1 ((gi h 17 1) + 1)) 18 (gi h 17 1).toNat :: wtL (wI (wI h 18 (gi h 17 1).toNat v) 17 1 ((gi h 17 1) + 1)) (gi h 17 1).toNat = _; rw [y1, y2]⟩
theorem popS_t {r : Nat} {s : Int} {t : List Int} (h : r ≤ rkI s) : popS r (s :: t) = s :: popS r t := if_pos h
theorem rstS_t {r : Nat} {s : Int} {t : List Int} (h : r ≤ rkI s) : rstS r (s :: t) = rstS r t := if_pos h
theorem rkI_b (s : Int) : rkI s ≤ 4 := by unfold rkI; (repeat' split) <;> omega
set_option maxRecDepth 4000 in
theorem ctX5_rankF {SP : CT} (hSP : MONO SP) {h : aH} {s : Int} (hs : r32 s) : CLd SP 1 mX5_rank [.int (I s)] h 0 0 (fun rv h' => h' = h ∧ rv = some (.int (I (rkI s : Int)))) := by
  refine x_met _ rfl (Nat.le_of_ble_eq_true rfl) (fun K hK => ?_)
  have hmono := MONO_CLd hSP 0
  refine x_iload_n 1 hK rfl rfl rfl ?_
  refine x_lsw hK rfl (by omega) (l := [(42, 79), (43, 77), (45, 77), (47, 79), (60, 75), (61, 75), (62, 75), (256, 81)]) rfl ?_
  rw [Op.lookupswitch.offset_cons]
  by_cases e1_0 : (42 : Int) = s
  · rw [if_pos e1_0]
    show K 80 _ _ _ _ _
    refine x_iconst 81 hK rfl rfl ?_
    have e9 : rkI s = 3 := by unfold rkI; (repeat' split) <;> omega
    exact x_iret hK rfl ⟨rfl, by rw [e9]; rfl⟩
  rw [if_neg e1_0]
  rw [Op.lookupswitch.offset_cons]
  by_cases e1_1 : (43 : Int) = s
  · rw [if_pos e1_1]
    show K 78 _ _ _ _ _
    refine x_iconst 79 hK rfl rfl ?_
    have e9 : rkI s = 2 := by unfold rkI; (repeat' split) <;> omega
    exact x_iret hK rfl ⟨rfl, by rw [e9]; rfl⟩
  rw [if_neg e1_1]
  rw [Op.lookupswitch.offset_cons]
  by_cases e1_2 : (45 : Int) = s
  · rw [if_pos e1_2]
    show K 78 _ _ _ _ _
    refine x_iconst 79 hK rfl rfl ?_
    have e9 : rkI s = 2 := by unfold rkI; (repeat' split) <;> omega
    exact x_iret hK rfl ⟨rfl, by rw [e9]; rfl⟩
  rw [if_neg e1_2]
  rw [Op.lookupswitch.offset_cons]
  by_cases e1_3 : (47 : Int) = s
  · rw [if_pos e1_3]
    show K 80 _ _ _ _ _
    refine x_iconst 81 hK rfl rfl ?_
    have e9 : rkI s = 3 := by unfold rkI; (repeat' split) <;> omega
    exact x_iret hK rfl ⟨rfl, by rw [e9]; rfl⟩
  rw [if_neg e1_3]
  rw [Op.lookupswitch.offset_cons]
  by_cases e1_4 : (60 : Int) = s
  · rw [if_pos e1_4]
    show K 76 _ _ _ _ _
    refine x_iconst 77 hK rfl rfl ?_
    have e9 : rkI s = 1 := by unfold rkI; (repeat' split) <;> omega
    exact x_iret hK rfl ⟨rfl, by rw [e9]; rfl⟩
  rw [if_neg e1_4]
  rw [Op.lookupswitch.offset_cons]
  by_cases e1_5 : (61 : Int) = s
  · rw [if_pos e1_5]
    show K 76 _ _ _ _ _
    refine x_iconst 77 hK rfl rfl ?_
    have e9 : rkI s = 1 := by unfold rkI; (repeat' split) <;> omega
    exact x_iret hK rfl ⟨rfl, by rw [e9]; rfl⟩
  rw [if_neg e1_5]
  rw [Op.lookupswitch.offset_cons]
  by_cases e1_6 : (62 : Int) = s
  · rw [if_pos e1_6]
    show K 76 _ _ _ _ _
    refine x_iconst 77 hK rfl rfl ?_
    have e9 : rkI s = 1 := by unfold rkI; (repeat' split) <;> omega
    exact x_iret hK rfl ⟨rfl, by rw [e9]; rfl⟩
  rw [if_neg e1_6]
  rw [Op.lookupswitch.offset_cons]
  by_cases e1_7 : (256 : Int) = s
  · rw [if_pos e1_7]
    show K 82 _ _ _ _ _
    refine x_iconst 83 hK rfl rfl ?_
    have e9 : rkI s = 4 := by unfold rkI; (repeat' split) <;> omega
    exact x_iret hK rfl ⟨rfl, by rw [e9]; rfl⟩
  rw [if_neg e1_7]
  show K 84 _ _ _ _ _
  refine x_iconst 85 hK rfl rfl ?_
  have e9 : rkI s = 0 := by unfold rkI; (repeat' split) <;> omega
  exact x_iret hK rfl ⟨rfl, by rw [e9]; rfl⟩
set_option maxRecDepth 4000 in
theorem ctX5_releaseF {SP : CT} (hSP : MONO SP) {sh : List (Nat × Nat)} {h : aH} (hG : GD gE gRL sh h) {u : Nat} (hP : PT h) (hu : u = 11 ∨ u = 14) {r : Nat} (hr : r ≤ 4) (hs : gi h 17 1 + gi h u 1 ≤ 40) (hw : ∀ j : Nat, (j : Int) < gi h 17 1 → 0 ≤ gi h 18 j ∧ gi h 18 j ≤ 65535) : CLd SP 3 mX5_release [.ref 17, .int (I (r : Int)), .ref u] h 0 0 (fun rv h' => rv = none ∧ GD gE gRL sh h' ∧ FRM gRL [(0, 8, 1, 1), (0, 9, 0, 39), (0, 11, 1, 1)] h h' ∧ cdL h' u (gi h' u 1).toNat = (cdL h u (gi h u 1).toNat) ++ ngs (popS r (wtL h (gi h 17 1).toNat)) ∧ wtL h' (gi h' 17 1).toNat = rstS r (wtL h (gi h 17 1).toNat) ∧ gi h' 17 1 + gi h' u 1 = gi h 17 1 + gi h u 1 ∧ ∀ a k : Nat, a ≠ 17 → a ≠ u → a ≠ u + 1 → gi h' a k = gi h a k) := by
  refine x_met _ rfl (Nat.le_of_ble_eq_true rfl) (fun K hK => ?_)
  have hmono := MONO_CLd hSP 2
  have loop : ∀ (mz : Nat) (w n : Int) (h4 : aH) (ls : List (Nat × Value)), (w.toNat = mz) → (0 ≤ w ∧ w ≤ gi h 17 1) → (0 ≤ n ∧ n ≤ 40) → (w + n = gi h 17 1 + gi h u 1) → (gi h4 17 1 = w) → (gi h4 u 1 = n) → (cdL h4 u n.toNat ++ ngs (popS r (wtL h4 w.toNat)) = (cdL h u (gi h u 1).toNat) ++ ngs (popS r (wtL h (gi h 17 1).toNat))) → (rstS r (wtL h4 w.toNat) = rstS r (wtL h (gi h 17 1).toNat)) → (∀ a k : Nat, a ≠ 17 → a ≠ u → a ≠ u + 1 → gi h4 a k = gi h a k) → lk ls 0 = some (.ref 17) → lk ls 1 = some (.int (I (r : Int))) → lk ls 2 = some (.ref u) → GD gE gRL sh h4 → FRM gRL [(0, 8, 1, 1), (0, 9, 0, 39), (0, 11, 1, 1)] h h4 → K 0 ls [] h4 0 0 := by
    intro mz
    induction mz using Nat.strongRecOn with
    | ind mz ih =>
    intro w n h4 ls hm w0 n0 wn dw dn e1 e2 oa l0 l1 l2 hG4 hF4
    have wx : 0 < w → wtL h4 w.toNat = gi h 18 (w - 1).toNat :: wtL h4 (w - 1).toNat := fun z => by rw [show w.toNat = (w - 1).toNat + 1 by omega, ← FRM_gi hF4 (a := 18) (r := 12) rfl rfl]; rfl
    have gw := gri 0 40 hG (a := 17) (r := 11) (k := 1) rfl rfl
    have gx : 0 < w → 0 ≤ gi h 18 (w - 1).toNat ∧ gi h 18 (w - 1).toNat ≤ 65535 := fun z => hw _ (by omega)
    refine x_aload_n 1 hK rfl rfl l0 ?_
    refine x_getE 4 hK rfl (Or.inl rfl) rfl (sp_17 (h := h4) hG4) (e := w) (dw) ?_
    refine x_if_le 52 7 hK rfl rfl rfl (by omega) (fun c3 => ?_) (fun c3 => ?_)
    · have pe : popS r (wtL h4 w.toNat) = [] ∧ rstS r (wtL h4 w.toNat) = wtL h4 w.toNat := by
        by_cases z : 0 < w
        · rw [wx z]
          unfold popS rstS
          exact ⟨if_neg (by omega), if_neg (by omega)⟩
        · rw [show w.toNat = 0 by omega]
          exact ⟨rfl, rfl⟩
      rw [pe.1] at e1
      rw [pe.2] at e2
      exact x_vret hK rfl ⟨rfl, hG4, hF4, by rw [dn]; exact (List.append_nil _).symm.trans e1, by rw [dw]; exact e2, by rw [dw, dn]; exact wn, oa⟩
    · refine x_aload_n 8 hK rfl rfl l0 ?_
      refine x_getR 11 hK rfl rfl (sp_17 (h := h4) hG4) (rf_17_0 (h := h4) hG4) ?_
      refine x_aload_n 12 hK rfl rfl l0 ?_
      refine x_getE 15 hK rfl (Or.inl rfl) rfl (sp_17 (h := h4) hG4) (e := w) (dw) ?_
      refine x_iconst 16 hK rfl rfl ?_
      refine x_isub 17 hK rfl rfl ?_
      have g294 := gi_r h 18 (w - 1).toNat
      refine x_ialoadE 18 hK rfl rfl (sp_18 (h := h4) hG4) (by omega) (by omega) (by omega) (e' := (gi h 18 (w - 1).toNat)) (FRM_gi hF4 (r := 12) rfl rfl) ?_
      refine x_callS 21 hK hmono rfl (Or.inl rfl) rfl [.int (I (gi h 18 (w - 1).toNat))] [] rfl rfl (Nat.le_of_ble_eq_true rfl) (Nat.le_of_ble_eq_true rfl) (CLd_le (Nat.le_of_ble_eq_true rfl) (ctX5_rankF hSP (by omega))) ?_
      rintro v9 h9 ⟨e9, rfl⟩
      rw [e9]
      clear e9
      have rk295 := rkI_b (gi h 18 (w - 1).toNat)
      refine x_iload_n 22 hK rfl rfl l1 ?_
      refine x_if_icmp_lt 52 25 hK rfl rfl rfl (by omega) (by omega) (fun c14 => ?_) (fun c14 => ?_)
      · have pe : popS r (wtL h4 w.toNat) = [] ∧ rstS r (wtL h4 w.toNat) = wtL h4 w.toNat := by
          by_cases z : 0 < w
          · rw [wx z]
            unfold popS rstS
            exact ⟨if_neg (by omega), if_neg (by omega)⟩
          · rw [show w.toNat = 0 by omega]
            exact ⟨rfl, rfl⟩
        rw [pe.1] at e1
        rw [pe.2] at e2
        exact x_vret hK rfl ⟨rfl, hG4, hF4, by rw [dn]; exact (List.append_nil _).symm.trans e1, by rw [dw]; exact e2, by rw [dw, dn]; exact wn, oa⟩
      · refine x_aload_n 26 hK rfl rfl l0 ?_
        refine x_dup 27 hK rfl rfl rfl ?_
        refine x_getE 30 hK rfl (Or.inl rfl) rfl (sp_17 (h := h4) hG4) (e := w) (dw) ?_
        refine x_iconst 31 hK rfl rfl ?_
        refine x_isub 32 hK rfl rfl ?_
        refine x_putI 35 hK rfl rfl (sp_17 (h := h4) hG4) ?_
        refine x_aload_n 36 hK rfl rfl l2 ?_
        refine x_aload_n 37 hK rfl rfl l0 ?_
        refine x_getR 40 hK rfl rfl (sp_17 (h := h4) hG4) (rf_17_0 (h := h4) hG4) ?_
        refine x_aload_n 41 hK rfl rfl l0 ?_
        refine x_getE 44 hK rfl (Or.inl rfl) rfl (sp_17 (h := h4) hG4) (e := (w - 1)) (gi_same (by omega)) ?_
        refine x_ialoadE 45 hK rfl rfl (sp_18 (h := h4) hG4) (by omega) (by omega) (by omega) (e' := (gi h 18 (w - 1).toNat)) ((gi_a (by decide) _).trans (FRM_gi hF4 (r := 12) rfl rfl)) ?_
        refine x_ineg 46 hK rfl rfl ?_
        have hGp296 : GD gE gRL sh (wI h4 17 1 (w - 1)) := GD_w1 (hG4) (r := 11) rfl (by omega) rfl (by omega) (by omega)
        have nn297 : gi (wI h4 17 1 (w - 1)) u 1 = n := (gi_a (by omega) _).trans (dn)
        refine x_callV 49 hK hmono rfl rfl [.ref u, .int (I (-(gi h 18 (w - 1).toNat)))] [] rfl rfl (Nat.le_of_ble_eq_true rfl) (Nat.le_of_ble_eq_true rfl) rfl (shx (h := h4) hG4 (r := 8) (su_r hu).1 rfl) (CLd_le (Nat.le_of_ble_eq_true rfl) (ctX4_add hSP hGp296 (show PT h4 from (PT_F hF4 (by decide) hP)) hu (by omega) (by omega))) ?_
        rw [nn297]
        rintro v297 h297 ⟨rfl, hG297, hF297, t297, s297, o297, oa297⟩
        refine x_goto 0 hK rfl rfl ?_
        have wz : 0 < w := by omega
        rw [wx wz] at e1 e2
        rw [popS_t (by omega)] at e1
        rw [rstS_t (by omega)] at e2
        have y1 : cdL h297 u (n + 1).toNat = cdL h4 u n.toNat ++ [-(gi h 18 (w - 1).toNat)] := by
          rw [tn_s n0.1]
          refine (cdL_s (h := (wI h4 17 1 (w - 1))) s297 o297).trans ?_
          rw [cdL_e (h := h4) fun j hj => gi_a (by omega) _]
        have y2 : wtL h297 (w - 1).toNat = wtL h4 (w - 1).toNat := wtL_e fun j hj => ((FRM_gi hF297 (r := 12) rfl rfl).trans ((gi_a (by decide) _).trans (FRM_gi hF4 (r := 12) rfl rfl))).trans (FRM_gi hF4 (a := 18) (r := 12) rfl rfl).symm
        exact ih _ (by omega) (w - 1) (n + 1) _ _ rfl (by omega) (by omega) (by omega) ((FRM_gi hF297 (r := 11) rfl rfl).trans (gi_same (by omega))) (t297) (by rw [y1, y2, List.append_assoc]; exact e1) (by rw [y2]; exact e2) (fun a k n1 n2 n3 => (oa297 a k n2 n3).trans ((gi_a (by omega) _).trans (oa a k n1 n2 n3))) l0 l1 l2 (hG297) ((FRM_w (hF4) (r := 11) rfl rfl).trans ((hF297).mono rfl))
  have g1 := gri 0 40 hG (a := 17) (r := 11) (k := 1) rfl rfl
  have g2 := gri 0 40 hG (a := u) (r := 8) (k := 1) (su_r hu).1 rfl
  exact loop _ (gi h 17 1) (gi h u 1) h _ rfl (by omega) (by omega) rfl rfl rfl rfl rfl (fun _ _ _ _ _ => rfl) rfl rfl rfl hG FRM.rf
