section
/-! HOW LATE AN ORDER COMES (the class) -/
noncomputable def opC (x : Int) : Prop := x = -60 ∨ x = -62 ∨ x = -61 ∨ x = -43 ∨ x = -45 ∨ x = -42 ∨ x = -47
noncomputable def asC (x : Int) : Prop := x = -108 ∨ x = -112 ∨ x = -120 ∨ x = -110
theorem cd_op {x : Int} (hc : cdP x) (h : 0 < rkI (-x)) (hn : x ≠ -256) : opC x ∧ 2000 ≤ rcC x ∧ rcC x < 3000 := by
  rcases hc with hc | hc | hc | hc
  · exfalso
    unfold rkI at h
    (repeat' split at h) <;> omega
  · exact absurd hc hn
  · exact ⟨hc, by rcases hc with rfl | rfl | rfl | rfl | rfl | rfl | rfl <;> decide⟩
  · exfalso
    rcases hc with rfl | rfl | rfl | rfl <;> exact absurd h (by decide)
theorem cd_as {x : Int} (hc : cdP x) (h : ¬ 0 < rkI (-x)) (h0 : x < 0) (hn : x ≠ -256) : asC x ∧ 1000 ≤ rcC x ∧ rcC x ≤ 1003 := by
  rcases hc with hc | hc | hc | hc
  · omega
  · exact absurd hc hn
  · exfalso
    rcases hc with rfl | rfl | rfl | rfl | rfl | rfl | rfl <;> exact h (by decide)
  · exact ⟨hc, by rcases hc with rfl | rfl | rfl | rfl <;> decide⟩
theorem su_q {u : Nat} {h : aH} (hP : PT h) (hu : u = 11 ∨ u = 14) : aR h u 2 = some (u + 2) := by
  obtain ⟨_, _, _, _, _, _, ⟨_, d1⟩, _, d3⟩ := hP
  rcases hu with rfl | rfl
  · exact d1
  · exact d3
theorem su_v {u : Nat} (hu : u = 11 ∨ u = 14) : gRL[u + 2]? = some 10 := by rcases hu with rfl | rfl <;> decide
/-- what stands on the class's stack, the last first -/
noncomputable def SKU (h : aH) (u : Nat) (st : List Int) : Prop := gi h u 3 = (st.length : Int) ∧ ∀ i, i < st.length → gi h (u + 2) i = st.getD (st.length - 1 - i) 0
theorem SKU_push {h h' : aH} {u : Nat} {v : Int} {st : List Int} (s : SKU h u st) (e3 : gi h' u 3 = (st.length : Int) + 1) (e0 : gi h' (u + 2) st.length = v) (eo : ∀ j, j ≠ st.length → gi h' (u + 2) j = gi h (u + 2) j) : SKU h' u (v :: st) := by
  refine ⟨e3, fun i hi => ?_⟩
  simp only [List.length_cons] at hi ⊢
  by_cases c : i = st.length
  · subst c
    rw [e0, show st.length + 1 - 1 - st.length = 0 by omega]
    rfl
  · rw [eo i c, s.2 i (by omega), show st.length + 1 - 1 - i = (st.length - 1 - i) + 1 by omega]
    rfl
theorem SKU_pop {h h' : aH} {u : Nat} {x : Int} {r : List Int} (s : SKU h u (x :: r)) (e3 : gi h' u 3 = (r.length : Int)) (eo : ∀ j, gi h' (u + 2) j = gi h (u + 2) j) : SKU h' u r := by
  refine ⟨e3, fun i hi => ?_⟩
  have z := s.2 i (by simp only [List.length_cons]; omega)
  simp only [List.length_cons] at z
  rw [eo, z, show r.length + 1 - 1 - i = (r.length - 1 - i) + 1 by omega]
  rfl
theorem SKU_hd {h : aH} {u : Nat} {x : Int} {r : List Int} (s : SKU h u (x :: r)) : gi h (u + 2) r.length = x := by
  have z := s.2 r.length (by simp only [List.length_cons]; omega)
  simp only [List.length_cons] at z
  rw [z, show r.length + 1 - 1 - r.length = 0 by omega]
  rfl
theorem SKU_r {h : aH} {u : Nat} {x : Int} {r : List Int} (s : SKU h u (x :: r)) : r32 x := by
  rw [← SKU_hd s]
  exact gi_r _ _ _
/-- what the class's rule asks -/
noncomputable def akF (h : aH) (s : Nat) (t q : Int) : Int := if q = 0 then gi h s 0 else if q = 1 then gi h s 1 else if q = 2 then gi h s 2 else t
theorem hd_1 {L : List Int} (h : L.length = 1) : ∃ x, L = [x] := by
  match L, h with
  | [x], _ => exact ⟨x, rfl⟩
set_option maxRecDepth 4000 in
theorem ctX4_pushF {SP : CT} (hSP : MONO SP) {sh : List (Nat × Nat)} {h : aH} (hG : GD gE gRL sh h) {u : Nat} (hP : PT h) (hu : u = 11 ∨ u = 14) {v : Int} {st : List Int} (sk : SKU h u st) (hl : st.length < 40) : CLd SP 1 mX4_push [.ref u, .int (I v)] h 0 0 (fun rv h' => rv = none ∧ GD gE gRL sh h' ∧ FRM gRL [(0, 8, 3, 3), (0, 10, 0, 39)] h h' ∧ SKU h' u (w32 v :: st)) := by
  refine x_met _ rfl (Nat.le_of_ble_eq_true rfl) (fun K hK => ?_)
  have hmono := MONO_CLd hSP 0
  obtain ⟨t, ht⟩ : ∃ t : Int, t = (st.length : Int) := ⟨_, rfl⟩
  have s3 : gi h u 3 = t := sk.1.trans ht.symm
  have tn : t.toNat = st.length := by omega
  refine x_aload_n 1 hK rfl rfl rfl ?_
  refine x_getE 4 hK rfl (Or.inl rfl) rfl (shx (h := h) hG (r := 8) (su_r hu).1 rfl) (e := t) (s3) ?_
  refine x_bipush 6 hK rfl rfl rfl ?_
  refine x_if_icmp_ge 29 9 hK rfl rfl rfl (by omega) (by omega) (fun c4 => ?_) (fun c4 => ?_)
  · exfalso
    omega
  · refine x_aload_n 10 hK rfl rfl rfl ?_
    refine x_getR 13 hK rfl rfl (shx (h := h) hG (r := 8) (su_r hu).1 rfl) (su_q hP hu) ?_
    refine x_aload_n 14 hK rfl rfl rfl ?_
    refine x_getE 17 hK rfl (Or.inl rfl) rfl (shx (h := h) hG (r := 8) (su_r hu).1 rfl) (e := t) (s3) ?_
    refine x_iload_n 18 hK rfl rfl rfl ?_
    refine x_iastore 19 hK rfl rfl (shx (h := h) hG (r := 10) (su_v hu) rfl) (by omega) (by omega) (by omega) ?_
    refine x_aload_n 20 hK rfl rfl rfl ?_
    refine x_dup 21 hK rfl rfl rfl ?_
    refine x_getE 24 hK rfl (Or.inl rfl) rfl (shx (h := h) hG (r := 8) (su_r hu).1 rfl) (e := t) ((gi_a (by omega) _).trans (s3)) ?_
    refine x_iconst 25 hK rfl rfl ?_
    refine x_iadd 26 hK rfl rfl ?_
    refine x_putI 29 hK rfl rfl (shx (h := h) hG (r := 8) (su_r hu).1 rfl) ?_
    have e0 : gi (wI (wI h (u + 2) t.toNat v) u 3 (t + 1)) (u + 2) st.length = w32 v := by
      rw [← tn]
      exact (gi_a (by omega) _).trans gi_w
    exact x_vret hK rfl ⟨rfl, GD_w1 (GD_wn (hG) (r := 10) (su_v hu) rfl) (r := 8) (su_r hu).1 (by omega) rfl (by omega) (by omega), FRM_w (FRM_wn 0 39 ((FRM.rf : FRM gRL [(0, 8, 3, 3), (0, 10, 0, 39)] h h)) (r := 10) (su_v hu) rfl rfl (by omega) (by omega)) (r := 8) (su_r hu).1 rfl, SKU_push sk ((gi_same (by omega)).trans (by omega)) e0 fun j hj => (gi_a (by omega) _).trans (gi_k (by omega) _)⟩
set_option maxRecDepth 4000 in
theorem ctX4_popF {SP : CT} (hSP : MONO SP) {sh : List (Nat × Nat)} {h : aH} (hG : GD gE gRL sh h) {u : Nat} (hP : PT h) (hu : u = 11 ∨ u = 14) {x : Int} {r : List Int} (sk : SKU h u (x :: r)) : CLd SP 1 mX4_pop [.ref u] h 0 0 (fun rv h' => rv = some (.int (I x)) ∧ GD gE gRL sh h' ∧ FRM gRL [(0, 8, 3, 3)] h h' ∧ SKU h' u r) := by
  refine x_met _ rfl (Nat.le_of_ble_eq_true rfl) (fun K hK => ?_)
  have hmono := MONO_CLd hSP 0
  obtain ⟨t, ht⟩ : ∃ t : Int, t = (r.length : Int) + 1 := ⟨_, rfl⟩
  have s3 : gi h u 3 = t := sk.1.trans ht.symm
  have gt := gri 0 40 hG (a := u) (r := 8) (k := 3) (su_r hu).1 rfl
  have hx : gi h (u + 2) (t - 1).toNat = x := by rw [show (t - 1).toNat = r.length by omega]; exact SKU_hd sk
  refine x_aload_n 1 hK rfl rfl rfl ?_
  refine x_getE 4 hK rfl (Or.inl rfl) rfl (shx (h := h) hG (r := 8) (su_r hu).1 rfl) (e := t) (s3) ?_
  refine x_if_gt 9 7 hK rfl rfl rfl (by omega) (fun c3 => ?_) (fun c3 => ?_)
  · refine x_aload_n 10 hK rfl rfl rfl ?_
    refine x_dup 11 hK rfl rfl rfl ?_
    refine x_getE 14 hK rfl (Or.inl rfl) rfl (shx (h := h) hG (r := 8) (su_r hu).1 rfl) (e := t) (s3) ?_
    refine x_iconst 15 hK rfl rfl ?_
    refine x_isub 16 hK rfl rfl ?_
    refine x_putI 19 hK rfl rfl (shx (h := h) hG (r := 8) (su_r hu).1 rfl) ?_
    refine x_aload_n 20 hK rfl rfl rfl ?_
    refine x_getR 23 hK rfl rfl (shx (h := h) hG (r := 8) (su_r hu).1 rfl) (su_q hP hu) ?_
    refine x_aload_n 24 hK rfl rfl rfl ?_
    refine x_getE 27 hK rfl (Or.inl rfl) rfl (shx (h := h) hG (r := 8) (su_r hu).1 rfl) (e := (t - 1)) (gi_same (by omega)) ?_
    refine x_ialoadE 28 hK rfl rfl (shx (h := h) hG (r := 10) (su_v hu) rfl) (by omega) (by omega) (by omega) (e' := x) ((gi_a (by omega) _).trans (hx)) ?_
    exact x_iret hK rfl ⟨rfl, GD_w1 (hG) (r := 8) (su_r hu).1 (by omega) rfl (by omega) (by omega), FRM_w ((FRM.rf : FRM gRL [(0, 8, 3, 3)] h h)) (r := 8) (su_r hu).1 rfl, SKU_pop sk ((gi_same (by omega)).trans (by omega)) fun j => gi_a (by omega) _⟩
  · refine x_iconst 8 hK rfl rfl ?_
    exfalso
    omega
set_option maxRecDepth 4000 in
theorem ctX4_applyF {SP : CT} (hSP : MONO SP) {h : aH} {x a b : Int} (hx : opC x) (ra : r32 a) (rb : r32 b) : CLd SP 1 mX4_apply [.int (I (-x)), .int (I a), .int (I b)] h 0 0 (fun rv h' => h' = h ∧ rv = some (.int (I (wkF (rcC x - 2000) a b)))) := by
  refine x_met _ rfl (Nat.le_of_ble_eq_true rfl) (fun K hK => ?_)
  have hmono := MONO_CLd hSP 0
  unfold opC at hx
  refine x_iload_n 1 hK rfl rfl rfl ?_
  refine x_lsw hK rfl (by omega) (l := [(42, 100), (43, 92), (45, 96), (60, 59), (61, 81), (62, 70)]) rfl ?_
  rw [Op.lookupswitch.offset_cons]
  by_cases e1_0 : (42 : Int) = (-x)
  · rw [if_pos e1_0]
    show K 101 _ _ _ _ _
    have ex : x = -42 := by omega
    have er : rcC x - 2000 = 5 := by rw [ex]; decide
    refine x_iload_n 102 hK rfl rfl rfl ?_
    refine x_iload_n 103 hK rfl rfl rfl ?_
    refine x_imul 104 hK rfl rfl ?_
    have ew : wkF (rcC x - 2000) a b = w32 (a * b) := by
      rw [er]
      rfl
    exact x_iret hK rfl ⟨rfl, by rw [ew, I_w]⟩
  rw [if_neg e1_0]
  rw [Op.lookupswitch.offset_cons]
  by_cases e1_1 : (43 : Int) = (-x)
  · rw [if_pos e1_1]
    show K 93 _ _ _ _ _
    have ex : x = -43 := by omega
    have er : rcC x - 2000 = 3 := by rw [ex]; decide
    refine x_iload_n 94 hK rfl rfl rfl ?_
    refine x_iload_n 95 hK rfl rfl rfl ?_
    refine x_iadd 96 hK rfl rfl ?_
    have ew : wkF (rcC x - 2000) a b = w32 (a + b) := by
      rw [er]
      rfl
    exact x_iret hK rfl ⟨rfl, by rw [ew, I_w]⟩
  rw [if_neg e1_1]
  rw [Op.lookupswitch.offset_cons]
  by_cases e1_2 : (45 : Int) = (-x)
  · rw [if_pos e1_2]
    show K 97 _ _ _ _ _
    have ex : x = -45 := by omega
    have er : rcC x - 2000 = 4 := by rw [ex]; decide
    refine x_iload_n 98 hK rfl rfl rfl ?_
    refine x_iload_n 99 hK rfl rfl rfl ?_
    refine x_isub 100 hK rfl rfl ?_
    have ew : wkF (rcC x - 2000) a b = w32 (a - b) := by
      rw [er]
      rfl
    exact x_iret hK rfl ⟨rfl, by rw [ew, I_w]⟩
  rw [if_neg e1_2]
  rw [Op.lookupswitch.offset_cons]
  by_cases e1_3 : (60 : Int) = (-x)
  · rw [if_pos e1_3]
    show K 60 _ _ _ _ _
    have ex : x = -60 := by omega
    have er : rcC x - 2000 = 0 := by rw [ex]; decide
    refine x_iload_n 61 hK rfl rfl rfl ?_
    refine x_iload_n 62 hK rfl rfl rfl ?_
    refine x_if_icmp_ge 69 65 hK rfl rfl rfl (by omega) (by omega) (fun c21 => ?_) (fun c21 => ?_)
    · refine x_iconst 70 hK rfl rfl ?_
      have ew : wkF (rcC x - 2000) a b = 0 := by
        rw [er]
        show (if a < b then (1 : Int) else 0) = 0
        rw [if_neg (by omega)]
      exact x_iret hK rfl ⟨rfl, by rw [ew]⟩
    · refine x_iconst 66 hK rfl rfl ?_
      refine x_goto 70 hK rfl rfl ?_
      have ew : wkF (rcC x - 2000) a b = 1 := by
        rw [er]
        show (if a < b then (1 : Int) else 0) = 1
        rw [if_pos (by omega)]
      exact x_iret hK rfl ⟨rfl, by rw [ew]⟩
  rw [if_neg e1_3]
  rw [Op.lookupswitch.offset_cons]
  by_cases e1_4 : (61 : Int) = (-x)
  · rw [if_pos e1_4]
    show K 82 _ _ _ _ _
    have ex : x = -61 := by omega
    have er : rcC x - 2000 = 2 := by rw [ex]; decide
    refine x_iload_n 83 hK rfl rfl rfl ?_
    refine x_iload_n 84 hK rfl rfl rfl ?_
    refine x_if_icmp_ne 91 87 hK rfl rfl rfl (by omega) (by omega) (fun c30 => ?_) (fun c30 => ?_)
    · refine x_iconst 92 hK rfl rfl ?_
      have ew : wkF (rcC x - 2000) a b = 0 := by
        rw [er]
        show (if a = b then (1 : Int) else 0) = 0
        rw [if_neg (by omega)]
      exact x_iret hK rfl ⟨rfl, by rw [ew]⟩
    · refine x_iconst 88 hK rfl rfl ?_
      refine x_goto 92 hK rfl rfl ?_
      have ew : wkF (rcC x - 2000) a b = 1 := by
        rw [er]
        show (if a = b then (1 : Int) else 0) = 1
        rw [if_pos (by omega)]
      exact x_iret hK rfl ⟨rfl, by rw [ew]⟩
  rw [if_neg e1_4]
  rw [Op.lookupswitch.offset_cons]
  by_cases e1_5 : (62 : Int) = (-x)
  · rw [if_pos e1_5]
    show K 71 _ _ _ _ _
    have ex : x = -62 := by omega
    have er : rcC x - 2000 = 1 := by rw [ex]; decide
    refine x_iload_n 72 hK rfl rfl rfl ?_
    refine x_iload_n 73 hK rfl rfl rfl ?_
    refine x_if_icmp_le 80 76 hK rfl rfl rfl (by omega) (by omega) (fun c39 => ?_) (fun c39 => ?_)
    · refine x_iconst 81 hK rfl rfl ?_
      have ew : wkF (rcC x - 2000) a b = 0 := by
        rw [er]
        show (if b < a then (1 : Int) else 0) = 0
        rw [if_neg (by omega)]
      exact x_iret hK rfl ⟨rfl, by rw [ew]⟩
    · refine x_iconst 77 hK rfl rfl ?_
      refine x_goto 81 hK rfl rfl ?_
      have ew : wkF (rcC x - 2000) a b = 1 := by
        rw [er]
        show (if b < a then (1 : Int) else 0) = 1
        rw [if_pos (by omega)]
      exact x_iret hK rfl ⟨rfl, by rw [ew]⟩
  rw [if_neg e1_5]
  show K 105 _ _ _ _ _
  have ex : x = -47 := by omega
  have er : rcC x - 2000 = 6 := by rw [ex]; decide
  refine x_iload_n 106 hK rfl rfl rfl ?_
  refine x_if_ne 113 109 hK rfl rfl rfl (by omega) (fun c47 => ?_) (fun c47 => ?_)
  · refine x_iload_n 114 hK rfl rfl rfl ?_
    refine x_iload_n 115 hK rfl rfl rfl ?_
    refine x_idivA 116 hK rfl rfl ra rb (by omega) ?_
    have ew : wkF (rcC x - 2000) a b = w32 (a.tdiv b) := by
      rw [er]
      show (if b = 0 then (0 : Int) else w32 (a.tdiv b)) = w32 (a.tdiv b)
      rw [if_neg (by omega)]
    exact x_iret hK rfl ⟨rfl, by rw [ew]⟩
  · refine x_iconst 110 hK rfl rfl ?_
    refine x_goto 116 hK rfl rfl ?_
    have ew : wkF (rcC x - 2000) a b = 0 := by
      rw [er]
      show (if b = 0 then (0 : Int) else w32 (a.tdiv b)) = 0
      rw [if_pos (by omega)]
    exact x_iret hK rfl ⟨rfl, by rw [ew]⟩
set_option maxRecDepth 4000 in
theorem ctX4_valueOfF {SP : CT} (hSP : MONO SP) {sh : List (Nat × Nat)} {h : aH} (hG : GD gE gRL sh h) {x t : Int} {s : Nat} (h5 : s = 5 ∨ s = 8) (hx : asC x) (rt : r32 t) : CLd SP 1 mX4_valueOf [.int (I (-x)), .ref s, .int (I t)] h 0 0 (fun rv h' => h' = h ∧ rv = some (.int (I (akF h s t (rcC x - 1000))))) := by
  refine x_met _ rfl (Nat.le_of_ble_eq_true rfl) (fun K hK => ?_)
  have hmono := MONO_CLd hSP 0
  unfold asC at hx
  refine x_iload_n 1 hK rfl rfl rfl ?_
  refine x_lsw hK rfl (by omega) (l := [(108, 35), (112, 40), (120, 45)]) rfl ?_
  rw [Op.lookupswitch.offset_cons]
  by_cases e1_0 : (108 : Int) = (-x)
  · rw [if_pos e1_0]
    show K 36 _ _ _ _ _
    have ex : x = -108 := by omega
    have er : rcC x - 1000 = 0 := by rw [ex]; decide
    refine x_aload_n 37 hK rfl rfl rfl ?_
    have g311 := gri (-1000000) (1000000) hG (a := s) (r := 5) (k := 0) (ss_r h5).1 rfl
    refine x_getE 40 hK rfl (Or.inl rfl) rfl (shx (h := h) hG (r := 5) (ss_r h5).1 rfl) (e := (gi h s 0)) (rfl) ?_
    have ew : akF h s t (rcC x - 1000) = (gi h s 0) := by
      rw [er]
      rfl
    exact x_iret hK rfl ⟨rfl, by rw [ew]⟩
  rw [if_neg e1_0]
  rw [Op.lookupswitch.offset_cons]
  by_cases e1_1 : (112 : Int) = (-x)
  · rw [if_pos e1_1]
    show K 41 _ _ _ _ _
    have ex : x = -112 := by omega
    have er : rcC x - 1000 = 1 := by rw [ex]; decide
    refine x_aload_n 42 hK rfl rfl rfl ?_
    have g312 := gri (0) (10) hG (a := s) (r := 5) (k := 1) (ss_r h5).1 rfl
    refine x_getE 45 hK rfl (Or.inl rfl) rfl (shx (h := h) hG (r := 5) (ss_r h5).1 rfl) (e := (gi h s 1)) (rfl) ?_
    have ew : akF h s t (rcC x - 1000) = (gi h s 1) := by
      rw [er]
      rfl
    exact x_iret hK rfl ⟨rfl, by rw [ew]⟩
  rw [if_neg e1_1]
  rw [Op.lookupswitch.offset_cons]
  by_cases e1_2 : (120 : Int) = (-x)
  · rw [if_pos e1_2]
    show K 46 _ _ _ _ _
    have ex : x = -120 := by omega
    have er : rcC x - 1000 = 2 := by rw [ex]; decide
    refine x_aload_n 47 hK rfl rfl rfl ?_
    have g313 := gi_r h s 2
    refine x_getE 50 hK rfl (Or.inl rfl) rfl (shx (h := h) hG (r := 5) (ss_r h5).1 rfl) (e := (gi h s 2)) (rfl) ?_
    have ew : akF h s t (rcC x - 1000) = (gi h s 2) := by
      rw [er]
      rfl
    exact x_iret hK rfl ⟨rfl, by rw [ew]⟩
  rw [if_neg e1_2]
  show K 51 _ _ _ _ _
  have ex : x = -110 := by omega
  have er : rcC x - 1000 = 3 := by rw [ex]; decide
  refine x_iload_n 52 hK rfl rfl rfl ?_
  have ew : akF h s t (rcC x - 1000) = t := by
    rw [er]
    rfl
  exact x_iret hK rfl ⟨rfl, by rw [ew]⟩
theorem ak_r {sh : List (Nat × Nat)} {h : aH} {s : Nat} {t : Int} (_ : GD gE gRL sh h) (_ : s = 5 ∨ s = 8) (rt : r32 t) (q : Int) : r32 (akF h s t q) := by
  have := gi_r h s 0
  have := gi_r h s 1
  have := gi_r h s 2
  unfold akF
  (repeat' split) <;> assumption
set_option maxRecDepth 4000 in
theorem ctX4_workF {SP : CT} (hSP : MONO SP) {sh : List (Nat × Nat)} {h : aH} (hG : GD gE gRL sh h) {u : Nat} (hP : PT h) (hu : u = 11 ∨ u = 14) {s : Nat} (h5 : s = 5 ∨ s = 8) {c : Nat → Int} (hcd : ∀ k : Nat, (k : Int) < gi h u 1 → rcC (gi h (u + 1) k) = c k ∧ cdP (gi h (u + 1) k)) (hV : VCd c (gi h u 1)) (hh : 0 < gi h u 1 → hgt c (gi h u 1).toNat = 1) {t : Int} (rt : r32 t) (hn : 0 < gi h u 1) : CLd SP 3 mX4_work [.ref u, .ref s, .int (I t)] h 0 0 (fun rv h' => (∃ x, rv = some (.int (I x)) ∧ r32 x ∧ (ruS c (akF h s t) (gi h u 1).toNat) = [x]) ∧ GD gE gRL sh h' ∧ FRM gRL [(0, 8, 3, 3), (0, 10, 0, 39)] h h') := by
  refine x_met _ rfl (Nat.le_of_ble_eq_true rfl) (fun K hK => ?_)
  have hmono := MONO_CLd hSP 2
  have gn := gri 0 40 hG (a := u) (r := 8) (k := 1) (su_r hu).1 rfl
  have loop : ∀ (mz : Nat) (i : Int) (h4 : aH) (ls : List (Nat × Value)), (((gi h u 1) - i).toNat = mz) → (0 ≤ i ∧ i ≤ (gi h u 1)) → (SKU h4 u (ruS c (akF h s t) i.toNat)) → lk ls 0 = some (.ref u) → lk ls 1 = some (.ref s) → lk ls 2 = some (.int (I t)) → lk ls 3 = some (.int (I i)) → GD gE gRL sh h4 → FRM gRL [(0, 8, 3, 3), (0, 10, 0, 39)] h h4 → K 7 ls [] h4 0 0 := by
    intro mz
    induction mz using Nat.strongRecOn with
    | ind mz ih =>
    intro i h4 ls hm i0 sk l0 l1 l2 l3 hG4 hF4
    have hq := fun z : i < (gi h u 1) => VC_at hV (k := i.toNat) (by omega)
    have hm2 := fun z : i < (gi h u 1) => hcd i.toNat (by omega)
    have hl := ruS_l (c := c) (ak := (akF h s t)) hV i.toNat (by omega)
    have rs : (ruS c (akF h s t) (i + 1).toNat) = ruStep (c i.toNat) (akF h s t) (ruS c (akF h s t) i.toNat) := by rw [tn_s i0.1]; rfl
    refine x_iload_n 8 hK rfl rfl l3 ?_
    refine x_aload_n 9 hK rfl rfl l0 ?_
    have g314 := gri (0) (40) hG (a := u) (r := 8) (k := 1) (su_r hu).1 rfl
    refine x_getE 12 hK rfl (Or.inl rfl) rfl (shx (h := h4) hG4 (r := 8) (su_r hu).1 rfl) (e := (gi h u 1)) (FRM_gi hF4 (r := 8) (su_r hu).1 rfl) ?_
    refine x_if_icmp_ge 111 15 hK rfl rfl rfl (by omega) (by omega) (fun c4 => ?_) (fun c4 => ?_)
    · obtain ⟨x, hs⟩ : ∃ x, (ruS c (akF h s t) i.toNat) = [x] := hd_1 (by have z := hh hn; rw [show (gi h u 1).toNat = i.toNat by omega] at z; omega)
      rw [hs] at sk
      refine x_aload_n 112 hK rfl rfl l0 ?_
      refine x_callV 115 hK hmono rfl rfl [.ref u] [] rfl rfl (Nat.le_of_ble_eq_true rfl) (Nat.le_of_ble_eq_true rfl) rfl (shx (h := h4) hG4 (r := 8) (su_r hu).1 rfl) (CLd_le (Nat.le_of_ble_eq_true rfl) (ctX4_popF hSP hG4 (show PT h4 from (PT_F hF4 (by decide) hP)) hu sk)) ?_
      rintro v315 h315 ⟨rfl, hG315, hF315, sk315⟩
      exact x_iret hK rfl ⟨⟨x, rfl, SKU_r sk, by rw [show (gi h u 1).toNat = i.toNat by omega]; exact hs⟩, hG315, (hF4).trans ((hF315).mono rfl)⟩
    · refine x_aload_n 16 hK rfl rfl l0 ?_
      refine x_getR 19 hK rfl rfl (shx (h := h4) hG4 (r := 8) (su_r hu).1 rfl) (su_p (PT_F hF4 (by decide) hP) hu) ?_
      refine x_iload_n 20 hK rfl rfl l3 ?_
      refine x_ialoadE 21 hK rfl rfl (shx (h := h4) hG4 (r := 9) (su_r hu).2 rfl) (by omega) (by omega) (by omega) (e' := (gi h (u + 1) i.toNat)) (FRM_gi hF4 (r := 9) (su_r hu).2 rfl) ?_
      refine x_ineg 22 hK rfl rfl ?_
      obtain ⟨m1, m2⟩ := hm2 (by omega)
      have q1 := hq (by omega)
      have m3 := m2
      unfold cdP at m3
      refine x_istore 24 hK rfl rfl _ rfl ?_
      refine x_iload 26 hK rfl rfl lk1_s ?_
      refine x_if_gt 42 29 hK rfl rfl rfl (by omega) (fun c17 => ?_) (fun c17 => ?_)
      · refine x_iload 44 hK rfl rfl lk1_s ?_
        refine x_sipush 47 hK rfl rfl rfl ?_
        refine x_if_icmp_ne 62 50 hK rfl rfl rfl (by omega) (by omega) (fun c20 => ?_) (fun c20 => ?_)
        · refine x_iload 64 hK rfl rfl lk1_s ?_
          refine x_callS 67 hK hmono rfl (Or.inl rfl) rfl [.int (I (-(gi h (u + 1) i.toNat)))] [] rfl rfl (Nat.le_of_ble_eq_true rfl) (Nat.le_of_ble_eq_true rfl) (CLd_le (Nat.le_of_ble_eq_true rfl) (ctX5_rankF hSP (by omega))) ?_
          rintro v9 h9 ⟨e9, rfl⟩
          rw [e9]
          clear e9
          have rk316 := rkI_b (-(gi h (u + 1) i.toNat))
          refine x_if_le 94 70 hK rfl rfl rfl (by omega) (fun c23 => ?_) (fun c23 => ?_)
          · obtain ⟨a1, a2, a3⟩ := cd_as m2 (by omega) (by omega) (by omega)
            rw [m1] at a2 a3
            refine x_aload_n 95 hK rfl rfl (lk1_n l0 (by decide) (Or.inl rfl)) ?_
            refine x_iload 97 hK rfl rfl lk1_s ?_
            refine x_aload_n 98 hK rfl rfl (lk1_n l1 (by decide) (Or.inl rfl)) ?_
            refine x_iload_n 99 hK rfl rfl (lk1_n l2 (by decide) (Or.inl rfl)) ?_
            refine x_callS 102 hK hmono rfl (Or.inl rfl) rfl [.int (I (-(gi h (u + 1) i.toNat))), .ref s, .int (I t)] [.ref u] rfl rfl (Nat.le_of_ble_eq_true rfl) (Nat.le_of_ble_eq_true rfl) (CLd_le (Nat.le_of_ble_eq_true rfl) (ctX4_valueOfF hSP hG4 (x := (gi h (u + 1) i.toNat)) h5 a1 rt)) ?_
            rintro v9 h9 ⟨e9, rfl⟩
            have ea : akF h4 s t = akF h s t := by funext q; unfold akF; rw [show gi h4 s 0 = gi h s 0 from FRM_gi hF4 (r := 5) (ss_r h5).1 rfl, show gi h4 s 1 = gi h s 1 from FRM_gi hF4 (r := 5) (ss_r h5).1 rfl, show gi h4 s 2 = gi h s 2 from FRM_gi hF4 (r := 5) (ss_r h5).1 rfl]
            rw [e9, m1, ea]
            clear e9
            refine x_callV 105 hK hmono rfl rfl [.ref u, .int (I ((akF h s t) (c i.toNat - 1000)))] [] rfl rfl (Nat.le_of_ble_eq_true rfl) (Nat.le_of_ble_eq_true rfl) rfl (shx (h := h4) hG4 (r := 8) (su_r hu).1 rfl) (CLd_le (Nat.le_of_ble_eq_true rfl) (ctX4_pushF hSP hG4 (show PT h4 from (PT_F hF4 (by decide) hP)) hu sk (by omega))) ?_
            rintro v317 h317 ⟨rfl, hG317, hF317, sk317⟩
            refine x_iinc 108 hK rfl rfl (lk1_n l3 (by decide) (Or.inl rfl)) _ rfl ?_
            refine x_goto 7 hK rfl rfl ?_
            rw [w32_e (ak_r hG h5 rt _)] at sk317
            have sn : SKU h317 u (ruS c (akF h s t) (i + 1).toNat) := by
              rw [rs]
              unfold ruStep
              rw [if_neg (by omega), if_neg (by omega), if_pos (by omega)]
              exact sk317
            exact ih _ (by omega) (i + 1) _ _ rfl (by omega) (sn) (lk1_n (lk1_n l0 (by decide) (Or.inl rfl)) (by decide) (Or.inl rfl)) (lk1_n (lk1_n l1 (by decide) (Or.inl rfl)) (by decide) (Or.inl rfl)) (lk1_n (lk1_n l2 (by decide) (Or.inl rfl)) (by decide) (Or.inl rfl)) lk1_s (hG317) ((hF4).trans ((hF317).mono rfl))
          · obtain ⟨o1, o2, o3⟩ := cd_op m2 (by omega) (by omega)
            rw [m1] at o2 o3
            have q2 := q1.2.2.2.1 (by omega) o2
            obtain ⟨y, x, r, hs⟩ : ∃ y x r, (ruS c (akF h s t) i.toNat) = y :: x :: r := by
              match hz : (ruS c (akF h s t) i.toNat) with
              | [] => rw [hz] at hl; simp only [List.length_nil] at hl; omega
              | [x] => rw [hz] at hl; simp only [List.length_cons, List.length_nil] at hl; omega
              | y :: x :: r => exact ⟨y, x, r, rfl⟩
            rw [hs] at sk hl
            simp only [List.length_cons] at hl
            have ry := SKU_r sk
            refine x_aload_n 71 hK rfl rfl (lk1_n l0 (by decide) (Or.inl rfl)) ?_
            refine x_callV 74 hK hmono rfl rfl [.ref u] [] rfl rfl (Nat.le_of_ble_eq_true rfl) (Nat.le_of_ble_eq_true rfl) rfl (shx (h := h4) hG4 (r := 8) (su_r hu).1 rfl) (CLd_le (Nat.le_of_ble_eq_true rfl) (ctX4_popF hSP hG4 (show PT h4 from (PT_F hF4 (by decide) hP)) hu sk)) ?_
            rintro v318 h318 ⟨rfl, hG318, hF318, sk318⟩
            have rx := SKU_r sk318
            refine x_istore 76 hK rfl rfl _ rfl ?_
            refine x_aload_n 77 hK rfl rfl (lk1_n (lk1_n l0 (by decide) (Or.inl rfl)) (by decide) (Or.inl rfl)) ?_
            refine x_iload 79 hK rfl rfl (lk1_n lk1_s (by decide) (Or.inl rfl)) ?_
            refine x_aload_n 80 hK rfl rfl (lk1_n (lk1_n l0 (by decide) (Or.inl rfl)) (by decide) (Or.inl rfl)) ?_
            refine x_callV 83 hK hmono rfl rfl [.ref u] [.int (I (-(gi h (u + 1) i.toNat))), .ref u] rfl rfl (Nat.le_of_ble_eq_true rfl) (Nat.le_of_ble_eq_true rfl) rfl (shx (h := h318) hG318 (r := 8) (su_r hu).1 rfl) (CLd_le (Nat.le_of_ble_eq_true rfl) (ctX4_popF hSP hG318 (show PT h318 from (PT_F hF318 (by decide) (PT_F hF4 (by decide) hP))) hu sk318)) ?_
            rintro v319 h319 ⟨rfl, hG319, hF319, sk319⟩
            refine x_iload 85 hK rfl rfl lk1_s ?_
            refine x_callS 88 hK hmono rfl (Or.inl rfl) rfl [.int (I (-(gi h (u + 1) i.toNat))), .int (I x), .int (I y)] [.ref u] rfl rfl (Nat.le_of_ble_eq_true rfl) (Nat.le_of_ble_eq_true rfl) (CLd_le (Nat.le_of_ble_eq_true rfl) (ctX4_applyF hSP (x := (gi h (u + 1) i.toNat)) o1 rx ry)) ?_
            rintro v9 h9 ⟨e9, rfl⟩
            rw [e9, m1]
            clear e9
            refine x_callV 91 hK hmono rfl rfl [.ref u, .int (I (wkF (c i.toNat - 2000) x y))] [] rfl rfl (Nat.le_of_ble_eq_true rfl) (Nat.le_of_ble_eq_true rfl) rfl (shx (h := h319) hG319 (r := 8) (su_r hu).1 rfl) (CLd_le (Nat.le_of_ble_eq_true rfl) (ctX4_pushF hSP hG319 (show PT h319 from (PT_F hF319 (by decide) (PT_F hF318 (by decide) (PT_F hF4 (by decide) hP)))) hu sk319 (by omega))) ?_
            rintro v320 h320 ⟨rfl, hG320, hF320, sk320⟩
            refine x_goto 105 hK rfl rfl ?_
            refine x_iinc 108 hK rfl rfl (lk1_n (lk1_n l3 (by decide) (Or.inl rfl)) (by decide) (Or.inl rfl)) _ rfl ?_
            refine x_goto 7 hK rfl rfl ?_
            rw [w32_e (wkF_r _ _ _)] at sk320
            have sn : SKU h320 u (ruS c (akF h s t) (i + 1).toNat) := by
              rw [rs]
              unfold ruStep
              rw [if_neg (by omega), if_pos (by omega), hs]
              exact sk320
            exact ih _ (by omega) (i + 1) _ _ rfl (by omega) (sn) (lk1_n (lk1_n (lk1_n l0 (by decide) (Or.inl rfl)) (by decide) (Or.inl rfl)) (by decide) (Or.inl rfl)) (lk1_n (lk1_n (lk1_n l1 (by decide) (Or.inl rfl)) (by decide) (Or.inl rfl)) (by decide) (Or.inl rfl)) (lk1_n (lk1_n (lk1_n l2 (by decide) (Or.inl rfl)) (by decide) (Or.inl rfl)) (by decide) (Or.inl rfl)) lk1_s (hG320) ((((hF4).trans ((hF318).mono rfl)).trans ((hF319).mono rfl)).trans ((hF320).mono rfl))
        · have mc : c i.toNat = 3000 := by rw [← m1, show gi h (u + 1) i.toNat = -256 by omega]; rfl
          have q2 := q1.2.2.1 mc
          obtain ⟨x, r, hs⟩ : ∃ x r, (ruS c (akF h s t) i.toNat) = x :: r := by
            cases hz : (ruS c (akF h s t) i.toNat) with
            | nil => rw [hz] at hl; simp only [List.length_nil] at hl; omega
            | cons x r => exact ⟨x, r, rfl⟩
          rw [hs] at sk hl
          simp only [List.length_cons] at hl
          have rx := SKU_r sk
          refine x_aload_n 51 hK rfl rfl (lk1_n l0 (by decide) (Or.inl rfl)) ?_
          refine x_aload_n 52 hK rfl rfl (lk1_n l0 (by decide) (Or.inl rfl)) ?_
          refine x_callV 55 hK hmono rfl rfl [.ref u] [.ref u] rfl rfl (Nat.le_of_ble_eq_true rfl) (Nat.le_of_ble_eq_true rfl) rfl (shx (h := h4) hG4 (r := 8) (su_r hu).1 rfl) (CLd_le (Nat.le_of_ble_eq_true rfl) (ctX4_popF hSP hG4 (show PT h4 from (PT_F hF4 (by decide) hP)) hu sk)) ?_
          rintro v321 h321 ⟨rfl, hG321, hF321, sk321⟩
          refine x_ineg 56 hK rfl rfl ?_
          refine x_callV 59 hK hmono rfl rfl [.ref u, .int (I (-x))] [] rfl rfl (Nat.le_of_ble_eq_true rfl) (Nat.le_of_ble_eq_true rfl) rfl (shx (h := h321) hG321 (r := 8) (su_r hu).1 rfl) (CLd_le (Nat.le_of_ble_eq_true rfl) (ctX4_pushF hSP hG321 (show PT h321 from (PT_F hF321 (by decide) (PT_F hF4 (by decide) hP))) hu sk321 (by omega))) ?_
          rintro v322 h322 ⟨rfl, hG322, hF322, sk322⟩
          refine x_goto 105 hK rfl rfl ?_
          refine x_iinc 108 hK rfl rfl (lk1_n l3 (by decide) (Or.inl rfl)) _ rfl ?_
          refine x_goto 7 hK rfl rfl ?_
          have sn : SKU h322 u (ruS c (akF h s t) (i + 1).toNat) := by
            rw [rs]
            unfold ruStep
            rw [if_pos mc, hs]
            exact sk322
          exact ih _ (by omega) (i + 1) _ _ rfl (by omega) (sn) (lk1_n (lk1_n l0 (by decide) (Or.inl rfl)) (by decide) (Or.inl rfl)) (lk1_n (lk1_n l1 (by decide) (Or.inl rfl)) (by decide) (Or.inl rfl)) (lk1_n (lk1_n l2 (by decide) (Or.inl rfl)) (by decide) (Or.inl rfl)) lk1_s (hG322) (((hF4).trans ((hF321).mono rfl)).trans ((hF322).mono rfl))
      · have mc : c i.toNat = (gi h (u + 1) i.toNat) := by rw [← m1, rcC_pos (by omega)]
        refine x_aload_n 30 hK rfl rfl (lk1_n l0 (by decide) (Or.inl rfl)) ?_
        refine x_aload_n 31 hK rfl rfl (lk1_n l0 (by decide) (Or.inl rfl)) ?_
        refine x_getR 34 hK rfl rfl (shx (h := h4) hG4 (r := 8) (su_r hu).1 rfl) (su_p (PT_F hF4 (by decide) hP) hu) ?_
        refine x_iload_n 35 hK rfl rfl (lk1_n l3 (by decide) (Or.inl rfl)) ?_
        refine x_ialoadE 36 hK rfl rfl (shx (h := h4) hG4 (r := 9) (su_r hu).2 rfl) (by omega) (by omega) (by omega) (e' := (gi h (u + 1) i.toNat)) (FRM_gi hF4 (r := 9) (su_r hu).2 rfl) ?_
        refine x_callV 39 hK hmono rfl rfl [.ref u, .int (I (gi h (u + 1) i.toNat))] [] rfl rfl (Nat.le_of_ble_eq_true rfl) (Nat.le_of_ble_eq_true rfl) rfl (shx (h := h4) hG4 (r := 8) (su_r hu).1 rfl) (CLd_le (Nat.le_of_ble_eq_true rfl) (ctX4_pushF hSP hG4 (show PT h4 from (PT_F hF4 (by decide) hP)) hu sk (by omega))) ?_
        rintro v323 h323 ⟨rfl, hG323, hF323, sk323⟩
        refine x_goto 105 hK rfl rfl ?_
        refine x_iinc 108 hK rfl rfl (lk1_n l3 (by decide) (Or.inl rfl)) _ rfl ?_
        refine x_goto 7 hK rfl rfl ?_
        rw [w32_e (gi_r h (u + 1) i.toNat)] at sk323
        have sn : SKU h323 u (ruS c (akF h s t) (i + 1).toNat) := by
          rw [rs]
          unfold ruStep
          rw [if_neg (by omega), if_neg (by omega), if_neg (by omega), mc]
          exact sk323
        exact ih _ (by omega) (i + 1) _ _ rfl (by omega) (sn) (lk1_n (lk1_n l0 (by decide) (Or.inl rfl)) (by decide) (Or.inl rfl)) (lk1_n (lk1_n l1 (by decide) (Or.inl rfl)) (by decide) (Or.inl rfl)) (lk1_n (lk1_n l2 (by decide) (Or.inl rfl)) (by decide) (Or.inl rfl)) lk1_s (hG323) ((hF4).trans ((hF323).mono rfl))
  refine x_aload_n 1 hK rfl rfl rfl ?_
  refine x_iconst 2 hK rfl rfl ?_
  refine x_putI 5 hK rfl rfl (shx (h := h) hG (r := 8) (su_r hu).1 rfl) ?_
  refine x_iconst 6 hK rfl rfl ?_
  refine x_istore_n 7 hK rfl rfl [(3, .int (I 0)), (0, .ref u), (1, .ref s), (2, .int (I t))] rfl ?_
  exact loop _ 0 _ _ rfl (by omega) (⟨gi_same (by omega), fun i hi => absurd hi (Nat.not_lt_zero _)⟩) rfl rfl rfl rfl (GD_w1 (hG) (r := 8) (su_r hu).1 (by omega) rfl (by omega) (by omega)) (FRM_w ((FRM.rf : FRM gRL [(0, 8, 3, 3), (0, 10, 0, 39)] h h)) (r := 8) (su_r hu).1 rfl)
set_option maxRecDepth 4000 in
theorem ctX10_delayAtF {SP : CT} (hSP : MONO SP) {sh : List (Nat × Nat)} {h : aH} (hG : GD gE gRL sh h) {u : Nat} (hP : PT h) (hu : u = 11 ∨ u = 14) {s : Nat} (h5 : s = 5 ∨ s = 8) {c : Nat → Int} (hcd : ∀ k : Nat, (k : Int) < gi h u 1 → rcC (gi h (u + 1) k) = c k ∧ cdP (gi h (u + 1) k)) (hV : VCd c (gi h u 1)) (hh : 0 < gi h u 1 → hgt c (gi h u 1).toNat = 1) (hL : aR h 0 4 = some u) (hS : aR h 0 2 = some s) (hl : 2 ≤ gi h s 0 ∧ gi h s 0 ≤ 40) {t : Int} (ht : 0 ≤ t ∧ t ≤ 2147483647) : CLd SP 5 mX10_delayAt [.ref 0, .int (I t)] h 0 0 (fun rv h' => rv = some (.int (I (dlF c (gi h u 1) (akF h s (t % 12))))) ∧ GD gE gRL sh h' ∧ FRM gRL [(0, 8, 3, 3), (0, 10, 0, 39)] h h') := by
  refine x_met _ rfl (Nat.le_of_ble_eq_true rfl) (fun K hK => ?_)
  have hmono := MONO_CLd hSP 4
  have gn := gri 0 40 hG (a := u) (r := 8) (k := 1) (su_r hu).1 rfl
  refine x_aload_n 1 hK rfl rfl rfl ?_
  refine x_getR 4 hK rfl rfl (sp_0 (h := h) hG) (hL) ?_
  have g324 := gri (0) (40) hG (a := u) (r := 8) (k := 1) (su_r hu).1 rfl
  refine x_getE 7 hK rfl (Or.inl rfl) rfl (shx (h := h) hG (r := 8) (su_r hu).1 rfl) (e := (gi h u 1)) (rfl) ?_
  refine x_if_ne 25 10 hK rfl rfl rfl (by omega) (fun c4 => ?_) (fun c4 => ?_)
  · refine x_aload_n 26 hK rfl rfl rfl ?_
    refine x_getR 29 hK rfl rfl (sp_0 (h := h) hG) (hL) ?_
    refine x_aload_n 30 hK rfl rfl rfl ?_
    refine x_getR 33 hK rfl rfl (sp_0 (h := h) hG) (hS) ?_
    refine x_iload_n 34 hK rfl rfl rfl ?_
    refine x_bipush 36 hK rfl rfl rfl ?_
    refine x_iremp 37 hK rfl rfl (by omega) (by omega) (by omega) (by omega) ?_
    refine x_callV 40 hK hmono rfl rfl [.ref u, .ref s, .int (I (t % 12))] [] rfl rfl (Nat.le_of_ble_eq_true rfl) (Nat.le_of_ble_eq_true rfl) rfl (shx (h := h) hG (r := 8) (su_r hu).1 rfl) (CLd_le (Nat.le_of_ble_eq_true rfl) (ctX4_workF hSP hG hP hu h5 hcd hV hh (t := t % 12) (by omega) (by omega))) ?_
    rintro v325 h325 ⟨⟨x, rfl, rx, hx⟩, hG325, hF325⟩
    have ed : (dlF c (gi h u 1) (akF h s (t % 12))) = max 1 (min 12 x) := by unfold dlF; rw [if_neg (by omega), hx]; rfl
    refine x_istore_n 41 hK rfl rfl [(2, .int (I x)), (0, .ref 0), (1, .int (I t))] rfl ?_
    refine x_iload_n 42 hK rfl rfl rfl ?_
    refine x_iconst 43 hK rfl rfl ?_
    refine x_bipush 45 hK rfl rfl rfl ?_
    refine x_callS 48 hK hmono rfl (Or.inl rfl) rfl [.int (I x), .int (I 1), .int (I 12)] [] rfl rfl (Nat.le_of_ble_eq_true rfl) (Nat.le_of_ble_eq_true rfl) (CLd_le (Nat.le_of_ble_eq_true rfl) (ctX10_put hSP (v := x) (a := 1) (b := 12) (by omega) (by omega) (by omega))) ?_
    rintro v9 h9 ⟨e9, rfl⟩
    rw [e9]
    clear e9
    exact x_iret hK rfl ⟨by rw [ed], hG325, hF325⟩
  · refine x_aload_n 11 hK rfl rfl rfl ?_
    refine x_getR 14 hK rfl rfl (sp_0 (h := h) hG) (hS) ?_
    have g326 := gri (-1000000) (1000000) hG (a := s) (r := 5) (k := 0) (ss_r h5).1 rfl
    refine x_getE 17 hK rfl (Or.inl rfl) rfl (shx (h := h) hG (r := 5) (ss_r h5).1 rfl) (e := (gi h s 0)) (rfl) ?_
    refine x_bipush 19 hK rfl rfl rfl ?_
    refine x_idivp 20 hK rfl rfl (by omega) (by omega) (by omega) (by omega) ?_
    refine x_iconst 21 hK rfl rfl ?_
    refine x_iadd 22 hK rfl rfl ?_
    refine x_goto 40 hK rfl rfl ?_
    refine x_istore_n 41 hK rfl rfl [(2, .int (I (((gi h s 0) / 8) + 1))), (0, .ref 0), (1, .int (I t))] rfl ?_
    refine x_iload_n 42 hK rfl rfl rfl ?_
    refine x_iconst 43 hK rfl rfl ?_
    refine x_bipush 45 hK rfl rfl rfl ?_
    refine x_callS 48 hK hmono rfl (Or.inl rfl) rfl [.int (I (((gi h s 0) / 8) + 1)), .int (I 1), .int (I 12)] [] rfl rfl (Nat.le_of_ble_eq_true rfl) (Nat.le_of_ble_eq_true rfl) (CLd_le (Nat.le_of_ble_eq_true rfl) (ctX10_put hSP (v := (((gi h s 0) / 8) + 1)) (a := 1) (b := 12) (by omega) (by omega) (by omega))) ?_
    rintro v9 h9 ⟨e9, rfl⟩
    rw [e9]
    clear e9
    have ed : (dlF c (gi h u 1) (akF h s (t % 12))) = (max 1 (min 12 (((gi h s 0) / 8) + 1))) := by unfold dlF; rw [if_pos (by omega)]; rfl
    exact x_iret hK rfl ⟨by rw [ed], hG, FRM.rf⟩
end
section
/-! THE STATE OF BOTH -/
noncomputable def WW (b : Int) (w : WS) : Prop := (0 ≤ w.1 ∧ w.1 ≤ b) ∧ (0 ≤ w.2.1 ∧ w.2.1 ≤ 8) ∧ (0 ≤ w.2.2.1 ∧ w.2.2.1 ≤ 16 * b) ∧ (-1 ≤ w.2.2.2.1 ∧ w.2.2.2.1 ≤ b) ∧ ∀ m, m < 8 → (0 ≤ w.2.2.2.2.2.1 m ∧ w.2.2.2.2.2.1 m ≤ 99) ∧ 0 ≤ w.2.2.2.2.2.2 m ∧ w.2.2.2.2.2.2 m ≤ b
theorem WW_of {b : Int} {s : Nat → Int} (w : WB b s) : WW b (vw s) := by
  obtain ⟨w0, w1, w2, w3, w4, w5⟩ := w
  refine ⟨w0, w1, w2, w4, fun m hm => ?_⟩
  show (0 ≤ (if m < 8 then s (41 + m) else 0) ∧ (if m < 8 then s (41 + m) else 0) ≤ 99) ∧ 0 ≤ (if m < 8 then s (49 + m) else 0) ∧ (if m < 8 then s (49 + m) else 0) ≤ b
  rw [if_pos hm, if_pos hm]
  exact w5 m hm
theorem STR_to {sh : List (Nat × Nat)} {h : aH} (hG : GD gE gRL sh h) {ms : Int} {w : WS} (hS : STR ms (kS h 23) w) : gi h 23 0 = w.1 ∧ gi h 23 1 = w.2.1 ∧ gi h 23 2 = w.2.2.1 ∧ gi h 23 3 = w.2.2.2.1 ∧ gi h 23 4 = (w.2.2.2.2.1.length : Int) ∧ kO h 23 (gi h 23 4).toNat = srt w.2.2.2.2.1 ∧ ∀ m : Nat, m < 8 → (m : Int) < ms → gi h 26 m = w.2.2.2.2.2.1 m ∧ gi h 27 m = w.2.2.2.2.2.2 m := by
  obtain ⟨-, h1, h2, h3, h4, h5, h6⟩ := hS
  have g4 := gri 0 12 hG (a := 23) (r := 17) (k := 4) rfl rfl
  have h5 : kO h 23 (gi h 23 4).toNat = srt w.2.2.2.2.1 := h5
  have l5 := congrArg List.length h5
  rw [kO_l, srt_len] at l5
  refine ⟨h1, h2, h3, h4, by omega, h5, fun m hm hx => ?_⟩
  obtain ⟨a, b⟩ := h6 m hx
  have a : (if m < 8 then gi h 26 m else 0) = w.2.2.2.2.2.1 m := a
  have b : (if m < 8 then gi h 27 m else 0) = w.2.2.2.2.2.2 m := b
  rw [if_pos hm] at a b
  exact ⟨a, b⟩
theorem STR_of {h : aH} {ms : Int} {w : WS} (h8 : ms ≤ 8) (ok : OKW w) (e0 : gi h 23 0 = w.1) (e1 : gi h 23 1 = w.2.1) (e2 : gi h 23 2 = w.2.2.1) (e3 : gi h 23 3 = w.2.2.2.1) (e4 : kO h 23 (gi h 23 4).toNat = srt w.2.2.2.2.1) (ef : ∀ m : Nat, (m : Int) < ms → gi h 26 m = w.2.2.2.2.2.1 m ∧ gi h 27 m = w.2.2.2.2.2.2 m) : STR ms (kS h 23) w := by
  refine ⟨ok, e0, e1, e2, e3, e4, fun m hm => ?_⟩
  show (if m < 8 then gi h 26 m else 0) = w.2.2.2.2.2.1 m ∧ (if m < 8 then gi h 27 m else 0) = w.2.2.2.2.2.2 m
  rw [if_pos (by omega), if_pos (by omega)]
  exact ef m hm
theorem STR_hb {sh : List (Nat × Nat)} {h : aH} (hG : GD gE gRL sh h) {ms b : Int} {w : WS} (hS : STR ms (kS h 23) w) (hw : WW b w) (hb : b ≤ 1000000) : ∀ j : Nat, (j : Int) < gi h 23 4 → (-1 ≤ gi h 25 j ∧ gi h 25 j ≤ 1) ∧ 0 ≤ gi h 24 j ∧ gi h 24 j ≤ 2000000 := fun j hj => by
  have e := (STR_to hG hS).2.2.2.2.2.1
  have m : (gi h 24 j, gi h 25 j) ∈ srt w.2.2.2.2.1 := by
    rw [← e]
    exact List.mem_of_getElem? (kO_at (h := h) (c := 23) (n := (gi h 23 4).toNat) (j := j) (by omega))
  obtain ⟨q, hq, eq⟩ := srt_mem m
  have e1 : gi h 24 j = q.1 := congrArg Prod.fst eq
  have e2 : gi h 25 j = q.2.1 := congrArg Prod.snd eq
  obtain ⟨⟨o1, o2⟩, o3, o4, o5⟩ := hS.1.1 q hq
  have := hw.1
  rw [e1, e2]
  exact ⟨⟨o4, o5⟩, by omega, by omega⟩
theorem STR_ss {sh : List (Nat × Nat)} {h : aH} (hG : GD gE gRL sh h) {ms : Int} {w : WS} (hS : STR ms (kS h 23) w) : SRT (kO h 23 (gi h 23 4).toNat) := by
  rw [(STR_to hG hS).2.2.2.2.2.1]
  exact srt_SRT _
theorem hitN_c {ml ln ml' ln' : Nat → Int} {a b : Int} : ∀ n : Nat, (∀ j, j < n → ml' j = ml j ∧ ln' j = ln j) → hitN ml' ln' a b n = hitN ml ln a b n
  | 0, _ => rfl
  | n + 1, h => by
    show hitN ml' ln' a b n + (if ml' n = a ∧ ln' n = b then 1 else 0) = hitN ml ln a b n + (if ml n = a ∧ ln n = b then 1 else 0)
    rw [hitN_c n fun j hj => h j (by omega), (h n (by omega)).1, (h n (by omega)).2]
/-- the past of both -/
noncomputable def PLR (ms : Int) : List CWS → List (Nat → Int) → Prop
  | [], [] => True
  | x :: l, s :: u => STR ms x (vw s) ∧ PLR ms l u
  | _, _ => False
theorem PLR_len {ms : Int} : ∀ {l : List CWS} {u : List (Nat → Int)}, PLR ms l u → l.length = u.length
  | [], [], _ => rfl
  | _ :: _, _ :: _, h => congrArg (· + 1) (PLR_len h.2)
  | [], _ :: _, h => h.elim
  | _ :: _, [], h => h.elim
theorem PLR_snoc {ms : Int} {x : CWS} {s : Nat → Int} (hx : STR ms x (vw s)) : ∀ {l : List CWS} {u : List (Nat → Int)}, PLR ms l u → PLR ms (l ++ [x]) (u ++ [s])
  | [], [], _ => ⟨hx, trivial⟩
  | _ :: _, _ :: _, h => ⟨h.1, PLR_snoc hx h.2⟩
  | [], _ :: _, h => h.elim
  | _ :: _, [], h => h.elim
theorem PLR_last {ms : Int} {x : CWS} {s : Nat → Int} : ∀ {l : List CWS} {u : List (Nat → Int)}, PLR ms (l ++ [x]) (u ++ [s]) → PLR ms l u ∧ STR ms x (vw s)
  | [], [], h => ⟨trivial, h.1⟩
  | _ :: _, _ :: _, h => ⟨⟨h.1, (PLR_last h.2).1⟩, (PLR_last h.2).2⟩
  | [], _ :: _, h => by
    have z := PLR_len h
    simp at z
  | _ :: _, [], h => by
    have z := PLR_len h
    simp at z
theorem PLR_tl {ms : Int} : ∀ {l : List CWS} {u : List (Nat → Int)}, PLR ms l u → PLR ms (l.drop 1) (u.drop 1)
  | [], [], _ => trivial
  | _ :: _, _ :: _, h => h.2
  | [], _ :: _, h => h.elim
  | _ :: _, [], h => h.elim
theorem PLR_push {ms : Int} {x : CWS} {s : Nat → Int} {l : List CWS} {u : List (Nat → Int)} (hl : PLR ms l u) (hx : STR ms x (vw s)) : PLR ms (pushC l x) (pushU u s) := by
  unfold pushC pushU
  rw [PLR_len hl]
  split
  · exact PLR_snoc hx hl
  · exact PLR_snoc hx (PLR_tl hl)
/-- what DELAY stands on, of both -/
noncomputable def DR (h : aH) (s u : Nat) : Prop := (s = 5 ∨ s = 8) ∧ (u = 11 ∨ u = 14) ∧ aR h 0 2 = some s ∧ aR h 0 4 = some u ∧ (gi h s 0 = gi h 171 3 ∧ gi h s 1 = gi h 171 4 ∧ gi h s 2 = gi h 171 5) ∧ gi h u 1 = gi h 171 25 ∧ (∀ k : Nat, (k : Int) < gi h u 1 → rcC (gi h (u + 1) k) = gi h 182 k ∧ cdP (gi h (u + 1) k)) ∧ (0 < gi h u 1 → hgt (fun k => gi h 182 k) (gi h u 1).toNat = 1)
theorem DR_of {h : aH} {s t u v : Nat} (hw : SW h s t) (c0 : gi h s 0 = gi h 171 3) (c1 : gi h s 1 = gi h 171 4) (c2 : gi h s 2 = gi h 171 5) (lw : LW h u v) (r0 : gi h u 1 = gi h 171 25) (r1 : (cdL h u (gi h u 1).toNat).map rcC = (List.range (gi h 171 25).toNat).map (gi h 182)) (r2 : ∀ x ∈ cdL h u (gi h u 1).toNat, cdP x) (r3 : 0 < gi h u 1 → dls ((cdL h u (gi h u 1).toNat).map rcC) = 1) : DR h s u := by
  refine ⟨by have := hw.1; omega, by have := lw.1; omega, hw.2.1, lw.2.1, ⟨c0, c1, c2⟩, r0, fun k hk => ⟨?_, ?_⟩, fun z => ?_⟩
  · have e : ((cdL h u (gi h u 1).toNat).map rcC)[k]? = ((List.range (gi h 171 25).toNat).map (gi h 182))[k]? := by rw [r1]
    unfold cdL at e
    rw [List.getElem?_map, List.getElem?_map, List.getElem?_map, List.getElem?_range (by omega), List.getElem?_range (by omega)] at e
    exact Option.some.inj e
  · refine r2 _ ?_
    unfold cdL
    exact List.mem_map.mpr ⟨k, List.mem_range.mpr (by omega), rfl⟩
  · have y := r3 z
    rw [r1, ← r0, ← hgt_dls (gi h 182)] at y
    exact y
theorem ask_eq {h : aH} {s u : Nat} (hD : DR h s u) (t q : Int) (h0 : 0 ≤ q) (h3 : q ≤ 3) : akF h s (t % 12) q = askF h t q := by
  obtain ⟨-, -, -, -, ⟨c0, c1, c2⟩, -⟩ := hD
  unfold akF askF
  rw [c0, c1, c2]
  by_cases a : q = 0
  · rw [if_pos a, if_pos a]
  · by_cases b : q = 1
    · rw [if_neg a, if_neg a, if_pos b, if_pos b]
    · by_cases c : q = 2
      · rw [if_neg a, if_neg a, if_neg b, if_neg b, if_pos c, if_pos c]
      · rw [if_neg a, if_neg a, if_neg b, if_neg b, if_neg c, if_neg c, if_pos (by omega)]
theorem ctX10_delayA {SP : CT} (hSP : MONO SP) {sh : List (Nat × Nat)} {h : aH} (hG : GD gE gRL sh h) (hP : PT h) (hX : XI h) {s u : Nat} (hD : DR h s u) {t : Int} (ht : 0 ≤ t ∧ t ≤ 2147483647) : CLd SP 5 mX10_delayAt [.ref 0, .int (I t)] h 0 0 (fun rv h' => rv = some (.int (I (dlA h t))) ∧ GD gE gRL sh h' ∧ FRM gRL [(0, 8, 3, 3), (0, 10, 0, 39)] h h') := by
  have hX : VCd (fun k => gi h 182 k) (gi h 171 25) := hX
  have g3 := gri 2 40 hG (a := 171) (r := 54) (k := 3) rfl rfl
  have g25 := gri 0 80 hG (a := 171) (r := 54) (k := 25) rfl rfl
  have hD2 := hD
  obtain ⟨h5, hu, hS, hL, ⟨c0, c1, c2⟩, r0, r1, r2⟩ := hD2
  refine MONO_CLd hSP 5 _ _ _ _ _ _ _ (fun rv h' hq => ?_) (ctX10_delayAtF hSP hG hP hu h5 r1 (by rw [r0]; exact hX) r2 hL hS (by omega) ht)
  obtain ⟨rfl, hG', hF'⟩ := hq
  refine ⟨?_, hG', hF'⟩
  rw [show dlF (fun k => gi h 182 k) (gi h u 1) (akF h s (t % 12)) = dlA h t from by
    unfold dlA
    rw [r0]
    exact dlF_congr hX (fun k _ => rfl) (fun q q0 q3 => ask_eq hD t q q0 q3) g25.1]
set_option maxRecDepth 4000 in
theorem ctX10_orderRefusalF {SP : CT} (hSP : MONO SP) {sh : List (Nat × Nat)} {h : aH} (hG : GD gE gRL sh h) {w : WS} {ms : Int} (hS : STR ms (kS h 23) w) : CLd SP 2 mX10_orderRefusal [.ref 0] h 0 0 (fun rv h' => h' = h ∧ rv = some (.int (I (gvR 0 w)))) := by
  refine x_met _ rfl (Nat.le_of_ble_eq_true rfl) (fun K hK => ?_)
  have hmono := MONO_CLd hSP 1
  obtain ⟨k0, k1, k2, k3, k4, k5, k6⟩ := STR_to hG hS
  have l12 := hS.1.2.2.1
  refine x_aload_n 1 hK rfl rfl rfl ?_
  refine x_getR 4 hK rfl rfl (sp_0 (h := h) hG) (rf_0_10 (h := h) hG) ?_
  refine x_callV 7 hK hmono rfl rfl [.ref 23] [] rfl rfl (Nat.le_of_ble_eq_true rfl) (Nat.le_of_ble_eq_true rfl) rfl (sp_23 (h := h) hG) (CLd_le (Nat.le_of_ble_eq_true rfl) (ctX8_gaveNow hSP hG)) ?_
  rintro v9 h9 ⟨e9, rfl⟩
  rw [e9]
  clear e9
  by_cases cg : gi h 23 3 = gi h 23 0
  · rw [if_pos cg]
    refine x_if_eq 13 10 hK rfl rfl rfl (by omega) (fun c => by omega) (fun _ => ?_)
    refine x_bipush 12 hK rfl rfl rfl ?_
    have e9 : gvR 0 w = (-2) := by unfold gvR; rw [if_neg (by omega), if_pos (by omega)]
    exact x_iret hK rfl ⟨rfl, by rw [e9]⟩
  · rw [if_neg cg]
    refine x_if_eq 13 10 hK rfl rfl rfl (by omega) (fun _ => ?_) (fun c => by omega)
    refine x_aload_n 14 hK rfl rfl rfl ?_
    refine x_getR 17 hK rfl rfl (sp_0 (h := h) hG) (rf_0_10 (h := h) hG) ?_
    refine x_getE 20 hK rfl (Or.inl rfl) rfl (sp_23 (h := h) hG) (e := (w.2.2.2.2.1.length : Int)) (k4) ?_
    refine x_bipush 22 hK rfl rfl rfl ?_
    refine x_if_icmp_lt 30 25 hK rfl rfl rfl (by omega) (by omega) (fun c12 => ?_) (fun c12 => ?_)
    · refine x_iconst 31 hK rfl rfl ?_
      have e9 : gvR 0 w = 0 := by unfold gvR; rw [if_neg (by omega), if_neg (by omega), if_neg (by omega)]
      exact x_iret hK rfl ⟨rfl, by rw [e9]⟩
    · refine x_bipush 27 hK rfl rfl rfl ?_
      refine x_goto 31 hK rfl rfl ?_
      have e9 : gvR 0 w = (-3) := by unfold gvR; rw [if_neg (by omega), if_neg (by omega), if_pos (by omega)]
      exact x_iret hK rfl ⟨rfl, by rw [e9]⟩
set_option maxRecDepth 4000 in
theorem ctX10_goStepF {SP : CT} (hSP : MONO SP) {sh : List (Nat × Nat)} {h : aH} (hG : GD gE gRL sh h) {b : Int} {w : WS} (hS : STR (gi h 0 9) (kS h 23) w) (hw : WW b w) (hb : b ≤ 950000) {ml ln ea : Nat → Int} (hml : ∀ j : Nat, (j : Int) < gi h 19 0 → gi h 20 j = ml j ∧ gi h 21 j = ln j) (hea : ∀ m : Nat, (m : Int) < (gi h 0 9) → gi h 22 m = ea m ∧ 0 ≤ ea m ∧ ea m ≤ 9) : CLd SP 4 mX10_goStep [.ref 0] h 0 0 (fun rv h' => rv = some (.int (I (stU (gi h 0 9) ea w))) ∧ GD gE gRL sh h' ∧ FRM gRL [(0, 17, 0, 4), (0, 18, 0, 11), (0, 19, 0, 11), (0, 20, 0, 7), (0, 21, 0, 7)] h h' ∧ STR (gi h 0 9) (kS h' 23) (stW ml ln (gi h 19 0).toNat (gi h 0 9) ea w)) := by
  refine x_met _ rfl (Nat.le_of_ble_eq_true rfl) (fun K hK => ?_)
  have hmono := MONO_CLd hSP 3
  obtain ⟨k0, k1, k2, k3, k4, k5, k6⟩ := STR_to hG hS
  obtain ⟨w0, w1, w2, w3, w4⟩ := hw
  have g9 := gri 0 8 hG (a := 0) (r := 0) (k := 9) rfl rfl
  have g19 := gri 0 16 hG (a := 19) (r := 13) (k := 0) rfl rfl
  have dd := st_due hS.1
  have okS := OKW_st (ml := ml) (ln := ln) (nr := (gi h 19 0).toNat) (ms := gi h 0 9) (ea := ea) hS.1
  have hb1 := STR_hb hG hS ⟨w0, w1, w2, w3, w4⟩ (by omega)
  have sl : 0 ≤ stL w ∧ stL w ≤ 8 := ptF_b w1 _
  have eat : ∀ (mz : Nat) (c i : Int) (h4 : aH) (ls : List (Nat × Value)), (((gi h 0 9) - i).toNat = mz) → (0 ≤ i ∧ i ≤ (gi h 0 9)) → (c = hcN w.2.2.2.2.2.1 ea i.toNat) → (STR (gi h 0 9) (kS h4 23) (w.1 + 1, stL w, (w.2.2.1 + hitN ml ln (w.1 + 1) (stL w) (gi h 19 0).toNat), w.2.2.2.1, (w.2.2.2.2.1.filter fun q => !decide (q.1 = w.1 + 1)), (fun m => if m < i.toNat then fdS (w.2.2.2.2.2.1 m) (ea m) else w.2.2.2.2.2.1 m), (fun m => if m < i.toNat then huS (w.2.2.2.2.2.2 m) (w.2.2.2.2.2.1 m) (ea m) else w.2.2.2.2.2.2 m))) → lk ls 0 = some (.ref 0) → lk ls 1 = some (.int (I c)) → lk ls 2 = some (.int (I i)) → GD gE gRL sh h4 → FRM gRL [(0, 17, 0, 4), (0, 18, 0, 11), (0, 19, 0, 11), (0, 20, 0, 7), (0, 21, 0, 7)] h h4 → K 94 ls [] h4 0 0 := by
    intro mz
    induction mz using Nat.strongRecOn with
    | ind mz ih =>
    intro c i h4 ls hm i0 ce hs l0 l1 l2 hG4 hF4
    obtain ⟨j0, j1, j2, j3, j4, j5, j6⟩ := STR_to hG4 hs
    have hc := hcN_b w.2.2.2.2.2.1 ea i.toNat
    have he := fun z : i < (gi h 0 9) => hea i.toNat (by omega)
    have hi := fun z : i < (gi h 0 9) => j6 i.toNat (by omega) (by omega)
    have hw8 := fun z : i < gi h 0 9 => w4 i.toNat (by omega)
    have hif : i < (gi h 0 9) → gi h4 26 i.toNat = w.2.2.2.2.2.1 i.toNat ∧ gi h4 27 i.toNat = w.2.2.2.2.2.2 i.toNat := fun z => by
      have y := hi z
      have y1 : gi h4 26 i.toNat = if i.toNat < i.toNat then fdS (w.2.2.2.2.2.1 i.toNat) (ea i.toNat) else w.2.2.2.2.2.1 i.toNat := y.1
      have y2 : gi h4 27 i.toNat = if i.toNat < i.toNat then huS (w.2.2.2.2.2.2 i.toNat) (w.2.2.2.2.2.1 i.toNat) (ea i.toNat) else w.2.2.2.2.2.2 i.toNat := y.2
      rw [if_neg (Nat.lt_irrefl _)] at y1 y2
      exact ⟨y1, y2⟩
    have ce0 := ce
    clear ce
    refine x_iload_n 95 hK rfl rfl l2 ?_
    refine x_aload_n 96 hK rfl rfl l0 ?_
    have g423 := gri (0) (8) hG (a := 0) (r := 0) (k := 9) rfl rfl
    refine x_getE 99 hK rfl (Or.inl rfl) rfl (sp_0 (h := h4) hG4) (e := (gi h 0 9)) (FRM_gi hF4 (r := 0) rfl rfl) ?_
    refine x_if_icmp_ge 133 102 hK rfl rfl rfl (by omega) (by omega) (fun c4 => ?_) (fun c4 => ?_)
    · refine x_iload_n 134 hK rfl rfl l1 ?_
      have ei : i.toNat = (gi h 0 9).toNat := by omega
      rw [ei] at hs ce0
      have hs3 : STR (gi h 0 9) (kS h4 23) (stW ml ln (gi h 19 0).toNat (gi h 0 9) ea w) := by
        obtain ⟨q0, q1, q2, q3, q4, q5, q6⟩ := STR_to hG4 hs
        refine STR_of g9.2 okS q0 q1 q2 q3 q5 fun m hm => ?_
        obtain ⟨y1, y2⟩ := q6 m (by omega) hm
        have y1 : gi h4 26 m = if m < (gi h 0 9).toNat then fdS (w.2.2.2.2.2.1 m) (ea m) else w.2.2.2.2.2.1 m := y1
        have y2 : gi h4 27 m = if m < (gi h 0 9).toNat then huS (w.2.2.2.2.2.2 m) (w.2.2.2.2.2.1 m) (ea m) else w.2.2.2.2.2.2 m := y2
        rw [if_pos (by omega)] at y1 y2
        show gi h4 26 m = (if (m : Int) < (gi h 0 9) then fdS (w.2.2.2.2.2.1 m) (ea m) else w.2.2.2.2.2.1 m) ∧ gi h4 27 m = if (m : Int) < (gi h 0 9) then huS (w.2.2.2.2.2.2 m) (w.2.2.2.2.2.1 m) (ea m) else w.2.2.2.2.2.2 m
        rw [if_pos hm, if_pos hm]
        exact ⟨y1, y2⟩
      exact x_iret hK rfl ⟨by rw [ce0]; rfl, hG4, hF4, hs3⟩
    · refine x_iload_n 103 hK rfl rfl l1 ?_
      refine x_aload_n 104 hK rfl rfl l0 ?_
      refine x_getR 107 hK rfl rfl (sp_0 (h := h4) hG4) (rf_0_10 (h := h4) hG4) ?_
      refine x_iload_n 108 hK rfl rfl l2 ?_
      refine x_aload_n 109 hK rfl rfl l0 ?_
      refine x_getR 112 hK rfl rfl (sp_0 (h := h4) hG4) (rf_0_8 (h := h4) hG4) ?_
      refine x_iload_n 113 hK rfl rfl l2 ?_
      have g424 := grn (0) (9) hG (a := 22) (r := 16) (k := i.toNat) rfl rfl (by omega)
      refine x_ialoadE 114 hK rfl rfl (sp_22 (h := h4) hG4) (by omega) (by omega) (by omega) (e' := (gi h 22 i.toNat)) (FRM_gi hF4 (r := 16) rfl rfl) ?_
      have hei := he (by omega)
      have hii := hif (by omega)
      have h8i := hw8 (by omega)
      have ev : (gi h 22 i.toNat) = ea i.toNat := hei.1
      refine x_callV 117 hK hmono rfl rfl [.ref 23, .int (I i), .int (I (gi h 22 i.toNat))] [.int (I c)] rfl rfl (Nat.le_of_ble_eq_true rfl) (Nat.le_of_ble_eq_true rfl) rfl (sp_23 (h := h4) hG4) (CLd_le (Nat.le_of_ble_eq_true rfl) (ctX8_eat hSP hG4 (m := i) (e := (gi h 22 i.toNat)) (by omega) (by omega) (by omega) (by omega))) ?_
      rw [ev]
      rintro v425 h425 ⟨rfl, hG425, hF425, f1, f2⟩
      rw [hii.1] at f1 f2 ⊢
      rw [hii.2] at f2
      by_cases ce : w.2.2.2.2.2.1 i.toNat < ea i.toNat
      · rw [if_pos ce]
        refine x_if_eq 124 120 hK rfl rfl rfl (by omega) (fun _ => ?_) (fun c => by omega)
        refine x_iconst 125 hK rfl rfl ?_
        refine x_iadd 126 hK rfl rfl ?_
        refine x_istore_n 127 hK rfl rfl _ rfl ?_
        refine x_iinc 130 hK rfl rfl (lk1_n l2 (by decide) (Or.inl rfl)) _ rfl ?_
        refine x_goto 94 hK rfl rfl ?_
        have ce9 : c = hcN w.2.2.2.2.2.1 ea i.toNat := ce0
        have hs2 : STR (gi h 0 9) (kS h425 23) (w.1 + 1, stL w, (w.2.2.1 + hitN ml ln (w.1 + 1) (stL w) (gi h 19 0).toNat), w.2.2.2.1, (w.2.2.2.2.1.filter fun q => !decide (q.1 = w.1 + 1)), (fun m => if m < (i + 1).toNat then fdS (w.2.2.2.2.2.1 m) (ea m) else w.2.2.2.2.2.1 m), (fun m => if m < (i + 1).toNat then huS (w.2.2.2.2.2.2 m) (w.2.2.2.2.2.1 m) (ea m) else w.2.2.2.2.2.2 m)) := by
          refine STR_of g9.2 hs.1 ((FRM_gi hF425 (r := 17) rfl rfl).trans j0) ((FRM_gi hF425 (r := 17) rfl rfl).trans j1) ((FRM_gi hF425 (r := 17) rfl rfl).trans j2) ((FRM_gi hF425 (r := 17) rfl rfl).trans j3) ?_ fun m hm => ?_
          · rw [show gi h425 23 4 = gi h4 23 4 from FRM_gi hF425 (r := 17) rfl rfl]
            exact (kO_eq fun j _ => ⟨FRM_gi hF425 (r := 18) rfl rfl, FRM_gi hF425 (r := 19) rfl rfl⟩).trans j5
          · obtain ⟨y1, y2⟩ := j6 m (by omega) hm
            have y1 : gi h4 26 m = if m < i.toNat then fdS (w.2.2.2.2.2.1 m) (ea m) else w.2.2.2.2.2.1 m := y1
            have y2 : gi h4 27 m = if m < i.toNat then huS (w.2.2.2.2.2.2 m) (w.2.2.2.2.2.1 m) (ea m) else w.2.2.2.2.2.2 m := y2
            show gi h425 26 m = (if m < (i + 1).toNat then fdS (w.2.2.2.2.2.1 m) (ea m) else w.2.2.2.2.2.1 m) ∧ gi h425 27 m = if m < (i + 1).toNat then huS (w.2.2.2.2.2.2 m) (w.2.2.2.2.2.1 m) (ea m) else w.2.2.2.2.2.2 m
            rw [f1 m, f2 m]
            by_cases z : m = i.toNat
            · rw [if_pos z, if_pos z, if_pos (by omega), if_pos (by omega), z]
              exact ⟨rfl, rfl⟩
            · rw [if_neg z, if_neg z, y1, y2]
              by_cases y : m < i.toNat
              · rw [if_pos y, if_pos y, if_pos (by omega), if_pos (by omega)]
                exact ⟨rfl, rfl⟩
              · rw [if_neg y, if_neg y, if_neg (by omega), if_neg (by omega)]
                exact ⟨rfl, rfl⟩
        exact ih _ (by omega) (c + 1) (i + 1) _ _ rfl (by omega) (by rw [hcN_s i0.1, ← ce9]; first | rw [if_pos ce] | rw [if_neg ce]) (hs2) (lk1_n (lk1_n l0 (by decide) (Or.inl rfl)) (by decide) (Or.inl rfl)) (lk1_n lk1_s (by decide) (Or.inl rfl)) lk1_s (hG425) ((hF4).trans ((hF425).mono rfl))
      · rw [if_neg ce]
        refine x_if_eq 124 120 hK rfl rfl rfl (by omega) (fun c => by omega) (fun _ => ?_)
        refine x_iconst 121 hK rfl rfl ?_
        refine x_goto 125 hK rfl rfl ?_
        refine x_iadd 126 hK rfl rfl ?_
        refine x_istore_n 127 hK rfl rfl _ rfl ?_
        refine x_iinc 130 hK rfl rfl (lk1_n l2 (by decide) (Or.inl rfl)) _ rfl ?_
        refine x_goto 94 hK rfl rfl ?_
        have ce9 : c = hcN w.2.2.2.2.2.1 ea i.toNat := ce0
        have hs2 : STR (gi h 0 9) (kS h425 23) (w.1 + 1, stL w, (w.2.2.1 + hitN ml ln (w.1 + 1) (stL w) (gi h 19 0).toNat), w.2.2.2.1, (w.2.2.2.2.1.filter fun q => !decide (q.1 = w.1 + 1)), (fun m => if m < (i + 1).toNat then fdS (w.2.2.2.2.2.1 m) (ea m) else w.2.2.2.2.2.1 m), (fun m => if m < (i + 1).toNat then huS (w.2.2.2.2.2.2 m) (w.2.2.2.2.2.1 m) (ea m) else w.2.2.2.2.2.2 m)) := by
          refine STR_of g9.2 hs.1 ((FRM_gi hF425 (r := 17) rfl rfl).trans j0) ((FRM_gi hF425 (r := 17) rfl rfl).trans j1) ((FRM_gi hF425 (r := 17) rfl rfl).trans j2) ((FRM_gi hF425 (r := 17) rfl rfl).trans j3) ?_ fun m hm => ?_
          · rw [show gi h425 23 4 = gi h4 23 4 from FRM_gi hF425 (r := 17) rfl rfl]
            exact (kO_eq fun j _ => ⟨FRM_gi hF425 (r := 18) rfl rfl, FRM_gi hF425 (r := 19) rfl rfl⟩).trans j5
          · obtain ⟨y1, y2⟩ := j6 m (by omega) hm
            have y1 : gi h4 26 m = if m < i.toNat then fdS (w.2.2.2.2.2.1 m) (ea m) else w.2.2.2.2.2.1 m := y1
            have y2 : gi h4 27 m = if m < i.toNat then huS (w.2.2.2.2.2.2 m) (w.2.2.2.2.2.1 m) (ea m) else w.2.2.2.2.2.2 m := y2
            show gi h425 26 m = (if m < (i + 1).toNat then fdS (w.2.2.2.2.2.1 m) (ea m) else w.2.2.2.2.2.1 m) ∧ gi h425 27 m = if m < (i + 1).toNat then huS (w.2.2.2.2.2.2 m) (w.2.2.2.2.2.1 m) (ea m) else w.2.2.2.2.2.2 m
            rw [f1 m, f2 m]
            by_cases z : m = i.toNat
            · rw [if_pos z, if_pos z, if_pos (by omega), if_pos (by omega), z]
              exact ⟨rfl, rfl⟩
            · rw [if_neg z, if_neg z, y1, y2]
              by_cases y : m < i.toNat
              · rw [if_pos y, if_pos y, if_pos (by omega), if_pos (by omega)]
                exact ⟨rfl, rfl⟩
              · rw [if_neg y, if_neg y, if_neg (by omega), if_neg (by omega)]
                exact ⟨rfl, rfl⟩
        exact ih _ (by omega) (c + 0) (i + 1) _ _ rfl (by omega) (by rw [hcN_s i0.1, ← ce9]; first | rw [if_pos ce] | rw [if_neg ce]) (hs2) (lk1_n (lk1_n l0 (by decide) (Or.inl rfl)) (by decide) (Or.inl rfl)) (lk1_n lk1_s (by decide) (Or.inl rfl)) lk1_s (hG425) ((hF4).trans ((hF425).mono rfl))
  have rocks : ∀ (mz : Nat) (i : Int) (h4 : aH) (ls : List (Nat × Value)), ((gi h 19 0 - i).toNat = mz) → (0 ≤ i ∧ i ≤ gi h 19 0) → (STR (gi h 0 9) (kS h4 23) (w.1 + 1, stL w, (w.2.2.1 + hitN ml ln (w.1 + 1) (stL w) i.toNat), w.2.2.2.1, (w.2.2.2.2.1.filter fun q => !decide (q.1 = w.1 + 1)), w.2.2.2.2.2.1, w.2.2.2.2.2.2)) → lk ls 0 = some (.ref 0) → lk ls 1 = some (.int (I i)) → GD gE gRL sh h4 → FRM gRL [(0, 17, 0, 4), (0, 18, 0, 11), (0, 19, 0, 11), (0, 20, 0, 7), (0, 21, 0, 7)] h h4 → K 22 ls [] h4 0 0 := by
    intro mz
    induction mz using Nat.strongRecOn with
    | ind mz ih =>
    intro i h4 ls hm i0 hs l0 l1 hG4 hF4
    obtain ⟨j0, j1, j2, j3, j4, j5, j6⟩ := STR_to hG4 hs
    have hc := hitN_b ml ln (w.1 + 1) (stL w) i.toNat
    have hm := fun z : i < gi h 19 0 => hml i.toNat (by omega)
    have j0 : gi h4 23 0 = w.1 + 1 := j0
    have j1 : gi h4 23 1 = stL w := j1
    have j2 : gi h4 23 2 = (w.2.2.1 + hitN ml ln (w.1 + 1) (stL w) i.toNat) := j2
    refine x_iload_n 23 hK rfl rfl l1 ?_
    refine x_aload_n 24 hK rfl rfl l0 ?_
    refine x_getR 27 hK rfl rfl (sp_0 (h := h4) hG4) (rf_0_7 (h := h4) hG4) ?_
    have g426 := gri (0) (16) hG (a := 19) (r := 13) (k := 0) rfl rfl
    refine x_getE 30 hK rfl (Or.inl rfl) rfl (sp_19 (h := h4) hG4) (e := (gi h 19 0)) (FRM_gi hF4 (r := 13) rfl rfl) ?_
    refine x_if_icmp_ge 90 33 hK rfl rfl rfl (by omega) (by omega) (fun c5 => ?_) (fun c5 => ?_)
    · refine x_iconst 91 hK rfl rfl ?_
      refine x_istore_n 92 hK rfl rfl _ rfl ?_
      refine x_iconst 93 hK rfl rfl ?_
      refine x_istore_n 94 hK rfl rfl _ rfl ?_
      have ei : i.toNat = (gi h 19 0).toNat := by omega
      rw [ei] at hs
      have hs2 : STR (gi h 0 9) (kS h4 23) (w.1 + 1, stL w, (w.2.2.1 + hitN ml ln (w.1 + 1) (stL w) (gi h 19 0).toNat), w.2.2.2.1, (w.2.2.2.2.1.filter fun q => !decide (q.1 = w.1 + 1)), (fun m => if m < (0 : Int).toNat then fdS (w.2.2.2.2.2.1 m) (ea m) else w.2.2.2.2.2.1 m), (fun m => if m < (0 : Int).toNat then huS (w.2.2.2.2.2.2 m) (w.2.2.2.2.2.1 m) (ea m) else w.2.2.2.2.2.2 m)) := ⟨hs.1, hs.2.1, hs.2.2.1, hs.2.2.2.1, hs.2.2.2.2.1, hs.2.2.2.2.2.1, fun m hm => hs.2.2.2.2.2.2 m hm⟩
      exact eat _ 0 0 _ _ rfl (by omega) (rfl) (hs2) (lk1_n (lk1_n l0 (by decide) (Or.inl rfl)) (by decide) (Or.inl rfl)) (lk1_n lk1_s (by decide) (Or.inl rfl)) lk1_s (hG4) (hF4)
    · refine x_aload_n 34 hK rfl rfl l0 ?_
      refine x_getR 37 hK rfl rfl (sp_0 (h := h4) hG4) (rf_0_7 (h := h4) hG4) ?_
      refine x_getR 40 hK rfl rfl (sp_19 (h := h4) hG4) (rf_19_1 (h := h4) hG4) ?_
      refine x_iload_n 41 hK rfl rfl l1 ?_
      have g427 := gi_r h 20 i.toNat
      refine x_ialoadE 42 hK rfl rfl (sp_20 (h := h4) hG4) (by omega) (by omega) (by omega) (e' := (gi h 20 i.toNat)) (FRM_gi hF4 (r := 14) rfl rfl) ?_
      refine x_aload_n 43 hK rfl rfl l0 ?_
      refine x_getR 46 hK rfl rfl (sp_0 (h := h4) hG4) (rf_0_10 (h := h4) hG4) ?_
      refine x_getE 49 hK rfl (Or.inl rfl) rfl (sp_23 (h := h4) hG4) (e := (w.1 + 1)) (j0) ?_
      refine x_if_icmp_ne 84 52 hK rfl rfl rfl (by omega) (by omega) (fun c19 => ?_) (fun c19 => ?_)
      · refine x_iinc 87 hK rfl rfl l1 _ rfl ?_
        refine x_goto 22 hK rfl rfl ?_
        have hmi := hm (by omega)
        have hn9 : hitN ml ln (w.1 + 1) (stL w) (i + 1).toNat = hitN ml ln (w.1 + 1) (stL w) i.toNat + 0 := by
          rw [hitN_s i0.1]
          rw [if_neg (by rw [← hmi.1, ← hmi.2]; omega)]
        have hs2 : STR (gi h 0 9) (kS h4 23) (w.1 + 1, stL w, (w.2.2.1 + hitN ml ln (w.1 + 1) (stL w) (i + 1).toNat), w.2.2.2.1, (w.2.2.2.2.1.filter fun q => !decide (q.1 = w.1 + 1)), w.2.2.2.2.2.1, w.2.2.2.2.2.2) := by
          refine STR_of g9.2 (OKW_eq hs.1 rfl rfl rfl) (j0) (j1) ((j2).trans (by show _ = w.2.2.1 + hitN ml ln (w.1 + 1) (stL w) (i + 1).toNat; rw [hn9]; omega)) ((rfl).trans j3) ?_ fun m hm => ?_
          · rw [show gi h4 23 4 = gi h4 23 4 from rfl]
            exact (kO_eq fun j _ => ⟨rfl, rfl⟩).trans j5
          · obtain ⟨y1, y2⟩ := j6 m (by omega) hm
            exact ⟨(rfl).trans y1, (rfl).trans y2⟩
        exact ih _ (by omega) (i + 1) _ _ rfl (by omega) (hs2) (lk1_n l0 (by decide) (Or.inl rfl)) lk1_s (hG4) (hF4)
      · refine x_aload_n 53 hK rfl rfl l0 ?_
        refine x_getR 56 hK rfl rfl (sp_0 (h := h4) hG4) (rf_0_7 (h := h4) hG4) ?_
        refine x_getR 59 hK rfl rfl (sp_19 (h := h4) hG4) (rf_19_2 (h := h4) hG4) ?_
        refine x_iload_n 60 hK rfl rfl l1 ?_
        have g428 := grn (0) (8) hG (a := 21) (r := 15) (k := i.toNat) rfl rfl (by omega)
        refine x_ialoadE 61 hK rfl rfl (sp_21 (h := h4) hG4) (by omega) (by omega) (by omega) (e' := (gi h 21 i.toNat)) (FRM_gi hF4 (r := 15) rfl rfl) ?_
        refine x_aload_n 62 hK rfl rfl l0 ?_
        refine x_getR 65 hK rfl rfl (sp_0 (h := h4) hG4) (rf_0_10 (h := h4) hG4) ?_
        refine x_getE 68 hK rfl (Or.inl rfl) rfl (sp_23 (h := h4) hG4) (e := (stL w)) (j1) ?_
        refine x_if_icmp_ne 84 71 hK rfl rfl rfl (by omega) (by omega) (fun c31 => ?_) (fun c31 => ?_)
        · refine x_iinc 87 hK rfl rfl l1 _ rfl ?_
          refine x_goto 22 hK rfl rfl ?_
          have hmi := hm (by omega)
          have hn9 : hitN ml ln (w.1 + 1) (stL w) (i + 1).toNat = hitN ml ln (w.1 + 1) (stL w) i.toNat + 0 := by
            rw [hitN_s i0.1]
            rw [if_neg (by rw [← hmi.1, ← hmi.2]; omega)]
          have hs2 : STR (gi h 0 9) (kS h4 23) (w.1 + 1, stL w, (w.2.2.1 + hitN ml ln (w.1 + 1) (stL w) (i + 1).toNat), w.2.2.2.1, (w.2.2.2.2.1.filter fun q => !decide (q.1 = w.1 + 1)), w.2.2.2.2.2.1, w.2.2.2.2.2.2) := by
            refine STR_of g9.2 (OKW_eq hs.1 rfl rfl rfl) (j0) (j1) ((j2).trans (by show _ = w.2.2.1 + hitN ml ln (w.1 + 1) (stL w) (i + 1).toNat; rw [hn9]; omega)) ((rfl).trans j3) ?_ fun m hm => ?_
            · rw [show gi h4 23 4 = gi h4 23 4 from rfl]
              exact (kO_eq fun j _ => ⟨rfl, rfl⟩).trans j5
            · obtain ⟨y1, y2⟩ := j6 m (by omega) hm
              exact ⟨(rfl).trans y1, (rfl).trans y2⟩
          exact ih _ (by omega) (i + 1) _ _ rfl (by omega) (hs2) (lk1_n l0 (by decide) (Or.inl rfl)) lk1_s (hG4) (hF4)
        · refine x_aload_n 72 hK rfl rfl l0 ?_
          refine x_getR 75 hK rfl rfl (sp_0 (h := h4) hG4) (rf_0_10 (h := h4) hG4) ?_
          refine x_dup 76 hK rfl rfl rfl ?_
          refine x_getE 79 hK rfl (Or.inl rfl) rfl (sp_23 (h := h4) hG4) (e := (w.2.2.1 + hitN ml ln (w.1 + 1) (stL w) i.toNat)) (j2) ?_
          refine x_iconst 80 hK rfl rfl ?_
          refine x_iadd 81 hK rfl rfl ?_
          refine x_putI 84 hK rfl rfl (sp_23 (h := h4) hG4) ?_
          refine x_iinc 87 hK rfl rfl l1 _ rfl ?_
          refine x_goto 22 hK rfl rfl ?_
          have hmi := hm (by omega)
          have hn9 : hitN ml ln (w.1 + 1) (stL w) (i + 1).toNat = hitN ml ln (w.1 + 1) (stL w) i.toNat + 1 := by
            rw [hitN_s i0.1]
            rw [if_pos (by rw [← hmi.1, ← hmi.2]; omega)]
          have hs2 : STR (gi h 0 9) (kS (wI h4 23 2 ((w.2.2.1 + hitN ml ln (w.1 + 1) (stL w) i.toNat) + 1)) 23) (w.1 + 1, stL w, (w.2.2.1 + hitN ml ln (w.1 + 1) (stL w) (i + 1).toNat), w.2.2.2.1, (w.2.2.2.2.1.filter fun q => !decide (q.1 = w.1 + 1)), w.2.2.2.2.2.1, w.2.2.2.2.2.2) := by
            refine STR_of g9.2 (OKW_eq hs.1 rfl rfl rfl) ((gi_k (by decide) _).trans (j0)) ((gi_k (by decide) _).trans (j1)) ((gi_same (by omega)).trans (by show _ = w.2.2.1 + hitN ml ln (w.1 + 1) (stL w) (i + 1).toNat; rw [hn9]; omega)) ((gi_k (by decide) _).trans j3) ?_ fun m hm => ?_
            · rw [show gi (wI h4 23 2 ((w.2.2.1 + hitN ml ln (w.1 + 1) (stL w) i.toNat) + 1)) 23 4 = gi h4 23 4 from gi_k (by decide) _]
              exact (kO_eq fun j _ => ⟨gi_a (by decide) _, gi_a (by decide) _⟩).trans j5
            · obtain ⟨y1, y2⟩ := j6 m (by omega) hm
              exact ⟨(gi_a (by decide) _).trans y1, (gi_a (by decide) _).trans y2⟩
          exact ih _ (by omega) (i + 1) _ _ rfl (by omega) (hs2) (lk1_n l0 (by decide) (Or.inl rfl)) lk1_s (GD_w0 (hG4) (r := 17) rfl rfl) (FRM_w (hF4) (r := 17) rfl rfl)
  have okS2 : OKW (w.1 + 1, stL w, (w.2.2.1 + hitN ml ln (w.1 + 1) (stL w) (0 : Int).toNat), w.2.2.2.1, (w.2.2.2.2.1.filter fun q => !decide (q.1 = w.1 + 1)), w.2.2.2.2.2.1, w.2.2.2.2.2.2) := OKW_eq okS rfl rfl rfl
  refine x_aload_n 1 hK rfl rfl rfl ?_
  refine x_getR 4 hK rfl rfl (sp_0 (h := h) hG) (rf_0_10 (h := h) hG) ?_
  refine x_dup 5 hK rfl rfl rfl ?_
  have g429 := gi_r h 23 0
  refine x_getE 8 hK rfl (Or.inl rfl) rfl (sp_23 (h := h) hG) (e := (gi h 23 0)) (rfl) ?_
  refine x_iconst 9 hK rfl rfl ?_
  refine x_iadd 10 hK rfl rfl ?_
  refine x_putI 13 hK rfl rfl (sp_23 (h := h) hG) ?_
  refine x_aload_n 14 hK rfl rfl rfl ?_
  refine x_getR 17 hK rfl rfl (sp_0 (h := h) hG) (rf_0_10 (h := h) hG) ?_
  have hGp431 : GD gE gRL sh (wI h 23 0 ((gi h 23 0) + 1)) := GD_w0 (hG) (r := 17) rfl rfl
  have n0 : gi (wI h 23 0 ((gi h 23 0) + 1)) 23 0 = w.1 + 1 := (gi_same (by omega)).trans (by omega)
  have n1 : gi (wI h 23 0 ((gi h 23 0) + 1)) 23 1 = w.2.1 := (gi_k (by decide) _).trans k1
  have n2 : gi (wI h 23 0 ((gi h 23 0) + 1)) 23 2 = w.2.2.1 := (gi_k (by decide) _).trans k2
  have n3 : gi (wI h 23 0 ((gi h 23 0) + 1)) 23 3 = w.2.2.2.1 := (gi_k (by decide) _).trans k3
  have n4 : gi (wI h 23 0 ((gi h 23 0) + 1)) 23 4 = gi h 23 4 := gi_k (by decide) _
  have n5 : kO (wI h 23 0 ((gi h 23 0) + 1)) 23 (gi (wI h 23 0 ((gi h 23 0) + 1)) 23 4).toNat = srt w.2.2.2.2.1 := by rw [n4]; exact (kO_eq fun j _ => ⟨gi_a (by decide) _, gi_a (by decide) _⟩).trans k5
  refine x_callV 20 hK hmono rfl rfl [.ref 23] [] rfl rfl (Nat.le_of_ble_eq_true rfl) (Nat.le_of_ble_eq_true rfl) rfl (sp_23 (h := h) hG) (CLd_le (Nat.le_of_ble_eq_true rfl) (ctX8_doDueOrders hSP hGp431 (fun j hj => by
    have z := hb1 j (by rw [← n4]; exact hj)
    exact ⟨by rw [show gi (wI h 23 0 ((gi h 23 0) + 1)) 25 j = gi h 25 j from gi_a (by decide) _]; exact z.1, by rw [show gi (wI h 23 0 ((gi h 23 0) + 1)) 24 j = gi h 24 j from gi_a (by decide) _]; exact z.2⟩) (by omega))) ?_
  rintro v430 h430 ⟨rfl, hG430, hF430, eS⟩
  rw [n5, n0] at eS
  have hs0 : STR (gi h 0 9) (kS h430 23) (w.1 + 1, stL w, (w.2.2.1 + hitN ml ln (w.1 + 1) (stL w) (0 : Int).toNat), w.2.2.2.1, (w.2.2.2.2.1.filter fun q => !decide (q.1 = w.1 + 1)), w.2.2.2.2.2.1, w.2.2.2.2.2.2) := by
    rw [eS]
    refine ⟨okS2, n0, ?_, n2.trans (Int.add_zero _).symm, n3, dd.2, fun m hm => ?_⟩
    · show ((srt w.2.2.2.2.1).takeWhile fun q => decide (q.1 ≤ w.1 + 1)).foldl cpt (gi (wI h 23 0 ((gi h 23 0) + 1)) 23 1) = stL w
      rw [n1]
      exact dd.1
    · show (if m < 8 then gi (wI h 23 0 ((gi h 23 0) + 1)) 26 m else 0) = w.2.2.2.2.2.1 m ∧ (if m < 8 then gi (wI h 23 0 ((gi h 23 0) + 1)) 27 m else 0) = w.2.2.2.2.2.2 m
      rw [if_pos (by omega), if_pos (by omega)]
      obtain ⟨y1, y2⟩ := k6 m (by omega) hm
      exact ⟨(gi_a (by decide) _).trans y1, (gi_a (by decide) _).trans y2⟩
  refine x_iconst 21 hK rfl rfl ?_
  refine x_istore_n 22 hK rfl rfl [(1, .int (I 0)), (0, .ref 0)] rfl ?_
  exact rocks _ 0 _ _ rfl (by omega) (hs0) rfl rfl (hG430) ((FRM_w ((FRM.rf : FRM gRL [(0, 17, 0, 4), (0, 18, 0, 11), (0, 19, 0, 11), (0, 20, 0, 7), (0, 21, 0, 7)] h h)) (r := 17) rfl rfl).trans ((hF430).mono rfl))
end
section
/-! ORDERS, FOOD, STEPS OF THE CLASS -/
noncomputable def s23Ok (M : MD) : Bool := (M.all fun q => !(Nat.beq q.1 0 && Nat.beq q.2.1 17)) && (M.all fun q => !(Nat.beq q.1 0 && Nat.beq q.2.1 18)) && (M.all fun q => !(Nat.beq q.1 0 && Nat.beq q.2.1 19)) && (M.all fun q => !(Nat.beq q.1 0 && Nat.beq q.2.1 20)) && (M.all fun q => !(Nat.beq q.1 0 && Nat.beq q.2.1 21))
theorem kS23_F {M : MD} {h h' : aH} (hF : FRM gRL M h h') (hm : s23Ok M = true) : kS h' 23 = kS h 23 := by
  simp only [s23Ok, Bool.and_eq_true] at hm
  have m0 := hm.1.1.1.1
  have m1 := hm.1.1.1.2
  have m2 := hm.1.1.2
  have m3 := hm.1.2
  have m4 := hm.2
  refine kS_ge fun a k h1 h2 => ?_
  rcases (show a = 23 ∨ a = 24 ∨ a = 25 ∨ a = 26 ∨ a = 27 by omega) with rfl | rfl | rfl | rfl | rfl
  · exact FRM_gi hF (r := 17) rfl (mHas_non m0 k)
  · exact FRM_gi hF (r := 18) rfl (mHas_non m1 k)
  · exact FRM_gi hF (r := 19) rfl (mHas_non m2 k)
  · exact FRM_gi hF (r := 20) rfl (mHas_non m3 k)
  · exact FRM_gi hF (r := 21) rfl (mHas_non m4 k)
noncomputable def plOk (M : MD) : Bool := !(mHas M 0 27 1) && !(mHas M 0 27 2) && (M.all fun q => !(Nat.beq q.1 0 && Nat.beq q.2.1 31)) && (M.all fun q => !(Nat.beq q.1 0 && Nat.beq q.2.1 32)) && (M.all fun q => !(Nat.beq q.1 0 && Nat.beq q.2.1 33)) && (M.all fun q => !(Nat.beq q.1 0 && Nat.beq q.2.1 34)) && (M.all fun q => !(Nat.beq q.1 0 && Nat.beq q.2.1 35))
theorem kSr_F {M : MD} {h h' : aH} (hF : FRM gRL M h h') (hm : plOk M = true) {i : Nat} (hi : i < 15) : kS h' (37 + 5 * i) = kS h (37 + 5 * i) := by
  simp only [plOk, Bool.and_eq_true] at hm
  have m0 := hm.1.1.1.1.1.1
  have m1 := hm.1.1.1.1.1.2
  have m2 := hm.1.1.1.1.2
  have m3 := hm.1.1.1.2
  have m4 := hm.1.1.2
  have m5 := hm.1.2
  have m6 := hm.2
  obtain ⟨q0, q1, q2, q3, q4⟩ := rg_r (c := 37 + 5 * i) ⟨i, hi, rfl⟩
  refine kS_ge fun a k h1 h2 => ?_
  rcases (show a = 37 + 5 * i ∨ a = 37 + 5 * i + 1 ∨ a = 37 + 5 * i + 2 ∨ a = 37 + 5 * i + 3 ∨ a = 37 + 5 * i + 4 by omega) with rfl | rfl | rfl | rfl | rfl
  · exact FRM_gi hF q0 (mHas_non m2 k)
  · exact FRM_gi hF q1 (mHas_non m3 k)
  · exact FRM_gi hF q2 (mHas_non m4 k)
  · exact FRM_gi hF q3 (mHas_non m5 k)
  · exact FRM_gi hF q4 (mHas_non m6 k)
theorem PL_F {M : MD} {h h' : aH} (hF : FRM gRL M h h') (hm : plOk M = true) : PL h' = PL h := by
  have hm2 := hm
  simp only [plOk, Bool.and_eq_true, Bool.not_eq_true'] at hm2
  have m0 := hm2.1.1.1.1.1.1
  have m1 := hm2.1.1.1.1.1.2
  exact PL_eq (FRM_gi hF (a := 33) (r := 27) rfl m0) (FRM_gi hF (a := 33) (r := 27) rfl m1) fun i hi => kSr_F hF hm hi
noncomputable def drOk (M : MD) : Bool := !(mHas M 2 0 2) && !(mHas M 2 0 4) && !(mHas M 0 54 3) && !(mHas M 0 54 4) && !(mHas M 0 54 5) && !(mHas M 0 54 25) && !(mHas M 0 8 1) && (M.all fun q => !(Nat.beq q.1 0 && Nat.beq q.2.1 5)) && (M.all fun q => !(Nat.beq q.1 0 && Nat.beq q.2.1 9)) && (M.all fun q => !(Nat.beq q.1 0 && Nat.beq q.2.1 65))
theorem DR_F {M : MD} {h h' : aH} (hF : FRM gRL M h h') (hm : drOk M = true) {s u : Nat} (hD : DR h s u) : DR h' s u := by
  simp only [drOk, Bool.and_eq_true, Bool.not_eq_true'] at hm
  have m0 := hm.1.1.1.1.1.1.1.1.1
  have m1 := hm.1.1.1.1.1.1.1.1.2
  have m2 := hm.1.1.1.1.1.1.1.2
  have m3 := hm.1.1.1.1.1.1.2
  have m4 := hm.1.1.1.1.1.2
  have m5 := hm.1.1.1.1.2
  have m6 := hm.1.1.1.2
  have m7 := hm.1.1.2
  have m8 := hm.1.2
  have m9 := hm.2
  obtain ⟨h5, hu, pS, pL, ⟨c0, c1, c2⟩, r0, r1, r2⟩ := hD
  have es : ∀ k, gi h' s k = gi h s k := fun k => FRM_gi hF (ss_r h5).1 (mHas_non m7 k)
  have eu : gi h' u 1 = gi h u 1 := FRM_gi hF (su_r hu).1 m6
  have ec : ∀ k, gi h' (u + 1) k = gi h (u + 1) k := fun k => FRM_gi hF (su_r hu).2 (mHas_non m8 k)
  have e8 : gi h' 182 = gi h 182 := funext fun k => FRM_gi hF (r := 65) rfl (mHas_non m9 k)
  refine ⟨h5, hu, (FRM_aR hF (r := 0) rfl m0).trans pS, (FRM_aR hF (r := 0) rfl m1).trans pL, ⟨?_, ?_, ?_⟩, ?_, ?_, ?_⟩
  · rw [es, FRM_gi hF (a := 171) (r := 54) rfl m2]; exact c0
  · rw [es, FRM_gi hF (a := 171) (r := 54) rfl m3]; exact c1
  · rw [es, FRM_gi hF (a := 171) (r := 54) rfl m4]; exact c2
  · rw [eu, FRM_gi hF (a := 171) (r := 54) rfl m5]; exact r0
  · intro k hk
    rw [eu] at hk
    rw [ec, e8]
    exact r1 k hk
  · intro z
    rw [eu] at z ⊢
    rw [e8]
    exact r2 z
theorem WW.mono {b c : Int} {w : WS} (h : WW b w) (hb : b ≤ c) : WW c w := by
  obtain ⟨w0, w1, w2, w3, w4⟩ := h
  exact ⟨by omega, w1, by omega, by omega, fun m hm => by have := w4 m hm; omega⟩
theorem WW_st {b : Int} {ml ln ea : Nat → Int} {nr : Nat} {ms : Int} {w : WS} (hn : nr ≤ 16) (h8 : ms ≤ 8) (hea : ∀ m : Nat, (m : Int) < ms → 0 ≤ ea m ∧ ea m ≤ 9) (hw : WW b w) : WW (b + 1) (stW ml ln nr ms ea w) := by
  obtain ⟨w0, w1, w2, w3, w4⟩ := hw
  have hh := hitN_b ml ln (w.1 + 1) (stL w) nr
  refine ⟨?_, ptF_b w1 _, ?_, ?_, fun m hm => ?_⟩
  · show 0 ≤ w.1 + 1 ∧ w.1 + 1 ≤ b + 1; omega
  · show 0 ≤ w.2.2.1 + hitN ml ln (w.1 + 1) (stL w) nr ∧ w.2.2.1 + hitN ml ln (w.1 + 1) (stL w) nr ≤ 16 * (b + 1); omega
  · show -1 ≤ w.2.2.2.1 ∧ w.2.2.2.1 ≤ b + 1; omega
  · have y := w4 m hm
    show (0 ≤ (if (m : Int) < ms then fdS (w.2.2.2.2.2.1 m) (ea m) else w.2.2.2.2.2.1 m) ∧ (if (m : Int) < ms then fdS (w.2.2.2.2.2.1 m) (ea m) else w.2.2.2.2.2.1 m) ≤ 99) ∧ 0 ≤ (if (m : Int) < ms then huS (w.2.2.2.2.2.2 m) (w.2.2.2.2.2.1 m) (ea m) else w.2.2.2.2.2.2 m) ∧ (if (m : Int) < ms then huS (w.2.2.2.2.2.2 m) (w.2.2.2.2.2.1 m) (ea m) else w.2.2.2.2.2.2 m) ≤ b + 1
    by_cases c : (m : Int) < ms
    · have := hea m c
      rw [if_pos c, if_pos c]
      unfold fdS huS
      split <;> omega
    · rw [if_neg c, if_neg c]
      omega
theorem WW_stI {b : Int} {ml ln ea : Nat → Int} {nr : Nat} {ms : Int} {w : WS} (hn : nr ≤ 16) (h8 : ms ≤ 8) (hea : ∀ m : Nat, (m : Int) < ms → 0 ≤ ea m ∧ ea m ≤ 9) (hw : WW b w) : ∀ k : Nat, WW (b + k) (stI ml ln nr ms ea k w)
  | 0 => by rw [show b + ((0 : Nat) : Int) = b from Int.add_zero b]; exact hw
  | k + 1 => by
    have z := WW_st (ml := ml) (ln := ln) hn h8 hea (WW_stI (ml := ml) (ln := ln) hn h8 hea hw k)
    rw [show b + ((k + 1 : Nat) : Int) = b + (k : Int) + 1 by omega]
    exact z
theorem gvR_in {v : Int} {w : WS} (hv : -1 ≤ v ∧ v ≤ 1) : gvR v w = gvR 0 w := by
  unfold gvR
  rw [if_neg (show ¬ ¬ (-1 ≤ v ∧ v ≤ 1) from fun z => z hv), if_neg (show ¬ ¬ ((-1 : Int) ≤ 0 ∧ (0 : Int) ≤ 1) from fun z => z (by decide))]
theorem STR_gv {ms : Int} {x x' : CWS} {w : WS} {d v t : Int} (hS : STR ms x w) (hx : x' = (x.1, x.2.1, x.2.2.1, x.1, insO (x.1 + d, v) x.2.2.2.2.1, x.2.2.2.2.2)) (hd : 1 ≤ d ∧ d ≤ 12) (hv : -1 ≤ t ∧ t ≤ 1) (hg : gvR 0 w = 0) (ht : t = v) : STR ms x' (gvW d t w) := by
  subst hx
  subst ht
  obtain ⟨q0, q1, q2, q3, q4, q5, q6⟩ := hS
  refine ⟨OKW_gv q0 hd hv hg, q1, q2, q3, q1, ?_, q6⟩
  show insO (x.1 + d, t) x.2.2.2.2.1 = srt (w.2.2.2.2.1 ++ [(w.1 + d, t, w.1)])
  rw [srt_snoc, q1, q5]
theorem gvR_0 {w : WS} (h : gvR 0 w = 0) (l12 : w.2.2.2.2.1.length ≤ 12) : w.2.2.2.2.1.length < 12 := by
  unfold gvR at h
  by_cases c : w.2.2.2.2.1.length = 12
  · rw [if_pos c] at h
    (repeat' split at h) <;> omega
  · omega
set_option maxRecDepth 4000 in
theorem ctX10_giveOrderF {SP : CT} (hSP : MONO SP) {sh : List (Nat × Nat)} {h : aH} (hG : GD gE gRL sh h) {s u : Nat} (hP : PT h) (hX : XI h) (hD : DR h s u) {b : Int} {w : WS} (hS : STR (gi h 0 9) (kS h 23) w) (hw : WW b w) (hb : b ≤ 950000) {v : Int} (hv : -1 ≤ v ∧ v ≤ 1) (hg : gvR 0 w = 0) : CLd SP 6 mX10_giveOrder [.ref 0, .int (I v)] h 0 0 (fun rv h' => rv = some (.int (I (dlA h w.1))) ∧ GD gE gRL sh h' ∧ FRM gRL [(0, 8, 3, 3), (0, 10, 0, 39), (0, 17, 3, 4), (0, 18, 0, 11), (0, 19, 0, 11)] h h' ∧ STR (gi h 0 9) (kS h' 23) (gvW (dlA h w.1) (tvF (gi h 171 5) v) w)) := by
  refine x_met _ rfl (Nat.le_of_ble_eq_true rfl) (fun K hK => ?_)
  have hmono := MONO_CLd hSP 5
  have hD2 := hD
  obtain ⟨h5, hu, pS, pL, ⟨c0, c1, c2⟩, r0, r1, r2⟩ := hD2
  obtain ⟨k0, k1, k2, k3, k4, k5, k6⟩ := STR_to hG hS
  have l12 := gvR_0 hg hS.1.2.2.1
  have w0 := hw.1
  have db := dlA_b h w.1
  have tb := tvF_b (l := gi h 171 5) hv
  have e5 : (gi h s 2).tmod 2 = (gi h 171 5).tmod 2 := by rw [c2]
  have tm := tm2 (gi h 171 5)
  have et : tvF (gi h 171 5) v = if (gi h 171 5).tmod 2 = 1 then -v else v := rfl
  generalize (gi h 171 5).tmod 2 = t at *
  refine x_aload_n 1 hK rfl rfl rfl ?_
  refine x_aload_n 2 hK rfl rfl rfl ?_
  refine x_getR 5 hK rfl rfl (sp_0 (h := h) hG) (rf_0_10 (h := h) hG) ?_
  have g432 := gi_r h 23 0
  refine x_getE 8 hK rfl (Or.inl rfl) rfl (sp_23 (h := h) hG) (e := (gi h 23 0)) (rfl) ?_
  refine x_callV 11 hK hmono rfl rfl [.ref 0, .int (I (gi h 23 0))] [] rfl rfl (Nat.le_of_ble_eq_true rfl) (Nat.le_of_ble_eq_true rfl) rfl (sp_0 (h := h) hG) (CLd_le (Nat.le_of_ble_eq_true rfl) (ctX10_delayA hSP hG hP hX hD (t := gi h 23 0) (by omega))) ?_
  rw [k0]
  rintro v433 h433 ⟨rfl, hG433, hF433⟩
  have eS433 : kS h433 23 = kS h 23 := kS23_F hF433 (by decide)
  have hS433 : STR (gi h 0 9) (kS h433 23) w := by rw [eS433]; exact hS
  have ss433 := STR_ss hG433 hS433
  refine x_istore_n 12 hK rfl rfl [(2, .int (I (dlA h w.1))), (0, .ref 0), (1, .int (I v))] rfl ?_
  refine x_aload_n 13 hK rfl rfl rfl ?_
  refine x_getR 16 hK rfl rfl (sp_0 (h := h433) hG433) (rf_0_10 (h := h433) hG433) ?_
  refine x_iload_n 17 hK rfl rfl rfl ?_
  refine x_aload_n 18 hK rfl rfl rfl ?_
  refine x_getR 21 hK rfl rfl (sp_0 (h := h433) hG433) ((FRM_aR hF433 (r := 0) rfl rfl).trans (pS)) ?_
  have g434 := gi_r h s 2
  refine x_getE 24 hK rfl (Or.inl rfl) rfl (shx (h := h433) hG433 (r := 5) (ss_r h5).1 rfl) (e := (gi h s 2)) (FRM_gi hF433 (r := 5) (ss_r h5).1 rfl) ?_
  refine x_iconst 25 hK rfl rfl ?_
  refine x_irem 26 hK rfl rfl (gi_r _ _ _) (by omega) (by omega) (by omega) ?_
  rw [e5]
  refine x_iconst 27 hK rfl rfl ?_
  refine x_if_icmp_ne 35 30 hK rfl rfl rfl (by omega) (by omega) (fun c16 => ?_) (fun c16 => ?_)
  · refine x_iload_n 36 hK rfl rfl rfl ?_
    have et2 : tvF (gi h 171 5) v = v := by rw [et]; first | rw [if_pos (by omega)] | rw [if_neg (by omega)]
    refine x_callV 39 hK hmono rfl rfl [.ref 23, .int (I (dlA h w.1)), .int (I v)] [] rfl rfl (Nat.le_of_ble_eq_true rfl) (Nat.le_of_ble_eq_true rfl) rfl (sp_23 (h := h433) hG433) (CLd_le (Nat.le_of_ble_eq_true rfl) (ctX8_addOrder hSP hG433 (l := dlA h w.1) (v := v) (by omega) (by omega) (by rw [show gi h433 23 0 = gi h 23 0 from FRM_gi hF433 (r := 17) rfl rfl]; omega) (by rw [show gi h433 23 4 = gi h 23 4 from FRM_gi hF433 (r := 17) rfl rfl]; omega) ss433)) ?_
    rintro v435 h435 ⟨rfl, hG435, hF435, eW⟩
    have hS2 : STR (gi h 0 9) (kS h435 23) (gvW (dlA h w.1) (tvF (gi h 171 5) v) w) := STR_gv hS433 eW db tb hg et2
    refine x_iload_n 40 hK rfl rfl rfl ?_
    exact x_iret hK rfl ⟨rfl, hG435, ((hF433).mono rfl).trans ((hF435).mono rfl), hS2⟩
  · refine x_iload_n 31 hK rfl rfl rfl ?_
    refine x_ineg 32 hK rfl rfl ?_
    refine x_goto 36 hK rfl rfl ?_
    have et2 : tvF (gi h 171 5) v = (-v) := by rw [et]; first | rw [if_pos (by omega)] | rw [if_neg (by omega)]
    refine x_callV 39 hK hmono rfl rfl [.ref 23, .int (I (dlA h w.1)), .int (I (-v))] [] rfl rfl (Nat.le_of_ble_eq_true rfl) (Nat.le_of_ble_eq_true rfl) rfl (sp_23 (h := h433) hG433) (CLd_le (Nat.le_of_ble_eq_true rfl) (ctX8_addOrder hSP hG433 (l := dlA h w.1) (v := (-v)) (by omega) (by omega) (by rw [show gi h433 23 0 = gi h 23 0 from FRM_gi hF433 (r := 17) rfl rfl]; omega) (by rw [show gi h433 23 4 = gi h 23 4 from FRM_gi hF433 (r := 17) rfl rfl]; omega) ss433)) ?_
    rintro v436 h436 ⟨rfl, hG436, hF436, eW⟩
    have hS2 : STR (gi h 0 9) (kS h436 23) (gvW (dlA h w.1) (tvF (gi h 171 5) v) w) := STR_gv hS433 eW db tb hg et2
    refine x_iload_n 40 hK rfl rfl rfl ?_
    exact x_iret hK rfl ⟨rfl, hG436, ((hF433).mono rfl).trans ((hF436).mono rfl), hS2⟩
set_option maxRecDepth 4000 in
theorem ctX10_orderF {SP : CT} (hSP : MONO SP) {sh : List (Nat × Nat)} {h : aH} (hG : GD gE gRL sh h) {s u : Nat} (hP : PT h) (hX : XI h) (hD : DR h s u) {b : Int} {w : WS} (hS : STR (gi h 0 9) (kS h 23) w) (hw : WW b w) (hb : b ≤ 950000) {v : Int} (rv : r32 v) : CLd SP 8 mX10_order [.ref 0, .int (I v)] h 0 0 (fun rv h' => ((gvR v w ≠ 0 ∧ rv = some (.int (I (gvR v w))) ∧ h' = h) ∨ (gvR v w = 0 ∧ rv = some (.int (I (dlA h w.1))) ∧ STR (gi h 0 9) (kS h' 23) (gvW (dlA h w.1) (tvF (gi h 171 5) v) w) ∧ PL h' = pushC (PL h) (kS h 23))) ∧ GD gE gRL sh h' ∧ FRM gRL [(0, 8, 3, 3), (0, 10, 0, 39), (0, 17, 3, 4), (0, 18, 0, 11), (0, 19, 0, 11), (0, 27, 1, 2), (0, 31, 0, 4), (0, 32, 0, 11), (0, 33, 0, 11), (0, 34, 0, 7), (0, 35, 0, 7)] h h') := by
  refine x_met _ rfl (Nat.le_of_ble_eq_true rfl) (fun K hK => ?_)
  have hmono := MONO_CLd hSP 7
  have gb : -3 ≤ gvR 0 w ∧ gvR 0 w ≤ 0 := by unfold gvR; (repeat' split) <;> omega
  refine x_iload_n 1 hK rfl rfl rfl ?_
  refine x_iconst 2 hK rfl rfl ?_
  refine x_if_icmp_lt 10 5 hK rfl rfl rfl (by omega) (by omega) (fun c3 => ?_) (fun c3 => ?_)
  · refine x_iconst 11 hK rfl rfl ?_
    have e9 : gvR v w = -1 := by unfold gvR; exact if_pos (by omega)
    exact x_iret hK rfl ⟨Or.inl ⟨by omega, by rw [e9], rfl⟩, hG, FRM.rf⟩
  · refine x_iload_n 6 hK rfl rfl rfl ?_
    refine x_iconst 7 hK rfl rfl ?_
    refine x_if_icmp_le 12 10 hK rfl rfl rfl (by omega) (by omega) (fun c8 => ?_) (fun c8 => ?_)
    · refine x_aload_n 13 hK rfl rfl rfl ?_
      refine x_callV 16 hK hmono rfl rfl [.ref 0] [] rfl rfl (Nat.le_of_ble_eq_true rfl) (Nat.le_of_ble_eq_true rfl) rfl (sp_0 (h := h) hG) (CLd_le (Nat.le_of_ble_eq_true rfl) (ctX10_orderRefusalF hSP hG hS)) ?_
      rintro v9 h9 ⟨e9, rfl⟩
      rw [e9]
      clear e9
      have gi9 : gvR v w = gvR 0 w := gvR_in (by omega)
      refine x_istore_n 17 hK rfl rfl [(2, .int (I (gvR 0 w))), (0, .ref 0), (1, .int (I v))] rfl ?_
      refine x_iload_n 18 hK rfl rfl rfl ?_
      refine x_if_eq 23 21 hK rfl rfl rfl (by omega) (fun c13 => ?_) (fun c13 => ?_)
      · refine x_aload_n 24 hK rfl rfl rfl ?_
        refine x_getR 27 hK rfl rfl (sp_0 (h := h) hG) (rf_0_12 (h := h) hG) ?_
        refine x_aload_n 28 hK rfl rfl rfl ?_
        refine x_getR 31 hK rfl rfl (sp_0 (h := h) hG) (rf_0_10 (h := h) hG) ?_
        refine x_callV 34 hK hmono rfl rfl [.ref 33, .ref 23] [] rfl rfl (Nat.le_of_ble_eq_true rfl) (Nat.le_of_ble_eq_true rfl) rfl (sp_33 (h := h) hG) (CLd_le (Nat.le_of_ble_eq_true rfl) (ctX1_remember_23 hSP hG (show PT h from hP))) ?_
        rintro v437 h437 ⟨rfl, hG437, hF437, pl437⟩
        have eS437 : kS h437 23 = kS h 23 := kS23_F hF437 (by decide)
        have hS437 : STR (gi h 0 9) (kS h437 23) w := by rw [eS437]; exact hS
        have n9437 : gi h437 0 9 = gi h 0 9 := FRM_gi hF437 (r := 0) rfl (by decide)
        refine x_aload_n 35 hK rfl rfl rfl ?_
        refine x_iload_n 36 hK rfl rfl rfl ?_
        have dl437 : dlA h437 w.1 = dlA h w.1 := dlA_F hF437 rfl _
        have l5437 : gi h437 171 5 = gi h 171 5 := FRM_gi hF437 (r := 54) rfl rfl
        refine x_callV 39 hK hmono rfl rfl [.ref 0, .int (I v)] [] rfl rfl (Nat.le_of_ble_eq_true rfl) (Nat.le_of_ble_eq_true rfl) rfl (sp_0 (h := h437) hG437) (CLd_le (Nat.le_of_ble_eq_true rfl) (ctX10_giveOrderF hSP hG437 (show PT h437 from (PT_F hF437 (by decide) hP)) (show XI h437 from (xOk_ok rfl _ h437 hF437 hX)) (DR_F hF437 rfl hD) (by rw [n9437]; exact hS437) hw hb (v := v) (by omega) (by omega))) ?_
        rw [dl437, l5437, n9437]
        rintro v438 h438 ⟨rfl, hG438, hF438, hS438⟩
        exact x_iret hK rfl ⟨Or.inr ⟨by omega, rfl, hS438, (PL_F hF438 rfl).trans pl437⟩, hG438, ((hF437).mono rfl).trans ((hF438).mono rfl)⟩
      · refine x_iload_n 22 hK rfl rfl rfl ?_
        exact x_iret hK rfl ⟨Or.inl ⟨by omega, by rw [gi9], rfl⟩, hG, FRM.rf⟩
    · refine x_iconst 11 hK rfl rfl ?_
      have e9 : gvR v w = -1 := by unfold gvR; exact if_pos (by omega)
      exact x_iret hK rfl ⟨Or.inl ⟨by omega, by rw [e9], rfl⟩, hG, FRM.rf⟩
set_option maxRecDepth 4000 in
theorem ctX10_passRefusalF {SP : CT} (hSP : MONO SP) {sh : List (Nat × Nat)} {h : aH} (hG : GD gE gRL sh h) {b : Int} {w : WS} (hS : STR (gi h 0 9) (kS h 23) w) (hw : WW b w) (hb : b ≤ 950000) {m n a : Int} (rm : r32 m) (rn : r32 n) (ra : r32 a) : CLd SP 1 mX10_passRefusal [.ref 0, .int (I m), .int (I n), .int (I a)] h 0 0 (fun rv h' => h' = h ∧ rv = some (.int (I (psR (gi h 0 9) w.2.2.2.2.2.1 m n a)))) := by
  refine x_met _ rfl (Nat.le_of_ble_eq_true rfl) (fun K hK => ?_)
  have hmono := MONO_CLd hSP 0
  obtain ⟨k0, k1, k2, k3, k4, k5, k6⟩ := STR_to hG hS
  have g9 := gri 0 8 hG (a := 0) (r := 0) (k := 9) rfl rfl
  have w4 := hw.2.2.2.2
  have fm : 0 ≤ m → m < (gi h 0 9) → gi h 26 m.toNat = w.2.2.2.2.2.1 m.toNat ∧ 0 ≤ w.2.2.2.2.2.1 m.toNat ∧ w.2.2.2.2.2.1 m.toNat ≤ 99 := fun y1 y2 => by
    have z := (w4 m.toNat (by omega)).1
    exact ⟨(k6 m.toNat (by omega) (by omega)).1, z⟩
  have fo : 0 ≤ othF m a → othF m a < (gi h 0 9) → gi h 26 (othF m a).toNat = w.2.2.2.2.2.1 (othF m a).toNat ∧ 0 ≤ w.2.2.2.2.2.1 (othF m a).toNat ∧ w.2.2.2.2.2.1 (othF m a).toNat ≤ 99 := fun y1 y2 => by
    have z := (w4 (othF m a).toNat (by omega)).1
    exact ⟨(k6 (othF m a).toNat (by omega) (by omega)).1, z⟩
  have eo : othF m a = if a = 1 then m + 1 else m - 1 := rfl
  refine x_iload_n 1 hK rfl rfl rfl ?_
  refine x_if_lt 32 4 hK rfl rfl rfl (by omega) (fun c2 => ?_) (fun c2 => ?_)
  · refine x_iconst 33 hK rfl rfl ?_
    have e9 : (psR (gi h 0 9) w.2.2.2.2.2.1 m n a) = -1 := by unfold psR; exact if_pos (fun z => by first | omega | (obtain ⟨z1, z2, z3, z4⟩ := z; omega))
    exact x_iret hK rfl ⟨rfl, by rw [e9]⟩
  · refine x_iload_n 5 hK rfl rfl rfl ?_
    refine x_aload_n 6 hK rfl rfl rfl ?_
    have g439 := gri (0) (8) hG (a := 0) (r := 0) (k := 9) rfl rfl
    refine x_getE 9 hK rfl (Or.inl rfl) rfl (sp_0 (h := h) hG) (e := (gi h 0 9)) (rfl) ?_
    refine x_if_icmp_ge 32 12 hK rfl rfl rfl (by omega) (by omega) (fun c8 => ?_) (fun c8 => ?_)
    · refine x_iconst 33 hK rfl rfl ?_
      have e9 : (psR (gi h 0 9) w.2.2.2.2.2.1 m n a) = -1 := by unfold psR; exact if_pos (fun z => by first | omega | (obtain ⟨z1, z2, z3, z4⟩ := z; omega))
      exact x_iret hK rfl ⟨rfl, by rw [e9]⟩
    · refine x_iload_n 13 hK rfl rfl rfl ?_
      refine x_iconst 14 hK rfl rfl ?_
      refine x_if_icmp_lt 32 17 hK rfl rfl rfl (by omega) (by omega) (fun c13 => ?_) (fun c13 => ?_)
      · refine x_iconst 33 hK rfl rfl ?_
        have e9 : (psR (gi h 0 9) w.2.2.2.2.2.1 m n a) = -1 := by unfold psR; exact if_pos (fun z => by first | omega | (obtain ⟨z1, z2, z3, z4⟩ := z; omega))
        exact x_iret hK rfl ⟨rfl, by rw [e9]⟩
      · refine x_iload_n 18 hK rfl rfl rfl ?_
        refine x_bipush 20 hK rfl rfl rfl ?_
        refine x_if_icmp_gt 32 23 hK rfl rfl rfl (by omega) (by omega) (fun c18 => ?_) (fun c18 => ?_)
        · refine x_iconst 33 hK rfl rfl ?_
          have e9 : (psR (gi h 0 9) w.2.2.2.2.2.1 m n a) = -1 := by unfold psR; exact if_pos (fun z => by first | omega | (obtain ⟨z1, z2, z3, z4⟩ := z; omega))
          exact x_iret hK rfl ⟨rfl, by rw [e9]⟩
        · refine x_iload_n 24 hK rfl rfl rfl ?_
          refine x_if_lt 32 27 hK rfl rfl rfl (by omega) (fun c22 => ?_) (fun c22 => ?_)
          · refine x_iconst 33 hK rfl rfl ?_
            have e9 : (psR (gi h 0 9) w.2.2.2.2.2.1 m n a) = -1 := by unfold psR; exact if_pos (fun z => by first | omega | (obtain ⟨z1, z2, z3, z4⟩ := z; omega))
            exact x_iret hK rfl ⟨rfl, by rw [e9]⟩
          · refine x_iload_n 28 hK rfl rfl rfl ?_
            refine x_iconst 29 hK rfl rfl ?_
            refine x_if_icmp_le 34 32 hK rfl rfl rfl (by omega) (by omega) (fun c27 => ?_) (fun c27 => ?_)
            · refine x_iload_n 35 hK rfl rfl rfl ?_
              refine x_iconst 36 hK rfl rfl ?_
              refine x_if_icmp_ne 45 39 hK rfl rfl rfl (by omega) (by omega) (fun c30 => ?_) (fun c30 => ?_)
              · refine x_iload_n 46 hK rfl rfl rfl ?_
                refine x_iconst 47 hK rfl rfl ?_
                refine x_isub 48 hK rfl rfl ?_
                rw [show I ((m - 1)) = I (othF m a) from by rw [eo]; first | rw [if_pos (by omega)] | rw [if_neg (by omega)]]
                refine x_istore 50 hK rfl rfl [(4, .int (I (othF m a))), (0, .ref 0), (1, .int (I m)), (2, .int (I n)), (3, .int (I a))] rfl ?_
                refine x_iload 52 hK rfl rfl rfl ?_
                refine x_if_lt 64 55 hK rfl rfl rfl (by omega) (fun c37 => ?_) (fun c37 => ?_)
                · refine x_iconst 65 hK rfl rfl ?_
                  have e9 : (psR (gi h 0 9) w.2.2.2.2.2.1 m n a) = -1 := by unfold psR; exact if_pos (fun z => by first | omega | (obtain ⟨z1, z2, z3, z4⟩ := z; omega))
                  exact x_iret hK rfl ⟨rfl, by rw [e9]⟩
                · refine x_iload 57 hK rfl rfl rfl ?_
                  refine x_aload_n 58 hK rfl rfl rfl ?_
                  refine x_getE 61 hK rfl (Or.inl rfl) rfl (sp_0 (h := h) hG) (e := (gi h 0 9)) (rfl) ?_
                  refine x_if_icmp_lt 66 64 hK rfl rfl rfl (by omega) (by omega) (fun c43 => ?_) (fun c43 => ?_)
                  · refine x_aload_n 67 hK rfl rfl rfl ?_
                    refine x_getR 70 hK rfl rfl (sp_0 (h := h) hG) (rf_0_10 (h := h) hG) ?_
                    refine x_getR 73 hK rfl rfl (sp_23 (h := h) hG) (rf_23_7 (h := h) hG) ?_
                    refine x_iload_n 74 hK rfl rfl rfl ?_
                    have g440 := gi_r h 26 m.toNat
                    refine x_ialoadE 75 hK rfl rfl (sp_26 (h := h) hG) (by omega) (by omega) (by omega) (e' := (gi h 26 m.toNat)) (rfl) ?_
                    refine x_iload_n 76 hK rfl rfl rfl ?_
                    refine x_if_icmp_ge 82 79 hK rfl rfl rfl (by omega) (by omega) (fun c50 => ?_) (fun c50 => ?_)
                    · refine x_aload_n 83 hK rfl rfl rfl ?_
                      refine x_getR 86 hK rfl rfl (sp_0 (h := h) hG) (rf_0_10 (h := h) hG) ?_
                      refine x_getR 89 hK rfl rfl (sp_23 (h := h) hG) (rf_23_7 (h := h) hG) ?_
                      refine x_iload 91 hK rfl rfl rfl ?_
                      have g441 := gi_r h 26 (othF m a).toNat
                      refine x_ialoadE 92 hK rfl rfl (sp_26 (h := h) hG) (by omega) (by omega) (by omega) (e' := (gi h 26 (othF m a).toNat)) (rfl) ?_
                      refine x_iload_n 93 hK rfl rfl rfl ?_
                      refine x_iadd 94 hK rfl rfl ?_
                      refine x_bipush 96 hK rfl rfl rfl ?_
                      refine x_if_icmp_le 104 99 hK rfl rfl rfl (by omega) (by omega) (fun c59 => ?_) (fun c59 => ?_)
                      · refine x_iconst 105 hK rfl rfl ?_
                        have f1 := fm (by omega) (by omega)
                        have f2 := fo (by omega) (by omega)
                        have e9 : (psR (gi h 0 9) w.2.2.2.2.2.1 m n a) = 0 := by unfold psR; rw [if_neg (fun z => z ⟨by omega, by omega, by omega, by omega⟩), if_neg (by omega), if_neg (by omega)]
                        exact x_iret hK rfl ⟨rfl, by rw [e9]⟩
                      · refine x_bipush 101 hK rfl rfl rfl ?_
                        refine x_goto 105 hK rfl rfl ?_
                        have f1 := fm (by omega) (by omega)
                        have f2 := fo (by omega) (by omega)
                        have e9 : (psR (gi h 0 9) w.2.2.2.2.2.1 m n a) = (-3) := by unfold psR; rw [if_neg (fun z => z ⟨by omega, by omega, by omega, by omega⟩), if_neg (by omega), if_pos (by omega)]
                        exact x_iret hK rfl ⟨rfl, by rw [e9]⟩
                    · refine x_bipush 81 hK rfl rfl rfl ?_
                      have f1 := fm (by omega) (by omega)
                      have f2 := fo (by omega) (by omega)
                      have e9 : (psR (gi h 0 9) w.2.2.2.2.2.1 m n a) = (-2) := by unfold psR; rw [if_neg (fun z => z ⟨by omega, by omega, by omega, by omega⟩), if_pos (by omega)]
                      exact x_iret hK rfl ⟨rfl, by rw [e9]⟩
                  · refine x_iconst 65 hK rfl rfl ?_
                    have e9 : (psR (gi h 0 9) w.2.2.2.2.2.1 m n a) = -1 := by unfold psR; exact if_pos (fun z => by first | omega | (obtain ⟨z1, z2, z3, z4⟩ := z; omega))
                    exact x_iret hK rfl ⟨rfl, by rw [e9]⟩
              · refine x_iload_n 40 hK rfl rfl rfl ?_
                refine x_iconst 41 hK rfl rfl ?_
                refine x_iadd 42 hK rfl rfl ?_
                refine x_goto 48 hK rfl rfl ?_
                rw [show I ((m + 1)) = I (othF m a) from by rw [eo]; first | rw [if_pos (by omega)] | rw [if_neg (by omega)]]
                refine x_istore 50 hK rfl rfl [(4, .int (I (othF m a))), (0, .ref 0), (1, .int (I m)), (2, .int (I n)), (3, .int (I a))] rfl ?_
                refine x_iload 52 hK rfl rfl rfl ?_
                refine x_if_lt 64 55 hK rfl rfl rfl (by omega) (fun c76 => ?_) (fun c76 => ?_)
                · refine x_iconst 65 hK rfl rfl ?_
                  have e9 : (psR (gi h 0 9) w.2.2.2.2.2.1 m n a) = -1 := by unfold psR; exact if_pos (fun z => by first | omega | (obtain ⟨z1, z2, z3, z4⟩ := z; omega))
                  exact x_iret hK rfl ⟨rfl, by rw [e9]⟩
                · refine x_iload 57 hK rfl rfl rfl ?_
                  refine x_aload_n 58 hK rfl rfl rfl ?_
                  refine x_getE 61 hK rfl (Or.inl rfl) rfl (sp_0 (h := h) hG) (e := (gi h 0 9)) (rfl) ?_
                  refine x_if_icmp_lt 66 64 hK rfl rfl rfl (by omega) (by omega) (fun c82 => ?_) (fun c82 => ?_)
                  · refine x_aload_n 67 hK rfl rfl rfl ?_
                    refine x_getR 70 hK rfl rfl (sp_0 (h := h) hG) (rf_0_10 (h := h) hG) ?_
                    refine x_getR 73 hK rfl rfl (sp_23 (h := h) hG) (rf_23_7 (h := h) hG) ?_
                    refine x_iload_n 74 hK rfl rfl rfl ?_
                    have g442 := gi_r h 26 m.toNat
                    refine x_ialoadE 75 hK rfl rfl (sp_26 (h := h) hG) (by omega) (by omega) (by omega) (e' := (gi h 26 m.toNat)) (rfl) ?_
                    refine x_iload_n 76 hK rfl rfl rfl ?_
                    refine x_if_icmp_ge 82 79 hK rfl rfl rfl (by omega) (by omega) (fun c89 => ?_) (fun c89 => ?_)
                    · refine x_aload_n 83 hK rfl rfl rfl ?_
                      refine x_getR 86 hK rfl rfl (sp_0 (h := h) hG) (rf_0_10 (h := h) hG) ?_
                      refine x_getR 89 hK rfl rfl (sp_23 (h := h) hG) (rf_23_7 (h := h) hG) ?_
                      refine x_iload 91 hK rfl rfl rfl ?_
                      have g443 := gi_r h 26 (othF m a).toNat
                      refine x_ialoadE 92 hK rfl rfl (sp_26 (h := h) hG) (by omega) (by omega) (by omega) (e' := (gi h 26 (othF m a).toNat)) (rfl) ?_
                      refine x_iload_n 93 hK rfl rfl rfl ?_
                      refine x_iadd 94 hK rfl rfl ?_
                      refine x_bipush 96 hK rfl rfl rfl ?_
                      refine x_if_icmp_le 104 99 hK rfl rfl rfl (by omega) (by omega) (fun c98 => ?_) (fun c98 => ?_)
                      · refine x_iconst 105 hK rfl rfl ?_
                        have f1 := fm (by omega) (by omega)
                        have f2 := fo (by omega) (by omega)
                        have e9 : (psR (gi h 0 9) w.2.2.2.2.2.1 m n a) = 0 := by unfold psR; rw [if_neg (fun z => z ⟨by omega, by omega, by omega, by omega⟩), if_neg (by omega), if_neg (by omega)]
                        exact x_iret hK rfl ⟨rfl, by rw [e9]⟩
                      · refine x_bipush 101 hK rfl rfl rfl ?_
                        refine x_goto 105 hK rfl rfl ?_
                        have f1 := fm (by omega) (by omega)
                        have f2 := fo (by omega) (by omega)
                        have e9 : (psR (gi h 0 9) w.2.2.2.2.2.1 m n a) = (-3) := by unfold psR; rw [if_neg (fun z => z ⟨by omega, by omega, by omega, by omega⟩), if_neg (by omega), if_pos (by omega)]
                        exact x_iret hK rfl ⟨rfl, by rw [e9]⟩
                    · refine x_bipush 81 hK rfl rfl rfl ?_
                      have f1 := fm (by omega) (by omega)
                      have f2 := fo (by omega) (by omega)
                      have e9 : (psR (gi h 0 9) w.2.2.2.2.2.1 m n a) = (-2) := by unfold psR; rw [if_neg (fun z => z ⟨by omega, by omega, by omega, by omega⟩), if_pos (by omega)]
                      exact x_iret hK rfl ⟨rfl, by rw [e9]⟩
                  · refine x_iconst 65 hK rfl rfl ?_
                    have e9 : (psR (gi h 0 9) w.2.2.2.2.2.1 m n a) = -1 := by unfold psR; exact if_pos (fun z => by first | omega | (obtain ⟨z1, z2, z3, z4⟩ := z; omega))
                    exact x_iret hK rfl ⟨rfl, by rw [e9]⟩
            · refine x_iconst 33 hK rfl rfl ?_
              have e9 : (psR (gi h 0 9) w.2.2.2.2.2.1 m n a) = -1 := by unfold psR; exact if_pos (fun z => by first | omega | (obtain ⟨z1, z2, z3, z4⟩ := z; omega))
              exact x_iret hK rfl ⟨rfl, by rw [e9]⟩
set_option maxRecDepth 4000 in
theorem ctX10_moveFoodF {SP : CT} (hSP : MONO SP) {sh : List (Nat × Nat)} {h : aH} (hG : GD gE gRL sh h) {b : Int} {w : WS} (hS : STR (gi h 0 9) (kS h 23) w) (hw : WW b w) (hb : b ≤ 950000) {m n a : Int} (rm : r32 m) (rn : r32 n) (ra : r32 a) (hp : (psR (gi h 0 9) w.2.2.2.2.2.1 m n a) = 0) : CLd SP 1 mX10_moveFood [.ref 0, .int (I m), .int (I n), .int (I a)] h 0 0 (fun rv h' => rv = none ∧ GD gE gRL sh h' ∧ FRM gRL [(0, 20, 0, 7)] h h' ∧ STR (gi h 0 9) (kS h' 23) (psW m n a w)) := by
  refine x_met _ rfl (Nat.le_of_ble_eq_true rfl) (fun K hK => ?_)
  have hmono := MONO_CLd hSP 0
  obtain ⟨k0, k1, k2, k3, k4, k5, k6⟩ := STR_to hG hS
  have g9 := gri 0 8 hG (a := 0) (r := 0) (k := 9) rfl rfl
  have w4 := hw.2.2.2.2
  have fm : 0 ≤ m → m < (gi h 0 9) → gi h 26 m.toNat = w.2.2.2.2.2.1 m.toNat ∧ 0 ≤ w.2.2.2.2.2.1 m.toNat ∧ w.2.2.2.2.2.1 m.toNat ≤ 99 := fun y1 y2 => by
    have z := (w4 m.toNat (by omega)).1
    exact ⟨(k6 m.toNat (by omega) (by omega)).1, z⟩
  have fo : 0 ≤ othF m a → othF m a < (gi h 0 9) → gi h 26 (othF m a).toNat = w.2.2.2.2.2.1 (othF m a).toNat ∧ 0 ≤ w.2.2.2.2.2.1 (othF m a).toNat ∧ w.2.2.2.2.2.1 (othF m a).toNat ≤ 99 := fun y1 y2 => by
    have z := (w4 (othF m a).toNat (by omega)).1
    exact ⟨(k6 (othF m a).toNat (by omega) (by omega)).1, z⟩
  have eo : othF m a = if a = 1 then m + 1 else m - 1 := rfl
  have hp2 : ((0 ≤ m ∧ m < (gi h 0 9)) ∧ (0 ≤ a ∧ a ≤ 1) ∧ (0 ≤ othF m a ∧ othF m a < (gi h 0 9)) ∧ 1 ≤ n ∧ n ≤ 99) ∧ n ≤ w.2.2.2.2.2.1 m.toNat ∧ w.2.2.2.2.2.1 (othF m a).toNat + n ≤ 99 := by
    unfold psR at hp
    by_cases q : (0 ≤ m ∧ m < gi h 0 9) ∧ (0 ≤ a ∧ a ≤ 1) ∧ (0 ≤ othF m a ∧ othF m a < gi h 0 9) ∧ 1 ≤ n ∧ n ≤ 99
    · rw [if_neg (fun z => z q)] at hp
      refine ⟨q, ?_⟩
      (repeat' split at hp) <;> omega
    · rw [if_pos q] at hp; omega
  obtain ⟨⟨⟨p1, p2⟩, p3, ⟨p4, p5⟩, p6⟩, p7, p8⟩ := hp2
  have f1 := fm p1 p2
  have f2 := fo p4 p5
  have one : othF m a ≠ m := by rw [eo]; split <;> omega
  refine x_iload_n 1 hK rfl rfl rfl ?_
  refine x_iconst 2 hK rfl rfl ?_
  refine x_if_icmp_ne 11 5 hK rfl rfl rfl (by omega) (by omega) (fun c3 => ?_) (fun c3 => ?_)
  · refine x_iload_n 12 hK rfl rfl rfl ?_
    refine x_iconst 13 hK rfl rfl ?_
    refine x_isub 14 hK rfl rfl ?_
    rw [show I ((m - 1)) = I (othF m a) from by rw [eo]; first | rw [if_pos (by omega)] | rw [if_neg (by omega)]]
    refine x_istore 16 hK rfl rfl [(4, .int (I (othF m a))), (0, .ref 0), (1, .int (I m)), (2, .int (I n)), (3, .int (I a))] rfl ?_
    refine x_aload_n 17 hK rfl rfl rfl ?_
    refine x_getR 20 hK rfl rfl (sp_0 (h := h) hG) (rf_0_10 (h := h) hG) ?_
    refine x_getR 23 hK rfl rfl (sp_23 (h := h) hG) (rf_23_7 (h := h) hG) ?_
    refine x_iload_n 24 hK rfl rfl rfl ?_
    refine x_dup2 25 hK rfl rfl rfl rfl ?_
    have g444 := gi_r h 26 m.toNat
    refine x_ialoadE 26 hK rfl rfl (sp_26 (h := h) hG) (by omega) (by omega) (by omega) (e' := (gi h 26 m.toNat)) (rfl) ?_
    refine x_iload_n 27 hK rfl rfl rfl ?_
    refine x_isub 28 hK rfl rfl ?_
    refine x_iastore 29 hK rfl rfl (sp_26 (h := h) hG) (by omega) (by omega) (by omega) ?_
    refine x_aload_n 30 hK rfl rfl rfl ?_
    refine x_getR 33 hK rfl rfl (sp_0 (h := h) hG) (rf_0_10 (h := h) hG) ?_
    refine x_getR 36 hK rfl rfl (sp_23 (h := h) hG) (rf_23_7 (h := h) hG) ?_
    refine x_iload 38 hK rfl rfl rfl ?_
    refine x_dup2 39 hK rfl rfl rfl rfl ?_
    have g445 := gi_r h 26 (othF m a).toNat
    refine x_ialoadE 40 hK rfl rfl (sp_26 (h := h) hG) (by omega) (by omega) (by omega) (e' := (gi h 26 (othF m a).toNat)) (gi_k (by omega) _) ?_
    refine x_iload_n 41 hK rfl rfl rfl ?_
    refine x_iadd 42 hK rfl rfl ?_
    refine x_iastore 43 hK rfl rfl (sp_26 (h := h) hG) (by omega) (by omega) (by omega) ?_
    have hS2 : STR (gi h 0 9) (kS (wI (wI h 26 m.toNat ((gi h 26 m.toNat) - n)) 26 (othF m a).toNat ((gi h 26 (othF m a).toNat) + n)) 23) (psW m n a w) := by
      refine STR_of g9.2 (OKW_eq hS.1 rfl rfl rfl) (((gi_a (by decide) _).trans (gi_a (by decide) _)).trans k0) (((gi_a (by decide) _).trans (gi_a (by decide) _)).trans k1) (((gi_a (by decide) _).trans (gi_a (by decide) _)).trans k2) (((gi_a (by decide) _).trans (gi_a (by decide) _)).trans k3) ?_ fun j hj => ?_
      · rw [show gi (wI (wI h 26 m.toNat ((gi h 26 m.toNat) - n)) 26 (othF m a).toNat ((gi h 26 (othF m a).toNat) + n)) 23 4 = gi h 23 4 from (gi_a (by decide) _).trans (gi_a (by decide) _)]
        exact (kO_eq fun j _ => ⟨(gi_a (by decide) _).trans (gi_a (by decide) _), (gi_a (by decide) _).trans (gi_a (by decide) _)⟩).trans k5
      · refine ⟨?_, ((gi_a (by decide) _).trans (gi_a (by decide) _)).trans (k6 j (by omega) hj).2⟩
        show _ = if (j : Int) = m then w.2.2.2.2.2.1 j - n else if (j : Int) = othF m a then w.2.2.2.2.2.1 j + n else w.2.2.2.2.2.1 j
        by_cases z : (j : Int) = m
        · rw [if_pos z, show j = m.toNat by omega]
          exact (gi_k (by omega) _).trans ((gi_same (by omega)).trans (by omega))
        · rw [if_neg z]
          by_cases y : (j : Int) = othF m a
          · rw [if_pos y, show j = (othF m a).toNat by omega]
            exact (gi_same (by omega)).trans (by omega)
          · rw [if_neg y]
            exact (gi_k (by omega) _).trans ((gi_k (by omega) _).trans (k6 j (by omega) hj).1)
    exact x_vret hK rfl ⟨rfl, GD_wn (GD_wn (hG) (r := 20) rfl rfl) (r := 20) rfl rfl, FRM_wn 0 7 (FRM_wn 0 7 ((FRM.rf : FRM gRL [(0, 20, 0, 7)] h h)) (r := 20) rfl rfl rfl (by omega) (by omega)) (r := 20) rfl rfl rfl (by omega) (by omega), hS2⟩
  · refine x_iload_n 6 hK rfl rfl rfl ?_
    refine x_iconst 7 hK rfl rfl ?_
    refine x_iadd 8 hK rfl rfl ?_
    refine x_goto 14 hK rfl rfl ?_
    rw [show I ((m + 1)) = I (othF m a) from by rw [eo]; first | rw [if_pos (by omega)] | rw [if_neg (by omega)]]
    refine x_istore 16 hK rfl rfl [(4, .int (I (othF m a))), (0, .ref 0), (1, .int (I m)), (2, .int (I n)), (3, .int (I a))] rfl ?_
    refine x_aload_n 17 hK rfl rfl rfl ?_
    refine x_getR 20 hK rfl rfl (sp_0 (h := h) hG) (rf_0_10 (h := h) hG) ?_
    refine x_getR 23 hK rfl rfl (sp_23 (h := h) hG) (rf_23_7 (h := h) hG) ?_
    refine x_iload_n 24 hK rfl rfl rfl ?_
    refine x_dup2 25 hK rfl rfl rfl rfl ?_
    have g446 := gi_r h 26 m.toNat
    refine x_ialoadE 26 hK rfl rfl (sp_26 (h := h) hG) (by omega) (by omega) (by omega) (e' := (gi h 26 m.toNat)) (rfl) ?_
    refine x_iload_n 27 hK rfl rfl rfl ?_
    refine x_isub 28 hK rfl rfl ?_
    refine x_iastore 29 hK rfl rfl (sp_26 (h := h) hG) (by omega) (by omega) (by omega) ?_
    refine x_aload_n 30 hK rfl rfl rfl ?_
    refine x_getR 33 hK rfl rfl (sp_0 (h := h) hG) (rf_0_10 (h := h) hG) ?_
    refine x_getR 36 hK rfl rfl (sp_23 (h := h) hG) (rf_23_7 (h := h) hG) ?_
    refine x_iload 38 hK rfl rfl rfl ?_
    refine x_dup2 39 hK rfl rfl rfl rfl ?_
    have g447 := gi_r h 26 (othF m a).toNat
    refine x_ialoadE 40 hK rfl rfl (sp_26 (h := h) hG) (by omega) (by omega) (by omega) (e' := (gi h 26 (othF m a).toNat)) (gi_k (by omega) _) ?_
    refine x_iload_n 41 hK rfl rfl rfl ?_
    refine x_iadd 42 hK rfl rfl ?_
    refine x_iastore 43 hK rfl rfl (sp_26 (h := h) hG) (by omega) (by omega) (by omega) ?_
    have hS2 : STR (gi h 0 9) (kS (wI (wI h 26 m.toNat ((gi h 26 m.toNat) - n)) 26 (othF m a).toNat ((gi h 26 (othF m a).toNat) + n)) 23) (psW m n a w) := by
      refine STR_of g9.2 (OKW_eq hS.1 rfl rfl rfl) (((gi_a (by decide) _).trans (gi_a (by decide) _)).trans k0) (((gi_a (by decide) _).trans (gi_a (by decide) _)).trans k1) (((gi_a (by decide) _).trans (gi_a (by decide) _)).trans k2) (((gi_a (by decide) _).trans (gi_a (by decide) _)).trans k3) ?_ fun j hj => ?_
      · rw [show gi (wI (wI h 26 m.toNat ((gi h 26 m.toNat) - n)) 26 (othF m a).toNat ((gi h 26 (othF m a).toNat) + n)) 23 4 = gi h 23 4 from (gi_a (by decide) _).trans (gi_a (by decide) _)]
        exact (kO_eq fun j _ => ⟨(gi_a (by decide) _).trans (gi_a (by decide) _), (gi_a (by decide) _).trans (gi_a (by decide) _)⟩).trans k5
      · refine ⟨?_, ((gi_a (by decide) _).trans (gi_a (by decide) _)).trans (k6 j (by omega) hj).2⟩
        show _ = if (j : Int) = m then w.2.2.2.2.2.1 j - n else if (j : Int) = othF m a then w.2.2.2.2.2.1 j + n else w.2.2.2.2.2.1 j
        by_cases z : (j : Int) = m
        · rw [if_pos z, show j = m.toNat by omega]
          exact (gi_k (by omega) _).trans ((gi_same (by omega)).trans (by omega))
        · rw [if_neg z]
          by_cases y : (j : Int) = othF m a
          · rw [if_pos y, show j = (othF m a).toNat by omega]
            exact (gi_same (by omega)).trans (by omega)
          · rw [if_neg y]
            exact (gi_k (by omega) _).trans ((gi_k (by omega) _).trans (k6 j (by omega) hj).1)
    exact x_vret hK rfl ⟨rfl, GD_wn (GD_wn (hG) (r := 20) rfl rfl) (r := 20) rfl rfl, FRM_wn 0 7 (FRM_wn 0 7 ((FRM.rf : FRM gRL [(0, 20, 0, 7)] h h)) (r := 20) rfl rfl rfl (by omega) (by omega)) (r := 20) rfl rfl rfl (by omega) (by omega), hS2⟩
set_option maxRecDepth 4000 in
theorem ctX10_passF {SP : CT} (hSP : MONO SP) {sh : List (Nat × Nat)} {h : aH} (hG : GD gE gRL sh h) (hP : PT h) {b : Int} {w : WS} (hS : STR (gi h 0 9) (kS h 23) w) (hw : WW b w) (hb : b ≤ 950000) {m n a : Int} (rm : r32 m) (rn : r32 n) (ra : r32 a) : CLd SP 4 mX10_pass [.ref 0, .int (I m), .int (I n), .int (I a)] h 0 0 (fun rv h' => (((psR (gi h 0 9) w.2.2.2.2.2.1 m n a) ≠ 0 ∧ rv = some (.int (I (psR (gi h 0 9) w.2.2.2.2.2.1 m n a))) ∧ h' = h) ∨ ((psR (gi h 0 9) w.2.2.2.2.2.1 m n a) = 0 ∧ rv = some (.int (I (w.2.2.2.2.2.1 m.toNat - n))) ∧ STR (gi h 0 9) (kS h' 23) (psW m n a w) ∧ PL h' = pushC (PL h) (kS h 23))) ∧ GD gE gRL sh h' ∧ FRM gRL [(0, 20, 0, 7), (0, 27, 1, 2), (0, 31, 0, 4), (0, 32, 0, 11), (0, 33, 0, 11), (0, 34, 0, 7), (0, 35, 0, 7)] h h') := by
  refine x_met _ rfl (Nat.le_of_ble_eq_true rfl) (fun K hK => ?_)
  have hmono := MONO_CLd hSP 3
  obtain ⟨k0, k1, k2, k3, k4, k5, k6⟩ := STR_to hG hS
  have g9 := gri 0 8 hG (a := 0) (r := 0) (k := 9) rfl rfl
  have w4 := hw.2.2.2.2
  have fm : 0 ≤ m → m < (gi h 0 9) → gi h 26 m.toNat = w.2.2.2.2.2.1 m.toNat ∧ 0 ≤ w.2.2.2.2.2.1 m.toNat ∧ w.2.2.2.2.2.1 m.toNat ≤ 99 := fun y1 y2 => by
    have z := (w4 m.toNat (by omega)).1
    exact ⟨(k6 m.toNat (by omega) (by omega)).1, z⟩
  have fo : 0 ≤ othF m a → othF m a < (gi h 0 9) → gi h 26 (othF m a).toNat = w.2.2.2.2.2.1 (othF m a).toNat ∧ 0 ≤ w.2.2.2.2.2.1 (othF m a).toNat ∧ w.2.2.2.2.2.1 (othF m a).toNat ≤ 99 := fun y1 y2 => by
    have z := (w4 (othF m a).toNat (by omega)).1
    exact ⟨(k6 (othF m a).toNat (by omega) (by omega)).1, z⟩
  have eo : othF m a = if a = 1 then m + 1 else m - 1 := rfl
  have pb : -3 ≤ (psR (gi h 0 9) w.2.2.2.2.2.1 m n a) ∧ (psR (gi h 0 9) w.2.2.2.2.2.1 m n a) ≤ 0 := by unfold psR; (repeat' split) <;> omega
  have hp2 : (psR (gi h 0 9) w.2.2.2.2.2.1 m n a) = 0 → 0 ≤ m ∧ m < (gi h 0 9) := fun hp => by
    unfold psR at hp
    by_cases q : (0 ≤ m ∧ m < gi h 0 9) ∧ (0 ≤ a ∧ a ≤ 1) ∧ (0 ≤ othF m a ∧ othF m a < gi h 0 9) ∧ 1 ≤ n ∧ n ≤ 99
    · exact q.1
    · rw [if_pos q] at hp; omega
  refine x_aload_n 1 hK rfl rfl rfl ?_
  refine x_iload_n 2 hK rfl rfl rfl ?_
  refine x_iload_n 3 hK rfl rfl rfl ?_
  refine x_iload_n 4 hK rfl rfl rfl ?_
  refine x_callV 7 hK hmono rfl rfl [.ref 0, .int (I m), .int (I n), .int (I a)] [] rfl rfl (Nat.le_of_ble_eq_true rfl) (Nat.le_of_ble_eq_true rfl) rfl (sp_0 (h := h) hG) (CLd_le (Nat.le_of_ble_eq_true rfl) (ctX10_passRefusalF hSP hG hS hw hb rm rn ra)) ?_
  rintro v9 h9 ⟨e9, rfl⟩
  rw [e9]
  clear e9
  refine x_istore 9 hK rfl rfl [(4, .int (I (psR (gi h 0 9) w.2.2.2.2.2.1 m n a))), (0, .ref 0), (1, .int (I m)), (2, .int (I n)), (3, .int (I a))] rfl ?_
  refine x_iload 11 hK rfl rfl rfl ?_
  refine x_if_eq 17 14 hK rfl rfl rfl (by omega) (fun c8 => ?_) (fun c8 => ?_)
  · refine x_aload_n 18 hK rfl rfl rfl ?_
    refine x_getR 21 hK rfl rfl (sp_0 (h := h) hG) (rf_0_12 (h := h) hG) ?_
    refine x_aload_n 22 hK rfl rfl rfl ?_
    refine x_getR 25 hK rfl rfl (sp_0 (h := h) hG) (rf_0_10 (h := h) hG) ?_
    refine x_callV 28 hK hmono rfl rfl [.ref 33, .ref 23] [] rfl rfl (Nat.le_of_ble_eq_true rfl) (Nat.le_of_ble_eq_true rfl) rfl (sp_33 (h := h) hG) (CLd_le (Nat.le_of_ble_eq_true rfl) (ctX1_remember_23 hSP hG (show PT h from hP))) ?_
    rintro v448 h448 ⟨rfl, hG448, hF448, pl448⟩
    have eS448 : kS h448 23 = kS h 23 := kS23_F hF448 (by decide)
    have hS448 : STR (gi h 0 9) (kS h448 23) w := by rw [eS448]; exact hS
    have n9448 : gi h448 0 9 = gi h 0 9 := FRM_gi hF448 (r := 0) rfl (by decide)
    refine x_aload_n 29 hK rfl rfl rfl ?_
    refine x_iload_n 30 hK rfl rfl rfl ?_
    refine x_iload_n 31 hK rfl rfl rfl ?_
    refine x_iload_n 32 hK rfl rfl rfl ?_
    have pm := hp2 (by omega)
    refine x_callV 35 hK hmono rfl rfl [.ref 0, .int (I m), .int (I n), .int (I a)] [] rfl rfl (Nat.le_of_ble_eq_true rfl) (Nat.le_of_ble_eq_true rfl) rfl (sp_0 (h := h448) hG448) (CLd_le (Nat.le_of_ble_eq_true rfl) (ctX10_moveFoodF hSP hG448 (by rw [n9448]; exact hS448) hw hb rm rn ra (by rw [n9448]; omega))) ?_
    rw [n9448]
    rintro v449 h449 ⟨rfl, hG449, hF449, hS449⟩
    have em : gi h449 26 m.toNat = w.2.2.2.2.2.1 m.toNat - n := by
      have z := ((STR_to hG449 hS449).2.2.2.2.2.2 m.toNat (by omega) (by omega)).1
      have z : gi h449 26 m.toNat = if ((m.toNat : Nat) : Int) = m then w.2.2.2.2.2.1 m.toNat - n else if ((m.toNat : Nat) : Int) = othF m a then w.2.2.2.2.2.1 m.toNat + n else w.2.2.2.2.2.1 m.toNat := z
      rw [if_pos (by omega)] at z
      exact z
    refine x_aload_n 36 hK rfl rfl rfl ?_
    refine x_getR 39 hK rfl rfl (sp_0 (h := h449) hG449) (rf_0_10 (h := h449) hG449) ?_
    refine x_getR 42 hK rfl rfl (sp_23 (h := h449) hG449) (rf_23_7 (h := h449) hG449) ?_
    refine x_iload_n 43 hK rfl rfl rfl ?_
    refine x_ialoadE 44 hK rfl rfl (sp_26 (h := h449) hG449) (by omega) (by omega) (by omega) (e' := (w.2.2.2.2.2.1 m.toNat - n)) (em) ?_
    exact x_iret hK rfl ⟨Or.inr ⟨by omega, rfl, hS449, (PL_F hF449 rfl).trans pl448⟩, hG449, ((hF448).mono rfl).trans ((hF449).mono rfl)⟩
  · refine x_iload 16 hK rfl rfl rfl ?_
    exact x_iret hK rfl ⟨Or.inl ⟨by omega, rfl, rfl⟩, hG, FRM.rf⟩
set_option maxRecDepth 4000 in
theorem ctX10_cookF {SP : CT} (hSP : MONO SP) {sh : List (Nat × Nat)} {h : aH} (hG : GD gE gRL sh h) (hP : PT h) {b : Int} {w : WS} (hS : STR (gi h 0 9) (kS h 23) w) (hw : WW b w) (hb : b ≤ 950000) {m n : Int} (rm : r32 m) (rn : r32 n) : CLd SP 4 mX10_cook [.ref 0, .int (I m), .int (I n)] h 0 0 (fun rv h' => ((¬ ckOk (gi h 0 9) m n ∧ rv = some (.int (I (-1))) ∧ h' = h) ∨ (ckOk (gi h 0 9) m n ∧ rv = some (.int (I (w.2.2.2.2.2.1 m.toNat))) ∧ STR (gi h 0 9) (kS h' 23) (ckW m n w) ∧ PL h' = pushC (PL h) (kS h 23))) ∧ GD gE gRL sh h' ∧ FRM gRL [(0, 20, 0, 7), (0, 27, 1, 2), (0, 31, 0, 4), (0, 32, 0, 11), (0, 33, 0, 11), (0, 34, 0, 7), (0, 35, 0, 7)] h h') := by
  refine x_met _ rfl (Nat.le_of_ble_eq_true rfl) (fun K hK => ?_)
  have hmono := MONO_CLd hSP 3
  obtain ⟨k0, k1, k2, k3, k4, k5, k6⟩ := STR_to hG hS
  have g9 := gri 0 8 hG (a := 0) (r := 0) (k := 9) rfl rfl
  have w4 := hw.2.2.2.2
  refine x_iload_n 1 hK rfl rfl rfl ?_
  refine x_if_lt 22 4 hK rfl rfl rfl (by omega) (fun c2 => ?_) (fun c2 => ?_)
  · refine x_iconst 23 hK rfl rfl ?_
    exact x_iret hK rfl ⟨Or.inl ⟨fun z => by have z1 := z.1; have z2 := z.2; omega, rfl, rfl⟩, hG, FRM.rf⟩
  · refine x_iload_n 5 hK rfl rfl rfl ?_
    refine x_aload_n 6 hK rfl rfl rfl ?_
    have g450 := gri (0) (8) hG (a := 0) (r := 0) (k := 9) rfl rfl
    refine x_getE 9 hK rfl (Or.inl rfl) rfl (sp_0 (h := h) hG) (e := (gi h 0 9)) (rfl) ?_
    refine x_if_icmp_ge 22 12 hK rfl rfl rfl (by omega) (by omega) (fun c8 => ?_) (fun c8 => ?_)
    · refine x_iconst 23 hK rfl rfl ?_
      exact x_iret hK rfl ⟨Or.inl ⟨fun z => by have z1 := z.1; have z2 := z.2; omega, rfl, rfl⟩, hG, FRM.rf⟩
    · refine x_iload_n 13 hK rfl rfl rfl ?_
      refine x_if_lt 22 16 hK rfl rfl rfl (by omega) (fun c12 => ?_) (fun c12 => ?_)
      · refine x_iconst 23 hK rfl rfl ?_
        exact x_iret hK rfl ⟨Or.inl ⟨fun z => by have z1 := z.1; have z2 := z.2; omega, rfl, rfl⟩, hG, FRM.rf⟩
      · refine x_iload_n 17 hK rfl rfl rfl ?_
        refine x_bipush 19 hK rfl rfl rfl ?_
        refine x_if_icmp_le 24 22 hK rfl rfl rfl (by omega) (by omega) (fun c17 => ?_) (fun c17 => ?_)
        · refine x_aload_n 25 hK rfl rfl rfl ?_
          refine x_getR 28 hK rfl rfl (sp_0 (h := h) hG) (rf_0_12 (h := h) hG) ?_
          refine x_aload_n 29 hK rfl rfl rfl ?_
          refine x_getR 32 hK rfl rfl (sp_0 (h := h) hG) (rf_0_10 (h := h) hG) ?_
          refine x_callV 35 hK hmono rfl rfl [.ref 33, .ref 23] [] rfl rfl (Nat.le_of_ble_eq_true rfl) (Nat.le_of_ble_eq_true rfl) rfl (sp_33 (h := h) hG) (CLd_le (Nat.le_of_ble_eq_true rfl) (ctX1_remember_23 hSP hG (show PT h from hP))) ?_
          rintro v451 h451 ⟨rfl, hG451, hF451, pl451⟩
          have eS451 : kS h451 23 = kS h 23 := kS23_F hF451 (by decide)
          have hS451 : STR (gi h 0 9) (kS h451 23) w := by rw [eS451]; exact hS
          have n9451 : gi h451 0 9 = gi h 0 9 := FRM_gi hF451 (r := 0) rfl (by decide)
          refine x_aload_n 36 hK rfl rfl rfl ?_
          refine x_getR 39 hK rfl rfl (sp_0 (h := h451) hG451) (rf_0_10 (h := h451) hG451) ?_
          refine x_getR 42 hK rfl rfl (sp_23 (h := h451) hG451) (rf_23_7 (h := h451) hG451) ?_
          refine x_iload_n 43 hK rfl rfl rfl ?_
          have g452 := gi_r h 26 m.toNat
          refine x_ialoadE 44 hK rfl rfl (sp_26 (h := h451) hG451) (by omega) (by omega) (by omega) (e' := (gi h 26 m.toNat)) (FRM_gi hF451 (r := 20) rfl rfl) ?_
          refine x_istore_n 45 hK rfl rfl [(3, .int (I (gi h 26 m.toNat))), (0, .ref 0), (1, .int (I m)), (2, .int (I n))] rfl ?_
          refine x_aload_n 46 hK rfl rfl rfl ?_
          refine x_getR 49 hK rfl rfl (sp_0 (h := h451) hG451) (rf_0_10 (h := h451) hG451) ?_
          refine x_getR 52 hK rfl rfl (sp_23 (h := h451) hG451) (rf_23_7 (h := h451) hG451) ?_
          refine x_iload_n 53 hK rfl rfl rfl ?_
          refine x_iload_n 54 hK rfl rfl rfl ?_
          refine x_iastore 55 hK rfl rfl (sp_26 (h := h451) hG451) (by omega) (by omega) (by omega) ?_
          refine x_iload_n 56 hK rfl rfl rfl ?_
          have k6m := k6 m.toNat (by omega) (by omega)
          have hS2 : STR (gi h 0 9) (kS (wI h451 26 m.toNat n) 23) (ckW m n w) := by
            refine STR_of g9.2 (OKW_eq hS.1 rfl rfl rfl) (((gi_a (by decide) _).trans (FRM_gi hF451 (r := 17) rfl rfl)).trans k0) (((gi_a (by decide) _).trans (FRM_gi hF451 (r := 17) rfl rfl)).trans k1) (((gi_a (by decide) _).trans (FRM_gi hF451 (r := 17) rfl rfl)).trans k2) (((gi_a (by decide) _).trans (FRM_gi hF451 (r := 17) rfl rfl)).trans k3) ?_ fun j hj => ?_
            · rw [show gi (wI h451 26 m.toNat n) 23 4 = gi h 23 4 from (gi_a (by decide) _).trans (FRM_gi hF451 (r := 17) rfl rfl)]
              exact (kO_eq fun j _ => ⟨(gi_a (by decide) _).trans (FRM_gi hF451 (r := 18) rfl rfl), (gi_a (by decide) _).trans (FRM_gi hF451 (r := 19) rfl rfl)⟩).trans k5
            · refine ⟨?_, ((gi_a (by decide) _).trans (FRM_gi hF451 (r := 21) rfl rfl)).trans (k6 j (by omega) hj).2⟩
              show _ = if (j : Int) = m then n else w.2.2.2.2.2.1 j
              by_cases z : (j : Int) = m
              · rw [if_pos z, show j = m.toNat by omega]
                exact gi_same (by omega)
              · rw [if_neg z]
                exact (gi_k (by omega) _).trans ((FRM_gi hF451 (r := 20) rfl rfl).trans (k6 j (by omega) hj).1)
          have pl9 : PL (wI h451 26 m.toNat n) = PL h451 := PL_eq (gi_a (by decide) _) (gi_a (by decide) _) fun i hi => kS_ge fun a k h1 h2 => gi_a (by omega) _
          exact x_iret hK rfl ⟨Or.inr ⟨⟨by omega, by omega⟩, by rw [← k6m.1], hS2, pl9.trans pl451⟩, GD_wn (hG451) (r := 20) rfl rfl, FRM_wn 0 7 ((hF451).mono rfl) (r := 20) rfl rfl rfl (by omega) (by omega)⟩
        · refine x_iconst 23 hK rfl rfl ?_
          exact x_iret hK rfl ⟨Or.inl ⟨fun z => by have z1 := z.1; have z2 := z.2; omega, rfl, rfl⟩, hG, FRM.rf⟩
set_option maxRecDepth 4000 in
theorem ctX10_stepsF {SP : CT} (hSP : MONO SP) {sh : List (Nat × Nat)} {h : aH} (hG : GD gE gRL sh h) (hP : PT h) {b : Int} {w : WS} (hS : STR (gi h 0 9) (kS h 23) w) (hw : WW b w) (hb : b ≤ 900000) {n : Int} (rn : r32 n) {ml ln ea : Nat → Int} (hml : ∀ j : Nat, (j : Int) < gi h 19 0 → gi h 20 j = ml j ∧ gi h 21 j = ln j) (hea : ∀ m : Nat, (m : Int) < (gi h 0 9) → gi h 22 m = ea m ∧ 0 ≤ ea m ∧ ea m ≤ 9) : CLd SP 6 mX10_steps [.ref 0, .int (I n)] h 0 0 (fun rv h' => ((¬ (0 ≤ n ∧ n ≤ 60) ∧ rv = some (.int (I (-1))) ∧ h' = h) ∨ ((0 ≤ n ∧ n ≤ 60) ∧ rv = some (.int (I (stI ml ln (gi h 19 0).toNat (gi h 0 9) ea n.toNat w).2.1)) ∧ STR (gi h 0 9) (kS h' 23) (stI ml ln (gi h 19 0).toNat (gi h 0 9) ea n.toNat w) ∧ PL h' = pushC (PL h) (kS h 23) ∧ gi h' 3 1 = 2 ∧ crow h' = [(sHs ml ln (gi h 19 0).toNat (gi h 0 9) ea n.toNat w), (sUs ml ln (gi h 19 0).toNat (gi h 0 9) ea n.toNat w)])) ∧ GD gE gRL sh h' ∧ FRM gRL [(0, 3, 1, 1), (0, 17, 0, 4), (0, 18, 0, 11), (0, 19, 0, 11), (0, 20, 0, 7), (0, 21, 0, 7), (0, 27, 1, 2), (0, 31, 0, 4), (0, 32, 0, 11), (0, 33, 0, 11), (0, 34, 0, 7), (0, 35, 0, 7), (1, 4, 0, 29)] h h') := by
  refine x_met _ rfl (Nat.le_of_ble_eq_true rfl) (fun K hK => ?_)
  have hmono := MONO_CLd hSP 5
  have g9 := gri 0 8 hG (a := 0) (r := 0) (k := 9) rfl rfl
  have g19 := gri 0 16 hG (a := 19) (r := 13) (k := 0) rfl rfl
  have k2 := (STR_to hG hS).2.2.1
  have wh := hw.2.2.1
  have wI := WW_stI (ml := ml) (ln := ln) (ea := ea) (nr := (gi h 19 0).toNat) (by omega) g9.2 (fun m hm => (hea m hm).2) hw
  have loop : ∀ (mz : Nat) (c i : Int) (h4 : aH) (ls : List (Nat × Value)), ((n - i).toNat = mz) → (0 ≤ n ∧ n ≤ 60) → (0 ≤ i ∧ i ≤ n) → (c = (sUs ml ln (gi h 19 0).toNat (gi h 0 9) ea i.toNat w)) → (STR (gi h 0 9) (kS h4 23) (stI ml ln (gi h 19 0).toNat (gi h 0 9) ea i.toNat w)) → ((stI ml ln (gi h 19 0).toNat (gi h 0 9) ea i.toNat w).2.2.1 = w.2.2.1 + (sHs ml ln (gi h 19 0).toNat (gi h 0 9) ea i.toNat w)) → (PL h4 = pushC (PL h) (kS h 23)) → lk ls 0 = some (.ref 0) → lk ls 1 = some (.int (I n)) → lk ls 2 = some (.int (I (gi h 23 2))) → lk ls 3 = some (.int (I c)) → lk ls 4 = some (.int (I i)) → GD gE gRL sh h4 → FRM gRL [(0, 17, 0, 4), (0, 18, 0, 11), (0, 19, 0, 11), (0, 20, 0, 7), (0, 21, 0, 7), (0, 27, 1, 2), (0, 31, 0, 4), (0, 32, 0, 11), (0, 33, 0, 11), (0, 34, 0, 7), (0, 35, 0, 7)] h h4 → K 36 ls [] h4 0 0 := by
    intro mz
    induction mz using Nat.strongRecOn with
    | ind mz ih =>
    intro c i h4 ls hm n0 i0 ce hs hh pl l0 l1 l2 l3 l4 hG4 hF4
    have wi := wI i.toNat
    have sb := sUs_b (ml := ml) (ln := ln) (nr := (gi h 19 0).toNat) (ea := ea) g9.2 w i.toNat
    have hb9 := sHs_b (ml := ml) (ln := ln) (nr := (gi h 19 0).toNat) (ms := (gi h 0 9)) (ea := ea) (by omega) w i.toNat
    have n94 : gi h4 0 9 = (gi h 0 9) := FRM_gi hF4 (r := 0) rfl rfl
    have n19 : gi h4 19 0 = gi h 19 0 := FRM_gi hF4 (r := 13) rfl rfl
    obtain ⟨j0, j1, j2, j3, j4, j5, j6⟩ := STR_to hG4 hs
    have wl9 := wi.2.1
    refine x_iload 38 hK rfl rfl l4 ?_
    refine x_iload_n 39 hK rfl rfl l1 ?_
    refine x_if_icmp_ge 55 42 hK rfl rfl rfl (by omega) (by omega) (fun c3 => ?_) (fun c3 => ?_)
    · refine x_aload_n 56 hK rfl rfl l0 ?_
      refine x_getR 59 hK rfl rfl (sp_0 (h := h4) hG4) (rf_0_1 (h := h4) hG4) ?_
      refine x_aload_n 60 hK rfl rfl l0 ?_
      refine x_getR 63 hK rfl rfl (sp_0 (h := h4) hG4) (rf_0_10 (h := h4) hG4) ?_
      refine x_getE 66 hK rfl (Or.inl rfl) rfl (sp_23 (h := h4) hG4) (e := ((stI ml ln (gi h 19 0).toNat (gi h 0 9) ea i.toNat w).2.2.1)) (j2) ?_
      refine x_iload_n 67 hK rfl rfl l2 ?_
      refine x_isub 68 hK rfl rfl ?_
      refine x_i2l 69 hK rfl rfl (by omega) ?_
      refine x_iload_n 70 hK rfl rfl l3 ?_
      refine x_i2l 71 hK rfl rfl (by omega) ?_
      refine x_callV 74 hK hmono rfl rfl [.ref 3, .long (J (((stI ml ln (gi h 19 0).toNat (gi h 0 9) ea i.toNat w).2.2.1) - (gi h 23 2))), .long (J c)] [] rfl rfl (Nat.le_of_ble_eq_true rfl) (Nat.le_of_ble_eq_true rfl) rfl (sp_3 (h := h4) hG4) (CLd_le (Nat.le_of_ble_eq_true rfl) (ctX3_tellTwo hSP hG4 (by omega) (by omega))) ?_
      rintro v453 h453 ⟨rfl, hG453, hF453, t453, s453⟩
      refine x_aload_n 75 hK rfl rfl l0 ?_
      refine x_getR 78 hK rfl rfl (sp_0 (h := h453) hG453) (rf_0_10 (h := h453) hG453) ?_
      refine x_getE 81 hK rfl (Or.inl rfl) rfl (sp_23 (h := h453) hG453) (e := ((stI ml ln (gi h 19 0).toNat (gi h 0 9) ea i.toNat w).2.1)) ((FRM_gi hF453 (r := 17) rfl rfl).trans (j1)) ?_
      obtain rfl : i = n := by omega
      have eS : kS h453 23 = kS h4 23 := kS23_F hF453 rfl
      exact x_iret hK rfl ⟨Or.inr ⟨n0, rfl, by rw [eS]; exact hs, (PL_F hF453 rfl).trans pl, t453, by rw [s453]; rw [show (stI ml ln (gi h 19 0).toNat (gi h 0 9) ea i.toNat w).2.2.1 - gi h 23 2 = (sHs ml ln (gi h 19 0).toNat (gi h 0 9) ea i.toNat w) by omega, ce]⟩, hG453, ((hF4).mono rfl).trans ((hF453).mono rfl)⟩
    · refine x_iload_n 43 hK rfl rfl l3 ?_
      refine x_aload_n 44 hK rfl rfl l0 ?_
      have ub := hcN_b (stI ml ln (gi h 19 0).toNat (gi h 0 9) ea i.toNat w).2.2.2.2.2.1 ea (gi h 0 9).toNat
      have us : stU (gi h 0 9) ea (stI ml ln (gi h 19 0).toNat (gi h 0 9) ea i.toNat w) = hcN (stI ml ln (gi h 19 0).toNat (gi h 0 9) ea i.toNat w).2.2.2.2.2.1 ea (gi h 0 9).toNat := rfl
      refine x_callV 47 hK hmono rfl rfl [.ref 0] [.int (I c)] rfl rfl (Nat.le_of_ble_eq_true rfl) (Nat.le_of_ble_eq_true rfl) rfl (sp_0 (h := h4) hG4) (CLd_le (Nat.le_of_ble_eq_true rfl) (ctX10_goStepF hSP hG4 (b := b + i.toNat) (w := (stI ml ln (gi h 19 0).toNat (gi h 0 9) ea i.toNat w)) (ml := ml) (ln := ln) (ea := ea) (by rw [n94]; exact hs) wi (by omega) (fun j hj => by rw [n19] at hj; rw [FRM_gi hF4 (a := 20) (r := 14) rfl rfl, FRM_gi hF4 (a := 21) (r := 15) rfl rfl]; exact hml j hj) (fun m hm => by rw [n94] at hm; rw [FRM_gi hF4 (a := 22) (r := 16) rfl rfl]; exact hea m hm))) ?_
      rw [n94, n19]
      rintro v454 h454 ⟨rfl, hG454, hF454, hS454⟩
      refine x_iadd 48 hK rfl rfl ?_
      refine x_istore_n 49 hK rfl rfl _ rfl ?_
      refine x_iinc 52 hK rfl rfl (lk1_n l4 (by decide) (Or.inl rfl)) _ rfl ?_
      refine x_goto 36 hK rfl rfl ?_
      exact ih _ (by omega) (c + (stU (gi h 0 9) ea (stI ml ln (gi h 19 0).toNat (gi h 0 9) ea i.toNat w))) (i + 1) _ _ rfl (n0) (by omega) (by rw [ce, tn_s i0.1]; rfl) (by rw [tn_s i0.1]; exact hS454) (by rw [tn_s i0.1]; show (stI ml ln (gi h 19 0).toNat (gi h 0 9) ea i.toNat w).2.2.1 + stH ml ln (gi h 19 0).toNat (stI ml ln (gi h 19 0).toNat (gi h 0 9) ea i.toNat w) = w.2.2.1 + ((sHs ml ln (gi h 19 0).toNat (gi h 0 9) ea i.toNat w) + stH ml ln (gi h 19 0).toNat (stI ml ln (gi h 19 0).toNat (gi h 0 9) ea i.toNat w)); omega) ((PL_F hF454 rfl).trans pl) (lk1_n (lk1_n l0 (by decide) (Or.inl rfl)) (by decide) (Or.inl rfl)) (lk1_n (lk1_n l1 (by decide) (Or.inl rfl)) (by decide) (Or.inl rfl)) (lk1_n (lk1_n l2 (by decide) (Or.inl rfl)) (by decide) (Or.inl rfl)) (lk1_n lk1_s (by decide) (Or.inl rfl)) lk1_s (hG454) ((hF4).trans ((hF454).mono rfl))
  refine x_iload_n 1 hK rfl rfl rfl ?_
  refine x_if_lt 10 4 hK rfl rfl rfl (by omega) (fun c2 => ?_) (fun c2 => ?_)
  · refine x_iconst 11 hK rfl rfl ?_
    exact x_iret hK rfl ⟨Or.inl ⟨by omega, rfl, rfl⟩, hG, FRM.rf⟩
  · refine x_iload_n 5 hK rfl rfl rfl ?_
    refine x_bipush 7 hK rfl rfl rfl ?_
    refine x_if_icmp_le 12 10 hK rfl rfl rfl (by omega) (by omega) (fun c7 => ?_) (fun c7 => ?_)
    · refine x_aload_n 13 hK rfl rfl rfl ?_
      refine x_getR 16 hK rfl rfl (sp_0 (h := h) hG) (rf_0_12 (h := h) hG) ?_
      refine x_aload_n 17 hK rfl rfl rfl ?_
      refine x_getR 20 hK rfl rfl (sp_0 (h := h) hG) (rf_0_10 (h := h) hG) ?_
      refine x_callV 23 hK hmono rfl rfl [.ref 33, .ref 23] [] rfl rfl (Nat.le_of_ble_eq_true rfl) (Nat.le_of_ble_eq_true rfl) rfl (sp_33 (h := h) hG) (CLd_le (Nat.le_of_ble_eq_true rfl) (ctX1_remember_23 hSP hG (show PT h from hP))) ?_
      rintro v455 h455 ⟨rfl, hG455, hF455, pl455⟩
      have eS455 : kS h455 23 = kS h 23 := kS23_F hF455 (by decide)
      have hS455 : STR (gi h 0 9) (kS h455 23) w := by rw [eS455]; exact hS
      have n9455 : gi h455 0 9 = gi h 0 9 := FRM_gi hF455 (r := 0) rfl (by decide)
      refine x_aload_n 24 hK rfl rfl rfl ?_
      refine x_getR 27 hK rfl rfl (sp_0 (h := h455) hG455) (rf_0_10 (h := h455) hG455) ?_
      have g456 := gi_r h 23 2
      refine x_getE 30 hK rfl (Or.inl rfl) rfl (sp_23 (h := h455) hG455) (e := (gi h 23 2)) (FRM_gi hF455 (r := 17) rfl rfl) ?_
      refine x_istore_n 31 hK rfl rfl [(2, .int (I (gi h 23 2))), (0, .ref 0), (1, .int (I n))] rfl ?_
      refine x_iconst 32 hK rfl rfl ?_
      refine x_istore_n 33 hK rfl rfl [(3, .int (I 0)), (2, .int (I (gi h 23 2))), (0, .ref 0), (1, .int (I n))] rfl ?_
      refine x_iconst 34 hK rfl rfl ?_
      refine x_istore 36 hK rfl rfl [(4, .int (I 0)), (3, .int (I 0)), (2, .int (I (gi h 23 2))), (0, .ref 0), (1, .int (I n))] rfl ?_
      exact loop _ 0 0 _ _ rfl (⟨by omega, by omega⟩) (by omega) (rfl) (hS455) ((Int.add_zero _).symm) (pl455) rfl rfl rfl rfl rfl (hG455) ((hF455).mono rfl)
    · refine x_iconst 11 hK rfl rfl ?_
      exact x_iret hK rfl ⟨Or.inl ⟨by omega, rfl, rfl⟩, hG, FRM.rf⟩
end
section
/-! A VOYAGE OF THE CLASS -/
theorem act_l (s : Int) : fidx s actJ 0 = if s = 60 then 0 else if s = 61 then 1 else if s = 62 then 2 else if s = 112 then 3 else if 49 ≤ s ∧ s ≤ 57 then s - 45 else -1 := by
  by_cases c : 49 ≤ s ∧ s ≤ 57
  · rw [if_neg (by omega), if_neg (by omega), if_neg (by omega), if_neg (by omega), if_pos c]
    obtain ⟨n, hn, rfl⟩ : ∃ n : Nat, n < 9 ∧ s = 49 + (n : Int) := ⟨(s - 49).toNat, by omega, by omega⟩
    have : ∀ n : Nat, n < 9 → fidx (49 + (n : Int)) actJ 0 = 49 + (n : Int) - 45 := by decide
    exact this n hn
  · by_cases d : s = 60 ∨ s = 61 ∨ s = 62 ∨ s = 112
    · rcases d with rfl | rfl | rfl | rfl <;> decide
    · rw [if_neg (by omega), if_neg (by omega), if_neg (by omega), if_neg (by omega), if_neg c]
      refine fidx_e _ _ fun d hd => ?_
      have : ∀ d ∈ actJ, d.toInt = 60 ∨ d.toInt = 61 ∨ d.toInt = 62 ∨ d.toInt = 112 ∨ (49 ≤ d.toInt ∧ d.toInt ≤ 57) := by decide
      have := this d hd
      omega
theorem act_o {f : Int → Int} {p : Int} (h : 60 ≤ f p ∧ f p ≤ 62) : rdAct f p = ((true, p + 1), 0, f p - 61) := by
  have e : fidx (f p) actJ 0 = f p - 60 := by
    rw [act_l]
    by_cases a : f p = 60
    · rw [if_pos a]; omega
    · by_cases b : f p = 61
      · rw [if_neg a, if_pos b]; omega
      · rw [if_neg a, if_neg b, if_pos (by omega)]; omega
  unfold rdAct
  rw [e, if_neg (by omega), if_pos (by omega), show f p - 60 - 1 = f p - 61 by omega]
theorem act_d {f : Int → Int} {p : Int} (h : 49 ≤ f p ∧ f p ≤ 57) : rdAct f p = ((true, p + 1), 2, f p - 48) := by
  have e : fidx (f p) actJ 0 = f p - 45 := by rw [act_l, if_neg (by omega), if_neg (by omega), if_neg (by omega), if_neg (by omega), if_pos h]
  unfold rdAct
  rw [e, if_neg (by omega), if_neg (by omega), if_neg (by omega), show f p - 45 - 3 = f p - 48 by omega]
theorem act_p {f : Int → Int} {p : Int} (h : f p = 112) : rdAct f p = ((decide (0 ≤ (nmF f 1 (p + 1)).1), (nmF f 1 (p + 1)).2), 1, (nmF f 1 (p + 1)).1) := by
  have e : fidx (f p) actJ 0 = 3 := by rw [act_l, if_neg (by omega), if_neg (by omega), if_neg (by omega), if_pos h]
  unfold rdAct
  rw [e, if_neg (by omega), if_neg (by omega), if_pos rfl]
theorem act_n {f : Int → Int} {p : Int} (h : ¬ (60 ≤ f p ∧ f p ≤ 62)) (h1 : f p ≠ 112) (h2 : ¬ (49 ≤ f p ∧ f p ≤ 57)) : rdAct f p = ((false, p), 0, 0) := by
  have e : fidx (f p) actJ 0 = -1 := by rw [act_l, if_neg (by omega), if_neg (by omega), if_neg (by omega), if_neg h1, if_neg h2]
  unfold rdAct
  rw [e, if_pos (by omega)]
theorem rdAs_s (f : Int → Int) (stop : Int) (n : Nat) (p : Int) : rdAs f stop (n + 1) p = if stop ≤ p then ((true, p), []) else if (rdAct f p).1.1 = true then ((rdAs f stop n (rdAct f p).1.2).1, (rdAct f p).2 :: (rdAs f stop n (rdAct f p).1.2).2) else ((false, (rdAct f p).1.2), []) := rfl
theorem nm1_y {f : Int → Int} {p : Int} (h : 48 ≤ f p ∧ f p ≤ 57) : nmF f 1 p = (f p - 48, p + 1) := by
  have e : tkv f 1 p 0 = (0 * 10 + f p - 48, p + 1) := by
    rw [tkv_step h]
    rfl
  unfold nmF
  rw [e, if_neg (by show ¬ p + 1 = p; omega), show 0 * 10 + f p - 48 = f p - 48 by omega]
theorem nm1_n {f : Int → Int} {p : Int} (h : ¬ (48 ≤ f p ∧ f p ≤ 57)) : nmF f 1 p = (-1, p) := by
  have e : tkv f 1 p 0 = (0, p) := by
    show (if 48 ≤ f p ∧ f p ≤ 57 then tkv f 0 (p + 1) (0 * 10 + f p - 48) else (0, p)) = (0, p)
    rw [if_neg h]
  unfold nmF
  rw [e, if_pos rfl]
set_option maxRecDepth 4000 in
theorem ctX10_voyageFaultF {SP : CT} (hSP : MONO SP) {sh : List (Nat × Nat)} {h : aH} (hG : GD gE gRL sh h) {n : Int} (h12 : gi h 1 2 = 0) (h13 : gi h 1 3 = min n 60) (h14 : gi h 1 4 = if 60 < n then 1 else 0) (hn : 0 ≤ n ∧ n ≤ 80) : CLd SP 3 mX10_voyageFault [.ref 0] h 0 0 (fun rv h' => rv = some (.int (I (cfl n 60 (rdAs (fx h) (min n 60) 60 0).1))) ∧ GD gE gRL sh h' ∧ FRM gRL [(0, 1, 2, 2)] h h') := by
  refine x_met _ rfl (Nat.le_of_ble_eq_true rfl) (fun K hK => ?_)
  have hmono := MONO_CLd hSP 2
  have fe0 : ∀ a, min n 60 ≤ a → fx h a = -1 := fun a ha => fx_end h a (by rw [h13]; exact ha)
  obtain ⟨RR, hRR⟩ : ∃ RR, (rdAs (fx h) (min n 60) 60 0) = RR := ⟨_, rfl⟩
  rw [hRR] at hK
  have loop : ∀ (mz : Nat) (i p : Int) (h4 : aH) (ls : List (Nat × Value)), ((60 - i).toNat = mz) → (0 ≤ i ∧ i ≤ 60) → (i ≤ p ∧ p ≤ min n 60) → (gi h4 1 2 = p) → (RR.1 = (rdAs (fx h) (min n 60) (60 - i).toNat p).1) → lk ls 0 = some (.ref 0) → lk ls 1 = some (.int (I i)) → GD gE gRL sh h4 → FRM gRL [(0, 1, 2, 2)] h h4 → K 2 ls [] h4 0 0 := by
    intro mz
    induction mz using Nat.strongRecOn with
    | ind mz ih =>
    intro i p h4 ls hm i0 pi d2 e1 l0 l1 hG4 hF4
    have s3 : gi h4 1 3 = min n 60 := (FRM_gi hF4 (r := 1) rfl rfl).trans h13
    have s4 : gi h4 1 4 = (if 60 < n then (1 : Int) else 0) := (FRM_gi hF4 (r := 1) rfl rfl).trans h14
    have sF : fx h4 = fx h := fx_F hF4 rfl rfl
    have un : i < 60 → ¬ min n 60 ≤ p → RR.1 = if (rdAct (fx h) p).1.1 = true then (rdAs (fx h) (min n 60) (60 - (i + 1)).toNat (rdAct (fx h) p).1.2).1 else (false, (rdAct (fx h) p).1.2) := fun z y => by
      rw [e1, show (60 - i).toNat = (60 - (i + 1)).toNat + 1 by omega, rdAs_s, if_neg y]
      split <;> rfl
    refine x_iload_n 3 hK rfl rfl l1 ?_
    refine x_bipush 5 hK rfl rfl rfl ?_
    refine x_if_icmp_ge 128 8 hK rfl rfl rfl (by omega) (by omega) (fun c3 => ?_) (fun c3 => ?_)
    · refine x_aload_n 129 hK rfl rfl l0 ?_
      refine x_getR 132 hK rfl rfl (sp_0 (h := h4) hG4) (rf_0_0 (h := h4) hG4) ?_
      have to457 : gi h4 1 3 = (min n 60) := s3
      have mo457 : gi h4 1 4 = (if 60 < n then (1 : Int) else 0) := s4
      refine x_callV 135 hK hmono rfl rfl [.ref 1] [] rfl rfl (Nat.le_of_ble_eq_true rfl) (Nat.le_of_ble_eq_true rfl) rfl (sp_1 (h := h4) hG4) (CLd_le (Nat.le_of_ble_eq_true rfl) (ctX9_faultAtEnd hSP hG4)) ?_
      rw [to457, mo457]
      rintro v9 h9 ⟨e9, rfl⟩
      rw [e9]
      clear e9
      have er : RR.1 = (true, p) := by
        rw [e1]
        by_cases z : (60 - i).toNat = 0
        · rw [z]; rfl
        · obtain ⟨k, hk⟩ : ∃ k, (60 - i).toNat = k + 1 := ⟨(60 - i).toNat - 1, by omega⟩
          rw [hk, rdAs_s, if_pos (by omega)]
      have e9 : cfl n 60 RR.1 = (if (if 60 < n then (1 : Int) else 0) = 1 then (min n 60) else -1) := by
        rw [er]
        unfold cfl
        refine (if_pos ⟨rfl, by show p = min n 60; omega⟩).trans ?_
        by_cases z : 60 < n
        · rw [if_pos z, if_pos z, if_pos rfl]
        · rw [if_neg z, if_neg z, if_neg (by decide)]
      exact x_iret hK rfl ⟨by rw [e9], hG4, hF4⟩
    · refine x_aload_n 9 hK rfl rfl l0 ?_
      refine x_getR 12 hK rfl rfl (sp_0 (h := h4) hG4) (rf_0_0 (h := h4) hG4) ?_
      have at458 : gi h4 1 2 = p := d2
      have to458 : gi h4 1 3 = (min n 60) := s3
      refine x_callV 15 hK hmono rfl rfl [.ref 1] [] rfl rfl (Nat.le_of_ble_eq_true rfl) (Nat.le_of_ble_eq_true rfl) rfl (sp_1 (h := h4) hG4) (CLd_le (Nat.le_of_ble_eq_true rfl) (ctX9_ended hSP hG4)) ?_
      rw [at458, to458]
      rintro v9 h9 ⟨e9, ⟨rfl, en458⟩ | ⟨rfl, en458⟩⟩ <;> rw [e9] <;> clear e9
      · refine x_if_ne 128 18 hK rfl rfl rfl (by omega) (fun _ => ?_) (fun c => by omega)
        refine x_aload_n 129 hK rfl rfl l0 ?_
        refine x_getR 132 hK rfl rfl (sp_0 (h := h4) hG4) (rf_0_0 (h := h4) hG4) ?_
        have to459 : gi h4 1 3 = (min n 60) := s3
        have mo459 : gi h4 1 4 = (if 60 < n then (1 : Int) else 0) := s4
        refine x_callV 135 hK hmono rfl rfl [.ref 1] [] rfl rfl (Nat.le_of_ble_eq_true rfl) (Nat.le_of_ble_eq_true rfl) rfl (sp_1 (h := h4) hG4) (CLd_le (Nat.le_of_ble_eq_true rfl) (ctX9_faultAtEnd hSP hG4)) ?_
        rw [to459, mo459]
        rintro v9 h9 ⟨e9, rfl⟩
        rw [e9]
        clear e9
        have er : RR.1 = (true, p) := by
          rw [e1]
          by_cases z : (60 - i).toNat = 0
          · rw [z]; rfl
          · obtain ⟨k, hk⟩ : ∃ k, (60 - i).toNat = k + 1 := ⟨(60 - i).toNat - 1, by omega⟩
            rw [hk, rdAs_s, if_pos (by omega)]
        have e9 : cfl n 60 RR.1 = (if (if 60 < n then (1 : Int) else 0) = 1 then (min n 60) else -1) := by
          rw [er]
          unfold cfl
          refine (if_pos ⟨rfl, by show p = min n 60; omega⟩).trans ?_
          by_cases z : 60 < n
          · rw [if_pos z, if_pos z, if_pos rfl]
          · rw [if_neg z, if_neg z, if_neg (by decide)]
        exact x_iret hK rfl ⟨by rw [e9], hG4, hF4⟩
      · refine x_if_ne 128 18 hK rfl rfl rfl (by omega) (fun c => by omega) (fun _ => ?_)
        refine x_aload_n 19 hK rfl rfl l0 ?_
        refine x_getR 22 hK rfl rfl (sp_0 (h := h4) hG4) (rf_0_0 (h := h4) hG4) ?_
        have at460 : gi h4 1 2 = p := d2
        have fe460 : fx h4 = (fx h) := fx_F hF4 rfl rfl
        refine x_callV 25 hK hmono rfl rfl [.ref 1] [] rfl rfl (Nat.le_of_ble_eq_true rfl) (Nat.le_of_ble_eq_true rfl) rfl (sp_1 (h := h4) hG4) (CLd_le (Nat.le_of_ble_eq_true rfl) (ctX9_next hSP hG4)) ?_
        rw [fe460, at460]
        rintro v9 h9 ⟨e9, rfl⟩
        rw [e9]
        clear e9
        have fr460 := fx_r hG p
        refine x_istore_n 26 hK rfl rfl _ rfl ?_
        refine x_aload_n 27 hK rfl rfl (lk1_n l0 (by decide) (Or.inl rfl)) ?_
        refine x_getR 30 hK rfl rfl (sp_0 (h := h4) hG4) (rf_0_0 (h := h4) hG4) ?_
        refine x_dup 31 hK rfl rfl rfl ?_
        refine x_getE 34 hK rfl (Or.inl rfl) rfl (sp_1 (h := h4) hG4) (e := p) (d2) ?_
        refine x_iconst 35 hK rfl rfl ?_
        refine x_iadd 36 hK rfl rfl ?_
        refine x_putI 39 hK rfl rfl (sp_1 (h := h4) hG4) ?_
        refine x_iload_n 40 hK rfl rfl lk1_s ?_
        refine x_bipush 42 hK rfl rfl rfl ?_
        refine x_if_icmp_ne 82 45 hK rfl rfl rfl (by omega) (by omega) (fun c30 => ?_) (fun c30 => ?_)
        · refine x_iload_n 83 hK rfl rfl lk1_s ?_
          refine x_bipush 85 hK rfl rfl rfl ?_
          refine x_if_icmp_eq 122 88 hK rfl rfl rfl (by omega) (by omega) (fun c33 => ?_) (fun c33 => ?_)
          · refine x_iinc 125 hK rfl rfl (lk1_n l1 (by decide) (Or.inl rfl)) _ rfl ?_
            refine x_goto 2 hK rfl rfl ?_
            obtain ⟨y, ea⟩ : ∃ y, rdAct (fx h) p = ((true, p + 1), y) := by
              by_cases z : 60 ≤ fx h p ∧ fx h p ≤ 62
              · exact ⟨_, act_o z⟩
              · exact ⟨_, act_d (by omega)⟩
            have er := un (by omega) (by omega)
            rw [ea, if_pos (by rfl)] at er
            exact ih _ (by omega) (i + 1) (p + 1) _ _ rfl (by omega) (⟨by omega, by omega⟩) (gi_same (by omega)) (er) (lk1_n (lk1_n l0 (by decide) (Or.inl rfl)) (by decide) (Or.inl rfl)) lk1_s (GD_w0 (hG4) (r := 1) rfl rfl) (FRM_w (hF4) (r := 1) rfl rfl)
          · refine x_iload_n 89 hK rfl rfl lk1_s ?_
            refine x_bipush 91 hK rfl rfl rfl ?_
            refine x_if_icmp_eq 122 94 hK rfl rfl rfl (by omega) (by omega) (fun c39 => ?_) (fun c39 => ?_)
            · refine x_iinc 125 hK rfl rfl (lk1_n l1 (by decide) (Or.inl rfl)) _ rfl ?_
              refine x_goto 2 hK rfl rfl ?_
              obtain ⟨y, ea⟩ : ∃ y, rdAct (fx h) p = ((true, p + 1), y) := by
                by_cases z : 60 ≤ fx h p ∧ fx h p ≤ 62
                · exact ⟨_, act_o z⟩
                · exact ⟨_, act_d (by omega)⟩
              have er := un (by omega) (by omega)
              rw [ea, if_pos (by rfl)] at er
              exact ih _ (by omega) (i + 1) (p + 1) _ _ rfl (by omega) (⟨by omega, by omega⟩) (gi_same (by omega)) (er) (lk1_n (lk1_n l0 (by decide) (Or.inl rfl)) (by decide) (Or.inl rfl)) lk1_s (GD_w0 (hG4) (r := 1) rfl rfl) (FRM_w (hF4) (r := 1) rfl rfl)
            · refine x_iload_n 95 hK rfl rfl lk1_s ?_
              refine x_bipush 97 hK rfl rfl rfl ?_
              refine x_if_icmp_eq 122 100 hK rfl rfl rfl (by omega) (by omega) (fun c45 => ?_) (fun c45 => ?_)
              · refine x_iinc 125 hK rfl rfl (lk1_n l1 (by decide) (Or.inl rfl)) _ rfl ?_
                refine x_goto 2 hK rfl rfl ?_
                obtain ⟨y, ea⟩ : ∃ y, rdAct (fx h) p = ((true, p + 1), y) := by
                  by_cases z : 60 ≤ fx h p ∧ fx h p ≤ 62
                  · exact ⟨_, act_o z⟩
                  · exact ⟨_, act_d (by omega)⟩
                have er := un (by omega) (by omega)
                rw [ea, if_pos (by rfl)] at er
                exact ih _ (by omega) (i + 1) (p + 1) _ _ rfl (by omega) (⟨by omega, by omega⟩) (gi_same (by omega)) (er) (lk1_n (lk1_n l0 (by decide) (Or.inl rfl)) (by decide) (Or.inl rfl)) lk1_s (GD_w0 (hG4) (r := 1) rfl rfl) (FRM_w (hF4) (r := 1) rfl rfl)
              · refine x_iload_n 101 hK rfl rfl lk1_s ?_
                refine x_bipush 103 hK rfl rfl rfl ?_
                refine x_if_icmp_lt 112 106 hK rfl rfl rfl (by omega) (by omega) (fun c51 => ?_) (fun c51 => ?_)
                · refine x_aload_n 113 hK rfl rfl (lk1_n l0 (by decide) (Or.inl rfl)) ?_
                  refine x_getR 116 hK rfl rfl (sp_0 (h := h4) hG4) (rf_0_0 (h := h4) hG4) ?_
                  refine x_getE 119 hK rfl (Or.inl rfl) rfl (sp_1 (h := h4) hG4) (e := (p + 1)) (gi_same (by omega)) ?_
                  refine x_iconst 120 hK rfl rfl ?_
                  refine x_isub 121 hK rfl rfl ?_
                  have ea := act_n (f := fx h) (p := p) (by omega) (by omega) (by omega)
                  have er := un (by omega) (by omega)
                  rw [ea, if_neg (by show ¬ false = true; decide)] at er
                  have e9 : cfl n 60 RR.1 = ((p + 1) - 1) := by rw [er]; exact (if_neg (fun z => Bool.noConfusion z.1)).trans (by show p = _; omega)
                  exact x_iret hK rfl ⟨by rw [e9], GD_w0 (hG4) (r := 1) rfl rfl, FRM_w (hF4) (r := 1) rfl rfl⟩
                · refine x_iload_n 107 hK rfl rfl lk1_s ?_
                  refine x_bipush 109 hK rfl rfl rfl ?_
                  refine x_if_icmp_le 122 112 hK rfl rfl rfl (by omega) (by omega) (fun c60 => ?_) (fun c60 => ?_)
                  · refine x_iinc 125 hK rfl rfl (lk1_n l1 (by decide) (Or.inl rfl)) _ rfl ?_
                    refine x_goto 2 hK rfl rfl ?_
                    obtain ⟨y, ea⟩ : ∃ y, rdAct (fx h) p = ((true, p + 1), y) := by
                      by_cases z : 60 ≤ fx h p ∧ fx h p ≤ 62
                      · exact ⟨_, act_o z⟩
                      · exact ⟨_, act_d (by omega)⟩
                    have er := un (by omega) (by omega)
                    rw [ea, if_pos (by rfl)] at er
                    exact ih _ (by omega) (i + 1) (p + 1) _ _ rfl (by omega) (⟨by omega, by omega⟩) (gi_same (by omega)) (er) (lk1_n (lk1_n l0 (by decide) (Or.inl rfl)) (by decide) (Or.inl rfl)) lk1_s (GD_w0 (hG4) (r := 1) rfl rfl) (FRM_w (hF4) (r := 1) rfl rfl)
                  · refine x_aload_n 113 hK rfl rfl (lk1_n l0 (by decide) (Or.inl rfl)) ?_
                    refine x_getR 116 hK rfl rfl (sp_0 (h := h4) hG4) (rf_0_0 (h := h4) hG4) ?_
                    refine x_getE 119 hK rfl (Or.inl rfl) rfl (sp_1 (h := h4) hG4) (e := (p + 1)) (gi_same (by omega)) ?_
                    refine x_iconst 120 hK rfl rfl ?_
                    refine x_isub 121 hK rfl rfl ?_
                    have ea := act_n (f := fx h) (p := p) (by omega) (by omega) (by omega)
                    have er := un (by omega) (by omega)
                    rw [ea, if_neg (by show ¬ false = true; decide)] at er
                    have e9 : cfl n 60 RR.1 = ((p + 1) - 1) := by rw [er]; exact (if_neg (fun z => Bool.noConfusion z.1)).trans (by show p = _; omega)
                    exact x_iret hK rfl ⟨by rw [e9], GD_w0 (hG4) (r := 1) rfl rfl, FRM_w (hF4) (r := 1) rfl rfl⟩
        · refine x_aload_n 46 hK rfl rfl (lk1_n l0 (by decide) (Or.inl rfl)) ?_
          refine x_getR 49 hK rfl rfl (sp_0 (h := h4) hG4) (rf_0_0 (h := h4) hG4) ?_
          have hGp461 : GD gE gRL sh (wI h4 1 2 (p + 1)) := GD_w0 (hG4) (r := 1) rfl rfl
          have at462 : gi (wI h4 1 2 (p + 1)) 1 2 = (p + 1) := gi_same (by omega)
          have fe462 : fx (wI h4 1 2 (p + 1)) = (fx h) := (fx_wI (by decide) (Or.inr (by decide))).trans (fx_F hF4 rfl rfl)
          refine x_callV 52 hK hmono rfl rfl [.ref 1] [] rfl rfl (Nat.le_of_ble_eq_true rfl) (Nat.le_of_ble_eq_true rfl) rfl (sp_1 (h := h4) hG4) (CLd_le (Nat.le_of_ble_eq_true rfl) (ctX9_next hSP hGp461)) ?_
          rw [fe462, at462]
          rintro v9 h9 ⟨e9, rfl⟩
          rw [e9]
          clear e9
          have fr462 := fx_r hG (p + 1)
          refine x_callS 55 hK hmono rfl (Or.inl rfl) rfl [.int (I ((fx h) (p + 1)))] [] rfl rfl (Nat.le_of_ble_eq_true rfl) (Nat.le_of_ble_eq_true rfl) (CLd_le (Nat.le_of_ble_eq_true rfl) (ctX10_isDigit hSP (by omega))) ?_
          rintro v9 h9 ⟨e9, ⟨rfl, i1, i2⟩ | ⟨rfl, i1⟩⟩ <;> rw [e9] <;> clear e9
          · refine x_if_ne 66 58 hK rfl rfl rfl (by omega) (fun _ => ?_) (fun c => by omega)
            refine x_aload_n 67 hK rfl rfl (lk1_n l0 (by decide) (Or.inl rfl)) ?_
            refine x_getR 70 hK rfl rfl (sp_0 (h := h4) hG4) (rf_0_0 (h := h4) hG4) ?_
            refine x_dup 71 hK rfl rfl rfl ?_
            refine x_getE 74 hK rfl (Or.inl rfl) rfl (sp_1 (h := h4) hG4) (e := (p + 1)) (gi_same (by omega)) ?_
            refine x_iconst 75 hK rfl rfl ?_
            refine x_iadd 76 hK rfl rfl ?_
            refine x_putI 79 hK rfl rfl (sp_1 (h := h4) hG4) ?_
            refine x_goto 122 hK rfl rfl ?_
            refine x_iinc 125 hK rfl rfl (lk1_n l1 (by decide) (Or.inl rfl)) _ rfl ?_
            refine x_goto 2 hK rfl rfl ?_
            have ea := act_p (f := fx h) (p := p) (by omega)
            rw [nm1_y ⟨i1, i2⟩] at ea
            have er := un (by omega) (by omega)
            rw [ea, if_pos (by show decide (0 ≤ fx h (p + 1) - 48) = true; exact decide_eq_true (by omega))] at er
            have p2 : p + 1 < min n 60 := by
              by_cases z : min n 60 ≤ p + 1
              · have := fe0 _ z; omega
              · omega
            exact ih _ (by omega) (i + 1) ((p + 1) + 1) _ _ rfl (by omega) (⟨by omega, by omega⟩) (gi_same (by omega)) (er) (lk1_n (lk1_n l0 (by decide) (Or.inl rfl)) (by decide) (Or.inl rfl)) lk1_s (GD_w0 (GD_w0 (hG4) (r := 1) rfl rfl) (r := 1) rfl rfl) (FRM_w (FRM_w (hF4) (r := 1) rfl rfl) (r := 1) rfl rfl)
          · refine x_if_ne 66 58 hK rfl rfl rfl (by omega) (fun c => by omega) (fun _ => ?_)
            refine x_aload_n 59 hK rfl rfl (lk1_n l0 (by decide) (Or.inl rfl)) ?_
            refine x_getR 62 hK rfl rfl (sp_0 (h := h4) hG4) (rf_0_0 (h := h4) hG4) ?_
            refine x_getE 65 hK rfl (Or.inl rfl) rfl (sp_1 (h := h4) hG4) (e := (p + 1)) (gi_same (by omega)) ?_
            have ea := act_p (f := fx h) (p := p) (by omega)
            rw [nm1_n i1] at ea
            have er := un (by omega) (by omega)
            rw [ea, if_neg (by show ¬ decide (0 ≤ (-1 : Int)) = true; decide)] at er
            have e9 : cfl n 60 RR.1 = p + 1 := by rw [er]; exact if_neg (fun z => Bool.noConfusion z.1)
            exact x_iret hK rfl ⟨by rw [e9], GD_w0 (hG4) (r := 1) rfl rfl, FRM_w (hF4) (r := 1) rfl rfl⟩
  refine x_iconst 1 hK rfl rfl ?_
  refine x_istore_n 2 hK rfl rfl [(1, .int (I 0)), (0, .ref 0)] rfl ?_
  exact loop _ 0 0 _ _ rfl (by omega) (⟨by omega, by omega⟩) (h12) (by rw [← hRR]; rfl) rfl rfl (hG) ((FRM.rf : FRM gRL [(0, 1, 2, 2)] h h))
set_option maxRecDepth 4000 in
theorem ctX10_doVoyageSignF {SP : CT} (hSP : MONO SP) {sh : List (Nat × Nat)} {h : aH} (hG : GD gE gRL sh h) {s u : Nat} (hP : PT h) (hX : XI h) (hD : DR h s u) {b : Int} {w : WS} (hS : STR (gi h 0 9) (kS h 23) w) (hw : WW b w) (hb : b ≤ 900000) {ml ln ea : Nat → Int} (hml : ∀ j : Nat, (j : Int) < gi h 19 0 → gi h 20 j = ml j ∧ gi h 21 j = ln j) (hea : ∀ m : Nat, (m : Int) < (gi h 0 9) → gi h 22 m = ea m ∧ 0 ≤ ea m ∧ ea m ≤ 9) {n p : Int} (h12 : gi h 1 2 = p) (h13 : gi h 1 3 = min n 60) (h14 : gi h 1 4 = if 60 < n then 1 else 0) (hn : 0 ≤ n ∧ n ≤ 80) (hp : 0 ≤ p ∧ p < min n 60) (hk : (rdAct (fx h) p).1.1 = true) : CLd SP 7 mX10_doVoyageSign [.ref 0] h 0 0 (fun rv h' => ((doR (gi h 0 9) (rdAct (fx h) p).2 w = true ∧ rv = some (.int (I 1)) ∧ STR (gi h 0 9) (kS h' 23) (doW (dlA h) (gi h 171 5) ml ln (gi h 19 0).toNat (gi h 0 9) ea (rdAct (fx h) p).2 w) ∧ gi h' 1 2 = (rdAct (fx h) p).1.2) ∨ (doR (gi h 0 9) (rdAct (fx h) p).2 w = false ∧ rv = some (.int (I 0)) ∧ STR (gi h 0 9) (kS h' 23) w)) ∧ GD gE gRL sh h' ∧ FRM gRL [(0, 1, 2, 2), (0, 1, 5, 5), (0, 8, 3, 3), (0, 10, 0, 39), (0, 17, 0, 4), (0, 18, 0, 11), (0, 19, 0, 11), (0, 20, 0, 7), (0, 21, 0, 7)] h h') := by
  refine x_met _ rfl (Nat.le_of_ble_eq_true rfl) (fun K hK => ?_)
  have hmono := MONO_CLd hSP 6
  have fe0 : ∀ a, min n 60 ≤ a → fx h a = -1 := fun a ha => fx_end h a (by rw [h13]; exact ha)
  have g9 := gri 0 8 hG (a := 0) (r := 0) (k := 9) rfl rfl
  have g19 := gri 0 16 hG (a := 19) (r := 13) (k := 0) rfl rfl
  have kk : (60 ≤ fx h p ∧ fx h p ≤ 62) ∨ fx h p = 112 ∨ (49 ≤ fx h p ∧ fx h p ≤ 57) := by
    by_cases z1 : 60 ≤ fx h p ∧ fx h p ≤ 62
    · exact Or.inl z1
    · by_cases z2 : fx h p = 112
      · exact Or.inr (Or.inl z2)
      · by_cases z3 : 49 ≤ fx h p ∧ fx h p ≤ 57
        · exact Or.inr (Or.inr z3)
        · rw [act_n z1 z2 z3] at hk; exact Bool.noConfusion hk
  have wwI := WW_stI (ml := ml) (ln := ln) (ea := ea) (nr := (gi h 19 0).toNat) (by omega) g9.2 (fun m hm => (hea m hm).2) hw
  have loop : ∀ (mz : Nat) (i : Int) (h4 : aH) (ls : List (Nat × Value)), ((fx h p - i).toNat = mz) → (49 ≤ fx h p ∧ fx h p ≤ 57) → (48 ≤ i ∧ i ≤ fx h p) → (gi h4 1 2 = p + 1) → (STR (gi h 0 9) (kS h4 23) (stI ml ln (gi h 19 0).toNat (gi h 0 9) ea (i - 48).toNat w)) → lk ls 0 = some (.ref 0) → lk ls 1 = some (.int (I (fx h p))) → lk ls 2 = some (.int (I i)) → GD gE gRL sh h4 → FRM gRL [(0, 1, 2, 2), (0, 17, 0, 4), (0, 18, 0, 11), (0, 19, 0, 11), (0, 20, 0, 7), (0, 21, 0, 7)] h h4 → K 67 ls [] h4 0 0 := by
    intro mz
    induction mz using Nat.strongRecOn with
    | ind mz ih =>
    intro i h4 ls hm kd i0 d2 hs l0 l1 l2 hG4 hF4
    have wi := wwI (i - 48).toNat
    have n94 : gi h4 0 9 = (gi h 0 9) := FRM_gi hF4 (r := 0) rfl rfl
    have n19 : gi h4 19 0 = gi h 19 0 := FRM_gi hF4 (r := 13) rfl rfl
    refine x_iload_n 68 hK rfl rfl l2 ?_
    refine x_iload_n 69 hK rfl rfl l1 ?_
    refine x_if_icmp_ge 83 72 hK rfl rfl rfl (by omega) (by omega) (fun c3 => ?_) (fun c3 => ?_)
    · refine x_iconst 84 hK rfl rfl ?_
      obtain ei : i = fx h p := by omega
      have ea9 := act_d kd
      rw [ea9] at hK
      exact x_zret hK rfl (by omega) ⟨Or.inl ⟨rfl, rfl, by rw [← ei]; exact hs, d2⟩, hG4, hF4.mono rfl⟩
    · refine x_aload_n 73 hK rfl rfl l0 ?_
      refine x_callV 76 hK hmono rfl rfl [.ref 0] [] rfl rfl (Nat.le_of_ble_eq_true rfl) (Nat.le_of_ble_eq_true rfl) rfl (sp_0 (h := h4) hG4) (CLd_le (Nat.le_of_ble_eq_true rfl) (ctX10_goStepF hSP hG4 (b := b + (i - 48).toNat) (w := (stI ml ln (gi h 19 0).toNat (gi h 0 9) ea (i - 48).toNat w)) (ml := ml) (ln := ln) (ea := ea) (by rw [n94]; exact hs) wi (by omega) (fun j hj => by rw [n19] at hj; rw [FRM_gi hF4 (a := 20) (r := 14) rfl rfl, FRM_gi hF4 (a := 21) (r := 15) rfl rfl]; exact hml j hj) (fun m hm => by rw [n94] at hm; rw [FRM_gi hF4 (a := 22) (r := 16) rfl rfl]; exact hea m hm))) ?_
      rw [n94, n19]
      rintro v463 h463 ⟨rfl, hG463, hF463, hS463⟩
      refine x_pop 77 hK rfl rfl rfl ?_
      refine x_iinc 80 hK rfl rfl l2 _ rfl ?_
      refine x_goto 67 hK rfl rfl ?_
      exact ih _ (by omega) (i + 1) _ _ rfl (kd) (by omega) ((FRM_gi hF463 (r := 1) rfl rfl).trans d2) (by rw [show (i + 1 - 48).toNat = (i - 48).toNat + 1 by omega]; exact hS463) (lk1_n l0 (by decide) (Or.inl rfl)) (lk1_n l1 (by decide) (Or.inl rfl)) lk1_s (hG463) ((hF4).trans ((hF463).mono rfl))
  refine x_aload_n 1 hK rfl rfl rfl ?_
  refine x_getR 4 hK rfl rfl (sp_0 (h := h) hG) (rf_0_0 (h := h) hG) ?_
  have at464 : gi h 1 2 = p := h12
  have fe464 : fx h = (fx h) := rfl
  refine x_callV 7 hK hmono rfl rfl [.ref 1] [] rfl rfl (Nat.le_of_ble_eq_true rfl) (Nat.le_of_ble_eq_true rfl) rfl (sp_1 (h := h) hG) (CLd_le (Nat.le_of_ble_eq_true rfl) (ctX9_next hSP hG)) ?_
  rw [fe464, at464]
  rintro v9 h9 ⟨e9, rfl⟩
  rw [e9]
  clear e9
  have fr464 := fx_r hG p
  refine x_istore_n 8 hK rfl rfl [(1, .int (I ((fx h) p))), (0, .ref 0)] rfl ?_
  refine x_aload_n 9 hK rfl rfl rfl ?_
  refine x_getR 12 hK rfl rfl (sp_0 (h := h) hG) (rf_0_0 (h := h) hG) ?_
  refine x_dup 13 hK rfl rfl rfl ?_
  refine x_getE 16 hK rfl (Or.inl rfl) rfl (sp_1 (h := h) hG) (e := p) (h12) ?_
  refine x_iconst 17 hK rfl rfl ?_
  refine x_iadd 18 hK rfl rfl ?_
  refine x_putI 21 hK rfl rfl (sp_1 (h := h) hG) ?_
  refine x_iload_n 22 hK rfl rfl rfl ?_
  refine x_bipush 24 hK rfl rfl rfl ?_
  refine x_if_icmp_ne 57 27 hK rfl rfl rfl (by omega) (by omega) (fun c14 => ?_) (fun c14 => ?_)
  · refine x_iload_n 58 hK rfl rfl rfl ?_
    refine x_callS 61 hK hmono rfl (Or.inl rfl) rfl [.int (I ((fx h) p))] [] rfl rfl (Nat.le_of_ble_eq_true rfl) (Nat.le_of_ble_eq_true rfl) (CLd_le (Nat.le_of_ble_eq_true rfl) (ctX10_isDigit hSP (by omega))) ?_
    rintro v9 h9 ⟨e9, ⟨rfl, i1, i2⟩ | ⟨rfl, i1⟩⟩ <;> rw [e9] <;> clear e9
    · refine x_if_eq 85 64 hK rfl rfl rfl (by omega) (fun c => by omega) (fun _ => ?_)
      refine x_bipush 66 hK rfl rfl rfl ?_
      refine x_istore_n 67 hK rfl rfl [(2, .int (I 48)), (1, .int (I ((fx h) p))), (0, .ref 0)] rfl ?_
      have hFx465 : FRM gRL [(0, 1, 2, 2), (0, 1, 5, 5)] h (wI h 1 2 (p + 1)) := FRM_w ((FRM.rf : FRM gRL [(0, 1, 2, 2), (0, 1, 5, 5)] h h)) (r := 1) rfl rfl
      have hSx465 : STR (gi h 0 9) (kS (wI h 1 2 (p + 1)) 23) w := by rw [kS23_F hFx465 (by decide)]; exact hS
      have n9465 : gi (wI h 1 2 (p + 1)) 0 9 = (gi h 0 9) := FRM_gi hFx465 (r := 0) rfl rfl
      exact loop _ 48 _ _ rfl (by omega) (by omega) (gi_same (by omega)) (hSx465) rfl rfl rfl (GD_w0 (hG) (r := 1) rfl rfl) (FRM_w ((FRM.rf : FRM gRL [(0, 1, 2, 2), (0, 17, 0, 4), (0, 18, 0, 11), (0, 19, 0, 11), (0, 20, 0, 7), (0, 21, 0, 7)] h h)) (r := 1) rfl rfl)
    · refine x_if_eq 85 64 hK rfl rfl rfl (by omega) (fun _ => ?_) (fun c => by omega)
      refine x_aload_n 86 hK rfl rfl rfl ?_
      have hGp466 : GD gE gRL sh (wI h 1 2 (p + 1)) := GD_w0 (hG) (r := 1) rfl rfl
      have hFx467 : FRM gRL [(0, 1, 2, 2), (0, 1, 5, 5)] h (wI h 1 2 (p + 1)) := FRM_w ((FRM.rf : FRM gRL [(0, 1, 2, 2), (0, 1, 5, 5)] h h)) (r := 1) rfl rfl
      have hSx467 : STR (gi h 0 9) (kS (wI h 1 2 (p + 1)) 23) w := by rw [kS23_F hFx467 (by decide)]; exact hS
      have n9467 : gi (wI h 1 2 (p + 1)) 0 9 = (gi h 0 9) := FRM_gi hFx467 (r := 0) rfl rfl
      refine x_callV 89 hK hmono rfl rfl [.ref 0] [] rfl rfl (Nat.le_of_ble_eq_true rfl) (Nat.le_of_ble_eq_true rfl) rfl (sp_0 (h := h) hG) (CLd_le (Nat.le_of_ble_eq_true rfl) (ctX10_orderRefusalF hSP hGp466 hSx467)) ?_
      rintro v9 h9 ⟨e9, rfl⟩
      rw [e9]
      clear e9
      have gb : -3 ≤ gvR 0 w ∧ gvR 0 w ≤ 0 := by unfold gvR; (repeat' split) <;> omega
      refine x_if_eq 94 92 hK rfl rfl rfl (by omega) (fun c24 => ?_) (fun c24 => ?_)
      · refine x_aload_n 95 hK rfl rfl rfl ?_
        refine x_iload_n 96 hK rfl rfl rfl ?_
        refine x_bipush 98 hK rfl rfl rfl ?_
        refine x_isub 99 hK rfl rfl ?_
        have hGp468 : GD gE gRL sh (wI h 1 2 (p + 1)) := GD_w0 (hG) (r := 1) rfl rfl
        have hFx469 : FRM gRL [(0, 1, 2, 2), (0, 1, 5, 5)] h (wI h 1 2 (p + 1)) := FRM_w ((FRM.rf : FRM gRL [(0, 1, 2, 2), (0, 1, 5, 5)] h h)) (r := 1) rfl rfl
        have hSx469 : STR (gi h 0 9) (kS (wI h 1 2 (p + 1)) 23) w := by rw [kS23_F hFx469 (by decide)]; exact hS
        have n9469 : gi (wI h 1 2 (p + 1)) 0 9 = (gi h 0 9) := FRM_gi hFx469 (r := 0) rfl rfl
        have dl470 : dlA (wI h 1 2 (p + 1)) w.1 = dlA h w.1 := dlA_F hFx469 rfl _
        have l5470 : gi (wI h 1 2 (p + 1)) 171 5 = gi h 171 5 := FRM_gi hFx469 (r := 54) rfl rfl
        refine x_callV 102 hK hmono rfl rfl [.ref 0, .int (I (((fx h) p) - 61))] [] rfl rfl (Nat.le_of_ble_eq_true rfl) (Nat.le_of_ble_eq_true rfl) rfl (sp_0 (h := h) hG) (CLd_le (Nat.le_of_ble_eq_true rfl) (ctX10_giveOrderF hSP hGp468 (show PT (wI h 1 2 (p + 1)) from PT_F hFx469 (by decide) hP) (show XI (wI h 1 2 (p + 1)) from (xOk_ok rfl h (wI h 1 2 (p + 1)) (FRM_w ((FRM.rf : FRM gRL [(0, 1, 2, 2)] h h)) (r := 1) rfl rfl) hX)) (DR_F hFx469 rfl hD) (w := w) (b := b) (by rw [n9469]; exact hSx469) hw (by omega) (v := (((fx h) p) - 61)) (by omega) (by omega))) ?_
        rw [dl470, l5470, n9469]
        rintro v470 h470 ⟨rfl, hG470, hF470, hS470⟩
        have db := dlA_b h w.1
        refine x_pop 103 hK rfl rfl rfl ?_
        refine x_iconst 104 hK rfl rfl ?_
        have ea9 := act_o (f := fx h) (p := p) (by omega)
        have gi9 : gvR (fx h p - 61) w = gvR 0 w := gvR_in (by omega)
        rw [ea9] at hK
        exact x_zret hK rfl (by omega) ⟨Or.inl ⟨decide_eq_true (by show gvR (fx h p - 61) w = 0; omega), rfl, hS470, (FRM_gi hF470 (r := 1) rfl rfl).trans (gi_same (by omega))⟩, hG470, (FRM_w ((FRM.rf : FRM gRL [(0, 1, 2, 2), (0, 1, 5, 5), (0, 8, 3, 3), (0, 10, 0, 39), (0, 17, 0, 4), (0, 18, 0, 11), (0, 19, 0, 11), (0, 20, 0, 7), (0, 21, 0, 7)] h h)) (r := 1) rfl rfl).trans ((hF470).mono rfl)⟩
      · refine x_iconst 93 hK rfl rfl ?_
        have ea9 := act_o (f := fx h) (p := p) (by omega)
        have gi9 : gvR (fx h p - 61) w = gvR 0 w := gvR_in (by omega)
        rw [ea9] at hK
        have hFx471 : FRM gRL [(0, 1, 2, 2), (0, 1, 5, 5)] h (wI h 1 2 (p + 1)) := FRM_w ((FRM.rf : FRM gRL [(0, 1, 2, 2), (0, 1, 5, 5)] h h)) (r := 1) rfl rfl
        have hSx471 : STR (gi h 0 9) (kS (wI h 1 2 (p + 1)) 23) w := by rw [kS23_F hFx471 (by decide)]; exact hS
        have n9471 : gi (wI h 1 2 (p + 1)) 0 9 = (gi h 0 9) := FRM_gi hFx471 (r := 0) rfl rfl
        exact x_zret hK rfl (by omega) ⟨Or.inr ⟨decide_eq_false (by show ¬ gvR (fx h p - 61) w = 0; omega), rfl, hSx471⟩, GD_w0 (hG) (r := 1) rfl rfl, FRM_w ((FRM.rf : FRM gRL [(0, 1, 2, 2), (0, 1, 5, 5), (0, 8, 3, 3), (0, 10, 0, 39), (0, 17, 0, 4), (0, 18, 0, 11), (0, 19, 0, 11), (0, 20, 0, 7), (0, 21, 0, 7)] h h)) (r := 1) rfl rfl⟩
  · refine x_aload_n 28 hK rfl rfl rfl ?_
    refine x_getR 31 hK rfl rfl (sp_0 (h := h) hG) (rf_0_0 (h := h) hG) ?_
    refine x_iconst 32 hK rfl rfl ?_
    have hGp473 : GD gE gRL sh (wI h 1 2 (p + 1)) := GD_w0 (hG) (r := 1) rfl rfl
    have at472 : gi (wI h 1 2 (p + 1)) 1 2 = (p + 1) := gi_same (by omega)
    have fe472 : fx (wI h 1 2 (p + 1)) = (fx h) := fx_wI (by decide) (Or.inr (by decide))
    have to472 : gi (wI h 1 2 (p + 1)) 1 3 = (min n 60) := (gi_k (by decide) _).trans (h13)
    have mo472 : gi (wI h 1 2 (p + 1)) 1 4 = (if 60 < n then (1 : Int) else 0) := (gi_k (by decide) _).trans (h14)
    refine x_callV 35 hK hmono rfl rfl [.ref 1, .int (I 1)] [] rfl rfl (Nat.le_of_ble_eq_true rfl) (Nat.le_of_ble_eq_true rfl) rfl (sp_1 (h := h) hG) (CLd_le (Nat.le_of_ble_eq_true rfl) (ctX9_takeNumber hSP hGp473 (n := 1) (by omega))) ?_
    rw [fe472, at472, to472, mo472]
    rintro v472 h472 ⟨⟨e472, rfl, nu472, ne472⟩, hG472, hF472, np472, nc472, nd472⟩
    have nm472 : nmF (fx h) 1 (p + 1) = (e472, gi h472 1 2) := by rw [nu472, np472]; rfl
    have nb472 : (p + 1) ≤ gi h472 1 2 ∧ gi h472 1 2 ≤ (min n 60) := by rw [np472]; exact ⟨(tkv_lb _ _ _ _).1, tkv_sp fe0 _ _ _ (by first | omega | (have q := fe0 p; omega))⟩
    have nz472 : 0 ≤ e472 → (p + 1) < gi h472 1 2 := fun z => by have := nmF_n (f := (fx h)) (n := 1) (p := (p + 1)) (by rw [nm472]; exact z); rw [nm472] at this; exact this
    have ny472 : e472 = -1 → gi h472 1 2 = (p + 1) := fun z => by
      rw [np472]
      by_cases c : (tkv (fx h) (Int.toNat 1) (p + 1) 0).2 = (p + 1)
      · exact c
      · rw [if_neg c] at nu472
        have := tkv_nn (f := (fx h)) (Int.toNat 1) (p + 1) 0 (by omega)
        omega
    clear nu472 np472
    generalize eq472 : gi h472 1 2 = p472 at *
    refine x_istore_n 36 hK rfl rfl [(2, .int (I e472)), (1, .int (I ((fx h) p))), (0, .ref 0)] rfl ?_
    refine x_aload_n 37 hK rfl rfl rfl ?_
    refine x_iload_n 38 hK rfl rfl rfl ?_
    refine x_iconst 39 hK rfl rfl ?_
    refine x_iconst 40 hK rfl rfl ?_
    have hFx474 : FRM gRL [(0, 1, 2, 2), (0, 1, 5, 5)] h h472 := (FRM_w ((FRM.rf : FRM gRL [(0, 1, 2, 2), (0, 1, 5, 5)] h h)) (r := 1) rfl rfl).trans ((hF472).mono rfl)
    have hSx474 : STR (gi h 0 9) (kS h472 23) w := by rw [kS23_F hFx474 (by decide)]; exact hS
    have n9474 : gi h472 0 9 = (gi h 0 9) := FRM_gi hFx474 (r := 0) rfl rfl
    refine x_callV 43 hK hmono rfl rfl [.ref 0, .int (I e472), .int (I 1), .int (I 1)] [] rfl rfl (Nat.le_of_ble_eq_true rfl) (Nat.le_of_ble_eq_true rfl) rfl (sp_0 (h := h472) hG472) (CLd_le (Nat.le_of_ble_eq_true rfl) (ctX10_passRefusalF hSP hG472 (w := w) (b := b) (by rw [n9474]; exact hSx474) hw (by omega) (m := e472) (n := 1) (a := 1) (by omega) (by omega) (by omega))) ?_
    rw [n9474]
    rintro v9 h9 ⟨e9, rfl⟩
    rw [e9]
    clear e9
    have pb : -3 ≤ psR (gi h 0 9) w.2.2.2.2.2.1 e472 1 1 ∧ psR (gi h 0 9) w.2.2.2.2.2.1 e472 1 1 ≤ 0 := by unfold psR; (repeat' split) <;> omega
    refine x_if_eq 48 46 hK rfl rfl rfl (by omega) (fun c45 => ?_) (fun c45 => ?_)
    · refine x_aload_n 49 hK rfl rfl rfl ?_
      refine x_iload_n 50 hK rfl rfl rfl ?_
      refine x_iconst 51 hK rfl rfl ?_
      refine x_iconst 52 hK rfl rfl ?_
      have hFx475 : FRM gRL [(0, 1, 2, 2), (0, 1, 5, 5)] h h472 := (FRM_w ((FRM.rf : FRM gRL [(0, 1, 2, 2), (0, 1, 5, 5)] h h)) (r := 1) rfl rfl).trans ((hF472).mono rfl)
      have hSx475 : STR (gi h 0 9) (kS h472 23) w := by rw [kS23_F hFx475 (by decide)]; exact hS
      have n9475 : gi h472 0 9 = (gi h 0 9) := FRM_gi hFx475 (r := 0) rfl rfl
      refine x_callV 55 hK hmono rfl rfl [.ref 0, .int (I e472), .int (I 1), .int (I 1)] [] rfl rfl (Nat.le_of_ble_eq_true rfl) (Nat.le_of_ble_eq_true rfl) rfl (sp_0 (h := h472) hG472) (CLd_le (Nat.le_of_ble_eq_true rfl) (ctX10_moveFoodF hSP hG472 (w := w) (b := b) (by rw [n9475]; exact hSx475) hw (by omega) (m := e472) (n := 1) (a := 1) (by omega) (by omega) (by omega) (by rw [n9475]; omega))) ?_
      rw [n9475]
      rintro v476 h476 ⟨rfl, hG476, hF476, hS476⟩
      refine x_iconst 56 hK rfl rfl ?_
      have ea9 := act_p (f := fx h) (p := p) (by omega)
      rw [nm472] at ea9
      rw [ea9] at hK hk
      exact x_zret hK rfl (by omega) ⟨Or.inl ⟨decide_eq_true (by show psR (gi h 0 9) w.2.2.2.2.2.1 e472 1 1 = 0; omega), rfl, hS476, (FRM_gi hF476 (r := 1) rfl rfl).trans (eq472)⟩, hG476, ((FRM_w ((FRM.rf : FRM gRL [(0, 1, 2, 2), (0, 1, 5, 5), (0, 8, 3, 3), (0, 10, 0, 39), (0, 17, 0, 4), (0, 18, 0, 11), (0, 19, 0, 11), (0, 20, 0, 7), (0, 21, 0, 7)] h h)) (r := 1) rfl rfl).trans ((hF472).mono rfl)).trans ((hF476).mono rfl)⟩
    · refine x_iconst 47 hK rfl rfl ?_
      have ea9 := act_p (f := fx h) (p := p) (by omega)
      rw [nm472] at ea9
      rw [ea9] at hK hk
      have hFx477 : FRM gRL [(0, 1, 2, 2), (0, 1, 5, 5)] h h472 := (FRM_w ((FRM.rf : FRM gRL [(0, 1, 2, 2), (0, 1, 5, 5)] h h)) (r := 1) rfl rfl).trans ((hF472).mono rfl)
      have hSx477 : STR (gi h 0 9) (kS h472 23) w := by rw [kS23_F hFx477 (by decide)]; exact hS
      have n9477 : gi h472 0 9 = (gi h 0 9) := FRM_gi hFx477 (r := 0) rfl rfl
      exact x_zret hK rfl (by omega) ⟨Or.inr ⟨decide_eq_false (by show ¬ psR (gi h 0 9) w.2.2.2.2.2.1 e472 1 1 = 0; omega), rfl, hSx477⟩, hG472, (FRM_w ((FRM.rf : FRM gRL [(0, 1, 2, 2), (0, 1, 5, 5), (0, 8, 3, 3), (0, 10, 0, 39), (0, 17, 0, 4), (0, 18, 0, 11), (0, 19, 0, 11), (0, 20, 0, 7), (0, 21, 0, 7)] h h)) (r := 1) rfl rfl).trans ((hF472).mono rfl)⟩
end
section
/-! A VOYAGE OF THE CLASS, as a call -/
theorem rdAct_p {f : Int → Int} {p stop : Int} (hf : ∀ a, stop ≤ a → f a = -1) (hp : p < stop) : p ≤ (rdAct f p).1.2 ∧ (rdAct f p).1.2 ≤ stop ∧ ((rdAct f p).1.1 = true → p < (rdAct f p).1.2) ∧ ((rdAct f p).1.1 = true → (rdAct f p).2.1 = 2 → (rdAct f p).2.2 ≤ 9) := by
  by_cases a : 60 ≤ f p ∧ f p ≤ 62
  · rw [act_o a]
    exact ⟨by show p ≤ p + 1; omega, by show p + 1 ≤ stop; omega, fun _ => by show p < p + 1; omega, fun _ z => absurd (show (0 : Int) = 2 from z) (by decide)⟩
  · by_cases b : 49 ≤ f p ∧ f p ≤ 57
    · rw [act_d b]
      exact ⟨by show p ≤ p + 1; omega, by show p + 1 ≤ stop; omega, fun _ => by show p < p + 1; omega, fun _ _ => by show f p - 48 ≤ 9; omega⟩
    · by_cases c : f p = 112
      · rw [act_p c]
        by_cases d : 48 ≤ f (p + 1) ∧ f (p + 1) ≤ 57
        · have l : p + 1 < stop := by
            by_cases z : stop ≤ p + 1
            · have := hf _ z; omega
            · omega
          rw [nm1_y d]
          exact ⟨by show p ≤ p + 1 + 1; omega, by show p + 1 + 1 ≤ stop; omega, fun _ => by show p < p + 1 + 1; omega, fun _ z => absurd (show (1 : Int) = 2 from z) (by decide)⟩
        · rw [nm1_n d]
          exact ⟨by show p ≤ p + 1; omega, by show p + 1 ≤ stop; omega, fun z => absurd (show decide (0 ≤ (-1 : Int)) = true from z) (by decide), fun z => absurd (show decide (0 ≤ (-1 : Int)) = true from z) (by decide)⟩
      · rw [act_n a c b]
        exact ⟨Int.le_refl _, by show p ≤ stop; omega, fun z => absurd (show false = true from z) (by decide), fun z => absurd (show false = true from z) (by decide)⟩
theorem rdAs_p {f : Int → Int} {stop : Int} (hf : ∀ a, stop ≤ a → f a = -1) : ∀ (n : Nat) (p : Int), p ≤ stop → p ≤ (rdAs f stop n p).1.2 ∧ (rdAs f stop n p).1.2 ≤ stop
  | 0, p, h => ⟨Int.le_refl _, h⟩
  | n + 1, p, h => by
    rw [rdAs_s]
    by_cases a : stop ≤ p
    · rw [if_pos a]
      exact ⟨Int.le_refl _, h⟩
    · have b := rdAct_p hf (show p < stop by omega)
      rw [if_neg a]
      split
      · have ih := rdAs_p hf n (rdAct f p).1.2 b.2.1
        exact ⟨by show p ≤ (rdAs f stop n (rdAct f p).1.2).1.2; omega, ih.2⟩
      · exact ⟨b.1, b.2.1⟩
theorem WW_do {b : Int} {dl : Int → Int} {l : Int} {ml ln ea : Nat → Int} {nr : Nat} {ms : Int} {q : Int × Int} {w : WS} (hn : nr ≤ 16) (h8 : ms ≤ 8) (hea : ∀ m : Nat, (m : Int) < ms → 0 ≤ ea m ∧ ea m ≤ 9) (hq : q.1 = 2 → q.2 ≤ 9) (hq2 : q.1 = 0 ∨ q.1 = 1 ∨ q.1 = 2) (hd : doR ms q w = true) (hw : WW b w) : WW (b + 9) (doW dl l ml ln nr ms ea q w) := by
  unfold doR at hd
  unfold doW
  by_cases a : q.1 = 0
  · rw [if_pos a]
    obtain ⟨w0, w1, w2, w3, w4⟩ := hw
    exact ⟨by show 0 ≤ w.1 ∧ w.1 ≤ b + 9; omega, w1, by show 0 ≤ w.2.2.1 ∧ w.2.2.1 ≤ 16 * (b + 9); omega, by show -1 ≤ w.1 ∧ w.1 ≤ b + 9; omega, fun m hm => by have := w4 m hm; show (0 ≤ w.2.2.2.2.2.1 m ∧ w.2.2.2.2.2.1 m ≤ 99) ∧ 0 ≤ w.2.2.2.2.2.2 m ∧ w.2.2.2.2.2.2 m ≤ b + 9; omega⟩
  · rw [if_neg a] at hd ⊢
    by_cases c : q.1 = 1
    · rw [if_pos c] at hd ⊢
      have hp := of_decide_eq_true hd
      obtain ⟨w0, w1, w2, w3, w4⟩ := hw
      refine ⟨by show 0 ≤ w.1 ∧ w.1 ≤ b + 9; omega, w1, by show 0 ≤ w.2.2.1 ∧ w.2.2.1 ≤ 16 * (b + 9); omega, by show -1 ≤ w.2.2.2.1 ∧ w.2.2.2.1 ≤ b + 9; omega, fun m hm => ?_⟩
      have w4m := w4 m hm
      have eo : othF q.2 1 = q.2 + 1 := rfl
      show (0 ≤ (if (m : Int) = q.2 then w.2.2.2.2.2.1 m - 1 else if (m : Int) = othF q.2 1 then w.2.2.2.2.2.1 m + 1 else w.2.2.2.2.2.1 m) ∧ (if (m : Int) = q.2 then w.2.2.2.2.2.1 m - 1 else if (m : Int) = othF q.2 1 then w.2.2.2.2.2.1 m + 1 else w.2.2.2.2.2.1 m) ≤ 99) ∧ 0 ≤ w.2.2.2.2.2.2 m ∧ w.2.2.2.2.2.2 m ≤ b + 9
      unfold psR at hp
      by_cases d : (0 ≤ q.2 ∧ q.2 < ms) ∧ ((0 : Int) ≤ 1 ∧ (1 : Int) ≤ 1) ∧ (0 ≤ othF q.2 1 ∧ othF q.2 1 < ms) ∧ (1 : Int) ≤ 1 ∧ (1 : Int) ≤ 99
      · rw [if_neg (fun z => z d)] at hp
        by_cases e1 : (m : Int) = q.2
        · rw [if_pos e1]
          have em : q.2.toNat = m := by omega
          rw [em] at hp
          (repeat' split at hp) <;> omega
        · rw [if_neg e1]
          by_cases e2 : (m : Int) = othF q.2 1
          · rw [if_pos e2]
            have em : (othF q.2 1).toNat = m := by omega
            rw [em] at hp
            (repeat' split at hp) <;> omega
          · rw [if_neg e2]
            omega
      · rw [if_pos d] at hp
        omega
    · rw [if_neg c]
      have z := WW_stI (ml := ml) (ln := ln) (ea := ea) hn h8 hea hw q.2.toNat
      exact z.mono (by have := hq (by omega); omega)
theorem act_k {f : Int → Int} {p : Int} : (rdAct f p).2.1 = 0 ∨ (rdAct f p).2.1 = 1 ∨ (rdAct f p).2.1 = 2 := by
  by_cases a : 60 ≤ f p ∧ f p ≤ 62
  · rw [act_o a]; exact Or.inl rfl
  · by_cases b : 49 ≤ f p ∧ f p ≤ 57
    · rw [act_d b]; exact Or.inr (Or.inr rfl)
    · by_cases c : f p = 112
      · rw [act_p c]; exact Or.inr (Or.inl rfl)
      · rw [act_n a c b]; exact Or.inl rfl
noncomputable def s28Ok (M : MD) : Bool := (M.all fun q => !(Nat.beq q.1 0 && Nat.beq q.2.1 22)) && (M.all fun q => !(Nat.beq q.1 0 && Nat.beq q.2.1 23)) && (M.all fun q => !(Nat.beq q.1 0 && Nat.beq q.2.1 24)) && (M.all fun q => !(Nat.beq q.1 0 && Nat.beq q.2.1 25)) && (M.all fun q => !(Nat.beq q.1 0 && Nat.beq q.2.1 26))
theorem kS28_F {M : MD} {h h' : aH} (hF : FRM gRL M h h') (hm : s28Ok M = true) : kS h' 28 = kS h 28 := by
  simp only [s28Ok, Bool.and_eq_true] at hm
  have m0 := hm.1.1.1.1
  have m1 := hm.1.1.1.2
  have m2 := hm.1.1.2
  have m3 := hm.1.2
  have m4 := hm.2
  refine kS_ge fun a k h1 h2 => ?_
  rcases (show a = 28 ∨ a = 29 ∨ a = 30 ∨ a = 31 ∨ a = 32 by omega) with rfl | rfl | rfl | rfl | rfl
  · exact FRM_gi hF (r := 22) rfl (mHas_non m0 k)
  · exact FRM_gi hF (r := 23) rfl (mHas_non m1 k)
  · exact FRM_gi hF (r := 24) rfl (mHas_non m2 k)
  · exact FRM_gi hF (r := 25) rfl (mHas_non m3 k)
  · exact FRM_gi hF (r := 26) rfl (mHas_non m4 k)
end
