/-! HOW LATE AN ORDER COMES (the class) -/
def opC (x : Int) : Prop := x = -60 ∨ x = -62 ∨ x = -61 ∨ x = -43 ∨ x = -45 ∨ x = -42 ∨ x = -47
def asC (x : Int) : Prop := x = -108 ∨ x = -112 ∨ x = -120 ∨ x = -110
theorem cd_op {x : Int} (hc : cdP x) (h : 0 < rkI (-x)) (hn : x ≠ -256) : opC x ∧ 2000 ≤ rcC x ∧ rcC x < 3000 := by
  rcases hc with hc | hc | hc | hc
  · exfalso
    unfold rkI at h
    (repeat' split at h) <;> omega
  · exact absurd hc hn
  · exact ⟨hc, by rcases hc with rfl | rfl | rfl | rfl | rfl | rfl | rfl <;> decide⟩
  · exfalso
    rcases hc with rfl | rfl | rfl | rfl <;> exact absurd h (by decide)
theorem cd_as {x : Int} (hc : cdP x) (h : ¬ 0 < rkI (-x)) (h0 : x < 0) (hn : x ≠ -256) : asC x ∧ 1000 ≤ rcC x ∧ rcC x ≤ 1003 := by
  rcases hc with hc | hc | hc | hc
  · omega
  · exact absurd hc hn
  · exfalso
    rcases hc with rfl | rfl | rfl | rfl | rfl | rfl | rfl <;> exact h (by decide)
  · exact ⟨hc, by rcases hc with rfl | rfl | rfl | rfl <;> decide⟩
theorem su_q {u : Nat} {h : aH} (hP : PT h) (hu : u = 11 ∨ u = 14) : aR h u 2 = some (u + 2) := by
  obtain ⟨_, _, _, _, _, _, ⟨_, d1⟩, _, d3⟩ := hP
  rcases hu with rfl | rfl
  · exact d1
  · exact d3
theorem su_v {u : Nat} (hu : u = 11 ∨ u = 14) : gRL[u + 2]? = some 10 := by rcases hu with rfl | rfl <;> decide
/-- what stands on the class's stack, the last first -/
def SKU (h : aH) (u : Nat) (st : List Int) : Prop := gi h u 3 = (st.length : Int) ∧ ∀ i, i < st.length → gi h (u + 2) i = st.getD (st.length - 1 - i) 0
theorem SKU_push {h h' : aH} {u : Nat} {v : Int} {st : List Int} (s : SKU h u st) (e3 : gi h' u 3 = (st.length : Int) + 1) (e0 : gi h' (u + 2) st.length = v) (eo : ∀ j, j ≠ st.length → gi h' (u + 2) j = gi h (u + 2) j) : SKU h' u (v :: st) := by
  refine ⟨e3, fun i hi => ?_⟩
  simp only [List.length_cons] at hi ⊢
  by_cases c : i = st.length
  · subst c
    rw [e0, show st.length + 1 - 1 - st.length = 0 by omega]
    rfl
  · rw [eo i c, s.2 i (by omega), show st.length + 1 - 1 - i = (st.length - 1 - i) + 1 by omega]
    rfl
theorem SKU_pop {h h' : aH} {u : Nat} {x : Int} {r : List Int} (s : SKU h u (x :: r)) (e3 : gi h' u 3 = (r.length : Int)) (eo : ∀ j, gi h' (u + 2) j = gi h (u + 2) j) : SKU h' u r := by
  refine ⟨e3, fun i hi => ?_⟩
  have z := s.2 i (by simp only [List.length_cons]; omega)
  simp only [List.length_cons] at z
  rw [eo, z, show r.length + 1 - 1 - i = (r.length - 1 - i) + 1 by omega]
  rfl
theorem SKU_hd {h : aH} {u : Nat} {x : Int} {r : List Int} (s : SKU h u (x :: r)) : gi h (u + 2) r.length = x := by
  have z := s.2 r.length (by simp only [List.length_cons]; omega)
  simp only [List.length_cons] at z
  rw [z, show r.length + 1 - 1 - r.length = 0 by omega]
  rfl
theorem SKU_r {h : aH} {u : Nat} {x : Int} {r : List Int} (s : SKU h u (x :: r)) : r32 x := by
  rw [← SKU_hd s]
  exact gi_r _ _ _
/-- what the class's rule asks -/
def akF (h : aH) (s : Nat) (t q : Int) : Int := if q = 0 then gi h s 0 else if q = 1 then gi h s 1 else if q = 2 then gi h s 2 else t
theorem hd_1 {L : List Int} (h : L.length = 1) : ∃ x, L = [x] := by
  match L, h with
  | [x], _ => exact ⟨x, rfl⟩
set_option maxRecDepth 4000 in
theorem ctX4_pushF {SP : CT} (hSP : MONO SP) {sh : List (Nat × Nat)} {h : aH} (hG : GD gE gRL sh h) {u : Nat} (hP : PT h) (hu : u = 11 ∨ u = 14) {v : Int} {st : List Int} (sk : SKU h u st) (hl : st.length < 40) : CLd SP 1 mX4_push [.ref u, .int (I v)] h 0 0 (fun rv h' => rv = none ∧ GD gE gRL sh h' ∧ FRM gRL [(0, 8, 3, 3), (0, 10, 0, 39)] h h' ∧ SKU h' u (w32 v :: st)) := by
  refine x_met _ rfl (Nat.le_of_ble_eq_true rfl) (fun K hK => ?_)
  have hmono := MONO_CLd hSP 0
  obtain ⟨t, ht⟩ : ∃ t : Int, t = (st.length : Int) := ⟨_, rfl⟩
  have s3 : gi h u 3 = t := sk.1.trans ht.symm
  have tn : t.toNat = st.length := by omega
  refine x_aload_n 1 hK rfl rfl rfl ?_
  refine x_getE 4 hK rfl (Or.inl rfl) rfl (shx (h := h) hG (r := 8) (su_r hu).1 rfl) (e := t) (s3) ?_
  refine x_bipush 6 hK rfl rfl rfl ?_
  refine x_if_icmp_ge 29 9 hK rfl rfl rfl (by omega) (by omega) (fun c4 => ?_) (fun c4 => ?_)
  · exfalso
    omega
  · refine x_aload_n 10 hK rfl rfl rfl ?_
    refine x_getR 13 hK rfl rfl (shx (h := h) hG (r := 8) (su_r hu).1 rfl) (su_q hP hu) ?_
    refine x_aload_n 14 hK rfl rfl rfl ?_
    refine x_getE 17 hK rfl (Or.inl rfl) rfl (shx (h := h) hG (r := 8) (su_r hu).1 rfl) (e := t) (s3) ?_
    refine x_iload_n 18 hK rfl rfl rfl ?_
    refine x_iastore 19 hK rfl rfl (shx (h := h) hG (r := 10) (su_v hu) rfl) (by omega) (by omega) (by omega) ?_
    refine x_aload_n 20 hK rfl rfl rfl ?_
    refine x_dup 21 hK rfl rfl rfl ?_
    refine x_getE 24 hK rfl (Or.inl rfl) rfl (shx (h := h) hG (r := 8) (su_r hu).1 rfl) (e := t) ((gi_a (by omega) _).trans (s3)) ?_
    refine x_iconst 25 hK rfl rfl ?_
    refine x_iadd 26 hK rfl rfl ?_
    refine x_putI 29 hK rfl rfl (shx (h := h) hG (r := 8) (su_r hu).1 rfl) ?_
    have e0 : gi (wI (wI h (u + 2) t.toNat v) u 3 (t + 1)) (u + 2) st.length = w32 v := by
      rw [← tn]
      exact (gi_a (by omega) _).trans gi_w
    exact x_vret hK rfl ⟨rfl, GD_w1 (GD_wn (hG) (r := 10) (su_v hu) rfl) (r := 8) (su_r hu).1 (by omega) rfl (by omega) (by omega), FRM_w (FRM_wn 0 39 ((FRM.rf : FRM gRL [(0, 8, 3, 3), (0, 10, 0, 39)] h h)) (r := 10) (su_v hu) rfl rfl (by omega) (by omega)) (r := 8) (su_r hu).1 rfl, SKU_push sk ((gi_same (by omega)).trans (by omega)) e0 fun j hj => (gi_a (by omega) _).trans (gi_k (by omega) _)⟩
set_option maxRecDepth 4000 in
theorem ctX4_popF {SP : CT} (hSP : MONO SP) {sh : List (Nat × Nat)} {h : aH} (hG : GD gE gRL sh h) {u : Nat} (hP : PT h) (hu : u = 11 ∨ u = 14) {x : Int} {r : List Int} (sk : SKU h u (x :: r)) : CLd SP 1 mX4_pop [.ref u] h 0 0 (fun rv h' => rv = some (.int (I x)) ∧ GD gE gRL sh h' ∧ FRM gRL [(0, 8, 3, 3)] h h' ∧ SKU h' u r) := by
  refine x_met _ rfl (Nat.le_of_ble_eq_true rfl) (fun K hK => ?_)
  have hmono := MONO_CLd hSP 0
  obtain ⟨t, ht⟩ : ∃ t : Int, t = (r.length : Int) + 1 := ⟨_, rfl⟩
  have s3 : gi h u 3 = t := sk.1.trans ht.symm
  have gt := gri 0 40 hG (a := u) (r := 8) (k := 3) (su_r hu).1 rfl
  have hx : gi h (u + 2) (t - 1).toNat = x := by rw [show (t - 1).toNat = r.length by omega]; exact SKU_hd sk
  refine x_aload_n 1 hK rfl rfl rfl ?_
  refine x_getE 4 hK rfl (Or.inl rfl) rfl (shx (h := h) hG (r := 8) (su_r hu).1 rfl) (e := t) (s3) ?_
  refine x_if_gt 9 7 hK rfl rfl rfl (by omega) (fun c3 => ?_) (fun c3 => ?_)
  · refine x_aload_n 10 hK rfl rfl rfl ?_
    refine x_dup 11 hK rfl rfl rfl ?_
    refine x_getE 14 hK rfl (Or.inl rfl) rfl (shx (h := h) hG (r := 8) (su_r hu).1 rfl) (e := t) (s3) ?_
    refine x_iconst 15 hK rfl rfl ?_
    refine x_isub 16 hK rfl rfl ?_
    refine x_putI 19 hK rfl rfl (shx (h := h) hG (r := 8) (su_r hu).1 rfl) ?_
    refine x_aload_n 20 hK rfl rfl rfl ?_
    refine x_getR 23 hK rfl rfl (shx (h := h) hG (r := 8) (su_r hu).1 rfl) (su_q hP hu) ?_
    refine x_aload_n 24 hK rfl rfl rfl ?_
    refine x_getE 27 hK rfl (Or.inl rfl) rfl (shx (h := h) hG (r := 8) (su_r hu).1 rfl) (e := (t - 1)) (gi_same (by omega)) ?_
    refine x_ialoadE 28 hK rfl rfl (shx (h := h) hG (r := 10) (su_v hu) rfl) (by omega) (by omega) (by omega) (e' := x) ((gi_a (by omega) _).trans (hx)) ?_
    exact x_iret hK rfl ⟨rfl, GD_w1 (hG) (r := 8) (su_r hu).1 (by omega) rfl (by omega) (by omega), FRM_w ((FRM.rf : FRM gRL [(0, 8, 3, 3)] h h)) (r := 8) (su_r hu).1 rfl, SKU_pop sk ((gi_same (by omega)).trans (by omega)) fun j => gi_a (by omega) _⟩
  · refine x_iconst 8 hK rfl rfl ?_
    exfalso
    omega
set_option maxRecDepth 4000 in
theorem ctX4_applyF {SP : CT} (hSP : MONO SP) {h : aH} {x a b : Int} (hx : opC x) (ra : r32 a) (rb : r32 b) : CLd SP 1 mX4_apply [.int (I (-x)), .int (I a), .int (I b)] h 0 0 (fun rv h' => h' = h ∧ rv = some (.int (I (wkF (rcC x - 2000) a b)))) := by
  refine x_met _ rfl (Nat.le_of_ble_eq_true rfl) (fun K hK => ?_)
  have hmono := MONO_CLd hSP 0
  unfold opC at hx
  refine x_iload_n 1 hK rfl rfl rfl ?_
  refine x_lsw hK rfl (by omega) (l := [(42, 100), (43, 92), (45, 96), (60, 59), (61, 81), (62, 70)]) rfl ?_
  rw [Op.lookupswitch.offset_cons]
  by_cases e1_0 : (42 : Int) = (-x)
  · rw [if_pos e1_0]
    show K 101 _ _ _ _ _
    have ex : x = -42 := by omega
    have er : rcC x - 2000 = 5 := by rw [ex]; decide
    refine x_iload_n 102 hK rfl rfl rfl ?_
    refine x_iload_n 103 hK rfl rfl rfl ?_
    refine x_imul 104 hK rfl rfl ?_
    have ew : wkF (rcC x - 2000) a b = w32 (a * b) := by
      rw [er]
      rfl
    exact x_iret hK rfl ⟨rfl, by rw [ew, I_w]⟩
  rw [if_neg e1_0]
  rw [Op.lookupswitch.offset_cons]
  by_cases e1_1 : (43 : Int) = (-x)
  · rw [if_pos e1_1]
    show K 93 _ _ _ _ _
    have ex : x = -43 := by omega
    have er : rcC x - 2000 = 3 := by rw [ex]; decide
    refine x_iload_n 94 hK rfl rfl rfl ?_
    refine x_iload_n 95 hK rfl rfl rfl ?_
    refine x_iadd 96 hK rfl rfl ?_
    have ew : wkF (rcC x - 2000) a b = w32 (a + b) := by
      rw [er]
      rfl
    exact x_iret hK rfl ⟨rfl, by rw [ew, I_w]⟩
  rw [if_neg e1_1]
  rw [Op.lookupswitch.offset_cons]
  by_cases e1_2 : (45 : Int) = (-x)
  · rw [if_pos e1_2]
    show K 97 _ _ _ _ _
    have ex : x = -45 := by omega
    have er : rcC x - 2000 = 4 := by rw [ex]; decide
    refine x_iload_n 98 hK rfl rfl rfl ?_
    refine x_iload_n 99 hK rfl rfl rfl ?_
    refine x_isub 100 hK rfl rfl ?_
    have ew : wkF (rcC x - 2000) a b = w32 (a - b) := by
      rw [er]
      rfl
    exact x_iret hK rfl ⟨rfl, by rw [ew, I_w]⟩
  rw [if_neg e1_2]
  rw [Op.lookupswitch.offset_cons]
  by_cases e1_3 : (60 : Int) = (-x)
  · rw [if_pos e1_3]
    show K 60 _ _ _ _ _
    have ex : x = -60 := by omega
    have er : rcC x - 2000 = 0 := by rw [ex]; decide
    refine x_iload_n 61 hK rfl rfl rfl ?_
    refine x_iload_n 62 hK rfl rfl rfl ?_
    refine x_if_icmp_ge 69 65 hK rfl rfl rfl (by omega) (by omega) (fun c21 => ?_) (fun c21 => ?_)
    · refine x_iconst 70 hK rfl rfl ?_
      have ew : wkF (rcC x - 2000) a b = 0 := by
        rw [er]
        show (if a < b then (1 : Int) else 0) = 0
        rw [if_neg (by omega)]
      exact x_iret hK rfl ⟨rfl, by rw [ew]⟩
    · refine x_iconst 66 hK rfl rfl ?_
      refine x_goto 70 hK rfl rfl ?_
      have ew : wkF (rcC x - 2000) a b = 1 := by
        rw [er]
        show (if a < b then (1 : Int) else 0) = 1
        rw [if_pos (by omega)]
      exact x_iret hK rfl ⟨rfl, by rw [ew]⟩
  rw [if_neg e1_3]
  rw [Op.lookupswitch.offset_cons]
  by_cases e1_4 : (61 : Int) = (-x)
  · rw [if_pos e1_4]
    show K 82 _ _ _ _ _
    have ex : x = -61 := by omega
    have er : rcC x - 2000 = 2 := by rw [ex]; decide
    refine x_iload_n 83 hK rfl rfl rfl ?_
    refine x_iload_n 84 hK rfl rfl rfl ?_
    refine x_if_icmp_ne 91 87 hK rfl rfl rfl (by omega) (by omega) (fun c30 => ?_) (fun c30 => ?_)
    · refine x_iconst 92 hK rfl rfl ?_
      have ew : wkF (rcC x - 2000) a b = 0 := by
        rw [er]
        show (if a = b then (1 : Int) else 0) = 0
        rw [if_neg (by omega)]
      exact x_iret hK rfl ⟨rfl, by rw [ew]⟩
    · refine x_iconst 88 hK rfl rfl ?_
      refine x_goto 92 hK rfl rfl ?_
      have ew : wkF (rcC x - 2000) a b = 1 := by
        rw [er]
        show (if a = b then (1 : Int) else 0) = 1
        rw [if_pos (by omega)]
      exact x_iret hK rfl ⟨rfl, by rw [ew]⟩
  rw [if_neg e1_4]
  rw [Op.lookupswitch.offset_cons]
  by_cases e1_5 : (62 : Int) = (-x)
  · rw [if_pos e1_5]
    show K 71 _ _ _ _ _
    have ex : x = -62 := by omega
    have er : rcC x - 2000 = 1 := by rw [ex]; decide
    refine x_iload_n 72 hK rfl rfl rfl ?_
    refine x_iload_n 73 hK rfl rfl rfl ?_
    refine x_if_icmp_le 80 76 hK rfl rfl rfl (by omega) (by omega) (fun c39 => ?_) (fun c39 => ?_)
    · refine x_iconst 81 hK rfl rfl ?_
      have ew : wkF (rcC x - 2000) a b = 0 := by
        rw [er]
        show (if b < a then (1 : Int) else 0) = 0
        rw [if_neg (by omega)]
      exact x_iret hK rfl ⟨rfl, by rw [ew]⟩
    · refine x_iconst 77 hK rfl rfl ?_
      refine x_goto 81 hK rfl rfl ?_
      have ew : wkF (rcC x - 2000) a b = 1 := by
        rw [er]
        show (if b < a then (1 : Int) else 0) = 1
        rw [if_pos (by omega)]
      exact x_iret hK rfl ⟨rfl, by rw [ew]⟩
  rw [if_neg e1_5]
  show K 105 _ _ _ _ _
  have ex : x = -47 := by omega
  have er : rcC x - 2000 = 6 := by rw [ex]; decide
  refine x_iload_n 106 hK rfl rfl rfl ?_
  refine x_if_ne 113 109 hK rfl rfl rfl (by omega) (fun c47 => ?_) (fun c47 => ?_)
  · refine x_iload_n 114 hK rfl rfl rfl ?_
    refine x_iload_n 115 hK rfl rfl rfl ?_
    refine x_idivA 116 hK rfl rfl ra rb (by omega) ?_
    have ew : wkF (rcC x - 2000) a b = w32 (a.tdiv b) := by
      rw [er]
      show (if b = 0 then (0 : Int) else w32 (a.tdiv b)) = w32 (a.tdiv b)
      rw [if_neg (by omega)]
    exact x_iret hK rfl ⟨rfl, by rw [ew]⟩
  · refine x_iconst 110 hK rfl rfl ?_
    refine x_goto 116 hK rfl rfl ?_
    have ew : wkF (rcC x - 2000) a b = 0 := by
      rw [er]
      show (if b = 0 then (0 : Int) else w32 (a.tdiv b)) = 0
      rw [if_pos (by omega)]
    exact x_iret hK rfl ⟨rfl, by rw [ew]⟩
set_option maxRecDepth 4000 in
theorem ctX4_valueOfF {SP : CT} (hSP : MONO SP) {sh : List (Nat × Nat)} {h : aH} (hG : GD gE gRL sh h) {x t : Int} {s : Nat} (h5 : s = 5 ∨ s = 8) (hx : asC x) (rt : r32 t) : CLd SP 1 mX4_valueOf [.int (I (-x)), .ref s, .int (I t)] h 0 0 (fun rv h' => h' = h ∧ rv = some (.int (I (akF h s t (rcC x - 1000))))) := by
  refine x_met _ rfl (Nat.le_of_ble_eq_true rfl) (fun K hK => ?_)
  have hmono := MONO_CLd hSP 0
  unfold asC at hx
  refine x_iload_n 1 hK rfl rfl rfl ?_
  refine x_lsw hK rfl (by omega) (l := [(108, 35), (112, 40), (120, 45)]) rfl ?_
  rw [Op.lookupswitch.offset_cons]
  by_cases e1_0 : (108 : Int) = (-x)
  · rw [if_pos e1_0]
    show K 36 _ _ _ _ _
    have ex : x = -108 := by omega
    have er : rcC x - 1000 = 0 := by rw [ex]; decide
    refine x_aload_n 37 hK rfl rfl rfl ?_
    have g311 := gri (-1000000) (1000000) hG (a := s) (r := 5) (k := 0) (ss_r h5).1 rfl
    refine x_getE 40 hK rfl (Or.inl rfl) rfl (shx (h := h) hG (r := 5) (ss_r h5).1 rfl) (e := (gi h s 0)) (rfl) ?_
    have ew : akF h s t (rcC x - 1000) = (gi h s 0) := by
      rw [er]
      rfl
    exact x_iret hK rfl ⟨rfl, by rw [ew]⟩
  rw [if_neg e1_0]
  rw [Op.lookupswitch.offset_cons]
  by_cases e1_1 : (112 : Int) = (-x)
  · rw [if_pos e1_1]
    show K 41 _ _ _ _ _
    have ex : x = -112 := by omega
    have er : rcC x - 1000 = 1 := by rw [ex]; decide
    refine x_aload_n 42 hK rfl rfl rfl ?_
    have g312 := gri (0) (10) hG (a := s) (r := 5) (k := 1) (ss_r h5).1 rfl
    refine x_getE 45 hK rfl (Or.inl rfl) rfl (shx (h := h) hG (r := 5) (ss_r h5).1 rfl) (e := (gi h s 1)) (rfl) ?_
    have ew : akF h s t (rcC x - 1000) = (gi h s 1) := by
      rw [er]
      rfl
    exact x_iret hK rfl ⟨rfl, by rw [ew]⟩
  rw [if_neg e1_1]
  rw [Op.lookupswitch.offset_cons]
  by_cases e1_2 : (120 : Int) = (-x)
  · rw [if_pos e1_2]
    show K 46 _ _ _ _ _
    have ex : x = -120 := by omega
    have er : rcC x - 1000 = 2 := by rw [ex]; decide
    refine x_aload_n 47 hK rfl rfl rfl ?_
    have g313 := gi_r h s 2
    refine x_getE 50 hK rfl (Or.inl rfl) rfl (shx (h := h) hG (r := 5) (ss_r h5).1 rfl) (e := (gi h s 2)) (rfl) ?_
    have ew : akF h s t (rcC x - 1000) = (gi h s 2) := by
      rw [er]
      rfl
    exact x_iret hK rfl ⟨rfl, by rw [ew]⟩
  rw [if_neg e1_2]
  show K 51 _ _ _ _ _
  have ex : x = -110 := by omega
  have er : rcC x - 1000 = 3 := by rw [ex]; decide
  refine x_iload_n 52 hK rfl rfl rfl ?_
  have ew : akF h s t (rcC x - 1000) = t := by
    rw [er]
    rfl
  exact x_iret hK rfl ⟨rfl, by rw [ew]⟩
theorem ak_r {sh : List (Nat × Nat)} {h : aH} {s : Nat} {t : Int} (_ : GD gE gRL sh h) (_ : s = 5 ∨ s = 8) (rt : r32 t) (q : Int) : r32 (akF h s t q) := by
  have := gi_r h s 0
  have := gi_r h s 1
  have := gi_r h s 2
  unfold akF
  (repeat' split) <;> assumption
set_option maxRecDepth 4000 in
theorem ctX4_workF {SP : CT} (hSP : MONO SP) {sh : List (Nat × Nat)} {h : aH} (hG : GD gE gRL sh h) {u : Nat} (hP : PT h) (hu : u = 11 ∨ u = 14) {s : Nat} (h5 : s = 5 ∨ s = 8) {c : Nat → Int} (hcd : ∀ k : Nat, (k : Int) < gi h u 1 → rcC (gi h (u + 1) k) = c k ∧ cdP (gi h (u + 1) k)) (hV : VCd c (gi h u 1)) (hh : 0 < gi h u 1 → hgt c (gi h u 1).toNat = 1) {t : Int} (rt : r32 t) (hn : 0 < gi h u 1) : CLd SP 3 mX4_work [.ref u, .ref s, .int (I t)] h 0 0 (fun rv h' => (∃ x, rv = some (.int (I x)) ∧ r32 x ∧ (ruS c (akF h s t) (gi h u 1).toNat) = [x]) ∧ GD gE gRL sh h' ∧ FRM gRL [(0, 8, 3, 3), (0, 10, 0, 39)] h h') := by
  refine x_met _ rfl (Nat.le_of_ble_eq_true rfl) (fun K hK => ?_)
  have hmono := MONO_CLd hSP 2
  have gn := gri 0 40 hG (a := u) (r := 8) (k := 1) (su_r hu).1 rfl
  have loop : ∀ (mz : Nat) (i : Int) (h4 : aH) (ls : List (Nat × Value)), (((gi h u 1) - i).toNat = mz) → (0 ≤ i ∧ i ≤ (gi h u 1)) → (SKU h4 u (ruS c (akF h s t) i.toNat)) → lk ls 0 = some (.ref u) → lk ls 1 = some (.ref s) → lk ls 2 = some (.int (I t)) → lk ls 3 = some (.int (I i)) → GD gE gRL sh h4 → FRM gRL [(0, 8, 3, 3), (0, 10, 0, 39)] h h4 → K 7 ls [] h4 0 0 := by
    intro mz
    induction mz using Nat.strongRecOn with
    | ind mz ih =>
    intro i h4 ls hm i0 sk l0 l1 l2 l3 hG4 hF4
    have hq := fun z : i < (gi h u 1) => VC_at hV (k := i.toNat) (by omega)
    have hm2 := fun z : i < (gi h u 1) => hcd i.toNat (by omega)
    have hl := ruS_l (c := c) (ak := (akF h s t)) hV i.toNat (by omega)
    have rs : (ruS c (akF h s t) (i + 1).toNat) = ruStep (c i.toNat) (akF h s t) (ruS c (akF h s t) i.toNat) := by rw [tn_s i0.1]; rfl
    refine x_iload_n 8 hK rfl rfl l3 ?_
    refine x_aload_n 9 hK rfl rfl l0 ?_
    have g314 := gri (0) (40) hG (a := u) (r := 8) (k := 1) (su_r hu).1 rfl
    refine x_getE 12 hK rfl (Or.inl rfl) rfl (shx (h := h4) hG4 (r := 8) (su_r hu).1 rfl) (e := (gi h u 1)) (FRM_gi hF4 (r := 8) (su_r hu).1 rfl) ?_
    refine x_if_icmp_ge 111 15 hK rfl rfl rfl (by omega) (by omega) (fun c4 => ?_) (fun c4 => ?_)
    · obtain ⟨x, hs⟩ : ∃ x, (ruS c (akF h s t) i.toNat) = [x] := hd_1 (by have z := hh hn; rw [show (gi h u 1).toNat = i.toNat by omega] at z; omega)
      rw [hs] at sk
      refine x_aload_n 112 hK rfl rfl l0 ?_
      refine x_callV 115 hK hmono rfl rfl [.ref u] [] rfl rfl (Nat.le_of_ble_eq_true rfl) (Nat.le_of_ble_eq_true rfl) rfl (shx (h := h4) hG4 (r := 8) (su_r hu).1 rfl) (CLd_le (Nat.le_of_ble_eq_true rfl) (ctX4_popF hSP hG4 (show PT h4 from (PT_F hF4 (by decide) hP)) hu sk)) ?_
      rintro v315 h315 ⟨rfl, hG315, hF315, sk315⟩
      exact x_iret hK rfl ⟨⟨x, rfl, SKU_r sk, by rw [show (gi h u 1).toNat = i.toNat by omega]; exact hs⟩, hG315, (hF4).trans ((hF315).mono rfl)⟩
    · refine x_aload_n 16 hK rfl rfl l0 ?_
      refine x_getR 19 hK rfl rfl (shx (h := h4) hG4 (r := 8) (su_r hu).1 rfl) (su_p (PT_F hF4 (by decide) hP) hu) ?_
      refine x_iload_n 20 hK rfl rfl l3 ?_
      refine x_ialoadE 21 hK rfl rfl (shx (h := h4) hG4 (r := 9) (su_r hu).2 rfl) (by omega) (by omega) (by omega) (e' := (gi h (u + 1) i.toNat)) (FRM_gi hF4 (r := 9) (su_r hu).2 rfl) ?_
      refine x_ineg 22 hK rfl rfl ?_
      obtain ⟨m1, m2⟩ := hm2 (by omega)
      have q1 := hq (by omega)
      have m3 := m2
      unfold cdP at m3
      refine x_istore 24 hK rfl rfl _ rfl ?_
      refine x_iload 26 hK rfl rfl lk1_s ?_
      refine x_if_gt 42 29 hK rfl rfl rfl (by omega) (fun c17 => ?_) (fun c17 => ?_)
      · refine x_iload 44 hK rfl rfl lk1_s ?_
        refine x_sipush 47 hK rfl rfl rfl ?_
        refine x_if_icmp_ne 62 50 hK rfl rfl rfl (by omega) (by omega) (fun c20 => ?_) (fun c20 => ?_)
        · refine x_iload 64 hK rfl rfl lk1_s ?_
          refine x_callS 67 hK hmono rfl (Or.inl rfl) rfl [.int (I (-(gi h (u + 1) i.toNat)))] [] rfl rfl (Nat.le_of_ble_eq_true rfl) (Nat.le_of_ble_eq_true rfl) (CLd_le (Nat.le_of_ble_eq_true rfl) (ctX5_rankF hSP (by omega))) ?_
          rintro v9 h9 ⟨e9, rfl⟩
          rw [e9]
          clear e9
          have rk316 := rkI_b (-(gi h (u + 1) i.toNat))
          refine x_if_le 94 70 hK rfl rfl rfl (by omega) (fun c23 => ?_) (fun c23 => ?_)
          · obtain ⟨a1, a2, a3⟩ := cd_as m2 (by omega) (by omega) (by omega)
            rw [m1] at a2 a3
            refine x_aload_n 95 hK rfl rfl (lk1_n l0 (by decide) (Or.inl rfl)) ?_
            refine x_iload 97 hK rfl rfl lk1_s ?_
            refine x_aload_n 98 hK rfl rfl (lk1_n l1 (by decide) (Or.inl rfl)) ?_
            refine x_iload_n 99 hK rfl rfl (lk1_n l2 (by decide) (Or.inl rfl)) ?_
            refine x_callS 102 hK hmono rfl (Or.inl rfl) rfl [.int (I (-(gi h (u + 1) i.toNat))), .ref s, .int (I t)] [.ref u] rfl rfl (Nat.le_of_ble_eq_true rfl) (Nat.le_of_ble_eq_true rfl) (CLd_le (Nat.le_of_ble_eq_true rfl) (ctX4_valueOfF hSP hG4 (x := (gi h (u + 1) i.toNat)) h5 a1 rt)) ?_
            rintro v9 h9 ⟨e9, rfl⟩
            have ea : akF h4 s t = akF h s t := by funext q; unfold akF; rw [show gi h4 s 0 = gi h s 0 from FRM_gi hF4 (r := 5) (ss_r h5).1 rfl, show gi h4 s 1 = gi h s 1 from FRM_gi hF4 (r := 5) (ss_r h5).1 rfl, show gi h4 s 2 = gi h s 2 from FRM_gi hF4 (r := 5) (ss_r h5).1 rfl]
            rw [e9, m1, ea]
            clear e9
            refine x_callV 105 hK hmono rfl rfl [.ref u, .int (I ((akF h s t) (c i.toNat - 1000)))] [] rfl rfl (Nat.le_of_ble_eq_true rfl) (Nat.le_of_ble_eq_true rfl) rfl (shx (h := h4) hG4 (r := 8) (su_r hu).1 rfl) (CLd_le (Nat.le_of_ble_eq_true rfl) (ctX4_pushF hSP hG4 (show PT h4 from (PT_F hF4 (by decide) hP)) hu sk (by omega))) ?_
            rintro v317 h317 ⟨rfl, hG317, hF317, sk317⟩
            refine x_iinc 108 hK rfl rfl (lk1_n l3 (by decide) (Or.inl rfl)) _ rfl ?_
            refine x_goto 7 hK rfl rfl ?_
            rw [w32_e (ak_r hG h5 rt _)] at sk317
            have sn : SKU h317 u (ruS c (akF h s t) (i + 1).toNat) := by
              rw [rs]
              unfold ruStep
              rw [if_neg (by omega), if_neg (by omega), if_pos (by omega)]
              exact sk317
            exact ih _ (by omega) (i + 1) _ _ rfl (by omega) (sn) (lk1_n (lk1_n l0 (by decide) (Or.inl rfl)) (by decide) (Or.inl rfl)) (lk1_n (lk1_n l1 (by decide) (Or.inl rfl)) (by decide) (Or.inl rfl)) (lk1_n (lk1_n l2 (by decide) (Or.inl rfl)) (by decide) (Or.inl rfl)) lk1_s (hG317) ((hF4).trans ((hF317).mono rfl))
          · obtain ⟨o1, o2, o3⟩ := cd_op m2 (by omega) (by omega)
            rw [m1] at o2 o3
            have q2 := q1.2.2.2.1 (by omega) o2
            obtain ⟨y, x, r, hs⟩ : ∃ y x r, (ruS c (akF h s t) i.toNat) = y :: x :: r := by
              match hz : (ruS c (akF h s t) i.toNat) with
              | [] => rw [hz] at hl; simp only [List.length_nil] at hl; omega
              | [x] => rw [hz] at hl; simp only [List.length_cons, List.length_nil] at hl; omega
              | y :: x :: r => exact ⟨y, x, r, rfl⟩
            rw [hs] at sk hl
            simp only [List.length_cons] at hl
            have ry := SKU_r sk
            refine x_aload_n 71 hK rfl rfl (lk1_n l0 (by decide) (Or.inl rfl)) ?_
            refine x_callV 74 hK hmono rfl rfl [.ref u] [] rfl rfl (Nat.le_of_ble_eq_true rfl) (Nat.le_of_ble_eq_true rfl) rfl (shx (h := h4) hG4 (r := 8) (su_r hu).1 rfl) (CLd_le (Nat.le_of_ble_eq_true rfl) (ctX4_popF hSP hG4 (show PT h4 from (PT_F hF4 (by decide) hP)) hu sk)) ?_
            rintro v318 h318 ⟨rfl, hG318, hF318, sk318⟩
            have rx := SKU_r sk318
            refine x_istore 76 hK rfl rfl _ rfl ?_
            refine x_aload_n 77 hK rfl rfl (lk1_n (lk1_n l0 (by decide) (Or.inl rfl)) (by decide) (Or.inl rfl)) ?_
            refine x_iload 79 hK rfl rfl (lk1_n lk1_s (by decide) (Or.inl rfl)) ?_
            refine x_aload_n 80 hK rfl rfl (lk1_n (lk1_n l0 (by decide) (Or.inl rfl)) (by decide) (Or.inl rfl)) ?_
            refine x_callV 83 hK hmono rfl rfl [.ref u] [.int (I (-(gi h (u + 1) i.toNat))), .ref u] rfl rfl (Nat.le_of_ble_eq_true rfl) (Nat.le_of_ble_eq_true rfl) rfl (shx (h := h318) hG318 (r := 8) (su_r hu).1 rfl) (CLd_le (Nat.le_of_ble_eq_true rfl) (ctX4_popF hSP hG318 (show PT h318 from (PT_F hF318 (by decide) (PT_F hF4 (by decide) hP))) hu sk318)) ?_
            rintro v319 h319 ⟨rfl, hG319, hF319, sk319⟩
            refine x_iload 85 hK rfl rfl lk1_s ?_
            refine x_callS 88 hK hmono rfl (Or.inl rfl) rfl [.int (I (-(gi h (u + 1) i.toNat))), .int (I x), .int (I y)] [.ref u] rfl rfl (Nat.le_of_ble_eq_true rfl) (Nat.le_of_ble_eq_true rfl) (CLd_le (Nat.le_of_ble_eq_true rfl) (ctX4_applyF hSP (x := (gi h (u + 1) i.toNat)) o1 rx ry)) ?_
            rintro v9 h9 ⟨e9, rfl⟩
            rw [e9, m1]
            clear e9
            refine x_callV 91 hK hmono rfl rfl [.ref u, .int (I (wkF (c i.toNat - 2000) x y))] [] rfl rfl (Nat.le_of_ble_eq_true rfl) (Nat.le_of_ble_eq_true rfl) rfl (shx (h := h319) hG319 (r := 8) (su_r hu).1 rfl) (CLd_le (Nat.le_of_ble_eq_true rfl) (ctX4_pushF hSP hG319 (show PT h319 from (PT_F hF319 (by decide) (PT_F hF318 (by decide) (PT_F hF4 (by decide) hP)))) hu sk319 (by omega))) ?_
            rintro v320 h320 ⟨rfl, hG320, hF320, sk320⟩
            refine x_goto 105 hK rfl rfl ?_
            refine x_iinc 108 hK rfl rfl (lk1_n (lk1_n l3 (by decide) (Or.inl rfl)) (by decide) (Or.inl rfl)) _ rfl ?_
            refine x_goto 7 hK rfl rfl ?_
            rw [w32_e (wkF_r _ _ _)] at sk320
            have sn : SKU h320 u (ruS c (akF h s t) (i + 1).toNat) := by
              rw [rs]
              unfold ruStep
              rw [if_neg (by omega), if_pos (by omega), hs]
              exact sk320
            exact ih _ (by omega) (i + 1) _ _ rfl (by omega) (sn) (lk1_n (lk1_n (lk1_n l0 (by decide) (Or.inl rfl)) (by decide) (Or.inl rfl)) (by decide) (Or.inl rfl)) (lk1_n (lk1_n (lk1_n l1 (by decide) (Or.inl rfl)) (by decide) (Or.inl rfl)) (by decide) (Or.inl rfl)) (lk1_n (lk1_n (lk1_n l2 (by decide) (Or.inl rfl)) (by decide) (Or.inl rfl)) (by decide) (Or.inl rfl)) lk1_s (hG320) ((((hF4).trans ((hF318).mono rfl)).trans ((hF319).mono rfl)).trans ((hF320).mono rfl))
        · have mc : c i.toNat = 3000 := by rw [← m1, show gi h (u + 1) i.toNat = -256 by omega]; rfl
          have q2 := q1.2.2.1 mc
          obtain ⟨x, r, hs⟩ : ∃ x r, (ruS c (akF h s t) i.toNat) = x :: r := by
            cases hz : (ruS c (akF h s t) i.toNat) with
            | nil => rw [hz] at hl; simp only [List.length_nil] at hl; omega
            | cons x r => exact ⟨x, r, rfl⟩
          rw [hs] at sk hl
          simp only [List.length_cons] at hl
          have rx := SKU_r sk
          refine x_aload_n 51 hK rfl rfl (lk1_n l0 (by decide) (Or.inl rfl)) ?_
          refine x_aload_n 52 hK rfl rfl (lk1_n l0 (by decide) (Or.inl rfl)) ?_
          refine x_callV 55 hK hmono rfl rfl [.ref u] [.ref u] rfl rfl (Nat.le_of_ble_eq_true rfl) (Nat.le_of_ble_eq_true rfl) rfl (shx (h := h4) hG4 (r := 8) (su_r hu).1 rfl) (CLd_le (Nat.le_of_ble_eq_true rfl) (ctX4_popF hSP hG4 (show PT h4 from (PT_F hF4 (by decide) hP)) hu sk)) ?_
          rintro v321 h321 ⟨rfl, hG321, hF321, sk321⟩
          refine x_ineg 56 hK rfl rfl ?_
          refine x_callV 59 hK hmono rfl rfl [.ref u, .int (I (-x))] [] rfl rfl (Nat.le_of_ble_eq_true rfl) (Nat.le_of_ble_eq_true rfl) rfl (shx (h := h321) hG321 (r := 8) (su_r hu).1 rfl) (CLd_le (Nat.le_of_ble_eq_true rfl) (ctX4_pushF hSP hG321 (show PT h321 from (PT_F hF321 (by decide) (PT_F hF4 (by decide) hP))) hu sk321 (by omega))) ?_
          rintro v322 h322 ⟨rfl, hG322, hF322, sk322⟩
          refine x_goto 105 hK rfl rfl ?_
          refine x_iinc 108 hK rfl rfl (lk1_n l3 (by decide) (Or.inl rfl)) _ rfl ?_
          refine x_goto 7 hK rfl rfl ?_
          have sn : SKU h322 u (ruS c (akF h s t) (i + 1).toNat) := by
            rw [rs]
            unfold ruStep
            rw [if_pos mc, hs]
            exact sk322
          exact ih _ (by omega) (i + 1) _ _ rfl (by omega) (sn) (lk1_n (lk1_n l0 (by decide) (Or.inl rfl)) (by decide) (Or.inl rfl)) (lk1_n (lk1_n l1 (by decide) (Or.inl rfl)) (by decide) (Or.inl rfl)) (lk1_n (lk1_n l2 (by decide) (Or.inl rfl)) (by decide) (Or.inl rfl)) lk1_s (hG322) (((hF4).trans ((hF321).mono rfl)).trans ((hF322).mono rfl))
      · have mc : c i.toNat = (gi h (u + 1) i.toNat) := by rw [← m1, rcC_pos (by omega)]
        refine x_aload_n 30 hK rfl rfl (lk1_n l0 (by decide) (Or.inl rfl)) ?_
        refine x_aload_n 31 hK rfl rfl (lk1_n l0 (by decide) (Or.inl rfl)) ?_
        refine x_getR 34 hK rfl rfl (shx (h := h4) hG4 (r := 8) (su_r hu).1 rfl) (su_p (PT_F hF4 (by decide) hP) hu) ?_
        refine x_iload_n 35 hK rfl rfl (lk1_n l3 (by decide) (Or.inl rfl)) ?_
        refine x_ialoadE 36 hK rfl rfl (shx (h := h4) hG4 (r := 9) (su_r hu).2 rfl) (by omega) (by omega) (by omega) (e' := (gi h (u + 1) i.toNat)) (FRM_gi hF4 (r := 9) (su_r hu).2 rfl) ?_
        refine x_callV 39 hK hmono rfl rfl [.ref u, .int (I (gi h (u + 1) i.toNat))] [] rfl rfl (Nat.le_of_ble_eq_true rfl) (Nat.le_of_ble_eq_true rfl) rfl (shx (h := h4) hG4 (r := 8) (su_r hu).1 rfl) (CLd_le (Nat.le_of_ble_eq_true rfl) (ctX4_pushF hSP hG4 (show PT h4 from (PT_F hF4 (by decide) hP)) hu sk (by omega))) ?_
        rintro v323 h323 ⟨rfl, hG323, hF323, sk323⟩
        refine x_goto 105 hK rfl rfl ?_
        refine x_iinc 108 hK rfl rfl (lk1_n l3 (by decide) (Or.inl rfl)) _ rfl ?_
        refine x_goto 7 hK rfl rfl ?_
        rw [w32_e (gi_r h (u + 1) i.toNat)] at sk323
        have sn : SKU h323 u (ruS c (akF h s t) (i + 1).toNat) := by
          rw [rs]
          unfold ruStep
          rw [if_neg (by omega), if_neg (by omega), if_neg (by omega), mc]
          exact sk323
        exact ih _ (by omega) (i + 1) _ _ rfl (by omega) (sn) (lk1_n (lk1_n l0 (by decide) (Or.inl rfl)) (by decide) (Or.inl rfl)) (lk1_n (lk1_n l1 (by decide) (Or.inl rfl)) (by decide) (Or.inl rfl)) (lk1_n (lk1_n l2 (by decide) (Or.inl rfl)) (by decide) (Or.inl rfl)) lk1_s (hG323) ((hF4).trans ((hF323).mono rfl))
  refine x_aload_n 1 hK rfl rfl rfl ?_
  refine x_iconst 2 hK rfl rfl ?_
  refine x_putI 5 hK rfl rfl (shx (h := h) hG (r := 8) (su_r hu).1 rfl) ?_
  refine x_iconst 6 hK rfl rfl ?_
  refine x_istore_n 7 hK rfl rfl [(3, .int (I 0)), (0, .ref u), (1, .ref s), (2, .int (I t))] rfl ?_
  exact loop _ 0 _ _ rfl (by omega) (⟨gi_same (by omega), fun i hi => absurd hi (Nat.not_lt_zero _)⟩) rfl rfl rfl rfl (GD_w1 (hG) (r := 8) (su_r hu).1 (by omega) rfl (by omega) (by omega)) (FRM_w ((FRM.rf : FRM gRL [(0, 8, 3, 3), (0, 10, 0, 39)] h h)) (r := 8) (su_r hu).1 rfl)
set_option maxRecDepth 4000 in
theorem ctX10_delayAtF {SP : CT} (hSP : MONO SP) {sh : List (Nat × Nat)} {h : aH} (hG : GD gE gRL sh h) {u : Nat} (hP : PT h) (hu : u = 11 ∨ u = 14) {s : Nat} (h5 : s = 5 ∨ s = 8) {c : Nat → Int} (hcd : ∀ k : Nat, (k : Int) < gi h u 1 → rcC (gi h (u + 1) k) = c k ∧ cdP (gi h (u + 1) k)) (hV : VCd c (gi h u 1)) (hh : 0 < gi h u 1 → hgt c (gi h u 1).toNat = 1) (hL : aR h 0 4 = some u) (hS : aR h 0 2 = some s) (hl : 2 ≤ gi h s 0 ∧ gi h s 0 ≤ 40) {t : Int} (ht : 0 ≤ t ∧ t ≤ 2147483647) : CLd SP 5 mX10_delayAt [.ref 0, .int (I t)] h 0 0 (fun rv h' => rv = some (.int (I (dlF c (gi h u 1) (akF h s (t % 12))))) ∧ GD gE gRL sh h' ∧ FRM gRL [(0, 8, 3, 3), (0, 10, 0, 39)] h h') := by
  refine x_met _ rfl (Nat.le_of_ble_eq_true rfl) (fun K hK => ?_)
  have hmono := MONO_CLd hSP 4
  have gn := gri 0 40 hG (a := u) (r := 8) (k := 1) (su_r hu).1 rfl
  refine x_aload_n 1 hK rfl rfl rfl ?_
  refine x_getR 4 hK rfl rfl (sp_0 (h := h) hG) (hL) ?_
  have g324 := gri (0) (40) hG (a := u) (r := 8) (k := 1) (su_r hu).1 rfl
  refine x_getE 7 hK rfl (Or.inl rfl) rfl (shx (h := h) hG (r := 8) (su_r hu).1 rfl) (e := (gi h u 1)) (rfl) ?_
  refine x_if_ne 25 10 hK rfl rfl rfl (by omega) (fun c4 => ?_) (fun c4 => ?_)
  · refine x_aload_n 26 hK rfl rfl rfl ?_
    refine x_getR 29 hK rfl rfl (sp_0 (h := h) hG) (hL) ?_
    refine x_aload_n 30 hK rfl rfl rfl ?_
    refine x_getR 33 hK rfl rfl (sp_0 (h := h) hG) (hS) ?_
    refine x_iload_n 34 hK rfl rfl rfl ?_
    refine x_bipush 36 hK rfl rfl rfl ?_
    refine x_iremp 37 hK rfl rfl (by omega) (by omega) (by omega) (by omega) ?_
    refine x_callV 40 hK hmono rfl rfl [.ref u, .ref s, .int (I (t % 12))] [] rfl rfl (Nat.le_of_ble_eq_true rfl) (Nat.le_of_ble_eq_true rfl) rfl (shx (h := h) hG (r := 8) (su_r hu).1 rfl) (CLd_le (Nat.le_of_ble_eq_true rfl) (ctX4_workF hSP hG hP hu h5 hcd hV hh (t := t % 12) (by omega) (by omega))) ?_
    rintro v325 h325 ⟨⟨x, rfl, rx, hx⟩, hG325, hF325⟩
    have ed : (dlF c (gi h u 1) (akF h s (t % 12))) = max 1 (min 12 x) := by unfold dlF; rw [if_neg (by omega), hx]; rfl
    refine x_istore_n 41 hK rfl rfl [(2, .int (I x)), (0, .ref 0), (1, .int (I t))] rfl ?_
    refine x_iload_n 42 hK rfl rfl rfl ?_
    refine x_iconst 43 hK rfl rfl ?_
    refine x_bipush 45 hK rfl rfl rfl ?_
    refine x_callS 48 hK hmono rfl (Or.inl rfl) rfl [.int (I x), .int (I 1), .int (I 12)] [] rfl rfl (Nat.le_of_ble_eq_true rfl) (Nat.le_of_ble_eq_true rfl) (CLd_le (Nat.le_of_ble_eq_true rfl) (ctX10_put hSP (v := x) (a := 1) (b := 12) (by omega) (by omega) (by omega))) ?_
    rintro v9 h9 ⟨e9, rfl⟩
    rw [e9]
    clear e9
    exact x_iret hK rfl ⟨by rw [ed], hG325, hF325⟩
  · refine x_aload_n 11 hK rfl rfl rfl ?_
    refine x_getR 14 hK rfl rfl (sp_0 (h := h) hG) (hS) ?_
    have g326 := gri (-1000000) (1000000) hG (a := s) (r := 5) (k := 0) (ss_r h5).1 rfl
    refine x_getE 17 hK rfl (Or.inl rfl) rfl (shx (h := h) hG (r := 5) (ss_r h5).1 rfl) (e := (gi h s 0)) (rfl) ?_
    refine x_bipush 19 hK rfl rfl rfl ?_
    refine x_idivp 20 hK rfl rfl (by omega) (by omega) (by omega) (by omega) ?_
    refine x_iconst 21 hK rfl rfl ?_
    refine x_iadd 22 hK rfl rfl ?_
    refine x_goto 40 hK rfl rfl ?_
    refine x_istore_n 41 hK rfl rfl [(2, .int (I (((gi h s 0) / 8) + 1))), (0, .ref 0), (1, .int (I t))] rfl ?_
    refine x_iload_n 42 hK rfl rfl rfl ?_
    refine x_iconst 43 hK rfl rfl ?_
    refine x_bipush 45 hK rfl rfl rfl ?_
    refine x_callS 48 hK hmono rfl (Or.inl rfl) rfl [.int (I (((gi h s 0) / 8) + 1)), .int (I 1), .int (I 12)] [] rfl rfl (Nat.le_of_ble_eq_true rfl) (Nat.le_of_ble_eq_true rfl) (CLd_le (Nat.le_of_ble_eq_true rfl) (ctX10_put hSP (v := (((gi h s 0) / 8) + 1)) (a := 1) (b := 12) (by omega) (by omega) (by omega))) ?_
    rintro v9 h9 ⟨e9, rfl⟩
    rw [e9]
    clear e9
    have ed : (dlF c (gi h u 1) (akF h s (t % 12))) = (max 1 (min 12 (((gi h s 0) / 8) + 1))) := by unfold dlF; rw [if_pos (by omega)]; rfl
    exact x_iret hK rfl ⟨by rw [ed], hG, FRM.rf⟩
