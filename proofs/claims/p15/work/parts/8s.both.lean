/-! THE STATE OF BOTH -/
def WW (b : Int) (w : WS) : Prop := (0 ≤ w.1 ∧ w.1 ≤ b) ∧ (0 ≤ w.2.1 ∧ w.2.1 ≤ 8) ∧ (0 ≤ w.2.2.1 ∧ w.2.2.1 ≤ 16 * b) ∧ (-1 ≤ w.2.2.2.1 ∧ w.2.2.2.1 ≤ b) ∧ ∀ m, m < 8 → (0 ≤ w.2.2.2.2.2.1 m ∧ w.2.2.2.2.2.1 m ≤ 99) ∧ 0 ≤ w.2.2.2.2.2.2 m ∧ w.2.2.2.2.2.2 m ≤ b
theorem WW_of {b : Int} {s : Nat → Int} (w : WB b s) : WW b (vw s) := by
  obtain ⟨w0, w1, w2, w3, w4, w5⟩ := w
  refine ⟨w0, w1, w2, w4, fun m hm => ?_⟩
  show (0 ≤ (if m < 8 then s (41 + m) else 0) ∧ (if m < 8 then s (41 + m) else 0) ≤ 99) ∧ 0 ≤ (if m < 8 then s (49 + m) else 0) ∧ (if m < 8 then s (49 + m) else 0) ≤ b
  rw [if_pos hm, if_pos hm]
  exact w5 m hm
theorem STR_to {sh : List (Nat × Nat)} {h : aH} (hG : GD gE gRL sh h) {ms : Int} {w : WS} (hS : STR ms (kS h 23) w) : gi h 23 0 = w.1 ∧ gi h 23 1 = w.2.1 ∧ gi h 23 2 = w.2.2.1 ∧ gi h 23 3 = w.2.2.2.1 ∧ gi h 23 4 = (w.2.2.2.2.1.length : Int) ∧ kO h 23 (gi h 23 4).toNat = srt w.2.2.2.2.1 ∧ ∀ m : Nat, m < 8 → (m : Int) < ms → gi h 26 m = w.2.2.2.2.2.1 m ∧ gi h 27 m = w.2.2.2.2.2.2 m := by
  obtain ⟨-, h1, h2, h3, h4, h5, h6⟩ := hS
  have g4 := gri 0 12 hG (a := 23) (r := 17) (k := 4) rfl rfl
  have h5 : kO h 23 (gi h 23 4).toNat = srt w.2.2.2.2.1 := h5
  have l5 := congrArg List.length h5
  rw [kO_l, srt_len] at l5
  refine ⟨h1, h2, h3, h4, by omega, h5, fun m hm hx => ?_⟩
  obtain ⟨a, b⟩ := h6 m hx
  have a : (if m < 8 then gi h 26 m else 0) = w.2.2.2.2.2.1 m := a
  have b : (if m < 8 then gi h 27 m else 0) = w.2.2.2.2.2.2 m := b
  rw [if_pos hm] at a b
  exact ⟨a, b⟩
theorem STR_of {h : aH} {ms : Int} {w : WS} (h8 : ms ≤ 8) (ok : OKW w) (e0 : gi h 23 0 = w.1) (e1 : gi h 23 1 = w.2.1) (e2 : gi h 23 2 = w.2.2.1) (e3 : gi h 23 3 = w.2.2.2.1) (e4 : kO h 23 (gi h 23 4).toNat = srt w.2.2.2.2.1) (ef : ∀ m : Nat, (m : Int) < ms → gi h 26 m = w.2.2.2.2.2.1 m ∧ gi h 27 m = w.2.2.2.2.2.2 m) : STR ms (kS h 23) w := by
  refine ⟨ok, e0, e1, e2, e3, e4, fun m hm => ?_⟩
  show (if m < 8 then gi h 26 m else 0) = w.2.2.2.2.2.1 m ∧ (if m < 8 then gi h 27 m else 0) = w.2.2.2.2.2.2 m
  rw [if_pos (by omega), if_pos (by omega)]
  exact ef m hm
theorem STR_hb {sh : List (Nat × Nat)} {h : aH} (hG : GD gE gRL sh h) {ms b : Int} {w : WS} (hS : STR ms (kS h 23) w) (hw : WW b w) (hb : b ≤ 1000000) : ∀ j : Nat, (j : Int) < gi h 23 4 → (-1 ≤ gi h 25 j ∧ gi h 25 j ≤ 1) ∧ 0 ≤ gi h 24 j ∧ gi h 24 j ≤ 2000000 := fun j hj => by
  have e := (STR_to hG hS).2.2.2.2.2.1
  have m : (gi h 24 j, gi h 25 j) ∈ srt w.2.2.2.2.1 := by
    rw [← e]
    exact List.mem_of_getElem? (kO_at (h := h) (c := 23) (n := (gi h 23 4).toNat) (j := j) (by omega))
  obtain ⟨q, hq, eq⟩ := srt_mem m
  have e1 : gi h 24 j = q.1 := congrArg Prod.fst eq
  have e2 : gi h 25 j = q.2.1 := congrArg Prod.snd eq
  obtain ⟨⟨o1, o2⟩, o3, o4, o5⟩ := hS.1.1 q hq
  have := hw.1
  rw [e1, e2]
  exact ⟨⟨o4, o5⟩, by omega, by omega⟩
theorem STR_ss {sh : List (Nat × Nat)} {h : aH} (hG : GD gE gRL sh h) {ms : Int} {w : WS} (hS : STR ms (kS h 23) w) : SRT (kO h 23 (gi h 23 4).toNat) := by
  rw [(STR_to hG hS).2.2.2.2.2.1]
  exact srt_SRT _
/-- the past of both -/
def PLR (ms : Int) : List CWS → List (Nat → Int) → Prop
  | [], [] => True
  | x :: l, s :: u => STR ms x (vw s) ∧ PLR ms l u
  | _, _ => False
theorem PLR_len {ms : Int} : ∀ {l : List CWS} {u : List (Nat → Int)}, PLR ms l u → l.length = u.length
  | [], [], _ => rfl
  | _ :: _, _ :: _, h => congrArg (· + 1) (PLR_len h.2)
  | [], _ :: _, h => h.elim
  | _ :: _, [], h => h.elim
theorem PLR_snoc {ms : Int} {x : CWS} {s : Nat → Int} (hx : STR ms x (vw s)) : ∀ {l : List CWS} {u : List (Nat → Int)}, PLR ms l u → PLR ms (l ++ [x]) (u ++ [s])
  | [], [], _ => ⟨hx, trivial⟩
  | _ :: _, _ :: _, h => ⟨h.1, PLR_snoc hx h.2⟩
  | [], _ :: _, h => h.elim
  | _ :: _, [], h => h.elim
theorem PLR_last {ms : Int} {x : CWS} {s : Nat → Int} : ∀ {l : List CWS} {u : List (Nat → Int)}, PLR ms (l ++ [x]) (u ++ [s]) → PLR ms l u ∧ STR ms x (vw s)
  | [], [], h => ⟨trivial, h.1⟩
  | _ :: _, _ :: _, h => ⟨⟨h.1, (PLR_last h.2).1⟩, (PLR_last h.2).2⟩
  | [], _ :: _, h => by
    have z := PLR_len h
    simp at z
  | _ :: _, [], h => by
    have z := PLR_len h
    simp at z
theorem PLR_tl {ms : Int} : ∀ {l : List CWS} {u : List (Nat → Int)}, PLR ms l u → PLR ms (l.drop 1) (u.drop 1)
  | [], [], _ => trivial
  | _ :: _, _ :: _, h => h.2
  | [], _ :: _, h => h.elim
  | _ :: _, [], h => h.elim
theorem PLR_push {ms : Int} {x : CWS} {s : Nat → Int} {l : List CWS} {u : List (Nat → Int)} (hl : PLR ms l u) (hx : STR ms x (vw s)) : PLR ms (pushC l x) (pushU u s) := by
  unfold pushC pushU
  rw [PLR_len hl]
  split
  · exact PLR_snoc hx hl
  · exact PLR_snoc hx (PLR_tl hl)
/-- what DELAY stands on, of both -/
def DR (h : aH) (s u : Nat) : Prop := (s = 5 ∨ s = 8) ∧ (u = 11 ∨ u = 14) ∧ aR h 0 2 = some s ∧ aR h 0 4 = some u ∧ (gi h s 0 = gi h 171 3 ∧ gi h s 1 = gi h 171 4 ∧ gi h s 2 = gi h 171 5) ∧ gi h u 1 = gi h 171 25 ∧ (∀ k : Nat, (k : Int) < gi h u 1 → rcC (gi h (u + 1) k) = gi h 182 k ∧ cdP (gi h (u + 1) k)) ∧ (0 < gi h u 1 → hgt (fun k => gi h 182 k) (gi h u 1).toNat = 1)
theorem DR_of {h : aH} {s t u v : Nat} (hw : SW h s t) (c0 : gi h s 0 = gi h 171 3) (c1 : gi h s 1 = gi h 171 4) (c2 : gi h s 2 = gi h 171 5) (lw : LW h u v) (r0 : gi h u 1 = gi h 171 25) (r1 : (cdL h u (gi h u 1).toNat).map rcC = (List.range (gi h 171 25).toNat).map (gi h 182)) (r2 : ∀ x ∈ cdL h u (gi h u 1).toNat, cdP x) (r3 : 0 < gi h u 1 → dls ((cdL h u (gi h u 1).toNat).map rcC) = 1) : DR h s u := by
  refine ⟨by have := hw.1; omega, by have := lw.1; omega, hw.2.1, lw.2.1, ⟨c0, c1, c2⟩, r0, fun k hk => ⟨?_, ?_⟩, fun z => ?_⟩
  · have e : ((cdL h u (gi h u 1).toNat).map rcC)[k]? = ((List.range (gi h 171 25).toNat).map (gi h 182))[k]? := by rw [r1]
    unfold cdL at e
    rw [List.getElem?_map, List.getElem?_map, List.getElem?_map, List.getElem?_range (by omega), List.getElem?_range (by omega)] at e
    exact Option.some.inj e
  · refine r2 _ ?_
    unfold cdL
    exact List.mem_map.mpr ⟨k, List.mem_range.mpr (by omega), rfl⟩
  · have y := r3 z
    rw [r1, ← r0, ← hgt_dls (gi h 182)] at y
    exact y
theorem ask_eq {h : aH} {s u : Nat} (hD : DR h s u) (t q : Int) (h0 : 0 ≤ q) (h3 : q ≤ 3) : akF h s (t % 12) q = askF h t q := by
  obtain ⟨-, -, -, -, ⟨c0, c1, c2⟩, -⟩ := hD
  unfold akF askF
  rw [c0, c1, c2]
  by_cases a : q = 0
  · rw [if_pos a, if_pos a]
  · by_cases b : q = 1
    · rw [if_neg a, if_neg a, if_pos b, if_pos b]
    · by_cases c : q = 2
      · rw [if_neg a, if_neg a, if_neg b, if_neg b, if_pos c, if_pos c]
      · rw [if_neg a, if_neg a, if_neg b, if_neg b, if_neg c, if_neg c, if_pos (by omega)]
theorem ctX10_delayA {SP : CT} (hSP : MONO SP) {sh : List (Nat × Nat)} {h : aH} (hG : GD gE gRL sh h) (hP : PT h) (hX : XI h) {s u : Nat} (hD : DR h s u) {t : Int} (ht : 0 ≤ t ∧ t ≤ 2147483647) : CLd SP 5 mX10_delayAt [.ref 0, .int (I t)] h 0 0 (fun rv h' => rv = some (.int (I (dlA h t))) ∧ GD gE gRL sh h' ∧ FRM gRL [(0, 8, 3, 3), (0, 10, 0, 39)] h h') := by
  have hX : VCd (fun k => gi h 182 k) (gi h 171 25) := hX
  have g3 := gri 2 40 hG (a := 171) (r := 54) (k := 3) rfl rfl
  have g25 := gri 0 80 hG (a := 171) (r := 54) (k := 25) rfl rfl
  have hD2 := hD
  obtain ⟨h5, hu, hS, hL, ⟨c0, c1, c2⟩, r0, r1, r2⟩ := hD2
  refine MONO_CLd hSP 5 _ _ _ _ _ _ _ (fun rv h' hq => ?_) (ctX10_delayAtF hSP hG hP hu h5 r1 (by rw [r0]; exact hX) r2 hL hS (by omega) ht)
  obtain ⟨rfl, hG', hF'⟩ := hq
  refine ⟨?_, hG', hF'⟩
  rw [show dlF (fun k => gi h 182 k) (gi h u 1) (akF h s (t % 12)) = dlA h t from by
    unfold dlA
    rw [r0]
    exact dlF_congr hX (fun k _ => rfl) (fun q q0 q3 => ask_eq hD t q q0 q3) g25.1]
set_option maxRecDepth 4000 in
theorem ctX10_orderRefusalF {SP : CT} (hSP : MONO SP) {sh : List (Nat × Nat)} {h : aH} (hG : GD gE gRL sh h) {w : WS} {ms : Int} (hS : STR ms (kS h 23) w) : CLd SP 2 mX10_orderRefusal [.ref 0] h 0 0 (fun rv h' => h' = h ∧ rv = some (.int (I (gvR 0 w)))) := by
  refine x_met _ rfl (Nat.le_of_ble_eq_true rfl) (fun K hK => ?_)
  have hmono := MONO_CLd hSP 1
  obtain ⟨k0, k1, k2, k3, k4, k5, k6⟩ := STR_to hG hS
  have l12 := hS.1.2.2.1
  refine x_aload_n 1 hK rfl rfl rfl ?_
  refine x_getR 4 hK rfl rfl (sp_0 (h := h) hG) (rf_0_10 (h := h) hG) ?_
  refine x_callV 7 hK hmono rfl rfl [.ref 23] [] rfl rfl (Nat.le_of_ble_eq_true rfl) (Nat.le_of_ble_eq_true rfl) rfl (sp_23 (h := h) hG) (CLd_le (Nat.le_of_ble_eq_true rfl) (ctX8_gaveNow hSP hG)) ?_
  rintro v9 h9 ⟨e9, rfl⟩
  rw [e9]
  clear e9
  by_cases cg : gi h 23 3 = gi h 23 0
  · rw [if_pos cg]
    refine x_if_eq 13 10 hK rfl rfl rfl (by omega) (fun c => by omega) (fun _ => ?_)
    refine x_bipush 12 hK rfl rfl rfl ?_
    have e9 : gvR 0 w = (-2) := by unfold gvR; rw [if_neg (by omega), if_pos (by omega)]
    exact x_iret hK rfl ⟨rfl, by rw [e9]⟩
  · rw [if_neg cg]
    refine x_if_eq 13 10 hK rfl rfl rfl (by omega) (fun _ => ?_) (fun c => by omega)
    refine x_aload_n 14 hK rfl rfl rfl ?_
    refine x_getR 17 hK rfl rfl (sp_0 (h := h) hG) (rf_0_10 (h := h) hG) ?_
    refine x_getE 20 hK rfl (Or.inl rfl) rfl (sp_23 (h := h) hG) (e := (w.2.2.2.2.1.length : Int)) (k4) ?_
    refine x_bipush 22 hK rfl rfl rfl ?_
    refine x_if_icmp_lt 30 25 hK rfl rfl rfl (by omega) (by omega) (fun c12 => ?_) (fun c12 => ?_)
    · refine x_iconst 31 hK rfl rfl ?_
      have e9 : gvR 0 w = 0 := by unfold gvR; rw [if_neg (by omega), if_neg (by omega), if_neg (by omega)]
      exact x_iret hK rfl ⟨rfl, by rw [e9]⟩
    · refine x_bipush 27 hK rfl rfl rfl ?_
      refine x_goto 31 hK rfl rfl ?_
      have e9 : gvR 0 w = (-3) := by unfold gvR; rw [if_neg (by omega), if_neg (by omega), if_pos (by omega)]
      exact x_iret hK rfl ⟨rfl, by rw [e9]⟩
set_option maxRecDepth 4000 in
theorem ctX10_goStepF {SP : CT} (hSP : MONO SP) {sh : List (Nat × Nat)} {h : aH} (hG : GD gE gRL sh h) {b : Int} {w : WS} (hS : STR (gi h 0 9) (kS h 23) w) (hw : WW b w) (hb : b ≤ 950000) {ml ln ea : Nat → Int} (hml : ∀ j : Nat, (j : Int) < gi h 19 0 → gi h 20 j = ml j ∧ gi h 21 j = ln j) (hea : ∀ m : Nat, (m : Int) < (gi h 0 9) → gi h 22 m = ea m ∧ 0 ≤ ea m ∧ ea m ≤ 9) : CLd SP 4 mX10_goStep [.ref 0] h 0 0 (fun rv h' => rv = some (.int (I (stU (gi h 0 9) ea w))) ∧ GD gE gRL sh h' ∧ FRM gRL [(0, 17, 0, 4), (0, 18, 0, 11), (0, 19, 0, 11), (0, 20, 0, 7), (0, 21, 0, 7)] h h' ∧ STR (gi h 0 9) (kS h' 23) (stW ml ln (gi h 19 0).toNat (gi h 0 9) ea w)) := by
  refine x_met _ rfl (Nat.le_of_ble_eq_true rfl) (fun K hK => ?_)
  have hmono := MONO_CLd hSP 3
  obtain ⟨k0, k1, k2, k3, k4, k5, k6⟩ := STR_to hG hS
  obtain ⟨w0, w1, w2, w3, w4⟩ := hw
  have g9 := gri 0 8 hG (a := 0) (r := 0) (k := 9) rfl rfl
  have g19 := gri 0 16 hG (a := 19) (r := 13) (k := 0) rfl rfl
  have dd := st_due hS.1
  have okS := OKW_st (ml := ml) (ln := ln) (nr := (gi h 19 0).toNat) (ms := gi h 0 9) (ea := ea) hS.1
  have hb1 := STR_hb hG hS ⟨w0, w1, w2, w3, w4⟩ (by omega)
  have sl : 0 ≤ stL w ∧ stL w ≤ 8 := ptF_b w1 _
  have eat : ∀ (mz : Nat) (c i : Int) (h4 : aH) (ls : List (Nat × Value)), (((gi h 0 9) - i).toNat = mz) → (0 ≤ i ∧ i ≤ (gi h 0 9)) → (c = hcN w.2.2.2.2.2.1 ea i.toNat) → (STR (gi h 0 9) (kS h4 23) (w.1 + 1, stL w, (w.2.2.1 + hitN ml ln (w.1 + 1) (stL w) (gi h 19 0).toNat), w.2.2.2.1, (w.2.2.2.2.1.filter fun q => !decide (q.1 = w.1 + 1)), (fun m => if m < i.toNat then fdS (w.2.2.2.2.2.1 m) (ea m) else w.2.2.2.2.2.1 m), (fun m => if m < i.toNat then huS (w.2.2.2.2.2.2 m) (w.2.2.2.2.2.1 m) (ea m) else w.2.2.2.2.2.2 m))) → lk ls 0 = some (.ref 0) → lk ls 1 = some (.int (I c)) → lk ls 2 = some (.int (I i)) → GD gE gRL sh h4 → FRM gRL [(0, 17, 0, 4), (0, 18, 0, 11), (0, 19, 0, 11), (0, 20, 0, 7), (0, 21, 0, 7)] h h4 → K 94 ls [] h4 0 0 := by
    intro mz
    induction mz using Nat.strongRecOn with
    | ind mz ih =>
    intro c i h4 ls hm i0 ce hs l0 l1 l2 hG4 hF4
    obtain ⟨j0, j1, j2, j3, j4, j5, j6⟩ := STR_to hG4 hs
    have hc := hcN_b w.2.2.2.2.2.1 ea i.toNat
    have he := fun z : i < (gi h 0 9) => hea i.toNat (by omega)
    have hi := fun z : i < (gi h 0 9) => j6 i.toNat (by omega) (by omega)
    have hw8 := fun z : i < gi h 0 9 => w4 i.toNat (by omega)
    have hif : i < (gi h 0 9) → gi h4 26 i.toNat = w.2.2.2.2.2.1 i.toNat ∧ gi h4 27 i.toNat = w.2.2.2.2.2.2 i.toNat := fun z => by
      have y := hi z
      have y1 : gi h4 26 i.toNat = if i.toNat < i.toNat then fdS (w.2.2.2.2.2.1 i.toNat) (ea i.toNat) else w.2.2.2.2.2.1 i.toNat := y.1
      have y2 : gi h4 27 i.toNat = if i.toNat < i.toNat then huS (w.2.2.2.2.2.2 i.toNat) (w.2.2.2.2.2.1 i.toNat) (ea i.toNat) else w.2.2.2.2.2.2 i.toNat := y.2
      rw [if_neg (Nat.lt_irrefl _)] at y1 y2
      exact ⟨y1, y2⟩
    have ce0 := ce
    clear ce
    refine x_iload_n 95 hK rfl rfl l2 ?_
    refine x_aload_n 96 hK rfl rfl l0 ?_
    have g423 := gri (0) (8) hG (a := 0) (r := 0) (k := 9) rfl rfl
    refine x_getE 99 hK rfl (Or.inl rfl) rfl (sp_0 (h := h4) hG4) (e := (gi h 0 9)) (FRM_gi hF4 (r := 0) rfl rfl) ?_
    refine x_if_icmp_ge 133 102 hK rfl rfl rfl (by omega) (by omega) (fun c4 => ?_) (fun c4 => ?_)
    · refine x_iload_n 134 hK rfl rfl l1 ?_
      have ei : i.toNat = (gi h 0 9).toNat := by omega
      rw [ei] at hs ce0
      have hs3 : STR (gi h 0 9) (kS h4 23) (stW ml ln (gi h 19 0).toNat (gi h 0 9) ea w) := by
        obtain ⟨q0, q1, q2, q3, q4, q5, q6⟩ := STR_to hG4 hs
        refine STR_of g9.2 okS q0 q1 q2 q3 q5 fun m hm => ?_
        obtain ⟨y1, y2⟩ := q6 m (by omega) hm
        have y1 : gi h4 26 m = if m < (gi h 0 9).toNat then fdS (w.2.2.2.2.2.1 m) (ea m) else w.2.2.2.2.2.1 m := y1
        have y2 : gi h4 27 m = if m < (gi h 0 9).toNat then huS (w.2.2.2.2.2.2 m) (w.2.2.2.2.2.1 m) (ea m) else w.2.2.2.2.2.2 m := y2
        rw [if_pos (by omega)] at y1 y2
        show gi h4 26 m = (if (m : Int) < (gi h 0 9) then fdS (w.2.2.2.2.2.1 m) (ea m) else w.2.2.2.2.2.1 m) ∧ gi h4 27 m = if (m : Int) < (gi h 0 9) then huS (w.2.2.2.2.2.2 m) (w.2.2.2.2.2.1 m) (ea m) else w.2.2.2.2.2.2 m
        rw [if_pos hm, if_pos hm]
        exact ⟨y1, y2⟩
      exact x_iret hK rfl ⟨by rw [ce0]; rfl, hG4, hF4, hs3⟩
    · refine x_iload_n 103 hK rfl rfl l1 ?_
      refine x_aload_n 104 hK rfl rfl l0 ?_
      refine x_getR 107 hK rfl rfl (sp_0 (h := h4) hG4) (rf_0_10 (h := h4) hG4) ?_
      refine x_iload_n 108 hK rfl rfl l2 ?_
      refine x_aload_n 109 hK rfl rfl l0 ?_
      refine x_getR 112 hK rfl rfl (sp_0 (h := h4) hG4) (rf_0_8 (h := h4) hG4) ?_
      refine x_iload_n 113 hK rfl rfl l2 ?_
      have g424 := grn (0) (9) hG (a := 22) (r := 16) (k := i.toNat) rfl rfl (by omega)
      refine x_ialoadE 114 hK rfl rfl (sp_22 (h := h4) hG4) (by omega) (by omega) (by omega) (e' := (gi h 22 i.toNat)) (FRM_gi hF4 (r := 16) rfl rfl) ?_
      have hei := he (by omega)
      have hii := hif (by omega)
      have h8i := hw8 (by omega)
      have ev : (gi h 22 i.toNat) = ea i.toNat := hei.1
      refine x_callV 117 hK hmono rfl rfl [.ref 23, .int (I i), .int (I (gi h 22 i.toNat))] [.int (I c)] rfl rfl (Nat.le_of_ble_eq_true rfl) (Nat.le_of_ble_eq_true rfl) rfl (sp_23 (h := h4) hG4) (CLd_le (Nat.le_of_ble_eq_true rfl) (ctX8_eat hSP hG4 (m := i) (e := (gi h 22 i.toNat)) (by omega) (by omega) (by omega) (by omega))) ?_
      rw [ev]
      rintro v425 h425 ⟨rfl, hG425, hF425, f1, f2⟩
      rw [hii.1] at f1 f2 ⊢
      rw [hii.2] at f2
      by_cases ce : w.2.2.2.2.2.1 i.toNat < ea i.toNat
      · rw [if_pos ce]
        refine x_if_eq 124 120 hK rfl rfl rfl (by omega) (fun _ => ?_) (fun c => by omega)
        refine x_iconst 125 hK rfl rfl ?_
        refine x_iadd 126 hK rfl rfl ?_
        refine x_istore_n 127 hK rfl rfl _ rfl ?_
        refine x_iinc 130 hK rfl rfl (lk1_n l2 (by decide) (Or.inl rfl)) _ rfl ?_
        refine x_goto 94 hK rfl rfl ?_
        have ce9 : c = hcN w.2.2.2.2.2.1 ea i.toNat := ce0
        have hs2 : STR (gi h 0 9) (kS h425 23) (w.1 + 1, stL w, (w.2.2.1 + hitN ml ln (w.1 + 1) (stL w) (gi h 19 0).toNat), w.2.2.2.1, (w.2.2.2.2.1.filter fun q => !decide (q.1 = w.1 + 1)), (fun m => if m < (i + 1).toNat then fdS (w.2.2.2.2.2.1 m) (ea m) else w.2.2.2.2.2.1 m), (fun m => if m < (i + 1).toNat then huS (w.2.2.2.2.2.2 m) (w.2.2.2.2.2.1 m) (ea m) else w.2.2.2.2.2.2 m)) := by
          refine STR_of g9.2 hs.1 ((FRM_gi hF425 (r := 17) rfl rfl).trans j0) ((FRM_gi hF425 (r := 17) rfl rfl).trans j1) ((FRM_gi hF425 (r := 17) rfl rfl).trans j2) ((FRM_gi hF425 (r := 17) rfl rfl).trans j3) ?_ fun m hm => ?_
          · rw [show gi h425 23 4 = gi h4 23 4 from FRM_gi hF425 (r := 17) rfl rfl]
            exact (kO_eq fun j _ => ⟨FRM_gi hF425 (r := 18) rfl rfl, FRM_gi hF425 (r := 19) rfl rfl⟩).trans j5
          · obtain ⟨y1, y2⟩ := j6 m (by omega) hm
            have y1 : gi h4 26 m = if m < i.toNat then fdS (w.2.2.2.2.2.1 m) (ea m) else w.2.2.2.2.2.1 m := y1
            have y2 : gi h4 27 m = if m < i.toNat then huS (w.2.2.2.2.2.2 m) (w.2.2.2.2.2.1 m) (ea m) else w.2.2.2.2.2.2 m := y2
            show gi h425 26 m = (if m < (i + 1).toNat then fdS (w.2.2.2.2.2.1 m) (ea m) else w.2.2.2.2.2.1 m) ∧ gi h425 27 m = if m < (i + 1).toNat then huS (w.2.2.2.2.2.2 m) (w.2.2.2.2.2.1 m) (ea m) else w.2.2.2.2.2.2 m
            rw [f1 m, f2 m]
            by_cases z : m = i.toNat
            · rw [if_pos z, if_pos z, if_pos (by omega), if_pos (by omega), z]
              exact ⟨rfl, rfl⟩
            · rw [if_neg z, if_neg z, y1, y2]
              by_cases y : m < i.toNat
              · rw [if_pos y, if_pos y, if_pos (by omega), if_pos (by omega)]
                exact ⟨rfl, rfl⟩
              · rw [if_neg y, if_neg y, if_neg (by omega), if_neg (by omega)]
                exact ⟨rfl, rfl⟩
        exact ih _ (by omega) (c + 1) (i + 1) _ _ rfl (by omega) (by rw [hcN_s i0.1, ← ce9]; first | rw [if_pos ce] | rw [if_neg ce]) (hs2) (lk1_n (lk1_n l0 (by decide) (Or.inl rfl)) (by decide) (Or.inl rfl)) (lk1_n lk1_s (by decide) (Or.inl rfl)) lk1_s (hG425) ((hF4).trans ((hF425).mono rfl))
      · rw [if_neg ce]
        refine x_if_eq 124 120 hK rfl rfl rfl (by omega) (fun c => by omega) (fun _ => ?_)
        refine x_iconst 121 hK rfl rfl ?_
        refine x_goto 125 hK rfl rfl ?_
        refine x_iadd 126 hK rfl rfl ?_
        refine x_istore_n 127 hK rfl rfl _ rfl ?_
        refine x_iinc 130 hK rfl rfl (lk1_n l2 (by decide) (Or.inl rfl)) _ rfl ?_
        refine x_goto 94 hK rfl rfl ?_
        have ce9 : c = hcN w.2.2.2.2.2.1 ea i.toNat := ce0
        have hs2 : STR (gi h 0 9) (kS h425 23) (w.1 + 1, stL w, (w.2.2.1 + hitN ml ln (w.1 + 1) (stL w) (gi h 19 0).toNat), w.2.2.2.1, (w.2.2.2.2.1.filter fun q => !decide (q.1 = w.1 + 1)), (fun m => if m < (i + 1).toNat then fdS (w.2.2.2.2.2.1 m) (ea m) else w.2.2.2.2.2.1 m), (fun m => if m < (i + 1).toNat then huS (w.2.2.2.2.2.2 m) (w.2.2.2.2.2.1 m) (ea m) else w.2.2.2.2.2.2 m)) := by
          refine STR_of g9.2 hs.1 ((FRM_gi hF425 (r := 17) rfl rfl).trans j0) ((FRM_gi hF425 (r := 17) rfl rfl).trans j1) ((FRM_gi hF425 (r := 17) rfl rfl).trans j2) ((FRM_gi hF425 (r := 17) rfl rfl).trans j3) ?_ fun m hm => ?_
          · rw [show gi h425 23 4 = gi h4 23 4 from FRM_gi hF425 (r := 17) rfl rfl]
            exact (kO_eq fun j _ => ⟨FRM_gi hF425 (r := 18) rfl rfl, FRM_gi hF425 (r := 19) rfl rfl⟩).trans j5
          · obtain ⟨y1, y2⟩ := j6 m (by omega) hm
            have y1 : gi h4 26 m = if m < i.toNat then fdS (w.2.2.2.2.2.1 m) (ea m) else w.2.2.2.2.2.1 m := y1
            have y2 : gi h4 27 m = if m < i.toNat then huS (w.2.2.2.2.2.2 m) (w.2.2.2.2.2.1 m) (ea m) else w.2.2.2.2.2.2 m := y2
            show gi h425 26 m = (if m < (i + 1).toNat then fdS (w.2.2.2.2.2.1 m) (ea m) else w.2.2.2.2.2.1 m) ∧ gi h425 27 m = if m < (i + 1).toNat then huS (w.2.2.2.2.2.2 m) (w.2.2.2.2.2.1 m) (ea m) else w.2.2.2.2.2.2 m
            rw [f1 m, f2 m]
            by_cases z : m = i.toNat
            · rw [if_pos z, if_pos z, if_pos (by omega), if_pos (by omega), z]
              exact ⟨rfl, rfl⟩
            · rw [if_neg z, if_neg z, y1, y2]
              by_cases y : m < i.toNat
              · rw [if_pos y, if_pos y, if_pos (by omega), if_pos (by omega)]
                exact ⟨rfl, rfl⟩
              · rw [if_neg y, if_neg y, if_neg (by omega), if_neg (by omega)]
                exact ⟨rfl, rfl⟩
        exact ih _ (by omega) (c + 0) (i + 1) _ _ rfl (by omega) (by rw [hcN_s i0.1, ← ce9]; first | rw [if_pos ce] | rw [if_neg ce]) (hs2) (lk1_n (lk1_n l0 (by decide) (Or.inl rfl)) (by decide) (Or.inl rfl)) (lk1_n lk1_s (by decide) (Or.inl rfl)) lk1_s (hG425) ((hF4).trans ((hF425).mono rfl))
  have rocks : ∀ (mz : Nat) (i : Int) (h4 : aH) (ls : List (Nat × Value)), ((gi h 19 0 - i).toNat = mz) → (0 ≤ i ∧ i ≤ gi h 19 0) → (STR (gi h 0 9) (kS h4 23) (w.1 + 1, stL w, (w.2.2.1 + hitN ml ln (w.1 + 1) (stL w) i.toNat), w.2.2.2.1, (w.2.2.2.2.1.filter fun q => !decide (q.1 = w.1 + 1)), w.2.2.2.2.2.1, w.2.2.2.2.2.2)) → lk ls 0 = some (.ref 0) → lk ls 1 = some (.int (I i)) → GD gE gRL sh h4 → FRM gRL [(0, 17, 0, 4), (0, 18, 0, 11), (0, 19, 0, 11), (0, 20, 0, 7), (0, 21, 0, 7)] h h4 → K 22 ls [] h4 0 0 := by
    intro mz
    induction mz using Nat.strongRecOn with
    | ind mz ih =>
    intro i h4 ls hm i0 hs l0 l1 hG4 hF4
    obtain ⟨j0, j1, j2, j3, j4, j5, j6⟩ := STR_to hG4 hs
    have hc := hitN_b ml ln (w.1 + 1) (stL w) i.toNat
    have hm := fun z : i < gi h 19 0 => hml i.toNat (by omega)
    have j0 : gi h4 23 0 = w.1 + 1 := j0
    have j1 : gi h4 23 1 = stL w := j1
    have j2 : gi h4 23 2 = (w.2.2.1 + hitN ml ln (w.1 + 1) (stL w) i.toNat) := j2
    refine x_iload_n 23 hK rfl rfl l1 ?_
    refine x_aload_n 24 hK rfl rfl l0 ?_
    refine x_getR 27 hK rfl rfl (sp_0 (h := h4) hG4) (rf_0_7 (h := h4) hG4) ?_
    have g426 := gri (0) (16) hG (a := 19) (r := 13) (k := 0) rfl rfl
    refine x_getE 30 hK rfl (Or.inl rfl) rfl (sp_19 (h := h4) hG4) (e := (gi h 19 0)) (FRM_gi hF4 (r := 13) rfl rfl) ?_
    refine x_if_icmp_ge 90 33 hK rfl rfl rfl (by omega) (by omega) (fun c5 => ?_) (fun c5 => ?_)
    · refine x_iconst 91 hK rfl rfl ?_
      refine x_istore_n 92 hK rfl rfl _ rfl ?_
      refine x_iconst 93 hK rfl rfl ?_
      refine x_istore_n 94 hK rfl rfl _ rfl ?_
      have ei : i.toNat = (gi h 19 0).toNat := by omega
      rw [ei] at hs
      have hs2 : STR (gi h 0 9) (kS h4 23) (w.1 + 1, stL w, (w.2.2.1 + hitN ml ln (w.1 + 1) (stL w) (gi h 19 0).toNat), w.2.2.2.1, (w.2.2.2.2.1.filter fun q => !decide (q.1 = w.1 + 1)), (fun m => if m < (0 : Int).toNat then fdS (w.2.2.2.2.2.1 m) (ea m) else w.2.2.2.2.2.1 m), (fun m => if m < (0 : Int).toNat then huS (w.2.2.2.2.2.2 m) (w.2.2.2.2.2.1 m) (ea m) else w.2.2.2.2.2.2 m)) := ⟨hs.1, hs.2.1, hs.2.2.1, hs.2.2.2.1, hs.2.2.2.2.1, hs.2.2.2.2.2.1, fun m hm => hs.2.2.2.2.2.2 m hm⟩
      exact eat _ 0 0 _ _ rfl (by omega) (rfl) (hs2) (lk1_n (lk1_n l0 (by decide) (Or.inl rfl)) (by decide) (Or.inl rfl)) (lk1_n lk1_s (by decide) (Or.inl rfl)) lk1_s (hG4) (hF4)
    · refine x_aload_n 34 hK rfl rfl l0 ?_
      refine x_getR 37 hK rfl rfl (sp_0 (h := h4) hG4) (rf_0_7 (h := h4) hG4) ?_
      refine x_getR 40 hK rfl rfl (sp_19 (h := h4) hG4) (rf_19_1 (h := h4) hG4) ?_
      refine x_iload_n 41 hK rfl rfl l1 ?_
      have g427 := gi_r h 20 i.toNat
      refine x_ialoadE 42 hK rfl rfl (sp_20 (h := h4) hG4) (by omega) (by omega) (by omega) (e' := (gi h 20 i.toNat)) (FRM_gi hF4 (r := 14) rfl rfl) ?_
      refine x_aload_n 43 hK rfl rfl l0 ?_
      refine x_getR 46 hK rfl rfl (sp_0 (h := h4) hG4) (rf_0_10 (h := h4) hG4) ?_
      refine x_getE 49 hK rfl (Or.inl rfl) rfl (sp_23 (h := h4) hG4) (e := (w.1 + 1)) (j0) ?_
      refine x_if_icmp_ne 84 52 hK rfl rfl rfl (by omega) (by omega) (fun c19 => ?_) (fun c19 => ?_)
      · refine x_iinc 87 hK rfl rfl l1 _ rfl ?_
        refine x_goto 22 hK rfl rfl ?_
        have hmi := hm (by omega)
        have hn9 : hitN ml ln (w.1 + 1) (stL w) (i + 1).toNat = hitN ml ln (w.1 + 1) (stL w) i.toNat + 0 := by
          rw [hitN_s i0.1]
          rw [if_neg (by rw [← hmi.1, ← hmi.2]; omega)]
        have hs2 : STR (gi h 0 9) (kS h4 23) (w.1 + 1, stL w, (w.2.2.1 + hitN ml ln (w.1 + 1) (stL w) (i + 1).toNat), w.2.2.2.1, (w.2.2.2.2.1.filter fun q => !decide (q.1 = w.1 + 1)), w.2.2.2.2.2.1, w.2.2.2.2.2.2) := by
          refine STR_of g9.2 (OKW_eq hs.1 rfl rfl rfl) (j0) (j1) ((j2).trans (by show _ = w.2.2.1 + hitN ml ln (w.1 + 1) (stL w) (i + 1).toNat; rw [hn9]; omega)) ((rfl).trans j3) ?_ fun m hm => ?_
          · rw [show gi h4 23 4 = gi h4 23 4 from rfl]
            exact (kO_eq fun j _ => ⟨rfl, rfl⟩).trans j5
          · obtain ⟨y1, y2⟩ := j6 m (by omega) hm
            exact ⟨(rfl).trans y1, (rfl).trans y2⟩
        exact ih _ (by omega) (i + 1) _ _ rfl (by omega) (hs2) (lk1_n l0 (by decide) (Or.inl rfl)) lk1_s (hG4) (hF4)
      · refine x_aload_n 53 hK rfl rfl l0 ?_
        refine x_getR 56 hK rfl rfl (sp_0 (h := h4) hG4) (rf_0_7 (h := h4) hG4) ?_
        refine x_getR 59 hK rfl rfl (sp_19 (h := h4) hG4) (rf_19_2 (h := h4) hG4) ?_
        refine x_iload_n 60 hK rfl rfl l1 ?_
        have g428 := grn (0) (8) hG (a := 21) (r := 15) (k := i.toNat) rfl rfl (by omega)
        refine x_ialoadE 61 hK rfl rfl (sp_21 (h := h4) hG4) (by omega) (by omega) (by omega) (e' := (gi h 21 i.toNat)) (FRM_gi hF4 (r := 15) rfl rfl) ?_
        refine x_aload_n 62 hK rfl rfl l0 ?_
        refine x_getR 65 hK rfl rfl (sp_0 (h := h4) hG4) (rf_0_10 (h := h4) hG4) ?_
        refine x_getE 68 hK rfl (Or.inl rfl) rfl (sp_23 (h := h4) hG4) (e := (stL w)) (j1) ?_
        refine x_if_icmp_ne 84 71 hK rfl rfl rfl (by omega) (by omega) (fun c31 => ?_) (fun c31 => ?_)
        · refine x_iinc 87 hK rfl rfl l1 _ rfl ?_
          refine x_goto 22 hK rfl rfl ?_
          have hmi := hm (by omega)
          have hn9 : hitN ml ln (w.1 + 1) (stL w) (i + 1).toNat = hitN ml ln (w.1 + 1) (stL w) i.toNat + 0 := by
            rw [hitN_s i0.1]
            rw [if_neg (by rw [← hmi.1, ← hmi.2]; omega)]
          have hs2 : STR (gi h 0 9) (kS h4 23) (w.1 + 1, stL w, (w.2.2.1 + hitN ml ln (w.1 + 1) (stL w) (i + 1).toNat), w.2.2.2.1, (w.2.2.2.2.1.filter fun q => !decide (q.1 = w.1 + 1)), w.2.2.2.2.2.1, w.2.2.2.2.2.2) := by
            refine STR_of g9.2 (OKW_eq hs.1 rfl rfl rfl) (j0) (j1) ((j2).trans (by show _ = w.2.2.1 + hitN ml ln (w.1 + 1) (stL w) (i + 1).toNat; rw [hn9]; omega)) ((rfl).trans j3) ?_ fun m hm => ?_
            · rw [show gi h4 23 4 = gi h4 23 4 from rfl]
              exact (kO_eq fun j _ => ⟨rfl, rfl⟩).trans j5
            · obtain ⟨y1, y2⟩ := j6 m (by omega) hm
              exact ⟨(rfl).trans y1, (rfl).trans y2⟩
          exact ih _ (by omega) (i + 1) _ _ rfl (by omega) (hs2) (lk1_n l0 (by decide) (Or.inl rfl)) lk1_s (hG4) (hF4)
        · refine x_aload_n 72 hK rfl rfl l0 ?_
          refine x_getR 75 hK rfl rfl (sp_0 (h := h4) hG4) (rf_0_10 (h := h4) hG4) ?_
          refine x_dup 76 hK rfl rfl rfl ?_
          refine x_getE 79 hK rfl (Or.inl rfl) rfl (sp_23 (h := h4) hG4) (e := (w.2.2.1 + hitN ml ln (w.1 + 1) (stL w) i.toNat)) (j2) ?_
          refine x_iconst 80 hK rfl rfl ?_
          refine x_iadd 81 hK rfl rfl ?_
          refine x_putI 84 hK rfl rfl (sp_23 (h := h4) hG4) ?_
          refine x_iinc 87 hK rfl rfl l1 _ rfl ?_
          refine x_goto 22 hK rfl rfl ?_
          have hmi := hm (by omega)
          have hn9 : hitN ml ln (w.1 + 1) (stL w) (i + 1).toNat = hitN ml ln (w.1 + 1) (stL w) i.toNat + 1 := by
            rw [hitN_s i0.1]
            rw [if_pos (by rw [← hmi.1, ← hmi.2]; omega)]
          have hs2 : STR (gi h 0 9) (kS (wI h4 23 2 ((w.2.2.1 + hitN ml ln (w.1 + 1) (stL w) i.toNat) + 1)) 23) (w.1 + 1, stL w, (w.2.2.1 + hitN ml ln (w.1 + 1) (stL w) (i + 1).toNat), w.2.2.2.1, (w.2.2.2.2.1.filter fun q => !decide (q.1 = w.1 + 1)), w.2.2.2.2.2.1, w.2.2.2.2.2.2) := by
            refine STR_of g9.2 (OKW_eq hs.1 rfl rfl rfl) ((gi_k (by decide) _).trans (j0)) ((gi_k (by decide) _).trans (j1)) ((gi_same (by omega)).trans (by show _ = w.2.2.1 + hitN ml ln (w.1 + 1) (stL w) (i + 1).toNat; rw [hn9]; omega)) ((gi_k (by decide) _).trans j3) ?_ fun m hm => ?_
            · rw [show gi (wI h4 23 2 ((w.2.2.1 + hitN ml ln (w.1 + 1) (stL w) i.toNat) + 1)) 23 4 = gi h4 23 4 from gi_k (by decide) _]
              exact (kO_eq fun j _ => ⟨gi_a (by decide) _, gi_a (by decide) _⟩).trans j5
            · obtain ⟨y1, y2⟩ := j6 m (by omega) hm
              exact ⟨(gi_a (by decide) _).trans y1, (gi_a (by decide) _).trans y2⟩
          exact ih _ (by omega) (i + 1) _ _ rfl (by omega) (hs2) (lk1_n l0 (by decide) (Or.inl rfl)) lk1_s (GD_w0 (hG4) (r := 17) rfl rfl) (FRM_w (hF4) (r := 17) rfl rfl)
  have okS2 : OKW (w.1 + 1, stL w, (w.2.2.1 + hitN ml ln (w.1 + 1) (stL w) (0 : Int).toNat), w.2.2.2.1, (w.2.2.2.2.1.filter fun q => !decide (q.1 = w.1 + 1)), w.2.2.2.2.2.1, w.2.2.2.2.2.2) := OKW_eq okS rfl rfl rfl
  refine x_aload_n 1 hK rfl rfl rfl ?_
  refine x_getR 4 hK rfl rfl (sp_0 (h := h) hG) (rf_0_10 (h := h) hG) ?_
  refine x_dup 5 hK rfl rfl rfl ?_
  have g429 := gi_r h 23 0
  refine x_getE 8 hK rfl (Or.inl rfl) rfl (sp_23 (h := h) hG) (e := (gi h 23 0)) (rfl) ?_
  refine x_iconst 9 hK rfl rfl ?_
  refine x_iadd 10 hK rfl rfl ?_
  refine x_putI 13 hK rfl rfl (sp_23 (h := h) hG) ?_
  refine x_aload_n 14 hK rfl rfl rfl ?_
  refine x_getR 17 hK rfl rfl (sp_0 (h := h) hG) (rf_0_10 (h := h) hG) ?_
  have hGp431 : GD gE gRL sh (wI h 23 0 ((gi h 23 0) + 1)) := GD_w0 (hG) (r := 17) rfl rfl
  have n0 : gi (wI h 23 0 ((gi h 23 0) + 1)) 23 0 = w.1 + 1 := (gi_same (by omega)).trans (by omega)
  have n1 : gi (wI h 23 0 ((gi h 23 0) + 1)) 23 1 = w.2.1 := (gi_k (by decide) _).trans k1
  have n2 : gi (wI h 23 0 ((gi h 23 0) + 1)) 23 2 = w.2.2.1 := (gi_k (by decide) _).trans k2
  have n3 : gi (wI h 23 0 ((gi h 23 0) + 1)) 23 3 = w.2.2.2.1 := (gi_k (by decide) _).trans k3
  have n4 : gi (wI h 23 0 ((gi h 23 0) + 1)) 23 4 = gi h 23 4 := gi_k (by decide) _
  have n5 : kO (wI h 23 0 ((gi h 23 0) + 1)) 23 (gi (wI h 23 0 ((gi h 23 0) + 1)) 23 4).toNat = srt w.2.2.2.2.1 := by rw [n4]; exact (kO_eq fun j _ => ⟨gi_a (by decide) _, gi_a (by decide) _⟩).trans k5
  refine x_callV 20 hK hmono rfl rfl [.ref 23] [] rfl rfl (Nat.le_of_ble_eq_true rfl) (Nat.le_of_ble_eq_true rfl) rfl (sp_23 (h := h) hG) (CLd_le (Nat.le_of_ble_eq_true rfl) (ctX8_doDueOrders hSP hGp431 (fun j hj => by
    have z := hb1 j (by rw [← n4]; exact hj)
    exact ⟨by rw [show gi (wI h 23 0 ((gi h 23 0) + 1)) 25 j = gi h 25 j from gi_a (by decide) _]; exact z.1, by rw [show gi (wI h 23 0 ((gi h 23 0) + 1)) 24 j = gi h 24 j from gi_a (by decide) _]; exact z.2⟩) (by omega))) ?_
  rintro v430 h430 ⟨rfl, hG430, hF430, eS⟩
  rw [n5, n0] at eS
  have hs0 : STR (gi h 0 9) (kS h430 23) (w.1 + 1, stL w, (w.2.2.1 + hitN ml ln (w.1 + 1) (stL w) (0 : Int).toNat), w.2.2.2.1, (w.2.2.2.2.1.filter fun q => !decide (q.1 = w.1 + 1)), w.2.2.2.2.2.1, w.2.2.2.2.2.2) := by
    rw [eS]
    refine ⟨okS2, n0, ?_, n2.trans (Int.add_zero _).symm, n3, dd.2, fun m hm => ?_⟩
    · show ((srt w.2.2.2.2.1).takeWhile fun q => decide (q.1 ≤ w.1 + 1)).foldl cpt (gi (wI h 23 0 ((gi h 23 0) + 1)) 23 1) = stL w
      rw [n1]
      exact dd.1
    · show (if m < 8 then gi (wI h 23 0 ((gi h 23 0) + 1)) 26 m else 0) = w.2.2.2.2.2.1 m ∧ (if m < 8 then gi (wI h 23 0 ((gi h 23 0) + 1)) 27 m else 0) = w.2.2.2.2.2.2 m
      rw [if_pos (by omega), if_pos (by omega)]
      obtain ⟨y1, y2⟩ := k6 m (by omega) hm
      exact ⟨(gi_a (by decide) _).trans y1, (gi_a (by decide) _).trans y2⟩
  refine x_iconst 21 hK rfl rfl ?_
  refine x_istore_n 22 hK rfl rfl [(1, .int (I 0)), (0, .ref 0)] rfl ?_
  exact rocks _ 0 _ _ rfl (by omega) (hs0) rfl rfl (hG430) ((FRM_w ((FRM.rf : FRM gRL [(0, 17, 0, 4), (0, 18, 0, 11), (0, 19, 0, 11), (0, 20, 0, 7), (0, 21, 0, 7)] h h)) (r := 17) rfl rfl).trans ((hF430).mono rfl))
