/-! A PLAN (the reference) -/
/-- choices: those that are made, else any -/
def chL (vs : List Int) : Int → Int := fun j => if 0 ≤ j ∧ j < (vs.length : Nat) then vs.getD j.toNat 0 else 2
theorem chL_k (vs : List Int) : chL vs (vs.length : Nat) = 2 := if_neg (fun z => by omega)
theorem chL_s (vs : List Int) (v : Int) : chL (vs ++ [v]) = upC (chL vs) (vs.length : Nat) v := by
  funext j
  show (if 0 ≤ j ∧ j < ((vs ++ [v]).length : Nat) then (vs ++ [v]).getD j.toNat 0 else 2) = if j = (vs.length : Nat) then v else if 0 ≤ j ∧ j < (vs.length : Nat) then vs.getD j.toNat 0 else 2
  by_cases c : j = (vs.length : Nat)
  · rw [if_pos c, if_pos (by simp; omega), c]
    simp
  · rw [if_neg c]
    by_cases c2 : 0 ≤ j ∧ j < (vs.length : Nat)
    · rw [if_pos c2, if_pos (by simp; omega), List.getD_eq_getElem?_getD, List.getElem?_append_left (by omega), ← List.getD_eq_getElem?_getD]
    · rw [if_neg c2, if_neg (by simp; omega)]
/-- the fewest orders with which she hits nothing in n STEPS, those that are chosen among them -/
def plP (h : aH) (n : Int) (vs : List Int) : Int := fwN (opsF (chL vs) (gi h 171 5) (fun t g => hitN (gi h 175) (gi h 176) ((gi h 178 0) + t) (g : Int) (gi h 171 6).toNat) (opsT (wl (RC h 178 0)) (gi h 178 0) (gi h 178 4) (dlA h) n.toNat) (fun (l : Nat) => if (l : Int) = gi h 178 1 then 0 else 1000)) 9
def plV (h : aH) (n left : Int) (vs : List Int) : Int := if (0 < ((vs.length : Nat) : Int) ∨ (gi h 178 4) ≠ (gi h 178 0)) ∧ ((vs.length : Nat) : Int) + dlA h ((gi h 178 0) + (vs.length : Nat)) ≤ n then (if plP h n (vs ++ [-1]) + 1 = left then -1 else if plP h n (vs ++ [0]) = left then 0 else 1) else 0
def plR (h : aH) (n : Int) : Nat → Int → List Int → List Int
  | 0, _, vs => vs
  | d + 1, left, vs => plR h n d (left - if plV h n left vs = 0 then 0 else 1) (vs ++ [plV h n left vs])
theorem opsT_n {L : List (Int × Int × Int)} {now last : Int} {dl : Int → Int} : ∀ (n : Nat) {q : Int × Int}, q ∈ opsT L now last dl n → q.1 = 1 → 0 ≤ q.2 ∧ q.2 < n
  | 0, q, h, _ => absurd h List.not_mem_nil
  | n + 1, q, h, h1 => by
    rcases List.mem_append.mp h with h | h
    · have := opsT_n n h h1; omega
    · rcases List.mem_append.mp h with h | h
      · have := wyF_1 h; omega
      · rcases List.mem_append.mp h with h | h
        · have := blkC_1 (n + 1) h; omega
        · obtain rfl := List.mem_singleton.mp h
          exact absurd h1 (by show ¬ (2 : Int) = 1; omega)
theorem plP_r (h : aH) (n : Int) (vs : List Int) : 0 ≤ plP h n vs ∧ plP h n vs ≤ 1000 := fwN_r (opsF_r _ _ u0_r) 9
/-- one that can be given in time -/
theorem plP_any {h : aH} {n : Int} {vs : List Int} (hn : 0 ≤ n) (hc : (0 < ((vs.length : Nat) : Int) ∨ (gi h 178 4) ≠ (gi h 178 0)) ∧ ((vs.length : Nat) : Int) + dlA h ((gi h 178 0) + (vs.length : Nat)) ≤ n) :
    plP h n vs = min (min (min 1000 (plP h n (vs ++ [-1]) + 1)) (plP h n (vs ++ [0]))) (min 1000 (plP h n (vs ++ [1]) + 1)) := by
  obtain ⟨A, B, e, a, b⟩ := opsT_at (L := wl (RC h 178 0)) (now := (gi h 178 0)) (last := (gi h 178 4)) (dl := dlA h) (k := ((vs.length : Nat) : Int)) (by omega) (dlA_b h _).1 hc.1 n.toNat (by omega)
  unfold plP
  rw [e, chL_s, chL_s, chL_s]
  exact one_ch u0_r a b (chL_k vs)
/-- one that can't -/
theorem plP_not {h : aH} {n : Int} {vs : List Int} (hn : 0 ≤ n) (v : Int) (hc : ¬ ((0 < ((vs.length : Nat) : Int) ∨ (gi h 178 4) ≠ (gi h 178 0)) ∧ ((vs.length : Nat) : Int) + dlA h ((gi h 178 0) + (vs.length : Nat)) ≤ n)) : plP h n (vs ++ [v]) = plP h n vs := by
  unfold plP
  rw [chL_s, opsF_ch (ch := upC (chL vs) (vs.length : Nat) v) (ch' := chL vs)]
  intro q hq h1
  refine if_neg fun z => hc ?_
  have := opsT_1 n.toNat hq h1
  rw [z] at this
  exact ⟨this.1, by omega⟩
theorem plV_ok {h : aH} {n left : Int} {vs : List Int} (hn : 0 ≤ n) (hl : plP h n vs = left) (h1 : left < 1000) : plP h n (vs ++ [plV h n left vs]) = left - (if plV h n left vs = 0 then 0 else 1) := by
  unfold plV
  by_cases c : (0 < ((vs.length : Nat) : Int) ∨ (gi h 178 4) ≠ (gi h 178 0)) ∧ ((vs.length : Nat) : Int) + dlA h ((gi h 178 0) + (vs.length : Nat)) ≤ n
  · rw [if_pos c]
    have e := plP_any hn c
    by_cases c1 : plP h n (vs ++ [-1]) + 1 = left
    · rw [if_pos c1, if_neg (by omega)]; omega
    · rw [if_neg c1]
      by_cases c2 : plP h n (vs ++ [0]) = left
      · rw [if_pos c2, if_pos rfl]; omega
      · rw [if_neg c2, if_neg (by omega)]; omega
  · rw [if_neg c, if_pos rfl, plP_not hn 0 c]; omega
theorem plV_b (h : aH) (n left : Int) (vs : List Int) : -1 ≤ plV h n left vs ∧ plV h n left vs ≤ 1 := by
  unfold plV
  (repeat' split) <;> omega
theorem may_i {k a b : Int} : b2i (decide (0 < k) || decide (a ≠ b)) = 0 ↔ ¬ (0 < k ∨ a ≠ b) := by
  by_cases c1 : 0 < k
  · rw [decide_eq_true c1]; simp [b2i, c1]
  · rw [decide_eq_false c1]
    by_cases c2 : a ≠ b
    · rw [decide_eq_true c2]; simp [b2i, c2]
    · rw [decide_eq_false c2]; simp [b2i, c1, c2]
theorem mh72 (k : Nat) : mHas [(0, 67, 0, 79), (0, 68, 0, 3), (0, 73, 0, 8), (0, 74, 0, 8)] 0 72 k = false := mHas_non (by rfl) k
set_option maxHeartbeats 16000000 in
set_option maxRecDepth 4000 in
theorem ctX11_plan {SP : CT} (hSP : MONO SP) {sh : List (Nat × Nat)} {h : aH} (hG : GD gE gRL sh h) {n : Int} (hX : XI h) (rn : r32 n) (h0 : 0 ≤ gi h 178 0 ∧ gi h 178 0 ≤ 1000000) : CLd SP 12 mX11_plan [.ref 171, .int (I n)] h 0 0 (fun rv h' => ((¬ (1 ≤ n ∧ n ≤ 30) ∧ rv = some (.int (I (-1))) ∧ mrow h' = mrow h) ∨ ((1 ≤ n ∧ n ≤ 30) ∧ 1000 ≤ (plP h n []) ∧ rv = some (.int (I (-2))) ∧ mrow h' = mrow h) ∨ ((1 ≤ n ∧ n ≤ 30) ∧ (plP h n []) < 1000 ∧ rv = some (.int (I (plP h n []))) ∧ mrow h' = plR h n n.toNat (plP h n []) [])) ∧ GD gE gRL sh h' ∧ FRM gRL [(0, 54, 0, 0), (0, 54, 1, 1), (0, 67, 0, 79), (0, 68, 0, 3), (0, 72, 0, 29), (0, 73, 0, 8), (0, 74, 0, 8), (1, 55, 0, 39)] h h' ∧ gi h' 171 0 = 0) := by
  refine x_met _ rfl (Nat.le_of_ble_eq_true rfl) (fun K hK => ?_)
  have hmono := MONO_CLd hSP 11
  have loopK : ∀ (mz : Nat) (left k : Int) (h4 : aH) (ls : List (Nat × Value)), ((n - k).toNat = mz) → (0 ≤ n ∧ n ≤ 30) → (1 ≤ n) → ((plP h n []) < 1000) → (0 ≤ k ∧ k ≤ n) → (gi h4 171 0 = 0) → ((((mrow h4).length : Nat) : Int) = k) → (gi h4 171 1 = k) → (∀ j : Int, 0 ≤ j → j < 30 → gi h4 189 j.toNat = chL (mrow h4) j) → (plP h n (mrow h4) = left) → (left < 1000) → (plR h n (n - k).toNat left (mrow h4) = plR h n n.toNat (plP h n []) []) → lk ls 0 = some (.ref 171) → lk ls 1 = some (.int (I n)) → lk ls 2 = some (.int (I (plP h n []))) → lk ls 3 = some (.int (I left)) → lk ls 4 = some (.int (I k)) → GD gE gRL sh h4 → FRM gRL [(0, 54, 0, 0), (0, 54, 1, 1), (0, 67, 0, 79), (0, 68, 0, 3), (0, 72, 0, 29), (0, 73, 0, 8), (0, 74, 0, 8), (1, 55, 0, 39)] h h4 → K 50 ls [] h4 0 0 := by
    intro mz
    induction mz using Nat.strongRecOn with
    | ind mz ih =>
    intro left k h4 ls hm hn n1 p1 k0 t4 vl rl cv lf lt1 e4 l0 l1 l2 l3 l4 hG4 hF4
    have p4 := plP_r h n (mrow h4)
    obtain ⟨vs, hvs⟩ : ∃ vs, mrow h4 = vs := ⟨_, rfl⟩
    rw [hvs] at vl cv lf e4 p4
    have vo := plV_ok hn.1 lf lt1
    have vb := plV_b h n left vs
    have vd : plV h n left vs = if (0 < k ∨ (gi h 178 4) ≠ (gi h 178 0)) ∧ k + dlA h ((gi h 178 0) + k) ≤ n then (if plP h n (vs ++ [-1]) + 1 = left then -1 else if plP h n (vs ++ [0]) = left then 0 else 1) else 0 := by rw [← vl]; rfl
    have db := dlA_b h ((gi h 178 0) + k)
    have g41 := gri 0 40 hG4 (a := 171) (r := 54) (k := 1) rfl rfl
    have pa := plP_any (h := h) (n := n) (vs := vs) hn.1
    rw [vl] at pa
    refine x_iload 52 hK rfl rfl l4 ?_
    refine x_iload_n 53 hK rfl rfl l1 ?_
    refine x_if_icmp_ge 206 56 hK rfl rfl rfl (by omega) (by omega) (fun c3 => ?_) (fun c3 => ?_)
    · refine x_iload_n 207 hK rfl rfl l2 ?_
      have ke : (n - k).toNat = 0 := by omega
      rw [ke] at e4
      exact x_iret hK rfl ⟨Or.inr (Or.inr ⟨⟨n1, hn.2⟩, p1, rfl, hvs.trans e4⟩), hG4, hF4, t4⟩
    · have md : (n - k).toNat = (n - (k + 1)).toNat + 1 := by omega
      refine x_aload_n 57 hK rfl rfl l0 ?_
      refine x_iload 59 hK rfl rfl l4 ?_
      refine x_callV 62 hK hmono rfl rfl [.ref 171, .int (I k)] [] rfl rfl (Nat.le_of_ble_eq_true rfl) (Nat.le_of_ble_eq_true rfl) rfl (sp_171 (h := h4) hG4) (CLd_le (Nat.le_of_ble_eq_true rfl) (ctX11_mayGive hSP hG4 (by omega))) ?_
      rintro v9 h9 ⟨e9, rfl⟩
      rw [e9, show gi h4 178 0 = gi h 178 0 from FRM_gi hF4 (r := 61) rfl rfl, show gi h4 178 4 = gi h 178 4 from FRM_gi hF4 (r := 61) rfl rfl]
      clear e9
      have mb := b2i_r (decide (0 < k) || decide ((gi h 178 4) ≠ (gi h 178 0)))
      have mi : b2i (decide (0 < k) || decide ((gi h 178 4) ≠ (gi h 178 0))) = 0 ↔ ¬ (0 < k ∨ (gi h 178 4) ≠ (gi h 178 0)) := may_i
      refine x_if_eq 89 65 hK rfl rfl rfl (by omega) (fun c10 => ?_) (fun c10 => ?_)
      · refine x_iconst 90 hK rfl rfl ?_
        refine x_istore 92 hK rfl rfl _ rfl ?_
        refine x_iload 94 hK rfl rfl lk1_s ?_
        refine x_if_eq 101 97 hK rfl rfl rfl (by omega) (fun _ => ?_) (fun c => by omega)
        refine x_iconst 102 hK rfl rfl ?_
        refine x_istore 104 hK rfl rfl _ rfl ?_
        refine x_iconst 105 hK rfl rfl ?_
        refine x_istore 107 hK rfl rfl _ rfl ?_
        refine x_iload 109 hK rfl rfl lk1_s ?_
        refine x_if_ne 177 112 hK rfl rfl rfl (by omega) (fun c => by omega) (fun _ => ?_)
        refine x_aload_n 113 hK rfl rfl (lk1_n (lk1_n (lk1_n l0 (by decide) (Or.inl rfl)) (by decide) (Or.inl rfl)) (by decide) (Or.inl rfl)) ?_
        refine x_getR 116 hK rfl rfl (sp_171 (h := h4) hG4) (rf_171_36 (h := h4) hG4) ?_
        refine x_iload 118 hK rfl rfl (lk1_n (lk1_n (lk1_n l4 (by decide) (Or.inl rfl)) (by decide) (Or.inl rfl)) (by decide) (Or.inl rfl)) ?_
        refine x_iload 120 hK rfl rfl (lk1_n lk1_s (by decide) (Or.inl rfl)) ?_
        refine x_iastore 121 hK rfl rfl (sp_189 (h := h4) hG4) (by omega) (by omega) (by omega) ?_
        refine x_iload 123 hK rfl rfl (lk1_n (lk1_n lk1_s (by decide) (Or.inl rfl)) (by decide) (Or.inl rfl)) ?_
        refine x_if_eq 149 126 hK rfl rfl rfl (by omega) (fun _ => ?_) (fun c => by omega)
        refine x_iconst 150 hK rfl rfl ?_
        refine x_goto 154 hK rfl rfl ?_
        refine x_istore 156 hK rfl rfl _ rfl ?_
        refine x_iload 158 hK rfl rfl (lk1_n (lk1_n lk1_s (by decide) (Or.inl rfl)) (by decide) (Or.inl rfl)) ?_
        refine x_iload 160 hK rfl rfl lk1_s ?_
        refine x_if_ne 167 163 hK rfl rfl rfl (by omega) (fun _ => ?_) (fun c => by omega)
        refine x_iconst 168 hK rfl rfl ?_
        have hGp273 : GD gE gRL sh (wI h4 189 k.toNat 0) := GD_wu (hG4) (r := 72) rfl (by omega) rfl (by omega) (by omega)
        refine x_callS 171 hK hmono rfl (Or.inl rfl) rfl [.int (I 0)] [.int (I 0)] rfl rfl (Nat.le_of_ble_eq_true rfl) (Nat.le_of_ble_eq_true rfl) (CLd_le (Nat.le_of_ble_eq_true rfl) (ctX11_flag (by omega))) ?_
        rintro v9 h9 ⟨e9, rfl⟩
        rw [e9]
        clear e9
        refine x_iadd 172 hK rfl rfl ?_
        refine x_istore 174 hK rfl rfl _ rfl ?_
        refine x_goto 107 hK rfl rfl ?_
        refine x_iload 109 hK rfl rfl (lk1_n lk1_s (by decide) (Or.inl rfl)) ?_
        refine x_if_ne 177 112 hK rfl rfl rfl (by omega) (fun _ => ?_) (fun c => by omega)
        have ve : plV h n left vs = 0 := by rw [vd, if_neg (by omega)]
        rw [ve] at vo
        refine x_iload_n 178 hK rfl rfl (lk1_n (lk1_n (lk1_n (lk1_n (lk1_n l3 (by decide) (Or.inl rfl)) (by decide) (Or.inl rfl)) (by decide) (Or.inl rfl)) (by decide) (Or.inl rfl)) (by decide) (Or.inl rfl)) ?_
        refine x_iload 180 hK rfl rfl lk1_s ?_
        refine x_if_eq 187 183 hK rfl rfl rfl (by omega) (fun _ => ?_) (fun c => by omega)
        refine x_iconst 188 hK rfl rfl ?_
        have hGp275 : GD gE gRL sh (wI h4 189 k.toNat 0) := GD_wu (hG4) (r := 72) rfl (by omega) rfl (by omega) (by omega)
        refine x_callS 191 hK hmono rfl (Or.inl rfl) rfl [.int (I 0)] [.int (I left)] rfl rfl (Nat.le_of_ble_eq_true rfl) (Nat.le_of_ble_eq_true rfl) (CLd_le (Nat.le_of_ble_eq_true rfl) (ctX11_flag (by omega))) ?_
        rintro v9 h9 ⟨e9, rfl⟩
        rw [e9]
        clear e9
        refine x_isub 192 hK rfl rfl ?_
        refine x_istore_n 193 hK rfl rfl _ rfl ?_
        refine x_aload_n 194 hK rfl rfl (lk1_n (lk1_n (lk1_n (lk1_n (lk1_n (lk1_n l0 (by decide) (Or.inl rfl)) (by decide) (Or.inl rfl)) (by decide) (Or.inl rfl)) (by decide) (Or.inl rfl)) (by decide) (Or.inl rfl)) (by decide) (Or.inl rfl)) ?_
        refine x_iload 196 hK rfl rfl (lk1_n lk1_s (by decide) (Or.inl rfl)) ?_
        refine x_i2l 197 hK rfl rfl (by omega) ?_
        have hGp277 : GD gE gRL sh (wI h4 189 k.toNat 0) := GD_wu (hG4) (r := 72) rfl (by omega) rfl (by omega) (by omega)
        have z279 : gi (wI h4 189 k.toNat 0) 171 1 = k := (gi_a (by decide) _).trans (rl)
        have z279r : mrow (wI h4 189 k.toNat 0) = vs := (mrow_a (by decide)).trans (hvs)
        refine x_callV 200 hK hmono rfl rfl [.ref 171, .long (J 0)] [] rfl rfl (Nat.le_of_ble_eq_true rfl) (Nat.le_of_ble_eq_true rfl) rfl (sp_171 (h := h4) hG4) (CLd_le (Nat.le_of_ble_eq_true rfl) (ctX11_entersF hSP hGp277 (by omega) (by omega))) ?_
        rintro v278 h278 ⟨rfl, hG278, hF278, t278, s278⟩
        rw [z279] at t278
        rw [z279r] at s278
        refine x_iinc 203 hK rfl rfl (lk1_n (lk1_n (lk1_n (lk1_n (lk1_n (lk1_n l4 (by decide) (Or.inl rfl)) (by decide) (Or.inl rfl)) (by decide) (Or.inl rfl)) (by decide) (Or.inl rfl)) (by decide) (Or.inl rfl)) (by decide) (Or.inl rfl)) _ rfl ?_
        refine x_goto 50 hK rfl rfl ?_
        exact ih _ (by rw [← hm, md]; exact Nat.lt_succ_self _) (left - 0) (k + 1) _ _ rfl (hn) (n1) (p1) (by omega) ((FRM_gi hF278 (r := 54) rfl rfl).trans ((gi_a (by decide) _).trans (t4))) ((by rw [show mrow h278 = vs ++ [0] from s278, List.length_append]; simp; omega)) ((t278)) ((by rw [show mrow h278 = vs ++ [0] from s278]; exact fun j j0 j1 => if c : j = k then (by subst c; rw [chL_s, vl]; exact ((FRM_gi hF278 (r := 72) rfl rfl).trans (gi_same (by omega))).trans (if_pos rfl).symm) else (by rw [chL_s, vl]; exact ((FRM_gi hF278 (r := 72) rfl rfl).trans (gi_k (by omega) _)).trans ((cv j j0 j1).trans (if_neg c).symm)))) ((by rw [show mrow h278 = vs ++ [0] from s278, vo, if_pos rfl])) ((by omega)) ((by rw [show mrow h278 = vs ++ [0] from s278, ← e4, md]; show _ = plR h n _ (left - if plV h n left vs = 0 then 0 else 1) (vs ++ [plV h n left vs]); rw [ve, if_pos rfl])) (lk1_n (lk1_n (lk1_n (lk1_n (lk1_n (lk1_n (lk1_n l0 (by decide) (Or.inl rfl)) (by decide) (Or.inl rfl)) (by decide) (Or.inl rfl)) (by decide) (Or.inl rfl)) (by decide) (Or.inl rfl)) (by decide) (Or.inl rfl)) (by decide) (Or.inl rfl)) (lk1_n (lk1_n (lk1_n (lk1_n (lk1_n (lk1_n (lk1_n l1 (by decide) (Or.inl rfl)) (by decide) (Or.inl rfl)) (by decide) (Or.inl rfl)) (by decide) (Or.inl rfl)) (by decide) (Or.inl rfl)) (by decide) (Or.inl rfl)) (by decide) (Or.inl rfl)) (lk1_n (lk1_n (lk1_n (lk1_n (lk1_n (lk1_n (lk1_n l2 (by decide) (Or.inl rfl)) (by decide) (Or.inl rfl)) (by decide) (Or.inl rfl)) (by decide) (Or.inl rfl)) (by decide) (Or.inl rfl)) (by decide) (Or.inl rfl)) (by decide) (Or.inl rfl)) (lk1_n lk1_s (by decide) (Or.inl rfl)) lk1_s (hG278) ((FRM_wn 0 29 (hF4) (r := 72) rfl rfl rfl (by omega) (by omega)).trans ((hF278).mono rfl))
      · refine x_iload 67 hK rfl rfl l4 ?_
        refine x_aload_n 68 hK rfl rfl l0 ?_
        refine x_aload_n 69 hK rfl rfl l0 ?_
        refine x_getR 72 hK rfl rfl (sp_171 (h := h4) hG4) (rf_171_14 (h := h4) hG4) ?_
        refine x_iconst 73 hK rfl rfl ?_
        have g280 := gi_r h 178 0
        refine x_ialoadE 74 hK rfl rfl (sp_178 (h := h4) hG4) (by omega) (by omega) (by omega) (e' := (gi h 178 0)) (FRM_gi hF4 (r := 61) rfl rfl) ?_
        refine x_iload 76 hK rfl rfl l4 ?_
        refine x_iadd 77 hK rfl rfl ?_
        have hXd : XI h4 := (xOk_ok rfl _ h4 hF4 hX)
        refine x_callV 80 hK hmono rfl rfl [.ref 171, .int (I ((gi h 178 0) + k))] [.int (I k)] rfl rfl (Nat.le_of_ble_eq_true rfl) (Nat.le_of_ble_eq_true rfl) rfl (sp_171 (h := h4) hG4) (CLd_le (Nat.le_of_ble_eq_true rfl) (ctX11_delayAtF hSP hG4 hXd (by omega))) ?_
        rw [show dlA h4 = dlA h from funext fun s => dlA_F hF4 rfl s]
        rintro v281 h281 ⟨rfl, hG281, hF281⟩
        refine x_iadd 81 hK rfl rfl ?_
        refine x_iload_n 82 hK rfl rfl l1 ?_
        refine x_if_icmp_gt 89 85 hK rfl rfl rfl (by omega) (by omega) (fun c67 => ?_) (fun c67 => ?_)
        · refine x_iconst 90 hK rfl rfl ?_
          refine x_istore 92 hK rfl rfl _ rfl ?_
          refine x_iload 94 hK rfl rfl lk1_s ?_
          refine x_if_eq 101 97 hK rfl rfl rfl (by omega) (fun _ => ?_) (fun c => by omega)
          refine x_iconst 102 hK rfl rfl ?_
          refine x_istore 104 hK rfl rfl _ rfl ?_
          refine x_iconst 105 hK rfl rfl ?_
          refine x_istore 107 hK rfl rfl _ rfl ?_
          refine x_iload 109 hK rfl rfl lk1_s ?_
          refine x_if_ne 177 112 hK rfl rfl rfl (by omega) (fun c => by omega) (fun _ => ?_)
          refine x_aload_n 113 hK rfl rfl (lk1_n (lk1_n (lk1_n l0 (by decide) (Or.inl rfl)) (by decide) (Or.inl rfl)) (by decide) (Or.inl rfl)) ?_
          refine x_getR 116 hK rfl rfl (sp_171 (h := h281) hG281) (rf_171_36 (h := h281) hG281) ?_
          refine x_iload 118 hK rfl rfl (lk1_n (lk1_n (lk1_n l4 (by decide) (Or.inl rfl)) (by decide) (Or.inl rfl)) (by decide) (Or.inl rfl)) ?_
          refine x_iload 120 hK rfl rfl (lk1_n lk1_s (by decide) (Or.inl rfl)) ?_
          refine x_iastore 121 hK rfl rfl (sp_189 (h := h281) hG281) (by omega) (by omega) (by omega) ?_
          refine x_iload 123 hK rfl rfl (lk1_n (lk1_n lk1_s (by decide) (Or.inl rfl)) (by decide) (Or.inl rfl)) ?_
          refine x_if_eq 149 126 hK rfl rfl rfl (by omega) (fun _ => ?_) (fun c => by omega)
          refine x_iconst 150 hK rfl rfl ?_
          refine x_goto 154 hK rfl rfl ?_
          refine x_istore 156 hK rfl rfl _ rfl ?_
          refine x_iload 158 hK rfl rfl (lk1_n (lk1_n lk1_s (by decide) (Or.inl rfl)) (by decide) (Or.inl rfl)) ?_
          refine x_iload 160 hK rfl rfl lk1_s ?_
          refine x_if_ne 167 163 hK rfl rfl rfl (by omega) (fun _ => ?_) (fun c => by omega)
          refine x_iconst 168 hK rfl rfl ?_
          have hGp282 : GD gE gRL sh (wI h281 189 k.toNat 0) := GD_wu (hG281) (r := 72) rfl (by omega) rfl (by omega) (by omega)
          refine x_callS 171 hK hmono rfl (Or.inl rfl) rfl [.int (I 0)] [.int (I 0)] rfl rfl (Nat.le_of_ble_eq_true rfl) (Nat.le_of_ble_eq_true rfl) (CLd_le (Nat.le_of_ble_eq_true rfl) (ctX11_flag (by omega))) ?_
          rintro v9 h9 ⟨e9, rfl⟩
          rw [e9]
          clear e9
          refine x_iadd 172 hK rfl rfl ?_
          refine x_istore 174 hK rfl rfl _ rfl ?_
          refine x_goto 107 hK rfl rfl ?_
          refine x_iload 109 hK rfl rfl (lk1_n lk1_s (by decide) (Or.inl rfl)) ?_
          refine x_if_ne 177 112 hK rfl rfl rfl (by omega) (fun _ => ?_) (fun c => by omega)
          have ve : plV h n left vs = 0 := by rw [vd, if_neg (by omega)]
          rw [ve] at vo
          refine x_iload_n 178 hK rfl rfl (lk1_n (lk1_n (lk1_n (lk1_n (lk1_n l3 (by decide) (Or.inl rfl)) (by decide) (Or.inl rfl)) (by decide) (Or.inl rfl)) (by decide) (Or.inl rfl)) (by decide) (Or.inl rfl)) ?_
          refine x_iload 180 hK rfl rfl lk1_s ?_
          refine x_if_eq 187 183 hK rfl rfl rfl (by omega) (fun _ => ?_) (fun c => by omega)
          refine x_iconst 188 hK rfl rfl ?_
          have hGp284 : GD gE gRL sh (wI h281 189 k.toNat 0) := GD_wu (hG281) (r := 72) rfl (by omega) rfl (by omega) (by omega)
          refine x_callS 191 hK hmono rfl (Or.inl rfl) rfl [.int (I 0)] [.int (I left)] rfl rfl (Nat.le_of_ble_eq_true rfl) (Nat.le_of_ble_eq_true rfl) (CLd_le (Nat.le_of_ble_eq_true rfl) (ctX11_flag (by omega))) ?_
          rintro v9 h9 ⟨e9, rfl⟩
          rw [e9]
          clear e9
          refine x_isub 192 hK rfl rfl ?_
          refine x_istore_n 193 hK rfl rfl _ rfl ?_
          refine x_aload_n 194 hK rfl rfl (lk1_n (lk1_n (lk1_n (lk1_n (lk1_n (lk1_n l0 (by decide) (Or.inl rfl)) (by decide) (Or.inl rfl)) (by decide) (Or.inl rfl)) (by decide) (Or.inl rfl)) (by decide) (Or.inl rfl)) (by decide) (Or.inl rfl)) ?_
          refine x_iload 196 hK rfl rfl (lk1_n lk1_s (by decide) (Or.inl rfl)) ?_
          refine x_i2l 197 hK rfl rfl (by omega) ?_
          have hGp286 : GD gE gRL sh (wI h281 189 k.toNat 0) := GD_wu (hG281) (r := 72) rfl (by omega) rfl (by omega) (by omega)
          have z288 : gi (wI h281 189 k.toNat 0) 171 1 = k := (gi_a (by decide) _).trans ((FRM_gi hF281 (r := 54) rfl rfl).trans (rl))
          have z288r : mrow (wI h281 189 k.toNat 0) = vs := (mrow_a (by decide)).trans ((mrow_F hF281 rfl rfl).trans (hvs))
          refine x_callV 200 hK hmono rfl rfl [.ref 171, .long (J 0)] [] rfl rfl (Nat.le_of_ble_eq_true rfl) (Nat.le_of_ble_eq_true rfl) rfl (sp_171 (h := h281) hG281) (CLd_le (Nat.le_of_ble_eq_true rfl) (ctX11_entersF hSP hGp286 (by omega) (by omega))) ?_
          rintro v287 h287 ⟨rfl, hG287, hF287, t287, s287⟩
          rw [z288] at t287
          rw [z288r] at s287
          refine x_iinc 203 hK rfl rfl (lk1_n (lk1_n (lk1_n (lk1_n (lk1_n (lk1_n l4 (by decide) (Or.inl rfl)) (by decide) (Or.inl rfl)) (by decide) (Or.inl rfl)) (by decide) (Or.inl rfl)) (by decide) (Or.inl rfl)) (by decide) (Or.inl rfl)) _ rfl ?_
          refine x_goto 50 hK rfl rfl ?_
          exact ih _ (by rw [← hm, md]; exact Nat.lt_succ_self _) (left - 0) (k + 1) _ _ rfl (hn) (n1) (p1) (by omega) ((FRM_gi hF287 (r := 54) rfl rfl).trans ((gi_a (by decide) _).trans ((FRM_gi hF281 (r := 54) rfl rfl).trans (t4)))) ((by rw [show mrow h287 = vs ++ [0] from s287, List.length_append]; simp; omega)) ((t287)) ((by rw [show mrow h287 = vs ++ [0] from s287]; exact fun j j0 j1 => if c : j = k then (by subst c; rw [chL_s, vl]; exact ((FRM_gi hF287 (r := 72) rfl rfl).trans (gi_same (by omega))).trans (if_pos rfl).symm) else (by rw [chL_s, vl]; exact ((FRM_gi hF287 (r := 72) rfl rfl).trans ((gi_k (by omega) _).trans (FRM_gi hF281 (r := 72) rfl (by first | rfl | exact mh72 _)))).trans ((cv j j0 j1).trans (if_neg c).symm)))) ((by rw [show mrow h287 = vs ++ [0] from s287, vo, if_pos rfl])) ((by omega)) ((by rw [show mrow h287 = vs ++ [0] from s287, ← e4, md]; show _ = plR h n _ (left - if plV h n left vs = 0 then 0 else 1) (vs ++ [plV h n left vs]); rw [ve, if_pos rfl])) (lk1_n (lk1_n (lk1_n (lk1_n (lk1_n (lk1_n (lk1_n l0 (by decide) (Or.inl rfl)) (by decide) (Or.inl rfl)) (by decide) (Or.inl rfl)) (by decide) (Or.inl rfl)) (by decide) (Or.inl rfl)) (by decide) (Or.inl rfl)) (by decide) (Or.inl rfl)) (lk1_n (lk1_n (lk1_n (lk1_n (lk1_n (lk1_n (lk1_n l1 (by decide) (Or.inl rfl)) (by decide) (Or.inl rfl)) (by decide) (Or.inl rfl)) (by decide) (Or.inl rfl)) (by decide) (Or.inl rfl)) (by decide) (Or.inl rfl)) (by decide) (Or.inl rfl)) (lk1_n (lk1_n (lk1_n (lk1_n (lk1_n (lk1_n (lk1_n l2 (by decide) (Or.inl rfl)) (by decide) (Or.inl rfl)) (by decide) (Or.inl rfl)) (by decide) (Or.inl rfl)) (by decide) (Or.inl rfl)) (by decide) (Or.inl rfl)) (by decide) (Or.inl rfl)) (lk1_n lk1_s (by decide) (Or.inl rfl)) lk1_s (hG287) ((FRM_wn 0 29 ((hF4).trans ((hF281).mono rfl)) (r := 72) rfl rfl rfl (by omega) (by omega)).trans ((hF287).mono rfl))
        · refine x_iconst 86 hK rfl rfl ?_
          refine x_goto 90 hK rfl rfl ?_
          refine x_istore 92 hK rfl rfl _ rfl ?_
          refine x_iload 94 hK rfl rfl lk1_s ?_
          refine x_if_eq 101 97 hK rfl rfl rfl (by omega) (fun c => by omega) (fun _ => ?_)
          refine x_iconst 98 hK rfl rfl ?_
          refine x_goto 102 hK rfl rfl ?_
          refine x_istore 104 hK rfl rfl _ rfl ?_
          refine x_iconst 105 hK rfl rfl ?_
          refine x_istore 107 hK rfl rfl _ rfl ?_
          refine x_iload 109 hK rfl rfl lk1_s ?_
          refine x_if_ne 177 112 hK rfl rfl rfl (by omega) (fun c => by omega) (fun _ => ?_)
          refine x_aload_n 113 hK rfl rfl (lk1_n (lk1_n (lk1_n l0 (by decide) (Or.inl rfl)) (by decide) (Or.inl rfl)) (by decide) (Or.inl rfl)) ?_
          refine x_getR 116 hK rfl rfl (sp_171 (h := h281) hG281) (rf_171_36 (h := h281) hG281) ?_
          refine x_iload 118 hK rfl rfl (lk1_n (lk1_n (lk1_n l4 (by decide) (Or.inl rfl)) (by decide) (Or.inl rfl)) (by decide) (Or.inl rfl)) ?_
          refine x_iload 120 hK rfl rfl (lk1_n lk1_s (by decide) (Or.inl rfl)) ?_
          refine x_iastore 121 hK rfl rfl (sp_189 (h := h281) hG281) (by omega) (by omega) (by omega) ?_
          refine x_iload 123 hK rfl rfl (lk1_n (lk1_n lk1_s (by decide) (Or.inl rfl)) (by decide) (Or.inl rfl)) ?_
          refine x_if_eq 149 126 hK rfl rfl rfl (by omega) (fun c => by omega) (fun _ => ?_)
          refine x_aload_n 127 hK rfl rfl (lk1_n (lk1_n (lk1_n l0 (by decide) (Or.inl rfl)) (by decide) (Or.inl rfl)) (by decide) (Or.inl rfl)) ?_
          refine x_iload_n 128 hK rfl rfl (lk1_n (lk1_n (lk1_n l1 (by decide) (Or.inl rfl)) (by decide) (Or.inl rfl)) (by decide) (Or.inl rfl)) ?_
          have hGp290 : GD gE gRL sh (wI h281 189 k.toNat (-1)) := GD_wu (hG281) (r := 72) rfl (by omega) rfl (by omega) (by omega)
          have hXc289 : XI (wI h281 189 k.toNat (-1)) := (xOk_ok rfl h281 (wI h281 189 k.toNat (-1)) (FRM_wn 0 29 ((FRM.rf : FRM gRL [(0, 72, 0, 29)] h281 h281)) (r := 72) rfl rfl rfl (by omega) (by omega)) (xOk_ok rfl _ h281 hF281 (xOk_ok rfl _ h4 hF4 hX)))
          refine x_callV 131 hK hmono rfl rfl [.ref 171, .int (I n)] [] rfl rfl (Nat.le_of_ble_eq_true rfl) (Nat.le_of_ble_eq_true rfl) rfl (sp_171 (h := h281) hG281) (CLd_le (Nat.le_of_ble_eq_true rfl) (ctX11_fewestOrders hSP hGp290 hXc289 hn (by rw [show gi (wI h281 189 k.toNat (-1)) 178 0 = gi h 178 0 from (gi_a (by decide) _).trans ((FRM_gi hF281 (r := 61) rfl rfl).trans (FRM_gi hF4 (r := 61) rfl rfl))]; exact h0))) ?_
          rw [show RC (wI h281 189 k.toNat (-1)) 178 0 = RC h 178 0 from (RC_w (by decide)).trans ((RC_F hF281 (r := 61) rfl rfl 0).trans (RC_F hF4 (r := 61) rfl rfl 0)), show gi (wI h281 189 k.toNat (-1)) 178 0 = gi h 178 0 from (gi_a (by decide) _).trans ((FRM_gi hF281 (r := 61) rfl rfl).trans (FRM_gi hF4 (r := 61) rfl rfl)), show gi (wI h281 189 k.toNat (-1)) 178 4 = gi h 178 4 from (gi_a (by decide) _).trans ((FRM_gi hF281 (r := 61) rfl rfl).trans (FRM_gi hF4 (r := 61) rfl rfl)), show gi (wI h281 189 k.toNat (-1)) 178 1 = gi h 178 1 from (gi_a (by decide) _).trans ((FRM_gi hF281 (r := 61) rfl rfl).trans (FRM_gi hF4 (r := 61) rfl rfl)), show gi (wI h281 189 k.toNat (-1)) 171 5 = gi h 171 5 from (gi_a (by decide) _).trans ((FRM_gi hF281 (r := 54) rfl rfl).trans (FRM_gi hF4 (r := 54) rfl rfl)), show gi (wI h281 189 k.toNat (-1)) 171 6 = gi h 171 6 from (gi_a (by decide) _).trans ((FRM_gi hF281 (r := 54) rfl rfl).trans (FRM_gi hF4 (r := 54) rfl rfl)), show gi (wI h281 189 k.toNat (-1)) 175 = gi h 175 from funext fun j => (gi_a (by decide) _).trans ((FRM_gi hF281 (r := 58) rfl rfl).trans (FRM_gi hF4 (r := 58) rfl rfl)), show gi (wI h281 189 k.toNat (-1)) 176 = gi h 176 from funext fun j => (gi_a (by decide) _).trans ((FRM_gi hF281 (r := 59) rfl rfl).trans (FRM_gi hF4 (r := 59) rfl rfl)), show dlA (wI h281 189 k.toNat (-1)) = dlA h from funext fun s => (dlA_w (by decide) (Or.inl (by decide))).trans ((dlA_F hF281 rfl s).trans (dlA_F hF4 rfl s))]
          have cv289 : ∀ j : Int, 0 ≤ j → j < 30 → gi (wI h281 189 k.toNat (-1)) 189 j.toNat = chL (vs ++ [(-1)]) j := fun j j0 j1 => if c : j = k then (by subst c; rw [chL_s, vl]; exact (gi_same (by omega)).trans (if_pos rfl).symm) else (by rw [chL_s, vl]; exact ((gi_k (by omega) _).trans (FRM_gi hF281 (r := 72) rfl (by first | rfl | exact mh72 _))).trans ((cv j j0 j1).trans (if_neg c).symm))
          rw [show fwN (opsF (fun jj => gi (wI h281 189 k.toNat (-1)) 189 jj.toNat) (gi h 171 5) (fun t g => hitN (gi h 175) (gi h 176) ((gi h 178 0) + t) (g : Int) (gi h 171 6).toNat) (opsT (wl (RC h 178 0)) (gi h 178 0) (gi h 178 4) (dlA h) n.toNat) (fun (l : Nat) => if (l : Int) = gi h 178 1 then 0 else 1000)) 9 = plP h n (vs ++ [(-1)]) from by unfold plP; rw [opsF_ch (ch := fun jj => gi (wI h281 189 k.toNat (-1)) 189 jj.toNat) (ch' := chL (vs ++ [(-1)])) _ _ fun z hz z1 => by have zn := opsT_n n.toNat hz z1; exact cv289 z.2 zn.1 (by omega)]]
          rintro v289 h289 ⟨rfl, hG289, hF289⟩
          have pb289 := plP_r h n (vs ++ [(-1)])
          refine x_iload 133 hK rfl rfl (lk1_n lk1_s (by decide) (Or.inl rfl)) ?_
          refine x_if_eq 140 136 hK rfl rfl rfl (by omega) (fun c => by omega) (fun _ => ?_)
          refine x_iconst 137 hK rfl rfl ?_
          refine x_goto 141 hK rfl rfl ?_
          refine x_callS 144 hK hmono rfl (Or.inl rfl) rfl [.int (I 1)] [.int (I (plP h n (vs ++ [(-1)])))] rfl rfl (Nat.le_of_ble_eq_true rfl) (Nat.le_of_ble_eq_true rfl) (CLd_le (Nat.le_of_ble_eq_true rfl) (ctX11_flag (by omega))) ?_
          rintro v9 h9 ⟨e9, rfl⟩
          rw [e9]
          clear e9
          refine x_iadd 145 hK rfl rfl ?_
          refine x_iload_n 146 hK rfl rfl (lk1_n (lk1_n (lk1_n l3 (by decide) (Or.inl rfl)) (by decide) (Or.inl rfl)) (by decide) (Or.inl rfl)) ?_
          refine x_if_icmp_ne 153 149 hK rfl rfl rfl (by omega) (by omega) (fun c142 => ?_) (fun c142 => ?_)
          · refine x_iconst 154 hK rfl rfl ?_
            refine x_istore 156 hK rfl rfl _ rfl ?_
            refine x_iload 158 hK rfl rfl (lk1_n (lk1_n lk1_s (by decide) (Or.inl rfl)) (by decide) (Or.inl rfl)) ?_
            refine x_iload 160 hK rfl rfl lk1_s ?_
            refine x_if_ne 167 163 hK rfl rfl rfl (by omega) (fun c => by omega) (fun _ => ?_)
            refine x_iconst 164 hK rfl rfl ?_
            refine x_goto 168 hK rfl rfl ?_
            refine x_callS 171 hK hmono rfl (Or.inl rfl) rfl [.int (I 1)] [.int (I (-1))] rfl rfl (Nat.le_of_ble_eq_true rfl) (Nat.le_of_ble_eq_true rfl) (CLd_le (Nat.le_of_ble_eq_true rfl) (ctX11_flag (by omega))) ?_
            rintro v9 h9 ⟨e9, rfl⟩
            rw [e9]
            clear e9
            refine x_iadd 172 hK rfl rfl ?_
            refine x_istore 174 hK rfl rfl _ rfl ?_
            refine x_goto 107 hK rfl rfl ?_
            refine x_iload 109 hK rfl rfl (lk1_n lk1_s (by decide) (Or.inl rfl)) ?_
            refine x_if_ne 177 112 hK rfl rfl rfl (by omega) (fun c => by omega) (fun _ => ?_)
            refine x_aload_n 113 hK rfl rfl (lk1_n (lk1_n (lk1_n (lk1_n (lk1_n l0 (by decide) (Or.inl rfl)) (by decide) (Or.inl rfl)) (by decide) (Or.inl rfl)) (by decide) (Or.inl rfl)) (by decide) (Or.inl rfl)) ?_
            refine x_getR 116 hK rfl rfl (sp_171 (h := h289) hG289) (rf_171_36 (h := h289) hG289) ?_
            refine x_iload 118 hK rfl rfl (lk1_n (lk1_n (lk1_n (lk1_n (lk1_n l4 (by decide) (Or.inl rfl)) (by decide) (Or.inl rfl)) (by decide) (Or.inl rfl)) (by decide) (Or.inl rfl)) (by decide) (Or.inl rfl)) ?_
            refine x_iload 120 hK rfl rfl lk1_s ?_
            refine x_iastore 121 hK rfl rfl (sp_189 (h := h289) hG289) (by omega) (by omega) (by omega) ?_
            refine x_iload 123 hK rfl rfl (lk1_n (lk1_n (lk1_n (lk1_n lk1_s (by decide) (Or.inl rfl)) (by decide) (Or.inl rfl)) (by decide) (Or.inl rfl)) (by decide) (Or.inl rfl)) ?_
            refine x_if_eq 149 126 hK rfl rfl rfl (by omega) (fun c => by omega) (fun _ => ?_)
            refine x_aload_n 127 hK rfl rfl (lk1_n (lk1_n (lk1_n (lk1_n (lk1_n l0 (by decide) (Or.inl rfl)) (by decide) (Or.inl rfl)) (by decide) (Or.inl rfl)) (by decide) (Or.inl rfl)) (by decide) (Or.inl rfl)) ?_
            refine x_iload_n 128 hK rfl rfl (lk1_n (lk1_n (lk1_n (lk1_n (lk1_n l1 (by decide) (Or.inl rfl)) (by decide) (Or.inl rfl)) (by decide) (Or.inl rfl)) (by decide) (Or.inl rfl)) (by decide) (Or.inl rfl)) ?_
            have hGp294 : GD gE gRL sh (wI h289 189 k.toNat 0) := GD_wu (hG289) (r := 72) rfl (by omega) rfl (by omega) (by omega)
            have hXc293 : XI (wI h289 189 k.toNat 0) := (xOk_ok rfl h289 (wI h289 189 k.toNat 0) (FRM_wn 0 29 ((FRM.rf : FRM gRL [(0, 72, 0, 29)] h289 h289)) (r := 72) rfl rfl rfl (by omega) (by omega)) (xOk_ok rfl _ h289 hF289 (xOk_ok rfl h281 (wI h281 189 k.toNat (-1)) (FRM_wn 0 29 ((FRM.rf : FRM gRL [(0, 72, 0, 29)] h281 h281)) (r := 72) rfl rfl rfl (by omega) (by omega)) (xOk_ok rfl _ h281 hF281 (xOk_ok rfl _ h4 hF4 hX)))))
            refine x_callV 131 hK hmono rfl rfl [.ref 171, .int (I n)] [] rfl rfl (Nat.le_of_ble_eq_true rfl) (Nat.le_of_ble_eq_true rfl) rfl (sp_171 (h := h289) hG289) (CLd_le (Nat.le_of_ble_eq_true rfl) (ctX11_fewestOrders hSP hGp294 hXc293 hn (by rw [show gi (wI h289 189 k.toNat 0) 178 0 = gi h 178 0 from (gi_a (by decide) _).trans ((FRM_gi hF289 (r := 61) rfl rfl).trans ((gi_a (by decide) _).trans ((FRM_gi hF281 (r := 61) rfl rfl).trans (FRM_gi hF4 (r := 61) rfl rfl))))]; exact h0))) ?_
            rw [show RC (wI h289 189 k.toNat 0) 178 0 = RC h 178 0 from (RC_w (by decide)).trans ((RC_F hF289 (r := 61) rfl rfl 0).trans ((RC_w (by decide)).trans ((RC_F hF281 (r := 61) rfl rfl 0).trans (RC_F hF4 (r := 61) rfl rfl 0)))), show gi (wI h289 189 k.toNat 0) 178 0 = gi h 178 0 from (gi_a (by decide) _).trans ((FRM_gi hF289 (r := 61) rfl rfl).trans ((gi_a (by decide) _).trans ((FRM_gi hF281 (r := 61) rfl rfl).trans (FRM_gi hF4 (r := 61) rfl rfl)))), show gi (wI h289 189 k.toNat 0) 178 4 = gi h 178 4 from (gi_a (by decide) _).trans ((FRM_gi hF289 (r := 61) rfl rfl).trans ((gi_a (by decide) _).trans ((FRM_gi hF281 (r := 61) rfl rfl).trans (FRM_gi hF4 (r := 61) rfl rfl)))), show gi (wI h289 189 k.toNat 0) 178 1 = gi h 178 1 from (gi_a (by decide) _).trans ((FRM_gi hF289 (r := 61) rfl rfl).trans ((gi_a (by decide) _).trans ((FRM_gi hF281 (r := 61) rfl rfl).trans (FRM_gi hF4 (r := 61) rfl rfl)))), show gi (wI h289 189 k.toNat 0) 171 5 = gi h 171 5 from (gi_a (by decide) _).trans ((FRM_gi hF289 (r := 54) rfl rfl).trans ((gi_a (by decide) _).trans ((FRM_gi hF281 (r := 54) rfl rfl).trans (FRM_gi hF4 (r := 54) rfl rfl)))), show gi (wI h289 189 k.toNat 0) 171 6 = gi h 171 6 from (gi_a (by decide) _).trans ((FRM_gi hF289 (r := 54) rfl rfl).trans ((gi_a (by decide) _).trans ((FRM_gi hF281 (r := 54) rfl rfl).trans (FRM_gi hF4 (r := 54) rfl rfl)))), show gi (wI h289 189 k.toNat 0) 175 = gi h 175 from funext fun j => (gi_a (by decide) _).trans ((FRM_gi hF289 (r := 58) rfl rfl).trans ((gi_a (by decide) _).trans ((FRM_gi hF281 (r := 58) rfl rfl).trans (FRM_gi hF4 (r := 58) rfl rfl)))), show gi (wI h289 189 k.toNat 0) 176 = gi h 176 from funext fun j => (gi_a (by decide) _).trans ((FRM_gi hF289 (r := 59) rfl rfl).trans ((gi_a (by decide) _).trans ((FRM_gi hF281 (r := 59) rfl rfl).trans (FRM_gi hF4 (r := 59) rfl rfl)))), show dlA (wI h289 189 k.toNat 0) = dlA h from funext fun s => (dlA_w (by decide) (Or.inl (by decide))).trans ((dlA_F hF289 rfl s).trans ((dlA_w (by decide) (Or.inl (by decide))).trans ((dlA_F hF281 rfl s).trans (dlA_F hF4 rfl s))))]
            have cv293 : ∀ j : Int, 0 ≤ j → j < 30 → gi (wI h289 189 k.toNat 0) 189 j.toNat = chL (vs ++ [0]) j := fun j j0 j1 => if c : j = k then (by subst c; rw [chL_s, vl]; exact (gi_same (by omega)).trans (if_pos rfl).symm) else (by rw [chL_s, vl]; exact ((gi_k (by omega) _).trans ((FRM_gi hF289 (r := 72) rfl (by first | rfl | exact mh72 _)).trans ((gi_k (by omega) _).trans (FRM_gi hF281 (r := 72) rfl (by first | rfl | exact mh72 _))))).trans ((cv j j0 j1).trans (if_neg c).symm))
            rw [show fwN (opsF (fun jj => gi (wI h289 189 k.toNat 0) 189 jj.toNat) (gi h 171 5) (fun t g => hitN (gi h 175) (gi h 176) ((gi h 178 0) + t) (g : Int) (gi h 171 6).toNat) (opsT (wl (RC h 178 0)) (gi h 178 0) (gi h 178 4) (dlA h) n.toNat) (fun (l : Nat) => if (l : Int) = gi h 178 1 then 0 else 1000)) 9 = plP h n (vs ++ [0]) from by unfold plP; rw [opsF_ch (ch := fun jj => gi (wI h289 189 k.toNat 0) 189 jj.toNat) (ch' := chL (vs ++ [0])) _ _ fun z hz z1 => by have zn := opsT_n n.toNat hz z1; exact cv293 z.2 zn.1 (by omega)]]
            rintro v293 h293 ⟨rfl, hG293, hF293⟩
            have pb293 := plP_r h n (vs ++ [0])
            refine x_iload 133 hK rfl rfl lk1_s ?_
            refine x_if_eq 140 136 hK rfl rfl rfl (by omega) (fun _ => ?_) (fun c => by omega)
            refine x_iconst 141 hK rfl rfl ?_
            refine x_callS 144 hK hmono rfl (Or.inl rfl) rfl [.int (I 0)] [.int (I (plP h n (vs ++ [0])))] rfl rfl (Nat.le_of_ble_eq_true rfl) (Nat.le_of_ble_eq_true rfl) (CLd_le (Nat.le_of_ble_eq_true rfl) (ctX11_flag (by omega))) ?_
            rintro v9 h9 ⟨e9, rfl⟩
            rw [e9]
            clear e9
            refine x_iadd 145 hK rfl rfl ?_
            refine x_iload_n 146 hK rfl rfl (lk1_n (lk1_n (lk1_n (lk1_n (lk1_n l3 (by decide) (Or.inl rfl)) (by decide) (Or.inl rfl)) (by decide) (Or.inl rfl)) (by decide) (Or.inl rfl)) (by decide) (Or.inl rfl)) ?_
            refine x_if_icmp_ne 153 149 hK rfl rfl rfl (by omega) (by omega) (fun c172 => ?_) (fun c172 => ?_)
            · refine x_iconst 154 hK rfl rfl ?_
              refine x_istore 156 hK rfl rfl _ rfl ?_
              refine x_iload 158 hK rfl rfl (lk1_n lk1_s (by decide) (Or.inl rfl)) ?_
              refine x_iload 160 hK rfl rfl lk1_s ?_
              refine x_if_ne 167 163 hK rfl rfl rfl (by omega) (fun c => by omega) (fun _ => ?_)
              refine x_iconst 164 hK rfl rfl ?_
              refine x_goto 168 hK rfl rfl ?_
              refine x_callS 171 hK hmono rfl (Or.inl rfl) rfl [.int (I 1)] [.int (I 0)] rfl rfl (Nat.le_of_ble_eq_true rfl) (Nat.le_of_ble_eq_true rfl) (CLd_le (Nat.le_of_ble_eq_true rfl) (ctX11_flag (by omega))) ?_
              rintro v9 h9 ⟨e9, rfl⟩
              rw [e9]
              clear e9
              refine x_iadd 172 hK rfl rfl ?_
              refine x_istore 174 hK rfl rfl _ rfl ?_
              refine x_goto 107 hK rfl rfl ?_
              refine x_iload 109 hK rfl rfl (lk1_n lk1_s (by decide) (Or.inl rfl)) ?_
              refine x_if_ne 177 112 hK rfl rfl rfl (by omega) (fun c => by omega) (fun _ => ?_)
              refine x_aload_n 113 hK rfl rfl (lk1_n (lk1_n (lk1_n (lk1_n (lk1_n (lk1_n (lk1_n l0 (by decide) (Or.inl rfl)) (by decide) (Or.inl rfl)) (by decide) (Or.inl rfl)) (by decide) (Or.inl rfl)) (by decide) (Or.inl rfl)) (by decide) (Or.inl rfl)) (by decide) (Or.inl rfl)) ?_
              refine x_getR 116 hK rfl rfl (sp_171 (h := h293) hG293) (rf_171_36 (h := h293) hG293) ?_
              refine x_iload 118 hK rfl rfl (lk1_n (lk1_n (lk1_n (lk1_n (lk1_n (lk1_n (lk1_n l4 (by decide) (Or.inl rfl)) (by decide) (Or.inl rfl)) (by decide) (Or.inl rfl)) (by decide) (Or.inl rfl)) (by decide) (Or.inl rfl)) (by decide) (Or.inl rfl)) (by decide) (Or.inl rfl)) ?_
              refine x_iload 120 hK rfl rfl lk1_s ?_
              refine x_iastore 121 hK rfl rfl (sp_189 (h := h293) hG293) (by omega) (by omega) (by omega) ?_
              refine x_iload 123 hK rfl rfl (lk1_n (lk1_n (lk1_n (lk1_n (lk1_n (lk1_n lk1_s (by decide) (Or.inl rfl)) (by decide) (Or.inl rfl)) (by decide) (Or.inl rfl)) (by decide) (Or.inl rfl)) (by decide) (Or.inl rfl)) (by decide) (Or.inl rfl)) ?_
              refine x_if_eq 149 126 hK rfl rfl rfl (by omega) (fun c => by omega) (fun _ => ?_)
              refine x_aload_n 127 hK rfl rfl (lk1_n (lk1_n (lk1_n (lk1_n (lk1_n (lk1_n (lk1_n l0 (by decide) (Or.inl rfl)) (by decide) (Or.inl rfl)) (by decide) (Or.inl rfl)) (by decide) (Or.inl rfl)) (by decide) (Or.inl rfl)) (by decide) (Or.inl rfl)) (by decide) (Or.inl rfl)) ?_
              refine x_iload_n 128 hK rfl rfl (lk1_n (lk1_n (lk1_n (lk1_n (lk1_n (lk1_n (lk1_n l1 (by decide) (Or.inl rfl)) (by decide) (Or.inl rfl)) (by decide) (Or.inl rfl)) (by decide) (Or.inl rfl)) (by decide) (Or.inl rfl)) (by decide) (Or.inl rfl)) (by decide) (Or.inl rfl)) ?_
              have hGp298 : GD gE gRL sh (wI h293 189 k.toNat 1) := GD_wu (hG293) (r := 72) rfl (by omega) rfl (by omega) (by omega)
              have hXc297 : XI (wI h293 189 k.toNat 1) := (xOk_ok rfl h293 (wI h293 189 k.toNat 1) (FRM_wn 0 29 ((FRM.rf : FRM gRL [(0, 72, 0, 29)] h293 h293)) (r := 72) rfl rfl rfl (by omega) (by omega)) (xOk_ok rfl _ h293 hF293 (xOk_ok rfl h289 (wI h289 189 k.toNat 0) (FRM_wn 0 29 ((FRM.rf : FRM gRL [(0, 72, 0, 29)] h289 h289)) (r := 72) rfl rfl rfl (by omega) (by omega)) (xOk_ok rfl _ h289 hF289 (xOk_ok rfl h281 (wI h281 189 k.toNat (-1)) (FRM_wn 0 29 ((FRM.rf : FRM gRL [(0, 72, 0, 29)] h281 h281)) (r := 72) rfl rfl rfl (by omega) (by omega)) (xOk_ok rfl _ h281 hF281 (xOk_ok rfl _ h4 hF4 hX)))))))
              refine x_callV 131 hK hmono rfl rfl [.ref 171, .int (I n)] [] rfl rfl (Nat.le_of_ble_eq_true rfl) (Nat.le_of_ble_eq_true rfl) rfl (sp_171 (h := h293) hG293) (CLd_le (Nat.le_of_ble_eq_true rfl) (ctX11_fewestOrders hSP hGp298 hXc297 hn (by rw [show gi (wI h293 189 k.toNat 1) 178 0 = gi h 178 0 from (gi_a (by decide) _).trans ((FRM_gi hF293 (r := 61) rfl rfl).trans ((gi_a (by decide) _).trans ((FRM_gi hF289 (r := 61) rfl rfl).trans ((gi_a (by decide) _).trans ((FRM_gi hF281 (r := 61) rfl rfl).trans (FRM_gi hF4 (r := 61) rfl rfl))))))]; exact h0))) ?_
              rw [show RC (wI h293 189 k.toNat 1) 178 0 = RC h 178 0 from (RC_w (by decide)).trans ((RC_F hF293 (r := 61) rfl rfl 0).trans ((RC_w (by decide)).trans ((RC_F hF289 (r := 61) rfl rfl 0).trans ((RC_w (by decide)).trans ((RC_F hF281 (r := 61) rfl rfl 0).trans (RC_F hF4 (r := 61) rfl rfl 0)))))), show gi (wI h293 189 k.toNat 1) 178 0 = gi h 178 0 from (gi_a (by decide) _).trans ((FRM_gi hF293 (r := 61) rfl rfl).trans ((gi_a (by decide) _).trans ((FRM_gi hF289 (r := 61) rfl rfl).trans ((gi_a (by decide) _).trans ((FRM_gi hF281 (r := 61) rfl rfl).trans (FRM_gi hF4 (r := 61) rfl rfl)))))), show gi (wI h293 189 k.toNat 1) 178 4 = gi h 178 4 from (gi_a (by decide) _).trans ((FRM_gi hF293 (r := 61) rfl rfl).trans ((gi_a (by decide) _).trans ((FRM_gi hF289 (r := 61) rfl rfl).trans ((gi_a (by decide) _).trans ((FRM_gi hF281 (r := 61) rfl rfl).trans (FRM_gi hF4 (r := 61) rfl rfl)))))), show gi (wI h293 189 k.toNat 1) 178 1 = gi h 178 1 from (gi_a (by decide) _).trans ((FRM_gi hF293 (r := 61) rfl rfl).trans ((gi_a (by decide) _).trans ((FRM_gi hF289 (r := 61) rfl rfl).trans ((gi_a (by decide) _).trans ((FRM_gi hF281 (r := 61) rfl rfl).trans (FRM_gi hF4 (r := 61) rfl rfl)))))), show gi (wI h293 189 k.toNat 1) 171 5 = gi h 171 5 from (gi_a (by decide) _).trans ((FRM_gi hF293 (r := 54) rfl rfl).trans ((gi_a (by decide) _).trans ((FRM_gi hF289 (r := 54) rfl rfl).trans ((gi_a (by decide) _).trans ((FRM_gi hF281 (r := 54) rfl rfl).trans (FRM_gi hF4 (r := 54) rfl rfl)))))), show gi (wI h293 189 k.toNat 1) 171 6 = gi h 171 6 from (gi_a (by decide) _).trans ((FRM_gi hF293 (r := 54) rfl rfl).trans ((gi_a (by decide) _).trans ((FRM_gi hF289 (r := 54) rfl rfl).trans ((gi_a (by decide) _).trans ((FRM_gi hF281 (r := 54) rfl rfl).trans (FRM_gi hF4 (r := 54) rfl rfl)))))), show gi (wI h293 189 k.toNat 1) 175 = gi h 175 from funext fun j => (gi_a (by decide) _).trans ((FRM_gi hF293 (r := 58) rfl rfl).trans ((gi_a (by decide) _).trans ((FRM_gi hF289 (r := 58) rfl rfl).trans ((gi_a (by decide) _).trans ((FRM_gi hF281 (r := 58) rfl rfl).trans (FRM_gi hF4 (r := 58) rfl rfl)))))), show gi (wI h293 189 k.toNat 1) 176 = gi h 176 from funext fun j => (gi_a (by decide) _).trans ((FRM_gi hF293 (r := 59) rfl rfl).trans ((gi_a (by decide) _).trans ((FRM_gi hF289 (r := 59) rfl rfl).trans ((gi_a (by decide) _).trans ((FRM_gi hF281 (r := 59) rfl rfl).trans (FRM_gi hF4 (r := 59) rfl rfl)))))), show dlA (wI h293 189 k.toNat 1) = dlA h from funext fun s => (dlA_w (by decide) (Or.inl (by decide))).trans ((dlA_F hF293 rfl s).trans ((dlA_w (by decide) (Or.inl (by decide))).trans ((dlA_F hF289 rfl s).trans ((dlA_w (by decide) (Or.inl (by decide))).trans ((dlA_F hF281 rfl s).trans (dlA_F hF4 rfl s))))))]
              have cv297 : ∀ j : Int, 0 ≤ j → j < 30 → gi (wI h293 189 k.toNat 1) 189 j.toNat = chL (vs ++ [1]) j := fun j j0 j1 => if c : j = k then (by subst c; rw [chL_s, vl]; exact (gi_same (by omega)).trans (if_pos rfl).symm) else (by rw [chL_s, vl]; exact ((gi_k (by omega) _).trans ((FRM_gi hF293 (r := 72) rfl (by first | rfl | exact mh72 _)).trans ((gi_k (by omega) _).trans ((FRM_gi hF289 (r := 72) rfl (by first | rfl | exact mh72 _)).trans ((gi_k (by omega) _).trans (FRM_gi hF281 (r := 72) rfl (by first | rfl | exact mh72 _))))))).trans ((cv j j0 j1).trans (if_neg c).symm))
              rw [show fwN (opsF (fun jj => gi (wI h293 189 k.toNat 1) 189 jj.toNat) (gi h 171 5) (fun t g => hitN (gi h 175) (gi h 176) ((gi h 178 0) + t) (g : Int) (gi h 171 6).toNat) (opsT (wl (RC h 178 0)) (gi h 178 0) (gi h 178 4) (dlA h) n.toNat) (fun (l : Nat) => if (l : Int) = gi h 178 1 then 0 else 1000)) 9 = plP h n (vs ++ [1]) from by unfold plP; rw [opsF_ch (ch := fun jj => gi (wI h293 189 k.toNat 1) 189 jj.toNat) (ch' := chL (vs ++ [1])) _ _ fun z hz z1 => by have zn := opsT_n n.toNat hz z1; exact cv297 z.2 zn.1 (by omega)]]
              rintro v297 h297 ⟨rfl, hG297, hF297⟩
              have pb297 := plP_r h n (vs ++ [1])
              refine x_iload 133 hK rfl rfl lk1_s ?_
              refine x_if_eq 140 136 hK rfl rfl rfl (by omega) (fun c => by omega) (fun _ => ?_)
              refine x_iconst 137 hK rfl rfl ?_
              refine x_goto 141 hK rfl rfl ?_
              refine x_callS 144 hK hmono rfl (Or.inl rfl) rfl [.int (I 1)] [.int (I (plP h n (vs ++ [1])))] rfl rfl (Nat.le_of_ble_eq_true rfl) (Nat.le_of_ble_eq_true rfl) (CLd_le (Nat.le_of_ble_eq_true rfl) (ctX11_flag (by omega))) ?_
              rintro v9 h9 ⟨e9, rfl⟩
              rw [e9]
              clear e9
              refine x_iadd 145 hK rfl rfl ?_
              refine x_iload_n 146 hK rfl rfl (lk1_n (lk1_n (lk1_n (lk1_n (lk1_n (lk1_n (lk1_n l3 (by decide) (Or.inl rfl)) (by decide) (Or.inl rfl)) (by decide) (Or.inl rfl)) (by decide) (Or.inl rfl)) (by decide) (Or.inl rfl)) (by decide) (Or.inl rfl)) (by decide) (Or.inl rfl)) ?_
              refine x_if_icmp_ne 153 149 hK rfl rfl rfl (by omega) (by omega) (fun c203 => ?_) (fun c203 => ?_)
              · refine x_iconst 154 hK rfl rfl ?_
                refine x_istore 156 hK rfl rfl _ rfl ?_
                refine x_iload 158 hK rfl rfl (lk1_n lk1_s (by decide) (Or.inl rfl)) ?_
                exfalso
                have := pa (by omega)
                omega
              · refine x_iconst 150 hK rfl rfl ?_
                refine x_goto 154 hK rfl rfl ?_
                refine x_istore 156 hK rfl rfl _ rfl ?_
                refine x_iload 158 hK rfl rfl (lk1_n lk1_s (by decide) (Or.inl rfl)) ?_
                refine x_iload 160 hK rfl rfl lk1_s ?_
                refine x_if_ne 167 163 hK rfl rfl rfl (by omega) (fun _ => ?_) (fun c => by omega)
                refine x_iconst 168 hK rfl rfl ?_
                refine x_callS 171 hK hmono rfl (Or.inl rfl) rfl [.int (I 0)] [.int (I 1)] rfl rfl (Nat.le_of_ble_eq_true rfl) (Nat.le_of_ble_eq_true rfl) (CLd_le (Nat.le_of_ble_eq_true rfl) (ctX11_flag (by omega))) ?_
                rintro v9 h9 ⟨e9, rfl⟩
                rw [e9]
                clear e9
                refine x_iadd 172 hK rfl rfl ?_
                refine x_istore 174 hK rfl rfl _ rfl ?_
                refine x_goto 107 hK rfl rfl ?_
                refine x_iload 109 hK rfl rfl (lk1_n lk1_s (by decide) (Or.inl rfl)) ?_
                refine x_if_ne 177 112 hK rfl rfl rfl (by omega) (fun _ => ?_) (fun c => by omega)
                have ve : plV h n left vs = 1 := by rw [vd, if_pos (by omega), if_neg (by omega), if_neg (by omega)]
                rw [ve] at vo
                refine x_iload_n 178 hK rfl rfl (lk1_n (lk1_n (lk1_n (lk1_n (lk1_n (lk1_n (lk1_n (lk1_n (lk1_n l3 (by decide) (Or.inl rfl)) (by decide) (Or.inl rfl)) (by decide) (Or.inl rfl)) (by decide) (Or.inl rfl)) (by decide) (Or.inl rfl)) (by decide) (Or.inl rfl)) (by decide) (Or.inl rfl)) (by decide) (Or.inl rfl)) (by decide) (Or.inl rfl)) ?_
                refine x_iload 180 hK rfl rfl lk1_s ?_
                refine x_if_eq 187 183 hK rfl rfl rfl (by omega) (fun c => by omega) (fun _ => ?_)
                refine x_iconst 184 hK rfl rfl ?_
                refine x_goto 188 hK rfl rfl ?_
                refine x_callS 191 hK hmono rfl (Or.inl rfl) rfl [.int (I 1)] [.int (I left)] rfl rfl (Nat.le_of_ble_eq_true rfl) (Nat.le_of_ble_eq_true rfl) (CLd_le (Nat.le_of_ble_eq_true rfl) (ctX11_flag (by omega))) ?_
                rintro v9 h9 ⟨e9, rfl⟩
                rw [e9]
                clear e9
                refine x_isub 192 hK rfl rfl ?_
                refine x_istore_n 193 hK rfl rfl _ rfl ?_
                refine x_aload_n 194 hK rfl rfl (lk1_n (lk1_n (lk1_n (lk1_n (lk1_n (lk1_n (lk1_n (lk1_n (lk1_n (lk1_n l0 (by decide) (Or.inl rfl)) (by decide) (Or.inl rfl)) (by decide) (Or.inl rfl)) (by decide) (Or.inl rfl)) (by decide) (Or.inl rfl)) (by decide) (Or.inl rfl)) (by decide) (Or.inl rfl)) (by decide) (Or.inl rfl)) (by decide) (Or.inl rfl)) (by decide) (Or.inl rfl)) ?_
                refine x_iload 196 hK rfl rfl (lk1_n lk1_s (by decide) (Or.inl rfl)) ?_
                refine x_i2l 197 hK rfl rfl (by omega) ?_
                have z303 : gi h297 171 1 = k := (FRM_gi hF297 (r := 54) rfl rfl).trans ((gi_a (by decide) _).trans ((FRM_gi hF293 (r := 54) rfl rfl).trans ((gi_a (by decide) _).trans ((FRM_gi hF289 (r := 54) rfl rfl).trans ((gi_a (by decide) _).trans ((FRM_gi hF281 (r := 54) rfl rfl).trans (rl)))))))
                have z303r : mrow h297 = vs := (mrow_F hF297 rfl rfl).trans ((mrow_a (by decide)).trans ((mrow_F hF293 rfl rfl).trans ((mrow_a (by decide)).trans ((mrow_F hF289 rfl rfl).trans ((mrow_a (by decide)).trans ((mrow_F hF281 rfl rfl).trans (hvs)))))))
                refine x_callV 200 hK hmono rfl rfl [.ref 171, .long (J 1)] [] rfl rfl (Nat.le_of_ble_eq_true rfl) (Nat.le_of_ble_eq_true rfl) rfl (sp_171 (h := h297) hG297) (CLd_le (Nat.le_of_ble_eq_true rfl) (ctX11_entersF hSP hG297 (by omega) (by omega))) ?_
                rintro v302 h302 ⟨rfl, hG302, hF302, t302, s302⟩
                rw [z303] at t302
                rw [z303r] at s302
                refine x_iinc 203 hK rfl rfl (lk1_n (lk1_n (lk1_n (lk1_n (lk1_n (lk1_n (lk1_n (lk1_n (lk1_n (lk1_n l4 (by decide) (Or.inl rfl)) (by decide) (Or.inl rfl)) (by decide) (Or.inl rfl)) (by decide) (Or.inl rfl)) (by decide) (Or.inl rfl)) (by decide) (Or.inl rfl)) (by decide) (Or.inl rfl)) (by decide) (Or.inl rfl)) (by decide) (Or.inl rfl)) (by decide) (Or.inl rfl)) _ rfl ?_
                refine x_goto 50 hK rfl rfl ?_
                exact ih _ (by rw [← hm, md]; exact Nat.lt_succ_self _) (left - 1) (k + 1) _ _ rfl (hn) (n1) (p1) (by omega) ((FRM_gi hF302 (r := 54) rfl rfl).trans ((FRM_gi hF297 (r := 54) rfl rfl).trans ((gi_a (by decide) _).trans ((FRM_gi hF293 (r := 54) rfl rfl).trans ((gi_a (by decide) _).trans ((FRM_gi hF289 (r := 54) rfl rfl).trans ((gi_a (by decide) _).trans ((FRM_gi hF281 (r := 54) rfl rfl).trans (t4))))))))) ((by rw [show mrow h302 = vs ++ [1] from s302, List.length_append]; simp; omega)) ((t302)) ((by rw [show mrow h302 = vs ++ [1] from s302]; exact fun j j0 j1 => if c : j = k then (by subst c; rw [chL_s, vl]; exact ((FRM_gi hF302 (r := 72) rfl rfl).trans ((FRM_gi hF297 (r := 72) rfl rfl).trans (gi_same (by omega)))).trans (if_pos rfl).symm) else (by rw [chL_s, vl]; exact ((FRM_gi hF302 (r := 72) rfl rfl).trans ((FRM_gi hF297 (r := 72) rfl rfl).trans ((gi_k (by omega) _).trans ((FRM_gi hF293 (r := 72) rfl (by first | rfl | exact mh72 _)).trans ((gi_k (by omega) _).trans ((FRM_gi hF289 (r := 72) rfl (by first | rfl | exact mh72 _)).trans ((gi_k (by omega) _).trans (FRM_gi hF281 (r := 72) rfl (by first | rfl | exact mh72 _))))))))).trans ((cv j j0 j1).trans (if_neg c).symm)))) ((by rw [show mrow h302 = vs ++ [1] from s302, vo, if_neg (by omega)])) ((by omega)) ((by rw [show mrow h302 = vs ++ [1] from s302, ← e4, md]; show _ = plR h n _ (left - if plV h n left vs = 0 then 0 else 1) (vs ++ [plV h n left vs]); rw [ve, if_neg (by omega)])) (lk1_n (lk1_n (lk1_n (lk1_n (lk1_n (lk1_n (lk1_n (lk1_n (lk1_n (lk1_n (lk1_n l0 (by decide) (Or.inl rfl)) (by decide) (Or.inl rfl)) (by decide) (Or.inl rfl)) (by decide) (Or.inl rfl)) (by decide) (Or.inl rfl)) (by decide) (Or.inl rfl)) (by decide) (Or.inl rfl)) (by decide) (Or.inl rfl)) (by decide) (Or.inl rfl)) (by decide) (Or.inl rfl)) (by decide) (Or.inl rfl)) (lk1_n (lk1_n (lk1_n (lk1_n (lk1_n (lk1_n (lk1_n (lk1_n (lk1_n (lk1_n (lk1_n l1 (by decide) (Or.inl rfl)) (by decide) (Or.inl rfl)) (by decide) (Or.inl rfl)) (by decide) (Or.inl rfl)) (by decide) (Or.inl rfl)) (by decide) (Or.inl rfl)) (by decide) (Or.inl rfl)) (by decide) (Or.inl rfl)) (by decide) (Or.inl rfl)) (by decide) (Or.inl rfl)) (by decide) (Or.inl rfl)) (lk1_n (lk1_n (lk1_n (lk1_n (lk1_n (lk1_n (lk1_n (lk1_n (lk1_n (lk1_n (lk1_n l2 (by decide) (Or.inl rfl)) (by decide) (Or.inl rfl)) (by decide) (Or.inl rfl)) (by decide) (Or.inl rfl)) (by decide) (Or.inl rfl)) (by decide) (Or.inl rfl)) (by decide) (Or.inl rfl)) (by decide) (Or.inl rfl)) (by decide) (Or.inl rfl)) (by decide) (Or.inl rfl)) (by decide) (Or.inl rfl)) (lk1_n lk1_s (by decide) (Or.inl rfl)) lk1_s (hG302) (((FRM_wn 0 29 ((FRM_wn 0 29 ((FRM_wn 0 29 ((hF4).trans ((hF281).mono rfl)) (r := 72) rfl rfl rfl (by omega) (by omega)).trans ((hF289).mono rfl)) (r := 72) rfl rfl rfl (by omega) (by omega)).trans ((hF293).mono rfl)) (r := 72) rfl rfl rfl (by omega) (by omega)).trans ((hF297).mono rfl)).trans ((hF302).mono rfl))
            · refine x_iconst 150 hK rfl rfl ?_
              refine x_goto 154 hK rfl rfl ?_
              refine x_istore 156 hK rfl rfl _ rfl ?_
              refine x_iload 158 hK rfl rfl (lk1_n lk1_s (by decide) (Or.inl rfl)) ?_
              refine x_iload 160 hK rfl rfl lk1_s ?_
              refine x_if_ne 167 163 hK rfl rfl rfl (by omega) (fun _ => ?_) (fun c => by omega)
              refine x_iconst 168 hK rfl rfl ?_
              refine x_callS 171 hK hmono rfl (Or.inl rfl) rfl [.int (I 0)] [.int (I 0)] rfl rfl (Nat.le_of_ble_eq_true rfl) (Nat.le_of_ble_eq_true rfl) (CLd_le (Nat.le_of_ble_eq_true rfl) (ctX11_flag (by omega))) ?_
              rintro v9 h9 ⟨e9, rfl⟩
              rw [e9]
              clear e9
              refine x_iadd 172 hK rfl rfl ?_
              refine x_istore 174 hK rfl rfl _ rfl ?_
              refine x_goto 107 hK rfl rfl ?_
              refine x_iload 109 hK rfl rfl (lk1_n lk1_s (by decide) (Or.inl rfl)) ?_
              refine x_if_ne 177 112 hK rfl rfl rfl (by omega) (fun _ => ?_) (fun c => by omega)
              have ve : plV h n left vs = 0 := by rw [vd, if_pos (by omega), if_neg (by omega), if_pos (by omega)]
              rw [ve] at vo
              refine x_iload_n 178 hK rfl rfl (lk1_n (lk1_n (lk1_n (lk1_n (lk1_n (lk1_n (lk1_n l3 (by decide) (Or.inl rfl)) (by decide) (Or.inl rfl)) (by decide) (Or.inl rfl)) (by decide) (Or.inl rfl)) (by decide) (Or.inl rfl)) (by decide) (Or.inl rfl)) (by decide) (Or.inl rfl)) ?_
              refine x_iload 180 hK rfl rfl lk1_s ?_
              refine x_if_eq 187 183 hK rfl rfl rfl (by omega) (fun _ => ?_) (fun c => by omega)
              refine x_iconst 188 hK rfl rfl ?_
              refine x_callS 191 hK hmono rfl (Or.inl rfl) rfl [.int (I 0)] [.int (I left)] rfl rfl (Nat.le_of_ble_eq_true rfl) (Nat.le_of_ble_eq_true rfl) (CLd_le (Nat.le_of_ble_eq_true rfl) (ctX11_flag (by omega))) ?_
              rintro v9 h9 ⟨e9, rfl⟩
              rw [e9]
              clear e9
              refine x_isub 192 hK rfl rfl ?_
              refine x_istore_n 193 hK rfl rfl _ rfl ?_
              refine x_aload_n 194 hK rfl rfl (lk1_n (lk1_n (lk1_n (lk1_n (lk1_n (lk1_n (lk1_n (lk1_n l0 (by decide) (Or.inl rfl)) (by decide) (Or.inl rfl)) (by decide) (Or.inl rfl)) (by decide) (Or.inl rfl)) (by decide) (Or.inl rfl)) (by decide) (Or.inl rfl)) (by decide) (Or.inl rfl)) (by decide) (Or.inl rfl)) ?_
              refine x_iload 196 hK rfl rfl (lk1_n lk1_s (by decide) (Or.inl rfl)) ?_
              refine x_i2l 197 hK rfl rfl (by omega) ?_
              have z307 : gi h293 171 1 = k := (FRM_gi hF293 (r := 54) rfl rfl).trans ((gi_a (by decide) _).trans ((FRM_gi hF289 (r := 54) rfl rfl).trans ((gi_a (by decide) _).trans ((FRM_gi hF281 (r := 54) rfl rfl).trans (rl)))))
              have z307r : mrow h293 = vs := (mrow_F hF293 rfl rfl).trans ((mrow_a (by decide)).trans ((mrow_F hF289 rfl rfl).trans ((mrow_a (by decide)).trans ((mrow_F hF281 rfl rfl).trans (hvs)))))
              refine x_callV 200 hK hmono rfl rfl [.ref 171, .long (J 0)] [] rfl rfl (Nat.le_of_ble_eq_true rfl) (Nat.le_of_ble_eq_true rfl) rfl (sp_171 (h := h293) hG293) (CLd_le (Nat.le_of_ble_eq_true rfl) (ctX11_entersF hSP hG293 (by omega) (by omega))) ?_
              rintro v306 h306 ⟨rfl, hG306, hF306, t306, s306⟩
              rw [z307] at t306
              rw [z307r] at s306
              refine x_iinc 203 hK rfl rfl (lk1_n (lk1_n (lk1_n (lk1_n (lk1_n (lk1_n (lk1_n (lk1_n l4 (by decide) (Or.inl rfl)) (by decide) (Or.inl rfl)) (by decide) (Or.inl rfl)) (by decide) (Or.inl rfl)) (by decide) (Or.inl rfl)) (by decide) (Or.inl rfl)) (by decide) (Or.inl rfl)) (by decide) (Or.inl rfl)) _ rfl ?_
              refine x_goto 50 hK rfl rfl ?_
              exact ih _ (by rw [← hm, md]; exact Nat.lt_succ_self _) (left - 0) (k + 1) _ _ rfl (hn) (n1) (p1) (by omega) ((FRM_gi hF306 (r := 54) rfl rfl).trans ((FRM_gi hF293 (r := 54) rfl rfl).trans ((gi_a (by decide) _).trans ((FRM_gi hF289 (r := 54) rfl rfl).trans ((gi_a (by decide) _).trans ((FRM_gi hF281 (r := 54) rfl rfl).trans (t4))))))) ((by rw [show mrow h306 = vs ++ [0] from s306, List.length_append]; simp; omega)) ((t306)) ((by rw [show mrow h306 = vs ++ [0] from s306]; exact fun j j0 j1 => if c : j = k then (by subst c; rw [chL_s, vl]; exact ((FRM_gi hF306 (r := 72) rfl rfl).trans ((FRM_gi hF293 (r := 72) rfl rfl).trans (gi_same (by omega)))).trans (if_pos rfl).symm) else (by rw [chL_s, vl]; exact ((FRM_gi hF306 (r := 72) rfl rfl).trans ((FRM_gi hF293 (r := 72) rfl rfl).trans ((gi_k (by omega) _).trans ((FRM_gi hF289 (r := 72) rfl (by first | rfl | exact mh72 _)).trans ((gi_k (by omega) _).trans (FRM_gi hF281 (r := 72) rfl (by first | rfl | exact mh72 _))))))).trans ((cv j j0 j1).trans (if_neg c).symm)))) ((by rw [show mrow h306 = vs ++ [0] from s306, vo, if_pos rfl])) ((by omega)) ((by rw [show mrow h306 = vs ++ [0] from s306, ← e4, md]; show _ = plR h n _ (left - if plV h n left vs = 0 then 0 else 1) (vs ++ [plV h n left vs]); rw [ve, if_pos rfl])) (lk1_n (lk1_n (lk1_n (lk1_n (lk1_n (lk1_n (lk1_n (lk1_n (lk1_n l0 (by decide) (Or.inl rfl)) (by decide) (Or.inl rfl)) (by decide) (Or.inl rfl)) (by decide) (Or.inl rfl)) (by decide) (Or.inl rfl)) (by decide) (Or.inl rfl)) (by decide) (Or.inl rfl)) (by decide) (Or.inl rfl)) (by decide) (Or.inl rfl)) (lk1_n (lk1_n (lk1_n (lk1_n (lk1_n (lk1_n (lk1_n (lk1_n (lk1_n l1 (by decide) (Or.inl rfl)) (by decide) (Or.inl rfl)) (by decide) (Or.inl rfl)) (by decide) (Or.inl rfl)) (by decide) (Or.inl rfl)) (by decide) (Or.inl rfl)) (by decide) (Or.inl rfl)) (by decide) (Or.inl rfl)) (by decide) (Or.inl rfl)) (lk1_n (lk1_n (lk1_n (lk1_n (lk1_n (lk1_n (lk1_n (lk1_n (lk1_n l2 (by decide) (Or.inl rfl)) (by decide) (Or.inl rfl)) (by decide) (Or.inl rfl)) (by decide) (Or.inl rfl)) (by decide) (Or.inl rfl)) (by decide) (Or.inl rfl)) (by decide) (Or.inl rfl)) (by decide) (Or.inl rfl)) (by decide) (Or.inl rfl)) (lk1_n lk1_s (by decide) (Or.inl rfl)) lk1_s (hG306) (((FRM_wn 0 29 ((FRM_wn 0 29 ((hF4).trans ((hF281).mono rfl)) (r := 72) rfl rfl rfl (by omega) (by omega)).trans ((hF289).mono rfl)) (r := 72) rfl rfl rfl (by omega) (by omega)).trans ((hF293).mono rfl)).trans ((hF306).mono rfl))
          · refine x_iconst 150 hK rfl rfl ?_
            refine x_goto 154 hK rfl rfl ?_
            refine x_istore 156 hK rfl rfl _ rfl ?_
            refine x_iload 158 hK rfl rfl (lk1_n (lk1_n lk1_s (by decide) (Or.inl rfl)) (by decide) (Or.inl rfl)) ?_
            refine x_iload 160 hK rfl rfl lk1_s ?_
            refine x_if_ne 167 163 hK rfl rfl rfl (by omega) (fun _ => ?_) (fun c => by omega)
            refine x_iconst 168 hK rfl rfl ?_
            refine x_callS 171 hK hmono rfl (Or.inl rfl) rfl [.int (I 0)] [.int (I (-1))] rfl rfl (Nat.le_of_ble_eq_true rfl) (Nat.le_of_ble_eq_true rfl) (CLd_le (Nat.le_of_ble_eq_true rfl) (ctX11_flag (by omega))) ?_
            rintro v9 h9 ⟨e9, rfl⟩
            rw [e9]
            clear e9
            refine x_iadd 172 hK rfl rfl ?_
            refine x_istore 174 hK rfl rfl _ rfl ?_
            refine x_goto 107 hK rfl rfl ?_
            refine x_iload 109 hK rfl rfl (lk1_n lk1_s (by decide) (Or.inl rfl)) ?_
            refine x_if_ne 177 112 hK rfl rfl rfl (by omega) (fun _ => ?_) (fun c => by omega)
            have ve : plV h n left vs = (-1) := by rw [vd, if_pos (by omega), if_pos (by omega)]
            rw [ve] at vo
            refine x_iload_n 178 hK rfl rfl (lk1_n (lk1_n (lk1_n (lk1_n (lk1_n l3 (by decide) (Or.inl rfl)) (by decide) (Or.inl rfl)) (by decide) (Or.inl rfl)) (by decide) (Or.inl rfl)) (by decide) (Or.inl rfl)) ?_
            refine x_iload 180 hK rfl rfl lk1_s ?_
            refine x_if_eq 187 183 hK rfl rfl rfl (by omega) (fun c => by omega) (fun _ => ?_)
            refine x_iconst 184 hK rfl rfl ?_
            refine x_goto 188 hK rfl rfl ?_
            refine x_callS 191 hK hmono rfl (Or.inl rfl) rfl [.int (I 1)] [.int (I left)] rfl rfl (Nat.le_of_ble_eq_true rfl) (Nat.le_of_ble_eq_true rfl) (CLd_le (Nat.le_of_ble_eq_true rfl) (ctX11_flag (by omega))) ?_
            rintro v9 h9 ⟨e9, rfl⟩
            rw [e9]
            clear e9
            refine x_isub 192 hK rfl rfl ?_
            refine x_istore_n 193 hK rfl rfl _ rfl ?_
            refine x_aload_n 194 hK rfl rfl (lk1_n (lk1_n (lk1_n (lk1_n (lk1_n (lk1_n l0 (by decide) (Or.inl rfl)) (by decide) (Or.inl rfl)) (by decide) (Or.inl rfl)) (by decide) (Or.inl rfl)) (by decide) (Or.inl rfl)) (by decide) (Or.inl rfl)) ?_
            refine x_iload 196 hK rfl rfl (lk1_n lk1_s (by decide) (Or.inl rfl)) ?_
            refine x_i2l 197 hK rfl rfl (by omega) ?_
            have z311 : gi h289 171 1 = k := (FRM_gi hF289 (r := 54) rfl rfl).trans ((gi_a (by decide) _).trans ((FRM_gi hF281 (r := 54) rfl rfl).trans (rl)))
            have z311r : mrow h289 = vs := (mrow_F hF289 rfl rfl).trans ((mrow_a (by decide)).trans ((mrow_F hF281 rfl rfl).trans (hvs)))
            refine x_callV 200 hK hmono rfl rfl [.ref 171, .long (J (-1))] [] rfl rfl (Nat.le_of_ble_eq_true rfl) (Nat.le_of_ble_eq_true rfl) rfl (sp_171 (h := h289) hG289) (CLd_le (Nat.le_of_ble_eq_true rfl) (ctX11_entersF hSP hG289 (by omega) (by omega))) ?_
            rintro v310 h310 ⟨rfl, hG310, hF310, t310, s310⟩
            rw [z311] at t310
            rw [z311r] at s310
            refine x_iinc 203 hK rfl rfl (lk1_n (lk1_n (lk1_n (lk1_n (lk1_n (lk1_n l4 (by decide) (Or.inl rfl)) (by decide) (Or.inl rfl)) (by decide) (Or.inl rfl)) (by decide) (Or.inl rfl)) (by decide) (Or.inl rfl)) (by decide) (Or.inl rfl)) _ rfl ?_
            refine x_goto 50 hK rfl rfl ?_
            exact ih _ (by rw [← hm, md]; exact Nat.lt_succ_self _) (left - 1) (k + 1) _ _ rfl (hn) (n1) (p1) (by omega) ((FRM_gi hF310 (r := 54) rfl rfl).trans ((FRM_gi hF289 (r := 54) rfl rfl).trans ((gi_a (by decide) _).trans ((FRM_gi hF281 (r := 54) rfl rfl).trans (t4))))) ((by rw [show mrow h310 = vs ++ [(-1)] from s310, List.length_append]; simp; omega)) ((t310)) ((by rw [show mrow h310 = vs ++ [(-1)] from s310]; exact fun j j0 j1 => if c : j = k then (by subst c; rw [chL_s, vl]; exact ((FRM_gi hF310 (r := 72) rfl rfl).trans ((FRM_gi hF289 (r := 72) rfl rfl).trans (gi_same (by omega)))).trans (if_pos rfl).symm) else (by rw [chL_s, vl]; exact ((FRM_gi hF310 (r := 72) rfl rfl).trans ((FRM_gi hF289 (r := 72) rfl rfl).trans ((gi_k (by omega) _).trans (FRM_gi hF281 (r := 72) rfl (by first | rfl | exact mh72 _))))).trans ((cv j j0 j1).trans (if_neg c).symm)))) ((by rw [show mrow h310 = vs ++ [(-1)] from s310, vo, if_neg (by omega)])) ((by omega)) ((by rw [show mrow h310 = vs ++ [(-1)] from s310, ← e4, md]; show _ = plR h n _ (left - if plV h n left vs = 0 then 0 else 1) (vs ++ [plV h n left vs]); rw [ve, if_neg (by omega)])) (lk1_n (lk1_n (lk1_n (lk1_n (lk1_n (lk1_n (lk1_n l0 (by decide) (Or.inl rfl)) (by decide) (Or.inl rfl)) (by decide) (Or.inl rfl)) (by decide) (Or.inl rfl)) (by decide) (Or.inl rfl)) (by decide) (Or.inl rfl)) (by decide) (Or.inl rfl)) (lk1_n (lk1_n (lk1_n (lk1_n (lk1_n (lk1_n (lk1_n l1 (by decide) (Or.inl rfl)) (by decide) (Or.inl rfl)) (by decide) (Or.inl rfl)) (by decide) (Or.inl rfl)) (by decide) (Or.inl rfl)) (by decide) (Or.inl rfl)) (by decide) (Or.inl rfl)) (lk1_n (lk1_n (lk1_n (lk1_n (lk1_n (lk1_n (lk1_n l2 (by decide) (Or.inl rfl)) (by decide) (Or.inl rfl)) (by decide) (Or.inl rfl)) (by decide) (Or.inl rfl)) (by decide) (Or.inl rfl)) (by decide) (Or.inl rfl)) (by decide) (Or.inl rfl)) (lk1_n lk1_s (by decide) (Or.inl rfl)) lk1_s (hG310) (((FRM_wn 0 29 ((hF4).trans ((hF281).mono rfl)) (r := 72) rfl rfl rfl (by omega) (by omega)).trans ((hF289).mono rfl)).trans ((hF310).mono rfl))
  refine x_aload_n 1 hK rfl rfl rfl ?_
  refine x_iconst 2 hK rfl rfl ?_
  refine x_putI 5 hK rfl rfl (sp_171 (h := h) hG) ?_
  refine x_iload_n 6 hK rfl rfl rfl ?_
  refine x_i2l 7 hK rfl rfl (by omega) ?_
  refine x_lconstE 8 1 hK rfl rfl rfl ?_
  refine x_ldc2_w 11 hK rfl rfl ?_
  have hGp312 : GD gE gRL sh (wI h 171 0 0) := GD_w1 (hG) (r := 54) rfl (by omega) rfl (by omega) (by omega)
  refine x_callS 14 hK hmono rfl (Or.inl rfl) rfl [.long (J n), .long (J 1), .long (J 30)] [] rfl rfl (Nat.le_of_ble_eq_true rfl) (Nat.le_of_ble_eq_true rfl) (CLd_le (Nat.le_of_ble_eq_true rfl) (ctX11_in (by omega) (by omega) (by omega))) ?_
  rintro v9 h9 ⟨e9, ⟨rfl, i1313, i2313⟩ | ⟨rfl, i1313⟩⟩ <;> rw [e9] <;> clear e9
  · refine x_if_ne 19 17 hK rfl rfl rfl (by omega) (fun _ => ?_) (fun c => by omega)
    refine x_aload_n 20 hK rfl rfl rfl ?_
    refine x_iconst 21 hK rfl rfl ?_
    have hGp314 : GD gE gRL sh (wI h 171 0 0) := GD_w1 (hG) (r := 54) rfl (by omega) rfl (by omega) (by omega)
    refine x_callV 24 hK hmono rfl rfl [.ref 171, .int (I 0)] [] rfl rfl (Nat.le_of_ble_eq_true rfl) (Nat.le_of_ble_eq_true rfl) rfl (sp_171 (h := h) hG) (CLd_le (Nat.le_of_ble_eq_true rfl) (ctX11_choosesAny hSP hGp314 (a := 0) (by omega))) ?_
    rintro v2 h2 ⟨rfl, hG2, hF2, ch2⟩
    refine x_aload_n 25 hK rfl rfl rfl ?_
    refine x_iload_n 26 hK rfl rfl rfl ?_
    have hn : 0 ≤ n ∧ n ≤ 30 := ⟨by omega, by omega⟩
    have hXc315 : XI h2 := (xOk_ok rfl _ h2 hF2 (xOk_ok rfl h (wI h 171 0 0) (FRM_w ((FRM.rf : FRM gRL [(0, 54, 0, 0)] h h)) (r := 54) rfl rfl) hX))
    refine x_callV 29 hK hmono rfl rfl [.ref 171, .int (I n)] [] rfl rfl (Nat.le_of_ble_eq_true rfl) (Nat.le_of_ble_eq_true rfl) rfl (sp_171 (h := h2) hG2) (CLd_le (Nat.le_of_ble_eq_true rfl) (ctX11_fewestOrders hSP hG2 hXc315 hn (by rw [show gi h2 178 0 = gi h 178 0 from (FRM_gi hF2 (r := 61) rfl rfl).trans (gi_a (by decide) _)]; exact h0))) ?_
    rw [show RC h2 178 0 = RC h 178 0 from (RC_F hF2 (r := 61) rfl rfl 0).trans (RC_w (by decide)), show gi h2 178 0 = gi h 178 0 from (FRM_gi hF2 (r := 61) rfl rfl).trans (gi_a (by decide) _), show gi h2 178 4 = gi h 178 4 from (FRM_gi hF2 (r := 61) rfl rfl).trans (gi_a (by decide) _), show gi h2 178 1 = gi h 178 1 from (FRM_gi hF2 (r := 61) rfl rfl).trans (gi_a (by decide) _), show gi h2 171 5 = gi h 171 5 from (FRM_gi hF2 (r := 54) rfl rfl).trans (gi_k (by decide) _), show gi h2 171 6 = gi h 171 6 from (FRM_gi hF2 (r := 54) rfl rfl).trans (gi_k (by decide) _), show gi h2 175 = gi h 175 from funext fun j => (FRM_gi hF2 (r := 58) rfl rfl).trans (gi_a (by decide) _), show gi h2 176 = gi h 176 from funext fun j => (FRM_gi hF2 (r := 59) rfl rfl).trans (gi_a (by decide) _), show dlA h2 = dlA h from funext fun s => (dlA_F hF2 rfl s).trans (dlA_w (by decide) (Or.inr (by decide)))]
    have cv315 : ∀ j : Int, 0 ≤ j → j < 30 → gi h2 189 j.toNat = chL [] j := fun j j0 j1 => (ch2 j.toNat (by omega)).trans ((if_neg (by omega)).trans (if_neg (fun z => by have := z.2; simp at this; omega)).symm)
    rw [show fwN (opsF (fun jj => gi h2 189 jj.toNat) (gi h 171 5) (fun t g => hitN (gi h 175) (gi h 176) ((gi h 178 0) + t) (g : Int) (gi h 171 6).toNat) (opsT (wl (RC h 178 0)) (gi h 178 0) (gi h 178 4) (dlA h) n.toNat) (fun (l : Nat) => if (l : Int) = gi h 178 1 then 0 else 1000)) 9 = plP h n [] from by unfold plP; rw [opsF_ch (ch := fun jj => gi h2 189 jj.toNat) (ch' := chL []) _ _ fun z hz z1 => by have zn := opsT_n n.toNat hz z1; exact cv315 z.2 zn.1 (by omega)]]
    rintro v315 h315 ⟨rfl, hG315, hF315⟩
    have pb315 := plP_r h n []
    refine x_istore_n 30 hK rfl rfl [(2, .int (I (plP h n []))), (0, .ref 171), (1, .int (I n))] rfl ?_
    refine x_iload_n 31 hK rfl rfl rfl ?_
    refine x_sipush 34 hK rfl rfl rfl ?_
    refine x_if_icmp_lt 40 37 hK rfl rfl rfl (by omega) (by omega) (fun c19 => ?_) (fun c19 => ?_)
    · refine x_iload_n 41 hK rfl rfl rfl ?_
      refine x_istore_n 42 hK rfl rfl [(3, .int (I (plP h n []))), (2, .int (I (plP h n []))), (0, .ref 171), (1, .int (I n))] rfl ?_
      refine x_aload_n 43 hK rfl rfl rfl ?_
      refine x_iconst 44 hK rfl rfl ?_
      refine x_putI 47 hK rfl rfl (sp_171 (h := h315) hG315) ?_
      refine x_iconst 48 hK rfl rfl ?_
      refine x_istore 50 hK rfl rfl [(4, .int (I 0)), (3, .int (I (plP h n []))), (2, .int (I (plP h n []))), (0, .ref 171), (1, .int (I n))] rfl ?_
      exact loopK _ (plP h n []) 0 _ _ rfl (hn) (by omega) (by omega) (by omega) ((gi_k (by decide) _).trans ((FRM_gi hF315 (r := 54) rfl rfl).trans ((FRM_gi hF2 (r := 54) rfl rfl).trans (gi_same (by omega))))) ((by rw [show mrow (wI h315 171 1 0) = [] from mrow_0 (gi_same (by omega))]; rfl)) (gi_same (by omega)) ((by rw [show mrow (wI h315 171 1 0) = [] from mrow_0 (gi_same (by omega))]; exact fun j j0 j1 => ((gi_a (by decide) _).trans (FRM_gi hF315 (r := 72) rfl rfl)).trans ((ch2 j.toNat (by omega)).trans ((if_neg (by omega)).trans (if_neg (fun z => by have := z.2; simp at this; omega)).symm)))) ((by rw [show mrow (wI h315 171 1 0) = [] from mrow_0 (gi_same (by omega))])) (by omega) ((by rw [show mrow (wI h315 171 1 0) = [] from mrow_0 (gi_same (by omega)), Int.sub_zero])) rfl rfl rfl rfl rfl (GD_w1 (hG315) (r := 54) rfl (by omega) rfl (by omega) (by omega)) (FRM_w (((FRM_w ((FRM.rf : FRM gRL [(0, 54, 0, 0), (0, 54, 1, 1), (0, 67, 0, 79), (0, 68, 0, 3), (0, 72, 0, 29), (0, 73, 0, 8), (0, 74, 0, 8), (1, 55, 0, 39)] h h)) (r := 54) rfl rfl).trans ((hF2).mono rfl)).trans ((hF315).mono rfl)) (r := 54) rfl rfl)
    · refine x_bipush 39 hK rfl rfl rfl ?_
      exact x_iret hK rfl ⟨Or.inr (Or.inl ⟨⟨by omega, by omega⟩, by omega, rfl, (mrow_F hF315 rfl rfl).trans ((mrow_F hF2 rfl rfl).trans (mrow_k (by decide)))⟩), hG315, ((FRM_w ((FRM.rf : FRM gRL [(0, 54, 0, 0), (0, 54, 1, 1), (0, 67, 0, 79), (0, 68, 0, 3), (0, 72, 0, 29), (0, 73, 0, 8), (0, 74, 0, 8), (1, 55, 0, 39)] h h)) (r := 54) rfl rfl).trans ((hF2).mono rfl)).trans ((hF315).mono rfl), (FRM_gi hF315 (r := 54) rfl rfl).trans ((FRM_gi hF2 (r := 54) rfl rfl).trans (gi_same (by omega)))⟩
  · refine x_if_ne 19 17 hK rfl rfl rfl (by omega) (fun c => by omega) (fun _ => ?_)
    refine x_iconst 18 hK rfl rfl ?_
    exact x_iret hK rfl ⟨Or.inl ⟨by omega, rfl, mrow_k (by decide)⟩, GD_w1 (hG) (r := 54) rfl (by omega) rfl (by omega) (by omega), FRM_w ((FRM.rf : FRM gRL [(0, 54, 0, 0), (0, 54, 1, 1), (0, 67, 0, 79), (0, 68, 0, 3), (0, 72, 0, 29), (0, 73, 0, 8), (0, 74, 0, 8), (1, 55, 0, 39)] h h)) (r := 54) rfl rfl, gi_same (by omega)⟩
