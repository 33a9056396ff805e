/-! FOOD THAT IS PASSED (the reference) -/
def abZ (y : Int) : Int := if 0 ≤ y then y else -y
theorem abZ_b {y : Int} (h : -800 ≤ y ∧ y ≤ 800) : 0 ≤ abZ y ∧ abZ y ≤ 800 := by unfold abZ; split <;> omega
/-- FOOD of a MESS beyond what it EATS in n STEPS -/
def spF (h : aH) (n : Int) (m : Nat) : Int := gi h 178 (41 + m) - n * gi h 177 m
theorem mul_b {n e a b : Int} (hn : 0 ≤ n ∧ n ≤ a) (he : 0 ≤ e ∧ e ≤ b) : 0 ≤ n * e ∧ n * e ≤ a * b := ⟨Int.mul_nonneg hn.1 he.1, Int.mul_le_mul hn.2 he.2 he.1 (by omega)⟩
def mnR (g : Int → Int) : Nat → Int
  | 0 => 1000000
  | k + 1 => min (mnR g k) (g (-800 + k))
theorem mnR_s {g : Int → Int} {y : Int} (h : -800 ≤ y) : mnR g (y + 1 + 800).toNat = min (mnR g (y + 800).toNat) (g y) := by
  rw [show (y + 1 + 800).toNat = (y + 800).toNat + 1 by omega]
  show min _ (g (-800 + ((y + 800).toNat : Int))) = _
  rw [show -800 + ((y + 800).toNat : Int) = y by omega]
theorem mnR_le {g : Int → Int} : ∀ (n k : Nat), k < n → mnR g n ≤ g (-800 + k)
  | 0, k, h => absurd h (Nat.not_lt_zero _)
  | n + 1, k, h => by
    show min (mnR g n) (g (-800 + n)) ≤ _
    by_cases c : k = n
    · rw [c]; omega
    · have := mnR_le (g := g) n k (by omega); omega
theorem mnR_b {g : Int → Int} (hg : ∀ k : Nat, 0 ≤ g (-800 + k)) : ∀ n : Nat, 0 ≤ mnR g n ∧ mnR g n ≤ 1000000
  | 0 => by show (0 : Int) ≤ 1000000 ∧ (1000000 : Int) ≤ 1000000; omega
  | n + 1 => by
    have := mnR_b hg n
    have := hg n
    show 0 ≤ min (mnR g n) (g (-800 + n)) ∧ min (mnR g n) (g (-800 + n)) ≤ 1000000
    omega
theorem mnR_ex {g : Int → Int} : ∀ n : Nat, mnR g n < 1000000 → ∃ k : Nat, k < n ∧ g (-800 + k) = mnR g n
  | 0, h => absurd h (by show ¬ (1000000 : Int) < 1000000; omega)
  | n + 1, h => by
    show ∃ k : Nat, k < n + 1 ∧ g (-800 + k) = min (mnR g n) (g (-800 + n))
    by_cases c : mnR g n ≤ g (-800 + n)
    · have e : min (mnR g n) (g (-800 + n)) = mnR g n := by omega
      have h2 : mnR g n < 1000000 := by have h3 : min (mnR g n) (g (-800 + n)) < 1000000 := h; omega
      obtain ⟨k, h4, h5⟩ := mnR_ex n h2
      exact ⟨k, by omega, by rw [e]; exact h5⟩
    · exact ⟨n, by omega, by omega⟩
/-- the least that must be passed, from d MESSES ahead of the last on, when x comes to them -/
def yF (sp : Nat → Int) (q : Nat) : Nat → Int → Int
  | 0, x => if 0 ≤ x + sp q then 0 else 1000000
  | d + 1, x => mnR (fun y => abZ y + yF sp q d y) (min 800 (x + sp (q - (d + 1))) + 801).toNat
theorem yF_nn (sp : Nat → Int) (q : Nat) : ∀ (d : Nat) (x : Int), 0 ≤ yF sp q d x ∧ yF sp q d x ≤ 1000000
  | 0, x => by show 0 ≤ (if 0 ≤ x + sp q then (0 : Int) else 1000000) ∧ (if 0 ≤ x + sp q then (0 : Int) else 1000000) ≤ 1000000; split <;> omega
  | d + 1, x => mnR_b (fun k => by
      have := (yF_nn sp q d (-800 + k)).1
      have : 0 ≤ abZ (-800 + k) := by unfold abZ; split <;> omega
      show 0 ≤ abZ (-800 + k) + yF sp q d (-800 + k)
      omega) _
theorem yF_s {sp : Nat → Int} {q : Nat} {m x : Int} (h0 : 0 ≤ m) (h1 : m < q) : yF sp q (q - m.toNat) x = mnR (fun y => abZ y + yF sp q (q - (m + 1).toNat) y) (min 800 (x + sp m.toNat) + 801).toNat := by
  obtain ⟨d, hd⟩ : ∃ d : Nat, q - m.toNat = d + 1 := ⟨q - m.toNat - 1, by omega⟩
  rw [hd, show q - (m + 1).toNat = d by omega]
  show mnR _ (min 800 (x + sp (q - (d + 1))) + 801).toNat = _
  rw [show q - (d + 1) = m.toNat by omega]
theorem fl_nn (sp : Nat → Int) (q d : Nat) (y : Int) : 0 ≤ abZ y + yF sp q d y := by
  have := (yF_nn sp q d y).1
  have : 0 ≤ abZ y := by unfold abZ; split <;> omega
  omega
def sufF (sp : Nat → Int) (q : Nat) : Nat → Int
  | 0 => sp q
  | d + 1 => sp (q - (d + 1)) + sufF sp q d
def totF (sp : Nat → Int) : Nat → Int
  | 0 => 0
  | m + 1 => totF sp m + sp m
theorem totF_s {sp : Nat → Int} {i : Int} (h : 0 ≤ i) : totF sp (i + 1).toNat = totF sp i.toNat + sp i.toNat := by rw [tn_s h]; rfl
theorem totF_b {sp : Nat → Int} : ∀ (n : Nat), (∀ m, m < n → -891 ≤ sp m ∧ sp m ≤ 99) → -891 * n ≤ totF sp n ∧ totF sp n ≤ 99 * n
  | 0, _ => by show (-891 : Int) * 0 ≤ 0 ∧ (0 : Int) ≤ 99 * 0; omega
  | n + 1, h => by
    have := totF_b n fun m hm => h m (by omega)
    have := h n (by omega)
    show _ ≤ totF sp n + sp n ∧ totF sp n + sp n ≤ _
    omega
theorem suf_tot {sp : Nat → Int} {q : Nat} : ∀ d : Nat, d ≤ q → totF sp (q - d) + sufF sp q d = totF sp (q + 1)
  | 0, _ => rfl
  | d + 1, h => by
    rw [← suf_tot d (by omega), show q - d = (q - (d + 1)) + 1 by omega]
    show totF sp (q - (d + 1)) + (sp (q - (d + 1)) + sufF sp q d) = totF sp (q - (d + 1)) + sp (q - (d + 1)) + sufF sp q d
    omega
theorem suf_b {sp : Nat → Int} {q : Nat} (hs : ∀ m, sp m ≤ 99) : ∀ d : Nat, sufF sp q d ≤ 99 * (d + 1)
  | 0 => by have := hs q; show sp q ≤ 99 * (0 + 1); omega
  | d + 1 => by
    have := suf_b (q := q) hs d
    have := hs (q - (d + 1))
    show sp (q - (d + 1)) + sufF sp q d ≤ _
    omega
/-- it can be done -/
theorem yF_fe {sp : Nat → Int} {q : Nat} (hq : q ≤ 7) (hs : ∀ m, sp m ≤ 99) : ∀ (d : Nat) (x : Int), d ≤ q → x ≤ 99 * ((q : Int) - d) → 0 ≤ x + sufF sp q d → yF sp q d x ≤ 800 * d
  | 0, x, _, _, h => by
    have h : 0 ≤ x + sp q := h
    show (if 0 ≤ x + sp q then (0 : Int) else 1000000) ≤ _
    rw [if_pos h]; omega
  | d + 1, x, hd, hx, h => by
    have h : 0 ≤ x + (sp (q - (d + 1)) + sufF sp q d) := h
    have h1 := hs (q - (d + 1))
    have h2 := suf_b (q := q) hs d
    have ih := yF_fe hq hs d (x + sp (q - (d + 1))) (by omega) (by omega) (by omega)
    have z := mnR_le (g := fun y => abZ y + yF sp q d y) (min 800 (x + sp (q - (d + 1))) + 801).toNat (x + sp (q - (d + 1)) + 800).toNat (by omega)
    have e : -800 + (((x + sp (q - (d + 1)) + 800).toNat : Nat) : Int) = x + sp (q - (d + 1)) := by omega
    simp only [e] at z
    have := abZ_b (y := x + sp (q - (d + 1))) (by omega)
    show mnR _ _ ≤ _
    omega
/-- the first y from which on g is v -/
def fsF (g : Int → Int) (v : Int) : Nat → Int → Int
  | 0, y => y
  | n + 1, y => if g y = v then y else fsF g v n (y + 1)
def shRow (sp : Nat → Int) (q : Nat) : Nat → Int → List Int
  | 0, _ => []
  | d + 1, x => fsF (fun y => abZ y + yF sp q d y) (yF sp q (d + 1) x) 1601 (-800) :: shRow sp q d (fsF (fun y => abZ y + yF sp q d y) (yF sp q (d + 1) x) 1601 (-800))
def YT (sp : Nat → Int) (q : Nat) (h : aH) (m x0 : Int) : Prop := ∀ m' x : Int, 0 ≤ m' → m' ≤ q → -800 ≤ x → x ≤ 800 → (m < m' ∨ (m' = m ∧ x < x0)) → gi h 192 (1601 * m' + 800 + x).toNat = yF sp q (q - m'.toNat) x
set_option maxRecDepth 4000 in
theorem ctX11_spare {SP : CT} (hSP : MONO SP) {sh : List (Nat × Nat)} {h : aH} (hG : GD gE gRL sh h) {m n : Int} (hm : 0 ≤ m ∧ m ≤ 7) (hn : 0 ≤ n ∧ n ≤ 99) : CLd SP 1 mX11_spare [.ref 171, .int (I m), .int (I n)] h 0 0 (fun rv h' => h' = h ∧ rv = some (.int (I (spF h n m.toNat)))) := by
  refine x_met _ rfl (Nat.le_of_ble_eq_true rfl) (fun K hK => ?_)
  have hmono := MONO_CLd hSP 0
  refine x_aload_n 1 hK rfl rfl rfl ?_
  refine x_getR 4 hK rfl rfl (sp_171 (h := h) hG) (rf_171_14 (h := h) hG) ?_
  refine x_bipush 6 hK rfl rfl rfl ?_
  refine x_iload_n 7 hK rfl rfl rfl ?_
  refine x_iadd 8 hK rfl rfl ?_
  have g238 := gi_r h 178 (41 + m).toNat
  refine x_ialoadE 9 hK rfl rfl (sp_178 (h := h) hG) (by omega) (by omega) (by omega) (e' := (gi h 178 (41 + m).toNat)) (rfl) ?_
  refine x_iload_n 10 hK rfl rfl rfl ?_
  refine x_aload_n 11 hK rfl rfl rfl ?_
  refine x_getR 14 hK rfl rfl (sp_171 (h := h) hG) (rf_171_13 (h := h) hG) ?_
  refine x_iload_n 15 hK rfl rfl rfl ?_
  have g239 := grn (0) (9) hG (a := 177) (r := 60) (k := m.toNat) rfl rfl (by omega)
  refine x_ialoadE 16 hK rfl rfl (sp_177 (h := h) hG) (by omega) (by omega) (by omega) (e' := (gi h 177 m.toNat)) (rfl) ?_
  refine x_imul 17 hK rfl rfl ?_
  refine x_isub 18 hK rfl rfl ?_
  exact x_iret hK rfl ⟨rfl, by unfold spF; rw [show 41 + m.toNat = (41 + m).toNat by omega]⟩
set_option maxRecDepth 4000 in
theorem ctX11_flow {SP : CT} (hSP : MONO SP) {sh : List (Nat × Nat)} {h : aH} (hG : GD gE gRL sh h) {m y : Int} (hm : 0 ≤ m ∧ m ≤ 7) (hy : -800 ≤ y ∧ y ≤ 800) : CLd SP 1 mX11_flow [.ref 171, .int (I m), .int (I y)] h 0 0 (fun rv h' => h' = h ∧ rv = some (.int (I (abZ y + gi h 192 (1601 * (m + 1) + 800 + y).toNat)))) := by
  refine x_met _ rfl (Nat.le_of_ble_eq_true rfl) (fun K hK => ?_)
  have hmono := MONO_CLd hSP 0
  refine x_iload_n 1 hK rfl rfl rfl ?_
  refine x_abs 4 hK rfl rfl (Nat.le_of_ble_eq_true rfl) (by omega) ?_
  refine x_aload_n 5 hK rfl rfl rfl ?_
  refine x_getR 8 hK rfl rfl (sp_171 (h := h) hG) (rf_171_41 (h := h) hG) ?_
  refine x_sipush 11 hK rfl rfl rfl ?_
  refine x_iload_n 12 hK rfl rfl rfl ?_
  refine x_iconst 13 hK rfl rfl ?_
  refine x_iadd 14 hK rfl rfl ?_
  refine x_imul 15 hK rfl rfl ?_
  refine x_sipush 18 hK rfl rfl rfl ?_
  refine x_iadd 19 hK rfl rfl ?_
  refine x_iload_n 20 hK rfl rfl rfl ?_
  refine x_iadd 21 hK rfl rfl ?_
  have g240 := gi_r h 192 (((1601 * (m + 1)) + 800) + y).toNat
  refine x_ialoadE 22 hK rfl rfl (sp_192 (h := h) hG) (by omega) (by omega) (by omega) (e' := (gi h 192 (((1601 * (m + 1)) + 800) + y).toNat)) (rfl) ?_
  refine x_iadd 23 hK rfl rfl ?_
  exact x_iret hK rfl ⟨rfl, rfl⟩
set_option maxRecDepth 4000 in
theorem ctX11_laysFlows {SP : CT} (hSP : MONO SP) {sh : List (Nat × Nat)} {h : aH} (hG : GD gE gRL sh h) {n b : Int} (hn : 0 ≤ n ∧ n ≤ 99) (wb : WB b (RC h 178 0)) (h7 : 1 ≤ gi h 171 7) : CLd SP 3 mX11_laysFlows [.ref 171, .int (I n)] h 0 0 (fun rv h' => rv = none ∧ GD gE gRL sh h' ∧ FRM gRL [(0, 75, 0, 14408)] h h' ∧ YT (spF h n) (gi h 171 7 - 1).toNat h' (-1) 0) := by
  refine x_met _ rfl (Nat.le_of_ble_eq_true rfl) (fun K hK => ?_)
  have hmono := MONO_CLd hSP 2
  have g7 := gri 0 8 hG (a := 171) (r := 54) (k := 7) rfl rfl
  have fdb : ∀ m, m < 8 → 0 ≤ gi h 178 (41 + m) ∧ gi h 178 (41 + m) ≤ 99 := fun m hm => by have := (wb.2.2.2.2.2 m hm).1; rw [RC_0 (by omega)] at this; exact this
  have spb : ∀ m : Nat, m < 8 → -891 ≤ spF h n m ∧ spF h n m ≤ 99 := fun m hm => by
    have a := fdb m hm
    have e := grn 0 9 hG (a := 177) (r := 60) (k := m) rfl rfl (by omega)
    have z := mul_b (n := n) (e := gi h 177 m) (a := 99) (b := 9) hn e
    unfold spF
    omega
  obtain ⟨sp, hsp⟩ : ∃ sp, spF h n = sp := ⟨_, rfl⟩
  obtain ⟨q, hq, hq7⟩ : ∃ q : Nat, gi h 171 7 - 1 = q ∧ q ≤ 7 := ⟨(gi h 171 7 - 1).toNat, by omega, by omega⟩
  rw [hsp, hq, show ((q : Int)).toNat = q from rfl] at hK
  have loopM : ∀ (mz : Nat) (m : Int) (h3 : aH) (ls : List (Nat × Value)), ((m + 1).toNat = mz) → (-1 ≤ m ∧ m < q) → (YT sp q h3 m (-800)) → lk ls 0 = some (.ref 171) → lk ls 1 = some (.int (I n)) → lk ls 2 = some (.int (I m)) → GD gE gRL sh h3 → FRM gRL [(0, 75, 0, 14408)] h h3 → K 68 ls [] h3 0 0 := by
    intro mz
    induction mz using Nat.strongRecOn with
    | ind mz ih =>
    intro m h3 ls hm m0 t3 l0 l1 l2 hG3 hF3
    have ihM := ih
    have loopX : ∀ (mz : Nat) (e y x : Int) (h4 : aH) (ls : List (Nat × Value)), ((801 - x).toNat = mz) → (0 ≤ m) → (-800 ≤ x ∧ x ≤ 801) → (-800 ≤ y ∧ y ≤ 801) → (y = -800 ∨ y ≤ x + sp m.toNat) → (x = -800 ∨ y = -800 + (min 800 (x - 1 + sp m.toNat) + 801).toNat) → (e = mnR (fun y => abZ y + yF sp q (q - (m + 1).toNat) y) (y + 800).toNat) → (YT sp q h4 m x) → lk ls 0 = some (.ref 171) → lk ls 1 = some (.int (I n)) → lk ls 2 = some (.int (I m)) → lk ls 3 = some (.int (I e)) → lk ls 4 = some (.int (I y)) → lk ls 5 = some (.int (I x)) → GD gE gRL sh h4 → FRM gRL [(0, 75, 0, 14408)] h h4 → K 86 ls [] h4 0 0 := by
      intro mz
      induction mz using Nat.strongRecOn with
      | ind mz ih =>
      intro e y x h4 ls hm m1 x0 y0 yx yf ee t4 l0 l1 l2 l3 l4 l5 hG4 hF4
      have ihX := ih
      have gy := yF_nn sp q (q - (m + 1).toNat)
      have spm := spb m.toNat (by omega)
      rw [hsp] at spm
      have loopY : ∀ (mz : Nat) (e y : Int) (ls : List (Nat × Value)), ((801 - y).toNat = mz) → (-800 ≤ x ∧ x ≤ 800) → (0 ≤ m) → (-800 ≤ y ∧ y ≤ 801) → (y = -800 ∨ y ≤ x + sp m.toNat + 1) → (e = mnR (fun y => abZ y + yF sp q (q - (m + 1).toNat) y) (y + 800).toNat) → (YT sp q h4 m x) → lk ls 0 = some (.ref 171) → lk ls 1 = some (.int (I n)) → lk ls 2 = some (.int (I m)) → lk ls 3 = some (.int (I e)) → lk ls 4 = some (.int (I y)) → lk ls 5 = some (.int (I x)) → K 94 ls [] h4 0 0 := by
        intro mz
        induction mz using Nat.strongRecOn with
        | ind mz ih =>
        intro e y ls hm x1 m1 y0 yx ee t4 l0 l1 l2 l3 l4 l5
        have eb := mnR_b (g := fun y => abZ y + yF sp q (q - (m + 1).toNat) y) (fun k => fl_nn sp q _ _) (y + 800).toNat
        rw [← ee] at eb
        have ms1 := mnR_s (g := fun y => abZ y + yF sp q (q - (m + 1).toNat) y) (y := y) y0.1
        rw [← ee] at ms1
        refine x_iload 96 hK rfl rfl l4 ?_
        refine x_sipush 99 hK rfl rfl rfl ?_
        refine x_if_icmp_gt 134 102 hK rfl rfl rfl (by omega) (by omega) (fun c3 => ?_) (fun c3 => ?_)
        · refine x_aload_n 135 hK rfl rfl l0 ?_
          refine x_getR 138 hK rfl rfl (sp_171 (h := h4) hG4) (rf_171_41 (h := h4) hG4) ?_
          refine x_sipush 141 hK rfl rfl rfl ?_
          refine x_iload_n 142 hK rfl rfl l2 ?_
          refine x_imul 143 hK rfl rfl ?_
          refine x_sipush 146 hK rfl rfl rfl ?_
          refine x_iadd 147 hK rfl rfl ?_
          refine x_iload 149 hK rfl rfl l5 ?_
          refine x_iadd 150 hK rfl rfl ?_
          refine x_iload_n 151 hK rfl rfl l3 ?_
          refine x_iastore 152 hK rfl rfl (sp_192 (h := h4) hG4) (by omega) (by omega) (by omega) ?_
          refine x_iinc 155 hK rfl rfl l5 _ rfl ?_
          refine x_goto 86 hK rfl rfl ?_
          have ye : y = -800 + (min 800 (x + 1 - 1 + sp m.toNat) + 801).toNat := by rcases yx with z | z <;> omega
          have yv : yF sp q (q - m.toNat) x = e := by rw [yF_s m1 (by omega), ee, show (min 800 (x + sp m.toNat) + 801).toNat = (y + 800).toNat by omega]
          have tn : YT sp q (wI h4 192 (((1601 * m) + 800) + x).toNat e) m (x + 1) := by
            intro m' x' z1 z2 z3 z4 z5
            by_cases c : m' = m ∧ x' = x
            · obtain ⟨rfl, rfl⟩ := c
              rw [yv]; exact gi_same (by omega)
            · exact (gi_k (by omega) _).trans (t4 m' x' z1 z2 z3 z4 (by omega))
          exact ihX _ (by omega) e y (x + 1) _ _ rfl (m1) (by omega) (by omega) (by omega) ((Or.inr ye)) (ee) (tn) (lk1_n l0 (by decide) (Or.inl rfl)) (lk1_n l1 (by decide) (Or.inl rfl)) (lk1_n l2 (by decide) (Or.inl rfl)) (lk1_n l3 (by decide) (Or.inl rfl)) (lk1_n l4 (by decide) (Or.inl rfl)) lk1_s (GD_wn (hG4) (r := 75) rfl rfl) (FRM_wn 0 14408 (hF4) (r := 75) rfl rfl rfl (by omega) (by omega))
        · refine x_iload 104 hK rfl rfl l4 ?_
          refine x_iload 106 hK rfl rfl l5 ?_
          refine x_aload_n 107 hK rfl rfl l0 ?_
          refine x_iload_n 108 hK rfl rfl l2 ?_
          refine x_iload_n 109 hK rfl rfl l1 ?_
          refine x_callV 112 hK hmono rfl rfl [.ref 171, .int (I m), .int (I n)] [.int (I x), .int (I y)] rfl rfl (Nat.le_of_ble_eq_true rfl) (Nat.le_of_ble_eq_true rfl) rfl (sp_171 (h := h4) hG4) (CLd_le (Nat.le_of_ble_eq_true rfl) (ctX11_spare hSP hG4 (by omega) (by omega))) ?_
          rintro v9 h9 ⟨e9, rfl⟩
          rw [e9]
          clear e9
          rw [show spF h4 n m.toNat = sp m.toNat from by rw [← hsp]; unfold spF; rw [show gi h4 178 (41 + m.toNat) = gi h 178 (41 + m.toNat) from FRM_gi hF4 (r := 61) rfl rfl, show gi h4 177 m.toNat = gi h 177 m.toNat from FRM_gi hF4 (r := 60) rfl rfl]]
          have zp241 := spb m.toNat (by omega)
          rw [hsp] at zp241
          refine x_iadd 113 hK rfl rfl ?_
          refine x_if_icmp_gt 134 116 hK rfl rfl rfl (by omega) (by omega) (fun c25 => ?_) (fun c25 => ?_)
          · refine x_aload_n 135 hK rfl rfl l0 ?_
            refine x_getR 138 hK rfl rfl (sp_171 (h := h4) hG4) (rf_171_41 (h := h4) hG4) ?_
            refine x_sipush 141 hK rfl rfl rfl ?_
            refine x_iload_n 142 hK rfl rfl l2 ?_
            refine x_imul 143 hK rfl rfl ?_
            refine x_sipush 146 hK rfl rfl rfl ?_
            refine x_iadd 147 hK rfl rfl ?_
            refine x_iload 149 hK rfl rfl l5 ?_
            refine x_iadd 150 hK rfl rfl ?_
            refine x_iload_n 151 hK rfl rfl l3 ?_
            refine x_iastore 152 hK rfl rfl (sp_192 (h := h4) hG4) (by omega) (by omega) (by omega) ?_
            refine x_iinc 155 hK rfl rfl l5 _ rfl ?_
            refine x_goto 86 hK rfl rfl ?_
            have ye : y = -800 + (min 800 (x + 1 - 1 + sp m.toNat) + 801).toNat := by rcases yx with z | z <;> omega
            have yv : yF sp q (q - m.toNat) x = e := by rw [yF_s m1 (by omega), ee, show (min 800 (x + sp m.toNat) + 801).toNat = (y + 800).toNat by omega]
            have tn : YT sp q (wI h4 192 (((1601 * m) + 800) + x).toNat e) m (x + 1) := by
              intro m' x' z1 z2 z3 z4 z5
              by_cases c : m' = m ∧ x' = x
              · obtain ⟨rfl, rfl⟩ := c
                rw [yv]; exact gi_same (by omega)
              · exact (gi_k (by omega) _).trans (t4 m' x' z1 z2 z3 z4 (by omega))
            exact ihX _ (by omega) e y (x + 1) _ _ rfl (m1) (by omega) (by omega) (by omega) ((Or.inr ye)) (ee) (tn) (lk1_n l0 (by decide) (Or.inl rfl)) (lk1_n l1 (by decide) (Or.inl rfl)) (lk1_n l2 (by decide) (Or.inl rfl)) (lk1_n l3 (by decide) (Or.inl rfl)) (lk1_n l4 (by decide) (Or.inl rfl)) lk1_s (GD_wn (hG4) (r := 75) rfl rfl) (FRM_wn 0 14408 (hF4) (r := 75) rfl rfl rfl (by omega) (by omega))
          · refine x_iload_n 117 hK rfl rfl l3 ?_
            refine x_aload_n 118 hK rfl rfl l0 ?_
            refine x_iload_n 119 hK rfl rfl l2 ?_
            refine x_iload 121 hK rfl rfl l4 ?_
            refine x_callV 124 hK hmono rfl rfl [.ref 171, .int (I m), .int (I y)] [.int (I e)] rfl rfl (Nat.le_of_ble_eq_true rfl) (Nat.le_of_ble_eq_true rfl) rfl (sp_171 (h := h4) hG4) (CLd_le (Nat.le_of_ble_eq_true rfl) (ctX11_flow hSP hG4 (by omega) (by omega))) ?_
            rintro v9 h9 ⟨e9, rfl⟩
            rw [e9]
            clear e9
            rw [show gi h4 192 (1601 * (m + 1) + 800 + y).toNat = yF sp q (q - (m + 1).toNat) y from t4 (m + 1) y (by omega) (by omega) (by omega) (by omega) (Or.inl (by omega))]
            have yb242 := yF_nn sp q (q - (m + 1).toNat) y
            have ab242 := abZ_b (y := y) (by omega)
            refine x_min 127 hK rfl rfl (Nat.le_of_ble_eq_true rfl) (by omega) (by omega) ?_
            refine x_istore_n 128 hK rfl rfl _ rfl ?_
            refine x_iinc 131 hK rfl rfl (lk1_n l4 (by decide) (Or.inl rfl)) _ rfl ?_
            refine x_goto 94 hK rfl rfl ?_
            exact ih _ (by omega) (min e (abZ y + yF sp q (q - (m + 1).toNat) y)) (y + 1) _ rfl (x1) (m1) (by omega) (by omega) ((by rw [ms1])) (t4) (lk1_n (lk1_n l0 (by decide) (Or.inl rfl)) (by decide) (Or.inl rfl)) (lk1_n (lk1_n l1 (by decide) (Or.inl rfl)) (by decide) (Or.inl rfl)) (lk1_n (lk1_n l2 (by decide) (Or.inl rfl)) (by decide) (Or.inl rfl)) (lk1_n lk1_s (by decide) (Or.inl rfl)) lk1_s (lk1_n (lk1_n l5 (by decide) (Or.inl rfl)) (by decide) (Or.inl rfl))
      refine x_iload 88 hK rfl rfl l5 ?_
      refine x_sipush 91 hK rfl rfl rfl ?_
      refine x_if_icmp_gt 158 94 hK rfl rfl rfl (by omega) (by omega) (fun c3 => ?_) (fun c3 => ?_)
      · refine x_iinc 161 hK rfl rfl l2 _ rfl ?_
        refine x_goto 68 hK rfl rfl ?_
        exact ihM _ (by omega) (m + (-1)) _ _ rfl (by omega) ((fun m' x' z1 z2 z3 z4 z5 => t4 m' x' z1 z2 z3 z4 (by omega))) (lk1_n l0 (by decide) (Or.inl rfl)) (lk1_n l1 (by decide) (Or.inl rfl)) lk1_s (hG4) (hF4)
      · exact loopY _ e y _ rfl (by omega) (m1) (by omega) ((by rcases yx with z | z <;> omega)) (ee) (t4) l0 l1 l2 l3 l4 l5
    refine x_iload_n 69 hK rfl rfl l2 ?_
    refine x_if_lt 164 72 hK rfl rfl rfl (by omega) (fun c2 => ?_) (fun c2 => ?_)
    · obtain rfl : m = -1 := by omega
      exact x_vret hK rfl ⟨rfl, hG3, hF3, fun m' x' z1 z2 z3 z4 z5 => t3 m' x' z1 z2 z3 z4 (by omega)⟩
    · refine x_ldc_w 75 hK rfl rfl ?_
      refine x_istore_n 76 hK rfl rfl _ rfl ?_
      refine x_sipush 79 hK rfl rfl rfl ?_
      refine x_istore 81 hK rfl rfl _ rfl ?_
      refine x_sipush 84 hK rfl rfl rfl ?_
      refine x_istore 86 hK rfl rfl _ rfl ?_
      exact loopX _ 1000000 (-800) (-800) _ _ rfl (by omega) (by omega) (by omega) ((Or.inl rfl)) ((Or.inl rfl)) (rfl) ((fun m' x' z1 z2 z3 z4 z5 => t3 m' x' z1 z2 z3 z4 (by omega))) (lk1_n (lk1_n (lk1_n l0 (by decide) (Or.inl rfl)) (by decide) (Or.inl rfl)) (by decide) (Or.inl rfl)) (lk1_n (lk1_n (lk1_n l1 (by decide) (Or.inl rfl)) (by decide) (Or.inl rfl)) (by decide) (Or.inl rfl)) (lk1_n (lk1_n (lk1_n l2 (by decide) (Or.inl rfl)) (by decide) (Or.inl rfl)) (by decide) (Or.inl rfl)) (lk1_n (lk1_n lk1_s (by decide) (Or.inl rfl)) (by decide) (Or.inl rfl)) (lk1_n lk1_s (by decide) (Or.inl rfl)) lk1_s (hG3) (hF3)
  have loop0 : ∀ (mz : Nat) (x : Int) (h5 : aH) (ls : List (Nat × Value)), ((801 - x).toNat = mz) → (-800 ≤ x ∧ x ≤ 801) → (YT sp q h5 q x) → lk ls 0 = some (.ref 171) → lk ls 1 = some (.int (I n)) → lk ls 2 = some (.int (I x)) → GD gE gRL sh h5 → FRM gRL [(0, 75, 0, 14408)] h h5 → K 4 ls [] h5 0 0 := by
    intro mz
    induction mz using Nat.strongRecOn with
    | ind mz ih =>
    intro x h5 ls hm x0 t5 l0 l1 l2 hG5 hF5
    have spm := spb q (by omega)
    rw [hsp] at spm
    have m7 : gi h5 171 7 = gi h 171 7 := FRM_gi hF5 (r := 54) rfl rfl
    refine x_iload_n 5 hK rfl rfl l2 ?_
    refine x_sipush 8 hK rfl rfl rfl ?_
    refine x_if_icmp_gt 61 11 hK rfl rfl rfl (by omega) (by omega) (fun c3 => ?_) (fun c3 => ?_)
    · refine x_aload_n 62 hK rfl rfl l0 ?_
      refine x_getE 65 hK rfl (Or.inl rfl) rfl (sp_171 (h := h5) hG5) (e := ((q : Int) + 1)) ((by rw [m7]; omega)) ?_
      refine x_iconst 66 hK rfl rfl ?_
      refine x_isub 67 hK rfl rfl ?_
      refine x_istore_n 68 hK rfl rfl _ rfl ?_
      exact loopM _ (((q : Int) + 1) - 2) _ _ rfl (by omega) ((fun m' x' z1 z2 z3 z4 z5 => t5 m' x' z1 z2 z3 z4 (by omega))) (lk1_n l0 (by decide) (Or.inl rfl)) (lk1_n l1 (by decide) (Or.inl rfl)) lk1_s (hG5) (hF5)
    · refine x_aload_n 12 hK rfl rfl l0 ?_
      refine x_getR 15 hK rfl rfl (sp_171 (h := h5) hG5) (rf_171_41 (h := h5) hG5) ?_
      refine x_sipush 18 hK rfl rfl rfl ?_
      refine x_aload_n 19 hK rfl rfl l0 ?_
      refine x_getE 22 hK rfl (Or.inl rfl) rfl (sp_171 (h := h5) hG5) (e := ((q : Int) + 1)) ((by rw [m7]; omega)) ?_
      refine x_iconst 23 hK rfl rfl ?_
      refine x_isub 24 hK rfl rfl ?_
      refine x_imul 25 hK rfl rfl ?_
      refine x_sipush 28 hK rfl rfl rfl ?_
      refine x_iadd 29 hK rfl rfl ?_
      refine x_iload_n 30 hK rfl rfl l2 ?_
      refine x_iadd 31 hK rfl rfl ?_
      refine x_iload_n 32 hK rfl rfl l2 ?_
      refine x_aload_n 33 hK rfl rfl l0 ?_
      refine x_aload_n 34 hK rfl rfl l0 ?_
      refine x_getE 37 hK rfl (Or.inl rfl) rfl (sp_171 (h := h5) hG5) (e := ((q : Int) + 1)) ((by rw [m7]; omega)) ?_
      refine x_iconst 38 hK rfl rfl ?_
      refine x_isub 39 hK rfl rfl ?_
      refine x_iload_n 40 hK rfl rfl l1 ?_
      refine x_callV 43 hK hmono rfl rfl [.ref 171, .int (I (((q : Int) + 1) - 1)), .int (I n)] [.int (I x), .int (I (((1601 * (((q : Int) + 1) - 1)) + 800) + x)), .ref 192] rfl rfl (Nat.le_of_ble_eq_true rfl) (Nat.le_of_ble_eq_true rfl) rfl (sp_171 (h := h5) hG5) (CLd_le (Nat.le_of_ble_eq_true rfl) (ctX11_spare hSP hG5 (by omega) (by omega))) ?_
      rintro v9 h9 ⟨e9, rfl⟩
      rw [e9]
      clear e9
      rw [show spF h5 n (((q : Int) + 1) - 1).toNat = sp q from by rw [show (((q : Int) + 1) - 1).toNat = q by omega, ← hsp]; unfold spF; rw [show gi h5 178 (41 + q) = gi h 178 (41 + q) from FRM_gi hF5 (r := 61) rfl rfl, show gi h5 177 q = gi h 177 q from FRM_gi hF5 (r := 60) rfl rfl]]
      refine x_iadd 44 hK rfl rfl ?_
      refine x_if_lt 51 47 hK rfl rfl rfl (by omega) (fun c31 => ?_) (fun c31 => ?_)
      · refine x_ldc_w 54 hK rfl rfl ?_
        refine x_iastore 55 hK rfl rfl (sp_192 (h := h5) hG5) (by omega) (by omega) (by omega) ?_
        refine x_iinc 58 hK rfl rfl l2 _ rfl ?_
        refine x_goto 4 hK rfl rfl ?_
        have yv : yF sp q (q - (q : Int).toNat) x = 1000000 := by
          rw [show q - (q : Int).toNat = 0 by omega]
          show (if 0 ≤ x + sp q then (0 : Int) else 1000000) = _
          rw [if_neg (by omega)]
        have tn : YT sp q (wI h5 192 (((1601 * (((q : Int) + 1) - 1)) + 800) + x).toNat 1000000) q (x + 1) := by
          intro m' x' z1 z2 z3 z4 z5
          by_cases c : m' = q ∧ x' = x
          · obtain ⟨rfl, rfl⟩ := c
            rw [yv]; exact (gi_to (by omega)).trans (gi_same (by omega))
          · exact (gi_k (by omega) _).trans (t5 m' x' z1 z2 z3 z4 (by omega))
        exact ih _ (by omega) (x + 1) _ _ rfl (by omega) (tn) (lk1_n l0 (by decide) (Or.inl rfl)) (lk1_n l1 (by decide) (Or.inl rfl)) lk1_s (GD_wn (hG5) (r := 75) rfl rfl) (FRM_wn 0 14408 (hF5) (r := 75) rfl rfl rfl (by omega) (by omega))
      · refine x_iconst 48 hK rfl rfl ?_
        refine x_goto 54 hK rfl rfl ?_
        refine x_iastore 55 hK rfl rfl (sp_192 (h := h5) hG5) (by omega) (by omega) (by omega) ?_
        refine x_iinc 58 hK rfl rfl l2 _ rfl ?_
        refine x_goto 4 hK rfl rfl ?_
        have yv : yF sp q (q - (q : Int).toNat) x = 0 := by
          rw [show q - (q : Int).toNat = 0 by omega]
          show (if 0 ≤ x + sp q then (0 : Int) else 1000000) = _
          rw [if_pos (by omega)]
        have tn : YT sp q (wI h5 192 (((1601 * (((q : Int) + 1) - 1)) + 800) + x).toNat 0) q (x + 1) := by
          intro m' x' z1 z2 z3 z4 z5
          by_cases c : m' = q ∧ x' = x
          · obtain ⟨rfl, rfl⟩ := c
            rw [yv]; exact (gi_to (by omega)).trans (gi_same (by omega))
          · exact (gi_k (by omega) _).trans (t5 m' x' z1 z2 z3 z4 (by omega))
        exact ih _ (by omega) (x + 1) _ _ rfl (by omega) (tn) (lk1_n l0 (by decide) (Or.inl rfl)) (lk1_n l1 (by decide) (Or.inl rfl)) lk1_s (GD_wn (hG5) (r := 75) rfl rfl) (FRM_wn 0 14408 (hF5) (r := 75) rfl rfl rfl (by omega) (by omega))
  refine x_sipush 3 hK rfl rfl rfl ?_
  refine x_istore_n 4 hK rfl rfl [(2, .int (I (-800))), (0, .ref 171), (1, .int (I n))] rfl ?_
  exact loop0 _ (-800) _ _ rfl (by omega) ((fun m' x' z1 z2 z3 z4 z5 => absurd z5 (by omega))) rfl rfl rfl (hG) ((FRM.rf : FRM gRL [(0, 75, 0, 14408)] h h))
theorem yF_cg {sp sp' : Nat → Int} {q : Nat} (h : ∀ m, m ≤ q → sp m = sp' m) : ∀ (d : Nat) (x : Int), yF sp q d x = yF sp' q d x
  | 0, x => by show (if 0 ≤ x + sp q then (0 : Int) else 1000000) = if 0 ≤ x + sp' q then 0 else 1000000; rw [h q (Nat.le_refl _)]
  | d + 1, x => by
    show mnR _ (min 800 (x + sp (q - (d + 1))) + 801).toNat = mnR _ (min 800 (x + sp' (q - (d + 1))) + 801).toNat
    rw [h _ (by omega), show (fun y => abZ y + yF sp q d y) = fun y => abZ y + yF sp' q d y from funext fun y => by rw [yF_cg h d y]]
theorem suf_cg {sp sp' : Nat → Int} {q : Nat} (h : ∀ m, m ≤ q → sp m = sp' m) : ∀ (d : Nat), sufF sp q d = sufF sp' q d
  | 0 => h q (Nat.le_refl _)
  | d + 1 => by
    show sp (q - (d + 1)) + _ = sp' (q - (d + 1)) + _
    rw [h _ (by omega), suf_cg h d]
theorem yF_fe2 {sp : Nat → Int} {q : Nat} (hq : q ≤ 7) (hs : ∀ m, m ≤ q → sp m ≤ 99) (d : Nat) (x : Int) (h1 : d ≤ q) (h2 : x ≤ 99 * ((q : Int) - d)) (h3 : 0 ≤ x + sufF sp q d) : yF sp q d x ≤ 800 * d := by
  have e : ∀ m, m ≤ q → sp m = (fun m => if m ≤ q then sp m else 0) m := fun m hm => (if_pos hm).symm
  rw [yF_cg e]
  refine yF_fe hq (fun m => ?_) d x h1 h2 (by rw [← suf_cg e]; exact h3)
  show (if m ≤ q then sp m else 0) ≤ 99
  split
  · exact hs m (by assumption)
  · omega
set_option maxRecDepth 4000 in
theorem ctX11_shares {SP : CT} (hSP : MONO SP) {sh : List (Nat × Nat)} {h : aH} (hG : GD gE gRL sh h) {n b : Int} (rn : r32 n) (wb : WB b (RC h 178 0)) : CLd SP 6 mX11_shares [.ref 171, .int (I n)] h 0 0 (fun rv h' => ((¬ ((0 ≤ n ∧ n ≤ 99) ∧ gi h 171 7 ≠ 0) ∧ rv = some (.int (I (-1))) ∧ mrow h' = mrow h) ∨ (((0 ≤ n ∧ n ≤ 99) ∧ gi h 171 7 ≠ 0) ∧ totF (spF h n) (gi h 171 7).toNat < 0 ∧ rv = some (.int (I (-2))) ∧ mrow h' = mrow h) ∨ (((0 ≤ n ∧ n ≤ 99) ∧ gi h 171 7 ≠ 0) ∧ 0 ≤ totF (spF h n) (gi h 171 7).toNat ∧ rv = some (.int (I (yF (spF h n) (gi h 171 7 - 1).toNat (gi h 171 7 - 1).toNat 0))) ∧ mrow h' = shRow (spF h n) (gi h 171 7 - 1).toNat (gi h 171 7 - 1).toNat 0)) ∧ GD gE gRL sh h' ∧ FRM gRL [(0, 54, 0, 0), (0, 54, 1, 1), (0, 75, 0, 14408), (1, 55, 0, 39)] h h' ∧ gi h' 171 0 = 0) := by
  refine x_met _ rfl (Nat.le_of_ble_eq_true rfl) (fun K hK => ?_)
  have hmono := MONO_CLd hSP 5
  have g7 := gri 0 8 hG (a := 171) (r := 54) (k := 7) rfl rfl
  have loopC : ∀ (mz : Nat) (x m : Int) (h4 : aH) (ls : List (Nat × Value)), ((gi h 171 7 - m).toNat = mz) → (0 ≤ n ∧ n ≤ 99) → (1 ≤ gi h 171 7) → (0 ≤ totF (spF h n) (gi h 171 7).toNat) → (0 ≤ m ∧ m ≤ gi h 171 7 - 1) → (-800 ≤ x ∧ x ≤ 800) → (gi h4 171 0 = 0) → (gi h4 171 1 = m) → (YT (spF h n) (gi h 171 7 - 1).toNat h4 (-1) 0) → (yF (spF h n) (gi h 171 7 - 1).toNat ((gi h 171 7 - 1).toNat - m.toNat) x < 1000000) → (mrow h4 ++ shRow (spF h n) (gi h 171 7 - 1).toNat ((gi h 171 7 - 1).toNat - m.toNat) x = shRow (spF h n) (gi h 171 7 - 1).toNat (gi h 171 7 - 1).toNat 0) → lk ls 0 = some (.ref 171) → lk ls 1 = some (.int (I n)) → lk ls 3 = some (.int (I x)) → lk ls 4 = some (.int (I m)) → GD gE gRL sh h4 → FRM gRL [(0, 54, 0, 0), (0, 54, 1, 1), (0, 75, 0, 14408), (1, 55, 0, 39)] h h4 → K 75 ls [] h4 0 0 := by
    intro mz
    induction mz using Nat.strongRecOn with
    | ind mz ih =>
    intro x m h4 ls hm hn h7 tp m0 x0 t4 r4 yt yx e4 l0 l1 l3 l4 hG4 hF4
    have ihC := ih
    have g41 := gri 0 40 hG4 (a := 171) (r := 54) (k := 1) rfl rfl
    obtain ⟨sp, hsp⟩ : ∃ sp, spF h n = sp := ⟨_, rfl⟩
    obtain ⟨q, hq, hq7⟩ : ∃ q : Nat, gi h 171 7 - 1 = q ∧ q ≤ 7 := ⟨(gi h 171 7 - 1).toNat, by omega, by omega⟩
    rw [hsp] at tp
    rw [hsp, hq, show ((q : Int)).toNat = q from rfl] at yt yx e4 ihC hK
    obtain ⟨v, hv⟩ : ∃ v, yF sp q (q - m.toNat) x = v := ⟨_, rfl⟩
    have vb := yF_nn sp q (q - m.toNat) x
    rw [hv] at vb yx
    have loopS : ∀ (y1 : Int) (h1 : y1 ≤ 800 ∧ abZ y1 + yF sp q (q - (m + 1).toNat) y1 = v), ∀ (mz : Nat) (y : Int) (ls : List (Nat × Value)), ((y1 - y).toNat = mz) → (m < gi h 171 7 - 1) → (-800 ≤ y ∧ y ≤ 800) → (y ≤ y1) → (fsF (fun y => abZ y + yF sp q (q - (m + 1).toNat) y) v 1601 (-800) = fsF (fun y => abZ y + yF sp q (q - (m + 1).toNat) y) v (801 - y).toNat y) → lk ls 0 = some (.ref 171) → lk ls 1 = some (.int (I n)) → lk ls 3 = some (.int (I x)) → lk ls 4 = some (.int (I m)) → lk ls 5 = some (.int (I y)) → K 91 ls [] h4 0 0 := by
      intro y1 h1
      intro mz
      induction mz using Nat.strongRecOn with
      | ind mz ih =>
      intro y ls hm m1 y0 yl fs l0 l1 l3 l4 l5
      refine x_aload_n 92 hK rfl rfl l0 ?_
      refine x_iload 94 hK rfl rfl l4 ?_
      refine x_iload 96 hK rfl rfl l5 ?_
      refine x_callV 99 hK hmono rfl rfl [.ref 171, .int (I m), .int (I y)] [] rfl rfl (Nat.le_of_ble_eq_true rfl) (Nat.le_of_ble_eq_true rfl) rfl (sp_171 (h := h4) hG4) (CLd_le (Nat.le_of_ble_eq_true rfl) (ctX11_flow hSP hG4 (by omega) (by omega))) ?_
      rintro v9 h9 ⟨e9, rfl⟩
      rw [e9]
      clear e9
      rw [show gi h4 192 (1601 * (m + 1) + 800 + y).toNat = yF sp q (q - (m + 1).toNat) y from yt (m + 1) y (by omega) (by omega) (by omega) (by omega) (Or.inl (by omega))]
      have yb243 := yF_nn sp q (q - (m + 1).toNat) y
      have ab243 := abZ_b (y := y) (by omega)
      refine x_aload_n 100 hK rfl rfl l0 ?_
      refine x_getR 103 hK rfl rfl (sp_171 (h := h4) hG4) (rf_171_41 (h := h4) hG4) ?_
      refine x_sipush 106 hK rfl rfl rfl ?_
      refine x_iload 108 hK rfl rfl l4 ?_
      refine x_imul 109 hK rfl rfl ?_
      refine x_sipush 112 hK rfl rfl rfl ?_
      refine x_iadd 113 hK rfl rfl ?_
      refine x_iload_n 114 hK rfl rfl l3 ?_
      refine x_iadd 115 hK rfl rfl ?_
      refine x_ialoadE 116 hK rfl rfl (sp_192 (h := h4) hG4) (by omega) (by omega) (by omega) (e' := v) (((yt m x (by omega) (by omega) (by omega) (by omega) (Or.inl (by omega))).trans hv)) ?_
      refine x_if_icmp_eq 125 119 hK rfl rfl rfl (by omega) (by omega) (fun c15 => ?_) (fun c15 => ?_)
      · refine x_aload_n 126 hK rfl rfl l0 ?_
        refine x_iload 128 hK rfl rfl l5 ?_
        refine x_i2l 129 hK rfl rfl (by omega) ?_
        have z245 : gi h4 171 1 = m := r4
        have z245r : mrow h4 = (mrow h4) := rfl
        refine x_callV 132 hK hmono rfl rfl [.ref 171, .long (J y)] [] rfl rfl (Nat.le_of_ble_eq_true rfl) (Nat.le_of_ble_eq_true rfl) rfl (sp_171 (h := h4) hG4) (CLd_le (Nat.le_of_ble_eq_true rfl) (ctX11_entersF hSP hG4 (by omega) (by omega))) ?_
        rintro v244 h244 ⟨rfl, hG244, hF244, t244, s244⟩
        rw [z245] at t244
        rw [z245r] at s244
        refine x_iload 134 hK rfl rfl l5 ?_
        refine x_istore_n 135 hK rfl rfl _ rfl ?_
        refine x_iinc 138 hK rfl rfl (lk1_n l4 (by decide) (Or.inl rfl)) _ rfl ?_
        refine x_goto 75 hK rfl rfl ?_
        have fe : fsF (fun y => abZ y + yF sp q (q - (m + 1).toNat) y) v 1601 (-800) = y := by
          rw [fs, show (801 - y).toNat = (800 - y).toNat + 1 by omega]
          show (if _ then _ else _) = _
          rw [if_pos (by omega)]
        have ya := abZ_b (y := y) y0
        exact ihC _ (by omega) y (m + 1) _ _ rfl (hn) (h7) (tp) (by omega) (by omega) ((FRM_gi hF244 (r := 54) rfl rfl).trans (t4)) (t244) ((fun m' x' z1 z2 z3 z4 z5 => by rw [show gi h244 192 _ = gi h4 192 _ from FRM_gi hF244 (r := 75) rfl rfl]; exact yt m' x' z1 z2 z3 z4 z5)) ((by omega)) ((by rw [s244, ← e4, show q - m.toNat = (q - (m + 1).toNat) + 1 by omega, List.append_assoc]; show mrow h4 ++ ([y] ++ _) = mrow h4 ++ (fsF _ (yF sp q (q - (m + 1).toNat + 1) x) 1601 (-800) :: shRow sp q _ (fsF _ (yF sp q (q - (m + 1).toNat + 1) x) 1601 (-800))); rw [show q - (m + 1).toNat + 1 = q - m.toNat by omega, hv, fe]; rfl)) (lk1_n (lk1_n l0 (by decide) (Or.inl rfl)) (by decide) (Or.inl rfl)) (lk1_n (lk1_n l1 (by decide) (Or.inl rfl)) (by decide) (Or.inl rfl)) (lk1_n lk1_s (by decide) (Or.inl rfl)) lk1_s (hG244) ((hF4).trans ((hF244).mono rfl))
      · refine x_iinc 122 hK rfl rfl l5 _ rfl ?_
        refine x_goto 91 hK rfl rfl ?_
        have yne : y ≠ y1 := fun z => by subst z; omega
        exact ih _ (by omega) (y + 1) _ rfl (m1) (by omega) (by omega) ((by rw [fs, show (801 - y).toNat = (801 - (y + 1)).toNat + 1 by omega]; show (if _ then _ else _) = _; rw [if_neg (by omega)])) (lk1_n l0 (by decide) (Or.inl rfl)) (lk1_n l1 (by decide) (Or.inl rfl)) (lk1_n l3 (by decide) (Or.inl rfl)) (lk1_n l4 (by decide) (Or.inl rfl)) lk1_s
    refine x_iload 77 hK rfl rfl l4 ?_
    refine x_aload_n 78 hK rfl rfl l0 ?_
    have g246 := gri (0) (8) hG (a := 171) (r := 54) (k := 7) rfl rfl
    refine x_getE 81 hK rfl (Or.inl rfl) rfl (sp_171 (h := h4) hG4) (e := (gi h 171 7)) (FRM_gi hF4 (r := 54) rfl rfl) ?_
    refine x_iconst 82 hK rfl rfl ?_
    refine x_isub 83 hK rfl rfl ?_
    refine x_if_icmp_ge 141 86 hK rfl rfl rfl (by omega) (by omega) (fun c6 => ?_) (fun c6 => ?_)
    · refine x_aload_n 142 hK rfl rfl l0 ?_
      refine x_getR 145 hK rfl rfl (sp_171 (h := h4) hG4) (rf_171_41 (h := h4) hG4) ?_
      refine x_sipush 148 hK rfl rfl rfl ?_
      have g247 := gi_r h4 192 800
      refine x_ialoadE 149 hK rfl rfl (sp_192 (h := h4) hG4) (by omega) (by omega) (by omega) (e' := (gi h4 192 800)) (rfl) ?_
      have mq : m = q := by omega
      have y0 : gi h4 192 800 = yF sp q q 0 := by
        have z := yt 0 0 (by omega) (by omega) (by omega) (by omega) (Or.inl (by omega))
        exact z
      have er : mrow h4 = shRow sp q q 0 := by
        rw [← e4, show q - m.toNat = 0 by omega]
        show _ = _ ++ []
        rw [List.append_nil]
      exact x_iret hK rfl ⟨Or.inr (Or.inr ⟨⟨hn, by omega⟩, tp, by rw [y0], er⟩), hG4, hF4, t4⟩
    · refine x_sipush 89 hK rfl rfl rfl ?_
      refine x_istore 91 hK rfl rfl _ rfl ?_
      obtain ⟨k, k1, k2⟩ := mnR_ex (g := fun y => abZ y + yF sp q (q - (m + 1).toNat) y) (min 800 (x + sp m.toNat) + 801).toNat (by rw [← yF_s m0.1 (by omega), hv]; exact yx)
      rw [← yF_s m0.1 (by omega), hv] at k2
      exact loopS (-800 + (k : Int)) ⟨by omega, k2⟩ _ (-800) _ rfl (by omega) (by omega) (by omega) (rfl) (lk1_n l0 (by decide) (Or.inl rfl)) (lk1_n l1 (by decide) (Or.inl rfl)) (lk1_n l3 (by decide) (Or.inl rfl)) (lk1_n l4 (by decide) (Or.inl rfl)) lk1_s
  have loopA : ∀ (mz : Nat) (a i : Int) (ls : List (Nat × Value)), ((gi h 171 7 - i).toNat = mz) → (0 ≤ n ∧ n ≤ 99) → (1 ≤ gi h 171 7) → (0 ≤ i ∧ i ≤ gi h 171 7) → (a = totF (spF h n) i.toNat) → lk ls 0 = some (.ref 171) → lk ls 1 = some (.int (I n)) → lk ls 2 = some (.int (I a)) → lk ls 3 = some (.int (I i)) → K 30 ls [] (wI h 171 0 0) 0 0 := by
    intro mz
    induction mz using Nat.strongRecOn with
    | ind mz ih =>
    intro a i ls hm hn h7 i0 ea l0 l1 l2 l3
    have fdb : ∀ m, m < 8 → 0 ≤ gi h 178 (41 + m) ∧ gi h 178 (41 + m) ≤ 99 := fun m hm => by have := (wb.2.2.2.2.2 m hm).1; rw [RC_0 (by omega)] at this; exact this
    have spb : ∀ m : Nat, m < 8 → -891 ≤ spF h n m ∧ spF h n m ≤ 99 := fun m hm => by
      have a := fdb m hm
      have e := grn 0 9 hG (a := 177) (r := 60) (k := m) rfl rfl (by omega)
      have z := mul_b (n := n) (e := gi h 177 m) (a := 99) (b := 9) hn e
      unfold spF
      omega
    have tb := totF_b (sp := spF h n) i.toNat fun m hm => spb m (by omega)
    rw [← ea] at tb
    have ts := totF_s (sp := spF h n) i0.1
    rw [← ea] at ts
    refine x_iload_n 31 hK rfl rfl l3 ?_
    refine x_aload_n 32 hK rfl rfl l0 ?_
    have g248 := gri (0) (8) hG (a := 171) (r := 54) (k := 7) rfl rfl
    refine x_getE 35 hK rfl (Or.inl rfl) rfl (sp_171 (h := h) hG) (e := (gi h 171 7)) (gi_k (by decide) _) ?_
    refine x_if_icmp_ge 53 38 hK rfl rfl rfl (by omega) (by omega) (fun c4 => ?_) (fun c4 => ?_)
    · refine x_iload_n 54 hK rfl rfl l2 ?_
      refine x_if_ge 60 57 hK rfl rfl rfl (by omega) (fun c6 => ?_) (fun c6 => ?_)
      · refine x_aload_n 61 hK rfl rfl l0 ?_
        refine x_iload_n 62 hK rfl rfl l1 ?_
        have hGp249 : GD gE gRL sh (wI h 171 0 0) := GD_w1 (hG) (r := 54) rfl (by omega) rfl (by omega) (by omega)
        refine x_callV 65 hK hmono rfl rfl [.ref 171, .int (I n)] [] rfl rfl (Nat.le_of_ble_eq_true rfl) (Nat.le_of_ble_eq_true rfl) rfl (sp_171 (h := h) hG) (CLd_le (Nat.le_of_ble_eq_true rfl) (ctX11_laysFlows hSP hGp249 hn (by rw [show RC (wI h 171 0 0) 178 0 = RC h 178 0 from RC_w (by decide)]; exact wb) (by rw [show gi (wI h 171 0 0) 171 7 = gi h 171 7 from gi_k (by decide) _]; exact h7))) ?_
        rintro v2 h2 ⟨rfl, hG2, hF2, yt2⟩
        rw [show spF (wI h 171 0 0) n = spF h n from funext fun m => by unfold spF; rw [gi_a (by decide), gi_a (by decide)], show gi (wI h 171 0 0) 171 7 = gi h 171 7 from gi_k (by decide) _] at yt2
        refine x_aload_n 66 hK rfl rfl l0 ?_
        refine x_iconst 67 hK rfl rfl ?_
        refine x_putI 70 hK rfl rfl (sp_171 (h := h2) hG2) ?_
        refine x_iconst 71 hK rfl rfl ?_
        refine x_istore_n 72 hK rfl rfl _ rfl ?_
        refine x_iconst 73 hK rfl rfl ?_
        refine x_istore 75 hK rfl rfl _ rfl ?_
        have ix : i = gi h 171 7 := by omega
        rw [ix] at ea
        have st := suf_tot (sp := spF h n) (q := (gi h 171 7 - 1).toNat) (gi h 171 7 - 1).toNat (Nat.le_refl _)
        rw [Nat.sub_self, show (gi h 171 7 - 1).toNat + 1 = (gi h 171 7).toNat by omega, ← ea] at st
        have st2 : (0 : Int) + sufF (spF h n) (gi h 171 7 - 1).toNat (gi h 171 7 - 1).toNat = a := st
        have spc : ∀ m, (fun m => if m < 8 then spF h n m else 0) m ≤ 99 := fun m => by show (if m < 8 then spF h n m else 0) ≤ 99; split; exact (spb m (by omega)).2; omega
        have fe := yF_fe2 (sp := spF h n) (q := (gi h 171 7 - 1).toNat) (by omega) (fun m hm => (spb m (by omega)).2) (gi h 171 7 - 1).toNat 0 (Nat.le_refl _) (by omega) (by omega)
        exact loopC _ 0 0 _ _ rfl (hn) (h7) ((by omega)) (by omega) (by omega) ((gi_k (by decide) _).trans ((FRM_gi hF2 (r := 54) rfl rfl).trans (gi_same (by omega)))) (gi_same (by omega)) ((fun m' x' z1 z2 z3 z4 z5 => (gi_a (by decide) _).trans (yt2 m' x' z1 z2 z3 z4 z5))) ((by show yF _ _ _ 0 < _; rw [show (gi h 171 7 - 1).toNat - (0 : Int).toNat = (gi h 171 7 - 1).toNat from rfl]; omega)) ((by rw [mrow_0 (gi_same (by omega))]; rfl)) (lk1_n (lk1_n l0 (by decide) (Or.inl rfl)) (by decide) (Or.inl rfl)) (lk1_n (lk1_n l1 (by decide) (Or.inl rfl)) (by decide) (Or.inl rfl)) (lk1_n lk1_s (by decide) (Or.inl rfl)) lk1_s (GD_w1 (hG2) (r := 54) rfl (by omega) rfl (by omega) (by omega)) (FRM_w ((FRM_w ((FRM.rf : FRM gRL [(0, 54, 0, 0), (0, 54, 1, 1), (0, 75, 0, 14408), (1, 55, 0, 39)] h h)) (r := 54) rfl rfl).trans ((hF2).mono rfl)) (r := 54) rfl rfl)
      · refine x_bipush 59 hK rfl rfl rfl ?_
        have ix : i = gi h 171 7 := by omega
        rw [ix] at ea
        exact x_iret hK rfl ⟨Or.inr (Or.inl ⟨⟨hn, by omega⟩, by omega, rfl, mrow_k (by decide)⟩), GD_w1 (hG) (r := 54) rfl (by omega) rfl (by omega) (by omega), FRM_w ((FRM.rf : FRM gRL [(0, 54, 0, 0), (0, 54, 1, 1), (0, 75, 0, 14408), (1, 55, 0, 39)] h h)) (r := 54) rfl rfl, gi_same (by omega)⟩
    · refine x_iload_n 39 hK rfl rfl l2 ?_
      refine x_aload_n 40 hK rfl rfl l0 ?_
      refine x_iload_n 41 hK rfl rfl l3 ?_
      refine x_iload_n 42 hK rfl rfl l1 ?_
      have hGp250 : GD gE gRL sh (wI h 171 0 0) := GD_w1 (hG) (r := 54) rfl (by omega) rfl (by omega) (by omega)
      refine x_callV 45 hK hmono rfl rfl [.ref 171, .int (I i), .int (I n)] [.int (I a)] rfl rfl (Nat.le_of_ble_eq_true rfl) (Nat.le_of_ble_eq_true rfl) rfl (sp_171 (h := h) hG) (CLd_le (Nat.le_of_ble_eq_true rfl) (ctX11_spare hSP hGp250 (by omega) (by omega))) ?_
      rintro v9 h9 ⟨e9, rfl⟩
      rw [e9]
      clear e9
      rw [show spF (wI h 171 0 0) n i.toNat = spF h n i.toNat from by unfold spF; rw [gi_a (by decide), gi_a (by decide)]]
      have zp251 := spb i.toNat (by omega)
      refine x_iadd 46 hK rfl rfl ?_
      refine x_istore_n 47 hK rfl rfl _ rfl ?_
      refine x_iinc 50 hK rfl rfl (lk1_n l3 (by decide) (Or.inl rfl)) _ rfl ?_
      refine x_goto 30 hK rfl rfl ?_
      exact ih _ (by omega) (a + (spF h n i.toNat)) (i + 1) _ rfl (hn) (h7) (by omega) ((by rw [ts])) (lk1_n (lk1_n l0 (by decide) (Or.inl rfl)) (by decide) (Or.inl rfl)) (lk1_n (lk1_n l1 (by decide) (Or.inl rfl)) (by decide) (Or.inl rfl)) (lk1_n lk1_s (by decide) (Or.inl rfl)) lk1_s
  refine x_aload_n 1 hK rfl rfl rfl ?_
  refine x_iconst 2 hK rfl rfl ?_
  refine x_putI 5 hK rfl rfl (sp_171 (h := h) hG) ?_
  refine x_iload_n 6 hK rfl rfl rfl ?_
  refine x_i2l 7 hK rfl rfl (by omega) ?_
  refine x_lconstE 8 0 hK rfl rfl rfl ?_
  refine x_ldc2_w 11 hK rfl rfl ?_
  have hGp252 : GD gE gRL sh (wI h 171 0 0) := GD_w1 (hG) (r := 54) rfl (by omega) rfl (by omega) (by omega)
  refine x_callS 14 hK hmono rfl (Or.inl rfl) rfl [.long (J n), .long (J 0), .long (J 99)] [] rfl rfl (Nat.le_of_ble_eq_true rfl) (Nat.le_of_ble_eq_true rfl) (CLd_le (Nat.le_of_ble_eq_true rfl) (ctX11_in (by omega) (by omega) (by omega))) ?_
  rintro v9 h9 ⟨e9, ⟨rfl, i1253, i2253⟩ | ⟨rfl, i1253⟩⟩ <;> rw [e9] <;> clear e9
  · refine x_if_eq 24 17 hK rfl rfl rfl (by omega) (fun c => by omega) (fun _ => ?_)
    refine x_aload_n 18 hK rfl rfl rfl ?_
    have g254 := gri (0) (8) hG (a := 171) (r := 54) (k := 7) rfl rfl
    refine x_getE 21 hK rfl (Or.inl rfl) rfl (sp_171 (h := h) hG) (e := (gi h 171 7)) (gi_k (by decide) _) ?_
    refine x_if_ne 26 24 hK rfl rfl rfl (by omega) (fun c12 => ?_) (fun c12 => ?_)
    · refine x_iconst 27 hK rfl rfl ?_
      refine x_istore_n 28 hK rfl rfl [(2, .int (I 0)), (0, .ref 171), (1, .int (I n))] rfl ?_
      refine x_iconst 29 hK rfl rfl ?_
      refine x_istore_n 30 hK rfl rfl [(3, .int (I 0)), (2, .int (I 0)), (0, .ref 171), (1, .int (I n))] rfl ?_
      exact loopA _ 0 0 _ rfl (by omega) (by omega) (by omega) (rfl) rfl rfl rfl rfl
    · refine x_iconst 25 hK rfl rfl ?_
      exact x_iret hK rfl ⟨Or.inl ⟨by omega, rfl, mrow_k (by decide)⟩, GD_w1 (hG) (r := 54) rfl (by omega) rfl (by omega) (by omega), FRM_w ((FRM.rf : FRM gRL [(0, 54, 0, 0), (0, 54, 1, 1), (0, 75, 0, 14408), (1, 55, 0, 39)] h h)) (r := 54) rfl rfl, gi_same (by omega)⟩
  · refine x_if_eq 24 17 hK rfl rfl rfl (by omega) (fun _ => ?_) (fun c => by omega)
    refine x_iconst 25 hK rfl rfl ?_
    exact x_iret hK rfl ⟨Or.inl ⟨by omega, rfl, mrow_k (by decide)⟩, GD_w1 (hG) (r := 54) rfl (by omega) rfl (by omega) (by omega), FRM_w ((FRM.rf : FRM gRL [(0, 54, 0, 0), (0, 54, 1, 1), (0, 75, 0, 14408), (1, 55, 0, 39)] h h)) (r := 54) rfl rfl, gi_same (by omega)⟩
