/-! THE REFERENCE READS A RULE: safe, and the rule that it makes can be worked out -/
theorem hgt_congr {c c' : Nat → Int} : ∀ (k : Nat), (∀ j, j < k → c' j = c j) → hgt c' k = hgt c k
  | 0, _ => rfl
  | k + 1, h => by
    show hgt c' k + (if c' k = 3000 then 0 else if 2000 ≤ c' k then -1 else 1) = hgt c k + (if c k = 3000 then 0 else if 2000 ≤ c k then -1 else 1)
    rw [hgt_congr k (fun j hj => h j (by omega)), h k (by omega)]
theorem hgt_le (c : Nat → Int) : ∀ k : Nat, hgt c k ≤ k
  | 0 => Int.le_refl _
  | k + 1 => by
    have := hgt_le c k
    show hgt c k + (if c k = 3000 then 0 else if 2000 ≤ c k then -1 else 1) ≤ ((k + 1 : Nat) : Int)
    split
    · omega
    · split <;> omega
/-- a piece of code that can be worked out, and by how much the stack grows -/
def SEG (c : Nat → Int) (a b : Nat) (d : Int) : Prop := a ≤ b ∧ hgt c b = hgt c a + d ∧ ∀ k : Nat, a ≤ k → k < b → hgt c a ≤ hgt c k ∧ (c k = 3000 → hgt c a + 1 ≤ hgt c k) ∧ (c k ≠ 3000 → 2000 ≤ c k → hgt c a + 2 ≤ hgt c k) ∧ (1000 ≤ c k → c k < 2000 → c k ≤ 1003)
theorem SEG.rf {c : Nat → Int} {a : Nat} : SEG c a a 0 := ⟨Nat.le_refl _, (Int.add_zero _).symm, fun k h1 h2 => absurd h2 (by omega)⟩
theorem SEG.snoc {c : Nat → Int} {a b : Nat} {d e : Int} (s : SEG c a b d) (h0 : 0 ≤ d) (hk : (c b = 3000 ∧ 1 ≤ d ∧ e = d) ∨ (c b ≠ 3000 ∧ 2000 ≤ c b ∧ 2 ≤ d ∧ e = d - 1) ∨ (c b < 2000 ∧ c b ≤ 1003 ∧ e = d + 1)) : SEG c a (b + 1) e := by
  obtain ⟨s1, s2, s3⟩ := s
  have hs : hgt c (b + 1) = hgt c b + (if c b = 3000 then 0 else if 2000 ≤ c b then -1 else 1) := rfl
  refine ⟨by omega, ?_, fun k h1 h2 => ?_⟩
  · rw [hs]
    rcases hk with ⟨q, q2, q3⟩ | ⟨q1, q2, q3, q4⟩ | ⟨q, q2, q3⟩
    · rw [if_pos q]; omega
    · rw [if_neg q1, if_pos q2]; omega
    · rw [if_neg (by omega), if_neg (by omega)]; omega
  · by_cases c1 : k < b
    · exact s3 k h1 c1
    · obtain rfl : k = b := by omega
      refine ⟨by omega, fun q => by omega, fun q1 q2 => by omega, fun q1 q2 => by omega⟩
theorem SEG.trans {c : Nat → Int} {a b e : Nat} {d f : Int} (s : SEG c a b d) (t : SEG c b e f) (h0 : 0 ≤ d) : SEG c a e (d + f) := by
  have s1 := s.1
  have t1 := t.1
  have s2 := s.2.1
  refine ⟨by omega, by rw [t.2.1, s.2.1]; omega, fun k h1 h2 => ?_⟩
  by_cases c1 : k < b
  · exact s.2.2 k h1 c1
  · obtain ⟨u1, u2, u3, u4⟩ := t.2.2 k (by omega) h2
    exact ⟨by omega, fun q => by have := u2 q; omega, fun q1 q2 => by have := u3 q1 q2; omega, u4⟩
theorem SEG.congr {c c' : Nat → Int} {a b : Nat} {d : Int} (s : SEG c a b d) (h : ∀ j, j < b → c' j = c j) : SEG c' a b d := by
  have s1 := s.1
  have ha : hgt c' a = hgt c a := hgt_congr a fun j hj => h j (by omega)
  refine ⟨s1, by rw [ha, hgt_congr b h]; exact s.2.1, fun k h1 h2 => ?_⟩
  rw [ha, hgt_congr k (fun j hj => h j (by omega)), h k h2]
  exact s.2.2 k h1 h2
/-- what a reader of the rule keeps; n signs taken that no code stands for yet -/
def RF (sh : List (Nat × Nat)) (h h' : aH) (n : Int) : Prop := GD gE gRL sh h' ∧ FRM gRL [(0, 54, 18, 18), (0, 54, 20, 20), (0, 54, 26, 26), (0, 66, 0, 79)] h h' ∧ gi h 171 18 ≤ gi h' 171 18 ∧ gi h' 171 18 ≤ gi h 171 19 ∧ gi h 171 26 ≤ gi h' 171 26 ∧ gi h' 171 26 - gi h 171 26 + n ≤ gi h' 171 18 - gi h 171 18 ∧ ∀ j : Nat, (j : Int) < gi h 171 26 → gi h' 183 j = gi h 183 j
def RW (sh : List (Nat × Nat)) (h h' : aH) (d n : Int) : Prop := RF sh h h' n ∧ SEG (fun k => gi h' 183 k) (gi h 171 26).toNat (gi h' 171 26).toNat d
/-- what a code does that is written down -/
def CW (sh : List (Nat × Nat)) (h h' : aH) (v : Int) : Prop := GD gE gRL sh h' ∧ FRM gRL [(0, 54, 26, 26), (0, 66, 0, 79)] h h' ∧ gi h' 171 26 = gi h 171 26 + 1 ∧ gi h' 183 (gi h 171 26).toNat = v ∧ ∀ j, j ≠ (gi h 171 26).toNat → gi h' 183 j = gi h 183 j
theorem RF.len {sh : List (Nat × Nat)} {h h' : aH} {n : Int} (w : RF sh h h' n) : 0 ≤ gi h' 171 26 := (gri 0 80 w.1 (r := 54) rfl rfl).1
theorem RF.rf {sh : List (Nat × Nat)} {h : aH} (hG : GD gE gRL sh h) (ha : gi h 171 18 ≤ gi h 171 19) : RF sh h h 0 := ⟨hG, FRM.rf, Int.le_refl _, ha, Int.le_refl _, by omega, fun _ _ => rfl⟩
theorem RW.rf {sh : List (Nat × Nat)} {h : aH} (hG : GD gE gRL sh h) (ha : gi h 171 18 ≤ gi h 171 19) : RW sh h h 0 0 := ⟨RF.rf hG ha, SEG.rf⟩
theorem RF.le {sh : List (Nat × Nat)} {h h' : aH} {n m : Int} (w : RF sh h h' n) (hm : m ≤ n) : RF sh h h' m := ⟨w.1, w.2.1, w.2.2.1, w.2.2.2.1, w.2.2.2.2.1, by have := w.2.2.2.2.2.1; omega, w.2.2.2.2.2.2⟩
theorem RW.le {sh : List (Nat × Nat)} {h h' : aH} {d n m : Int} (w : RW sh h h' d n) (hm : m ≤ n) : RW sh h h' d m := ⟨w.1.le hm, w.2⟩
theorem RF.to {sh : List (Nat × Nat)} {h h' : aH} {n : Int} (w : RF sh h h' n) : gi h' 171 19 = gi h 171 19 := FRM_gi w.2.1 (r := 54) rfl rfl
theorem RF.ints {sh : List (Nat × Nat)} {h h' : aH} {n : Int} (w : RF sh h h' n) : GD gE gRL sh h' ∧ gi h 171 18 ≤ gi h' 171 18 ∧ gi h' 171 18 ≤ gi h 171 19 ∧ gi h 171 26 ≤ gi h' 171 26 ∧ gi h' 171 26 - gi h 171 26 + n ≤ gi h' 171 18 - gi h 171 18 ∧ gi h' 171 19 = gi h 171 19 ∧ 0 ≤ gi h' 171 26 ∧ (0 ≤ gi h' 171 20 ∧ gi h' 171 20 ≤ 4) ∧ gi h' 171 19 ≤ 80 := ⟨w.1, w.2.2.1, w.2.2.2.1, w.2.2.2.2.1, w.2.2.2.2.2.1, w.to, w.len, gri 0 4 w.1 (r := 54) rfl rfl, (at_r w.1).2.2⟩
theorem RF.take {sh : List (Nat × Nat)} {h h1 h2 : aH} {n q : Int} (w : RF sh h h1 n) (hG : GD gE gRL sh h2) (hF : FRM gRL [(0, 54, 18, 18)] h1 h2) (hq : 0 ≤ q) (h1q : gi h1 171 18 + q ≤ gi h2 171 18) (h2t : gi h2 171 18 ≤ gi h1 171 19) : RF sh h h2 (n + q) := by
  have wt := w.to
  obtain ⟨w1, w2, w3, w4, w5, w6, w7⟩ := w
  have e26 : gi h2 171 26 = gi h1 171 26 := FRM_gi hF (r := 54) rfl rfl
  refine ⟨hG, w2.trans (hF.mono rfl), by omega, by omega, by omega, by omega, fun j hj => ?_⟩
  rw [FRM_gi hF (r := 66) rfl rfl]
  exact w7 j hj
theorem RW.take {sh : List (Nat × Nat)} {h h1 h2 : aH} {d n q : Int} (w : RW sh h h1 d n) (hG : GD gE gRL sh h2) (hF : FRM gRL [(0, 54, 18, 18)] h1 h2) (hq : 0 ≤ q) (h1q : gi h1 171 18 + q ≤ gi h2 171 18) (h2t : gi h2 171 18 ≤ gi h1 171 19) : RW sh h h2 d (n + q) := by
  refine ⟨w.1.take hG hF hq h1q h2t, ?_⟩
  rw [show gi h2 171 26 = gi h1 171 26 from FRM_gi hF (r := 54) rfl rfl]
  exact w.2.congr fun j _ => FRM_gi hF (r := 66) rfl rfl
theorem RF.nest {sh : List (Nat × Nat)} {h h1 : aH} {n e : Int} (w : RF sh h h1 n) (hG : GD gE gRL sh (wI h1 171 20 e)) : RF sh h (wI h1 171 20 e) n := by
  obtain ⟨w1, w2, w3, w4, w5, w6, w7⟩ := w
  refine ⟨hG, FRM_w w2 (r := 54) rfl rfl, ?_, ?_, ?_, ?_, ?_⟩
  · rw [gi_k (by decide)]; exact w3
  · rw [gi_k (by decide)]; exact w4
  · rw [gi_k (by decide)]; exact w5
  · rw [gi_k (by decide), gi_k (by decide)]; exact w6
  · intro j hj
    rw [gi_a (by decide)]
    exact w7 j hj
theorem RW.nest {sh : List (Nat × Nat)} {h h1 : aH} {d n e : Int} (w : RW sh h h1 d n) (hG : GD gE gRL sh (wI h1 171 20 e)) : RW sh h (wI h1 171 20 e) d n := by
  refine ⟨w.1.nest hG, ?_⟩
  rw [gi_k (by decide)]
  exact w.2.congr fun j _ => gi_a (by decide) _
theorem RF.call {sh : List (Nat × Nat)} {h h1 h2 : aH} {n : Int} (w : RF sh h h1 n) (t : RF sh h1 h2 0) : RF sh h h2 n := by
  have wt := w.to
  obtain ⟨w1, w2, w3, w4, w5, w6, w7⟩ := w
  obtain ⟨t1, t2, t3, t4, t5, t6, t7⟩ := t
  refine ⟨t1, w2.trans t2, by omega, by omega, by omega, by omega, fun j hj => ?_⟩
  rw [t7 j (by omega)]
  exact w7 j hj
theorem RW.call {sh : List (Nat × Nat)} {h h1 h2 : aH} {d n e : Int} (w : RW sh h h1 d n) (t : RW sh h1 h2 e 0) (hd : 0 ≤ d) : RW sh h h2 (d + e) n := by
  refine ⟨w.1.call t.1, ?_⟩
  have z := w.1.len
  exact (w.2.congr fun j hj => t.1.2.2.2.2.2.2 j (by omega)).trans t.2 hd
theorem RF.code {sh : List (Nat × Nat)} {h h1 h2 : aH} {n v : Int} (w : RF sh h h1 (n + 1)) (t : CW sh h1 h2 v) : RF sh h h2 n := by
  have z0 := w.len
  obtain ⟨w1, w2, w3, w4, w5, w6, w7⟩ := w
  obtain ⟨t1, t2, t3, t4, t5⟩ := t
  have e18 : gi h2 171 18 = gi h1 171 18 := FRM_gi t2 (r := 54) rfl rfl
  refine ⟨t1, w2.trans (t2.mono rfl), by omega, by omega, by omega, by omega, fun j hj => ?_⟩
  rw [t5 j (by omega)]
  exact w7 j hj
theorem RW.code {sh : List (Nat × Nat)} {h h1 h2 : aH} {d e n v : Int} (w : RW sh h h1 d (n + 1)) (t : CW sh h1 h2 v) (hd : 0 ≤ d) (hk : (v = 3000 ∧ 1 ≤ d ∧ e = d) ∨ (v ≠ 3000 ∧ 2000 ≤ v ∧ 2 ≤ d ∧ e = d - 1) ∨ (v < 2000 ∧ v ≤ 1003 ∧ e = d + 1)) : RW sh h h2 e n := by
  refine ⟨w.1.code t, ?_⟩
  have z := w.1.len
  have e26 := t.2.2.1
  rw [show (gi h2 171 26).toNat = (gi h1 171 26).toNat + 1 by omega]
  refine (w.2.congr (c' := fun k => gi h2 183 k) fun j hj => t.2.2.2.2 j (by omega)).snoc hd ?_
  rw [show gi h2 183 (gi h1 171 26).toNat = v from t.2.2.2.1]
  exact hk
theorem tkv_le (f : Int → Int) : ∀ (n : Nat) (a v : Int), a ≤ (tkv f n a v).2
  | 0, a, v => Int.le_refl _
  | n + 1, a, v => by
    show a ≤ (if 48 ≤ f a ∧ f a ≤ 57 then tkv f n (a + 1) (v * 10 + f a - 48) else (v, a)).2
    split
    · have := tkv_le f n (a + 1) (v * 10 + f a - 48)
      omega
    · exact Int.le_refl _
theorem ctX11_codes {SP : CT} (hSP : MONO SP) {sh : List (Nat × Nat)} {h : aH} (hG : GD gE gRL sh h) {v : Int} (hv : r32 v) (hl : 0 ≤ gi h 171 26 ∧ gi h 171 26 < 80) : CLd SP 1 mX11_codes [.ref 171, .int (I v)] h 0 0 (fun rv h' => rv = none ∧ CW sh h h' v) := by
  refine x_met _ rfl (Nat.le_of_ble_eq_true rfl) (fun K hK => ?_)
  have hmono := MONO_CLd hSP 0
  refine x_aload_n 1 hK rfl rfl rfl ?_
  refine x_getR 4 hK rfl rfl (sp_171 (h := h) hG) (rf_171_24 (h := h) hG) ?_
  refine x_aload_n 5 hK rfl rfl rfl ?_
  refine x_getE 8 hK rfl (Or.inl rfl) rfl (sp_171 (h := h) hG) (e := (gi h 171 26)) (rfl) ?_
  refine x_iload_n 9 hK rfl rfl rfl ?_
  refine x_iastore 10 hK rfl rfl (sp_183 (h := h) hG) (by first | omega | exact gi_r _ _ _) (by first | omega | exact gi_r _ _ _) (by first | omega | exact gi_r _ _ _) ?_
  refine x_aload_n 11 hK rfl rfl rfl ?_
  refine x_dup 12 hK rfl rfl rfl ?_
  refine x_getE 15 hK rfl (Or.inl rfl) rfl (sp_171 (h := h) hG) (e := (gi h 171 26)) (gi_a (by decide) _) ?_
  refine x_iconst 16 hK rfl rfl ?_
  refine x_iadd 17 hK rfl rfl ?_
  refine x_putI 20 hK rfl rfl (sp_171 (h := h) hG) ?_
  have s26 : gi (wI (wI h 183 (gi h 171 26).toNat v) 171 26 ((gi h 171 26) + 1)) 171 26 = ((gi h 171 26) + 1) := gi_same (by first | omega | exact gi_r _ _ _)
  exact x_vret hK rfl ⟨rfl, GD_w1 (GD_wn (hG) (r := 66) rfl rfl) (r := 54) rfl (by omega) rfl (by omega) (by omega), FRM_w (FRM_wn 0 79 (FRM.rf) (r := 66) rfl rfl rfl (by omega) (by omega)) (r := 54) rfl rfl, s26, (gi_a (by decide) _).trans (gi_same hv), fun j hj => (gi_a (by decide) _).trans (gi_k hj _)⟩
