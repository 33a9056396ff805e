/-! THE REFERENCE READS A RULE: safe, and the rule that it makes can be worked out -/
theorem hgt_congr {c c' : Nat → Int} : ∀ (k : Nat), (∀ j, j < k → c' j = c j) → hgt c' k = hgt c k
  | 0, _ => rfl
  | k + 1, h => by
    show hgt c' k + (if c' k = 3000 then 0 else if 2000 ≤ c' k then -1 else 1) = hgt c k + (if c k = 3000 then 0 else if 2000 ≤ c k then -1 else 1)
    rw [hgt_congr k (fun j hj => h j (by omega)), h k (by omega)]
theorem hgt_le (c : Nat → Int) : ∀ k : Nat, hgt c k ≤ k
  | 0 => Int.le_refl _
  | k + 1 => by
    have := hgt_le c k
    show hgt c k + (if c k = 3000 then 0 else if 2000 ≤ c k then -1 else 1) ≤ ((k + 1 : Nat) : Int)
    split
    · omega
    · split <;> omega
/-- a piece of code that can be worked out, and by how much the stack grows -/
def SEG (c : Nat → Int) (a b : Nat) (d : Int) : Prop := a ≤ b ∧ hgt c b = hgt c a + d ∧ ∀ k : Nat, a ≤ k → k < b → hgt c a ≤ hgt c k ∧ (c k = 3000 → hgt c a + 1 ≤ hgt c k) ∧ (c k ≠ 3000 → 2000 ≤ c k → hgt c a + 2 ≤ hgt c k) ∧ (1000 ≤ c k → c k < 2000 → c k ≤ 1003)
theorem SEG.rf {c : Nat → Int} {a : Nat} : SEG c a a 0 := ⟨Nat.le_refl _, (Int.add_zero _).symm, fun k h1 h2 => absurd h2 (by omega)⟩
theorem SEG.snoc {c : Nat → Int} {a b : Nat} {d e : Int} (s : SEG c a b d) (h0 : 0 ≤ d) (hk : (c b = 3000 ∧ 1 ≤ d ∧ e = d) ∨ (c b ≠ 3000 ∧ 2000 ≤ c b ∧ 2 ≤ d ∧ e = d - 1) ∨ (c b < 2000 ∧ c b ≤ 1003 ∧ e = d + 1)) : SEG c a (b + 1) e := by
  obtain ⟨s1, s2, s3⟩ := s
  have hs : hgt c (b + 1) = hgt c b + (if c b = 3000 then 0 else if 2000 ≤ c b then -1 else 1) := rfl
  refine ⟨by omega, ?_, fun k h1 h2 => ?_⟩
  · rw [hs]
    rcases hk with ⟨q, q2, q3⟩ | ⟨q1, q2, q3, q4⟩ | ⟨q, q2, q3⟩
    · rw [if_pos q]; omega
    · rw [if_neg q1, if_pos q2]; omega
    · rw [if_neg (by omega), if_neg (by omega)]; omega
  · by_cases c1 : k < b
    · exact s3 k h1 c1
    · obtain rfl : k = b := by omega
      refine ⟨by omega, fun q => by omega, fun q1 q2 => by omega, fun q1 q2 => by omega⟩
theorem SEG.trans {c : Nat → Int} {a b e : Nat} {d f : Int} (s : SEG c a b d) (t : SEG c b e f) (h0 : 0 ≤ d) : SEG c a e (d + f) := by
  have s1 := s.1
  have t1 := t.1
  have s2 := s.2.1
  refine ⟨by omega, by rw [t.2.1, s.2.1]; omega, fun k h1 h2 => ?_⟩
  by_cases c1 : k < b
  · exact s.2.2 k h1 c1
  · obtain ⟨u1, u2, u3, u4⟩ := t.2.2 k (by omega) h2
    exact ⟨by omega, fun q => by have := u2 q; omega, fun q1 q2 => by have := u3 q1 q2; omega, u4⟩
theorem SEG.congr {c c' : Nat → Int} {a b : Nat} {d : Int} (s : SEG c a b d) (h : ∀ j, j < b → c' j = c j) : SEG c' a b d := by
  have s1 := s.1
  have ha : hgt c' a = hgt c a := hgt_congr a fun j hj => h j (by omega)
  refine ⟨s1, by rw [ha, hgt_congr b h]; exact s.2.1, fun k h1 h2 => ?_⟩
  rw [ha, hgt_congr k (fun j hj => h j (by omega)), h k h2]
  exact s.2.2 k h1 h2
theorem SEG.VC {c : Nat → Int} {n : Nat} {d : Int} (s : SEG c 0 n d) (hn : n ≤ 80) : VCd c (n : Int) := by
  refine ⟨by omega, fun k hk => ?_⟩
  obtain ⟨t1, t2, t3, t4⟩ := s.2.2 k (Nat.zero_le _) (by omega)
  have h0 : hgt c 0 = 0 := rfl
  exact ⟨by omega, hgt_le c k, fun q => by have := t2 q; omega, fun q1 q2 => by have := t3 q1 q2; omega, t4⟩
/-- what a reader of the rule keeps; n signs taken that no code stands for yet -/
def RF (sh : List (Nat × Nat)) (h h' : aH) (n : Int) : Prop := GD gE gRL sh h' ∧ FRM gRL [(0, 54, 18, 18), (0, 54, 20, 20), (0, 54, 26, 26), (0, 66, 0, 79)] h h' ∧ gi h 171 18 ≤ gi h' 171 18 ∧ gi h' 171 18 ≤ gi h 171 19 ∧ gi h 171 26 ≤ gi h' 171 26 ∧ gi h' 171 26 - gi h 171 26 + n ≤ gi h' 171 18 - gi h 171 18 ∧ ∀ j : Nat, (j : Int) < gi h 171 26 → gi h' 183 j = gi h 183 j
def RW (sh : List (Nat × Nat)) (h h' : aH) (d n : Int) : Prop := RF sh h h' n ∧ SEG (fun k => gi h' 183 k) (gi h 171 26).toNat (gi h' 171 26).toNat d
def RS (sh : List (Nat × Nat)) (h : aH) (rv : Option Value) (h' : aH) : Prop := (rv = some (.int (I 0)) ∧ RF sh h h' 0) ∨ (rv = some (.int (I 1)) ∧ RW sh h h' 1 0 ∧ gi h 171 18 < gi h' 171 18 ∧ gi h' 171 20 = gi h 171 20)
/-- what a code does that is written down -/
def CW (sh : List (Nat × Nat)) (h h' : aH) (v : Int) : Prop := GD gE gRL sh h' ∧ FRM gRL [(0, 54, 26, 26), (0, 66, 0, 79)] h h' ∧ gi h' 171 26 = gi h 171 26 + 1 ∧ gi h' 183 (gi h 171 26).toNat = v ∧ ∀ j, j ≠ (gi h 171 26).toNat → gi h' 183 j = gi h 183 j
theorem RF.len {sh : List (Nat × Nat)} {h h' : aH} {n : Int} (w : RF sh h h' n) : 0 ≤ gi h' 171 26 := (gri 0 80 w.1 (r := 54) rfl rfl).1
theorem RF.rf {sh : List (Nat × Nat)} {h : aH} (hG : GD gE gRL sh h) (ha : gi h 171 18 ≤ gi h 171 19) : RF sh h h 0 := ⟨hG, FRM.rf, Int.le_refl _, ha, Int.le_refl _, by omega, fun _ _ => rfl⟩
theorem RW.rf {sh : List (Nat × Nat)} {h : aH} (hG : GD gE gRL sh h) (ha : gi h 171 18 ≤ gi h 171 19) : RW sh h h 0 0 := ⟨RF.rf hG ha, SEG.rf⟩
theorem RF.le {sh : List (Nat × Nat)} {h h' : aH} {n m : Int} (w : RF sh h h' n) (hm : m ≤ n) : RF sh h h' m := ⟨w.1, w.2.1, w.2.2.1, w.2.2.2.1, w.2.2.2.2.1, by have := w.2.2.2.2.2.1; omega, w.2.2.2.2.2.2⟩
theorem RW.le {sh : List (Nat × Nat)} {h h' : aH} {d n m : Int} (w : RW sh h h' d n) (hm : m ≤ n) : RW sh h h' d m := ⟨w.1.le hm, w.2⟩
theorem RF.to {sh : List (Nat × Nat)} {h h' : aH} {n : Int} (w : RF sh h h' n) : gi h' 171 19 = gi h 171 19 := FRM_gi w.2.1 (r := 54) rfl rfl
theorem RF.ints {sh : List (Nat × Nat)} {h h' : aH} {n : Int} (w : RF sh h h' n) : GD gE gRL sh h' ∧ gi h 171 18 ≤ gi h' 171 18 ∧ gi h' 171 18 ≤ gi h 171 19 ∧ gi h 171 26 ≤ gi h' 171 26 ∧ gi h' 171 26 - gi h 171 26 + n ≤ gi h' 171 18 - gi h 171 18 ∧ gi h' 171 19 = gi h 171 19 ∧ 0 ≤ gi h' 171 26 ∧ (0 ≤ gi h' 171 20 ∧ gi h' 171 20 ≤ 4) ∧ gi h' 171 19 ≤ 80 := ⟨w.1, w.2.2.1, w.2.2.2.1, w.2.2.2.2.1, w.2.2.2.2.2.1, w.to, w.len, gri 0 4 w.1 (r := 54) rfl rfl, (at_r w.1).2.2⟩
theorem RF.take {sh : List (Nat × Nat)} {h h1 h2 : aH} {n q : Int} (w : RF sh h h1 n) (hG : GD gE gRL sh h2) (hF : FRM gRL [(0, 54, 18, 18)] h1 h2) (hq : 0 ≤ q) (h1q : gi h1 171 18 + q ≤ gi h2 171 18) (h2t : gi h2 171 18 ≤ gi h1 171 19) : RF sh h h2 (n + q) := by
  have wt := w.to
  obtain ⟨w1, w2, w3, w4, w5, w6, w7⟩ := w
  have e26 : gi h2 171 26 = gi h1 171 26 := FRM_gi hF (r := 54) rfl rfl
  refine ⟨hG, w2.trans (hF.mono rfl), by omega, by omega, by omega, by omega, fun j hj => ?_⟩
  rw [FRM_gi hF (r := 66) rfl rfl]
  exact w7 j hj
theorem RW.take {sh : List (Nat × Nat)} {h h1 h2 : aH} {d n q : Int} (w : RW sh h h1 d n) (hG : GD gE gRL sh h2) (hF : FRM gRL [(0, 54, 18, 18)] h1 h2) (hq : 0 ≤ q) (h1q : gi h1 171 18 + q ≤ gi h2 171 18) (h2t : gi h2 171 18 ≤ gi h1 171 19) : RW sh h h2 d (n + q) := by
  refine ⟨w.1.take hG hF hq h1q h2t, ?_⟩
  rw [show gi h2 171 26 = gi h1 171 26 from FRM_gi hF (r := 54) rfl rfl]
  exact w.2.congr fun j _ => FRM_gi hF (r := 66) rfl rfl
theorem RF.nest {sh : List (Nat × Nat)} {h h1 : aH} {n e : Int} (w : RF sh h h1 n) (hG : GD gE gRL sh (wI h1 171 20 e)) : RF sh h (wI h1 171 20 e) n := by
  obtain ⟨w1, w2, w3, w4, w5, w6, w7⟩ := w
  refine ⟨hG, FRM_w w2 (r := 54) rfl rfl, ?_, ?_, ?_, ?_, ?_⟩
  · rw [gi_k (by decide)]; exact w3
  · rw [gi_k (by decide)]; exact w4
  · rw [gi_k (by decide)]; exact w5
  · rw [gi_k (by decide), gi_k (by decide)]; exact w6
  · intro j hj
    rw [gi_a (by decide)]
    exact w7 j hj
theorem RW.nest {sh : List (Nat × Nat)} {h h1 : aH} {d n e : Int} (w : RW sh h h1 d n) (hG : GD gE gRL sh (wI h1 171 20 e)) : RW sh h (wI h1 171 20 e) d n := by
  refine ⟨w.1.nest hG, ?_⟩
  rw [gi_k (by decide)]
  exact w.2.congr fun j _ => gi_a (by decide) _
theorem RF.call {sh : List (Nat × Nat)} {h h1 h2 : aH} {n : Int} (w : RF sh h h1 n) (t : RF sh h1 h2 0) : RF sh h h2 n := by
  have wt := w.to
  obtain ⟨w1, w2, w3, w4, w5, w6, w7⟩ := w
  obtain ⟨t1, t2, t3, t4, t5, t6, t7⟩ := t
  refine ⟨t1, w2.trans t2, by omega, by omega, by omega, by omega, fun j hj => ?_⟩
  rw [t7 j (by omega)]
  exact w7 j hj
theorem RW.call {sh : List (Nat × Nat)} {h h1 h2 : aH} {d n e : Int} (w : RW sh h h1 d n) (t : RW sh h1 h2 e 0) (hd : 0 ≤ d) : RW sh h h2 (d + e) n := by
  refine ⟨w.1.call t.1, ?_⟩
  have z := w.1.len
  exact (w.2.congr fun j hj => t.1.2.2.2.2.2.2 j (by omega)).trans t.2 hd
theorem RF.code {sh : List (Nat × Nat)} {h h1 h2 : aH} {n v : Int} (w : RF sh h h1 (n + 1)) (t : CW sh h1 h2 v) : RF sh h h2 n := by
  have z0 := w.len
  obtain ⟨w1, w2, w3, w4, w5, w6, w7⟩ := w
  obtain ⟨t1, t2, t3, t4, t5⟩ := t
  have e18 : gi h2 171 18 = gi h1 171 18 := FRM_gi t2 (r := 54) rfl rfl
  refine ⟨t1, w2.trans (t2.mono rfl), by omega, by omega, by omega, by omega, fun j hj => ?_⟩
  rw [t5 j (by omega)]
  exact w7 j hj
theorem RW.code {sh : List (Nat × Nat)} {h h1 h2 : aH} {d e n v : Int} (w : RW sh h h1 d (n + 1)) (t : CW sh h1 h2 v) (hd : 0 ≤ d) (hk : (v = 3000 ∧ 1 ≤ d ∧ e = d) ∨ (v ≠ 3000 ∧ 2000 ≤ v ∧ 2 ≤ d ∧ e = d - 1) ∨ (v < 2000 ∧ v ≤ 1003 ∧ e = d + 1)) : RW sh h h2 e n := by
  refine ⟨w.1.code t, ?_⟩
  have z := w.1.len
  have e26 := t.2.2.1
  rw [show (gi h2 171 26).toNat = (gi h1 171 26).toNat + 1 by omega]
  refine (w.2.congr (c' := fun k => gi h2 183 k) fun j hj => t.2.2.2.2 j (by omega)).snoc hd ?_
  rw [show gi h2 183 (gi h1 171 26).toNat = v from t.2.2.2.1]
  exact hk
theorem tkv_le (f : Int → Int) : ∀ (n : Nat) (a v : Int), a ≤ (tkv f n a v).2
  | 0, a, v => Int.le_refl _
  | n + 1, a, v => by
    show a ≤ (if 48 ≤ f a ∧ f a ≤ 57 then tkv f n (a + 1) (v * 10 + f a - 48) else (v, a)).2
    split
    · have := tkv_le f n (a + 1) (v * 10 + f a - 48)
      omega
    · exact Int.le_refl _
theorem ctX11_codes {SP : CT} (hSP : MONO SP) {sh : List (Nat × Nat)} {h : aH} (hG : GD gE gRL sh h) {v : Int} (hv : r32 v) (hl : 0 ≤ gi h 171 26 ∧ gi h 171 26 < 80) : CLd SP 1 mX11_codes [.ref 171, .int (I v)] h 0 0 (fun rv h' => rv = none ∧ CW sh h h' v) := by
  refine x_met _ rfl (Nat.le_of_ble_eq_true rfl) (fun K hK => ?_)
  have hmono := MONO_CLd hSP 0
  refine x_aload_n 1 hK rfl rfl rfl ?_
  refine x_getR 4 hK rfl rfl (sp_171 (h := h) hG) (rf_171_24 (h := h) hG) ?_
  refine x_aload_n 5 hK rfl rfl rfl ?_
  refine x_getE 8 hK rfl (Or.inl rfl) rfl (sp_171 (h := h) hG) (e := (gi h 171 26)) (rfl) ?_
  refine x_iload_n 9 hK rfl rfl rfl ?_
  refine x_iastore 10 hK rfl rfl (sp_183 (h := h) hG) (by first | omega | exact gi_r _ _ _) (by first | omega | exact gi_r _ _ _) (by first | omega | exact gi_r _ _ _) ?_
  refine x_aload_n 11 hK rfl rfl rfl ?_
  refine x_dup 12 hK rfl rfl rfl ?_
  refine x_getE 15 hK rfl (Or.inl rfl) rfl (sp_171 (h := h) hG) (e := (gi h 171 26)) (gi_a (by decide) _) ?_
  refine x_iconst 16 hK rfl rfl ?_
  refine x_iadd 17 hK rfl rfl ?_
  refine x_putI 20 hK rfl rfl (sp_171 (h := h) hG) ?_
  have s26 : gi (wI (wI h 183 (gi h 171 26).toNat v) 171 26 ((gi h 171 26) + 1)) 171 26 = ((gi h 171 26) + 1) := gi_same (by first | omega | exact gi_r _ _ _)
  exact x_vret hK rfl ⟨rfl, GD_w1 (GD_wn (hG) (r := 66) rfl rfl) (r := 54) rfl (by omega) rfl (by omega) (by omega), FRM_w (FRM_wn 0 79 (FRM.rf) (r := 66) rfl rfl rfl (by omega) (by omega)) (r := 54) rfl rfl, s26, (gi_a (by decide) _).trans (gi_same hv), fun j hj => (gi_a (by decide) _).trans (gi_k hj _)⟩
theorem ctX11_readsThing (hSP : MONO SPt) {sh : List (Nat × Nat)} {m : Nat} (ihT : ∀ m', m' < m → ∀ {h : aH}, GD gE gRL sh h → (gi h 171 26 ≤ gi h 171 18 ∧ gi h 171 18 ≤ gi h 171 19) → (gi h 171 19 - gi h 171 18).toNat ≤ m' → CLd SPt (5 * m' + 5) mX11_readsThing [.ref 171] h 0 0 (RS sh h)) (ihR : ∀ m', m' < m → ∀ {h : aH}, GD gE gRL sh h → (gi h 171 26 ≤ gi h 171 18 ∧ gi h 171 18 ≤ gi h 171 19) → (gi h 171 19 - gi h 171 18).toNat ≤ m' → CLd SPt (5 * m' + 9) mX11_readsRank [.ref 171, .int (I 0)] h 0 0 (RS sh h)) {h : aH} (hG : GD gE gRL sh h) (hA : gi h 171 26 ≤ gi h 171 18 ∧ gi h 171 18 ≤ gi h 171 19) (hm : (gi h 171 19 - gi h 171 18).toNat ≤ m) : CLd SPt (5 * m + 4 + 1) mX11_readsThing [.ref 171] h 0 0 (RS sh h) := by
  refine x_met _ rfl (Nat.le_of_ble_eq_true rfl) (fun K hK => ?_)
  have hmono := MONO_CLd hSP (5 * m + 4)
  have W : RW sh h h 0 0 := RW.rf hG hA.2
  obtain ⟨hG, a, b, c, d, to, ln, nr, ar⟩ := W.1.ints
  refine x_aload_n 1 hK rfl rfl rfl ?_
  refine x_bipush 3 hK rfl rfl rfl ?_
  refine x_callV 6 hK hmono rfl rfl [.ref 171, .int (I 45)] [] rfl rfl (Nat.le_of_ble_eq_true rfl) (Nat.le_of_ble_eq_true rfl) rfl (sp_171 (h := h) hG) (CLd_le (by omega) (ctX11_takes hSP hG (by omega))) ?_
  rintro v2 h2 ⟨hH2, hF2, tk2⟩
  have nq2 : gi h2 171 20 = gi h 171 20 := FRM_gi hF2 (r := 54) rfl rfl
  rcases tk2 with ⟨rfl, -, k2, e2⟩ | ⟨rfl, -, e2⟩
  · have W2 : RW sh h h2 0 1 := W.take hH2 hF2 (q := 1) (by omega) (by omega) (by omega)
    obtain ⟨hG2, a2, b2, c2, d2, to2, ln2, nr2, ar2⟩ := W2.1.ints
    refine x_if_eq 23 9 hK rfl rfl rfl (by first | omega | exact gi_r _ _ _) (fun c => by omega) (fun _ => ?_)
    refine x_aload_n 10 hK rfl rfl rfl ?_
    refine x_callV 13 hK hmono rfl rfl [.ref 171] [] rfl rfl (Nat.le_of_ble_eq_true rfl) (Nat.le_of_ble_eq_true rfl) rfl (sp_171 (h := h2) hG2) (CLd_le (by omega) (ihT (m - 1) (by omega) hG2 (by omega) (by omega))) ?_
    rintro v3 h3 (⟨rfl, t3⟩ | ⟨rfl, t3, g3, n3⟩)
    · have F3 : RF sh h h3 1 := W2.1.call t3
      obtain ⟨hG3, a3, b3, c3, d3, to3, ln3, nr3, ar3⟩ := F3.ints
      refine x_istore_n 14 hK rfl rfl [(1, .int (I 0)), (0, .ref 171)] rfl ?_
      refine x_aload_n 15 hK rfl rfl rfl ?_
      refine x_sipush 18 hK rfl rfl rfl ?_
      refine x_callV 21 hK hmono rfl rfl [.ref 171, .int (I 3000)] [] rfl rfl (Nat.le_of_ble_eq_true rfl) (Nat.le_of_ble_eq_true rfl) rfl (sp_171 (h := h3) hG3) (CLd_le (by omega) (ctX11_codes hSP hG3 (by omega) (by omega))) ?_
      rintro v4 h4 ⟨rfl, C4⟩
      have nq4 : gi h4 171 20 = gi h3 171 20 := FRM_gi C4.2.1 (r := 54) rfl rfl
      have aq4 : gi h4 171 18 = gi h3 171 18 := FRM_gi C4.2.1 (r := 54) rfl rfl
      have F4 : RF sh h h4 0 := F3.code C4
      obtain ⟨hG4, a4, b4, c4, d4, to4, ln4, nr4, ar4⟩ := F4.ints
      refine x_iload_n 22 hK rfl rfl rfl ?_
      exact x_zret hK rfl (by omega) (Or.inl ⟨rfl, F4.le (by omega)⟩)
    · have W3 : RW sh h h3 1 1 := W2.call t3 (by omega)
      obtain ⟨hG3, a3, b3, c3, d3, to3, ln3, nr3, ar3⟩ := W3.1.ints
      refine x_istore_n 14 hK rfl rfl [(1, .int (I 1)), (0, .ref 171)] rfl ?_
      refine x_aload_n 15 hK rfl rfl rfl ?_
      refine x_sipush 18 hK rfl rfl rfl ?_
      refine x_callV 21 hK hmono rfl rfl [.ref 171, .int (I 3000)] [] rfl rfl (Nat.le_of_ble_eq_true rfl) (Nat.le_of_ble_eq_true rfl) rfl (sp_171 (h := h3) hG3) (CLd_le (by omega) (ctX11_codes hSP hG3 (by omega) (by omega))) ?_
      rintro v4 h4 ⟨rfl, C4⟩
      have nq4 : gi h4 171 20 = gi h3 171 20 := FRM_gi C4.2.1 (r := 54) rfl rfl
      have aq4 : gi h4 171 18 = gi h3 171 18 := FRM_gi C4.2.1 (r := 54) rfl rfl
      have W4 : RW sh h h4 1 0 := W3.code C4 (by omega) (by omega)
      obtain ⟨hG4, a4, b4, c4, d4, to4, ln4, nr4, ar4⟩ := W4.1.ints
      refine x_iload_n 22 hK rfl rfl rfl ?_
      exact x_zret hK rfl (by omega) (Or.inr ⟨rfl, W4.le (by omega), by omega, by omega⟩)
  · have W2 : RW sh h h2 0 0 := W.take hH2 hF2 (q := 0) (by omega) (by omega) (by omega)
    obtain ⟨hG2, a2, b2, c2, d2, to2, ln2, nr2, ar2⟩ := W2.1.ints
    refine x_if_eq 23 9 hK rfl rfl rfl (by first | omega | exact gi_r _ _ _) (fun _ => ?_) (fun c => by omega)
    refine x_aload_n 24 hK rfl rfl rfl ?_
    refine x_callV 27 hK hmono rfl rfl [.ref 171] [] rfl rfl (Nat.le_of_ble_eq_true rfl) (Nat.le_of_ble_eq_true rfl) rfl (sp_171 (h := h2) hG2) (CLd_le (by omega) (ctX11_isDigit hSP hG2)) ?_
    rintro v9 h9 ⟨e9, ⟨rfl, i1, i2, i3⟩ | ⟨rfl, i1⟩⟩ <;> rw [e9] <;> clear e9
    · refine x_if_eq 41 30 hK rfl rfl rfl (by first | omega | exact gi_r _ _ _) (fun c => by omega) (fun _ => ?_)
      refine x_aload_n 31 hK rfl rfl rfl ?_
      refine x_aload_n 32 hK rfl rfl rfl ?_
      refine x_iconst 33 hK rfl rfl ?_
      refine x_callV 36 hK hmono rfl rfl [.ref 171, .int (I 3)] [.ref 171] rfl rfl (Nat.le_of_ble_eq_true rfl) (Nat.le_of_ble_eq_true rfl) rfl (sp_171 (h := h2) hG2) (CLd_le (by omega) (ctX11_number hSP hG2 (by omega))) ?_
      rintro v5 h5 ⟨⟨e, rfl, -, re, -, -⟩, hH5, hF5, e5, -, t5⟩
      have m5 : gi h2 171 18 + 1 ≤ (tkv (fm h2) (3 : Int).toNat (gi h2 171 18) 0).2 := by
        show _ ≤ (tkv (fm h2) 3 (gi h2 171 18) 0).2
        rw [tkv_step ⟨i1, i2⟩]
        exact tkv_le _ _ _ _
      have re5 : -1 ≤ e ∧ e ≤ 999 := by omega
      clear re
      rw [← e5] at m5
      clear e5
      have tt := t5 (by omega)
      have nq5 : gi h5 171 20 = gi h2 171 20 := FRM_gi hF5 (r := 54) rfl rfl
      have W5 : RW sh h h5 0 1 := W2.take hH5 hF5 (q := 1) (by omega) (by omega) (by omega)
      obtain ⟨hG5, a5, b5, c5, d5, to5, ln5, nr5, ar5⟩ := W5.1.ints
      refine x_callV 39 hK hmono rfl rfl [.ref 171, .int (I e)] [] rfl rfl (Nat.le_of_ble_eq_true rfl) (Nat.le_of_ble_eq_true rfl) rfl (sp_171 (h := h5) hG5) (CLd_le (by omega) (ctX11_codes hSP hG5 (by omega) (by omega))) ?_
      rintro v10 h10 ⟨rfl, C10⟩
      have nq10 : gi h10 171 20 = gi h5 171 20 := FRM_gi C10.2.1 (r := 54) rfl rfl
      have aq10 : gi h10 171 18 = gi h5 171 18 := FRM_gi C10.2.1 (r := 54) rfl rfl
      have W10 : RW sh h h10 1 0 := W5.code C10 (by omega) (by omega)
      obtain ⟨hG10, a10, b10, c10, d10, to10, ln10, nr10, ar10⟩ := W10.1.ints
      refine x_iconst 40 hK rfl rfl ?_
      exact x_zret hK rfl (by omega) (Or.inr ⟨rfl, W10.le (by omega), by omega, by omega⟩)
    · refine x_if_eq 41 30 hK rfl rfl rfl (by first | omega | exact gi_r _ _ _) (fun _ => ?_) (fun c => by omega)
      refine x_aload_n 42 hK rfl rfl rfl ?_
      refine x_ldcS 44 hK rfl rfl ?_
      have fr := fidx_r (fm h2 (gi h2 171 18)) (byJ.getD 1 []) 0
      rw [show (byJ.getD 1 []).length = 4 from rfl] at fr
      refine x_callV 47 hK hmono rfl rfl [.ref 171, .ref 1000001] [] rfl rfl (Nat.le_of_ble_eq_true rfl) (Nat.le_of_ble_eq_true rfl) rfl (sp_171 (h := h2) hG2) (CLd_le (by omega) (ctX11_takesOf hSP hG2 (b := 1) (by decide))) ?_
      rintro v6 h6 ⟨⟨e, rfl, ee, le, ue, at6, to6⟩, hH6, hF6⟩
      rw [← ee] at fr
      clear ee
      have nq6 : gi h6 171 20 = gi h2 171 20 := FRM_gi hF6 (r := 54) rfl rfl
      by_cases ce : e < 0
      · rw [if_pos ce] at at6
        have W6 : RW sh h h6 0 0 := W2.take hH6 hF6 (q := 0) (by omega) (by omega) (by omega)
        obtain ⟨hG6, a6, b6, c6, d6, to6, ln6, nr6, ar6⟩ := W6.1.ints
        refine x_istore_n 48 hK rfl rfl [(1, .int (I e)), (0, .ref 171)] rfl ?_
        refine x_iload_n 49 hK rfl rfl rfl ?_
        refine x_if_lt 63 52 hK rfl rfl rfl (by first | omega | exact gi_r _ _ _) (fun _ => ?_) (fun c => by omega)
        refine x_aload_n 64 hK rfl rfl rfl ?_
        refine x_getE 67 hK rfl (Or.inl rfl) rfl (sp_171 (h := h6) hG6) (e := (gi h6 171 20)) (rfl) ?_
        refine x_iconst 68 hK rfl rfl ?_
        refine x_if_icmp_eq 80 71 hK rfl rfl rfl (by first | omega | exact gi_r _ _ _) (by first | omega | exact gi_r _ _ _) (fun c40 => ?_) (fun c40 => ?_)
        · refine x_iconst 81 hK rfl rfl ?_
          exact x_zret hK rfl (by omega) (Or.inl ⟨rfl, W6.1.le (by omega)⟩)
        · refine x_aload_n 72 hK rfl rfl rfl ?_
          refine x_bipush 74 hK rfl rfl rfl ?_
          refine x_callV 77 hK hmono rfl rfl [.ref 171, .int (I 40)] [] rfl rfl (Nat.le_of_ble_eq_true rfl) (Nat.le_of_ble_eq_true rfl) rfl (sp_171 (h := h6) hG6) (CLd_le (by omega) (ctX11_takes hSP hG6 (by omega))) ?_
          rintro v7 h7 ⟨hH7, hF7, tk7⟩
          have nq7 : gi h7 171 20 = gi h6 171 20 := FRM_gi hF7 (r := 54) rfl rfl
          rcases tk7 with ⟨rfl, -, k7, e7⟩ | ⟨rfl, -, e7⟩
          · have W7 : RW sh h h7 0 1 := W6.take hH7 hF7 (q := 1) (by omega) (by omega) (by omega)
            obtain ⟨hG7, a7, b7, c7, d7, to7, ln7, nr7, ar7⟩ := W7.1.ints
            refine x_if_ne 82 80 hK rfl rfl rfl (by first | omega | exact gi_r _ _ _) (fun _ => ?_) (fun c => by omega)
            refine x_aload_n 83 hK rfl rfl rfl ?_
            refine x_dup 84 hK rfl rfl rfl ?_
            refine x_getE 87 hK rfl (Or.inl rfl) rfl (sp_171 (h := h7) hG7) (e := (gi h7 171 20)) (rfl) ?_
            refine x_iconst 88 hK rfl rfl ?_
            refine x_iadd 89 hK rfl rfl ?_
            refine x_putI 92 hK rfl rfl (sp_171 (h := h7) hG7) ?_
            refine x_aload_n 93 hK rfl rfl rfl ?_
            refine x_iconst 94 hK rfl rfl ?_
            have hGp8 : GD gE gRL sh (wI h7 171 20 ((gi h7 171 20) + 1)) := GD_w1 (hG7) (r := 54) rfl (by omega) rfl (by omega) (by omega)
            have Wp8 := W7.nest hGp8
            have u8 : gi (wI h7 171 20 ((gi h7 171 20) + 1)) 171 18 = (gi h7 171 18) := gi_k (by decide) _
            have x8 : gi (wI h7 171 20 ((gi h7 171 20) + 1)) 171 19 = (gi h7 171 19) := gi_k (by decide) _
            have y8 : gi (wI h7 171 20 ((gi h7 171 20) + 1)) 171 20 = ((gi h7 171 20) + 1) := gi_same (by first | omega | exact gi_r _ _ _)
            have z8 : gi (wI h7 171 20 ((gi h7 171 20) + 1)) 171 26 = (gi h7 171 26) := gi_k (by decide) _
            refine x_callV 97 hK hmono rfl rfl [.ref 171, .int (I 0)] [] rfl rfl (Nat.le_of_ble_eq_true rfl) (Nat.le_of_ble_eq_true rfl) rfl (sp_171 (h := h7) hG7) (CLd_le (by omega) (ihR (m - 1) (by omega) hGp8 (by omega) (by omega))) ?_
            rintro v8 h8 (⟨rfl, t8⟩ | ⟨rfl, t8, g8, n8⟩)
            · have F8 : RF sh h h8 1 := Wp8.1.call t8
              obtain ⟨hG8, a8, b8, c8, d8, to8, ln8, nr8, ar8⟩ := F8.ints
              refine x_if_eq 109 100 hK rfl rfl rfl (by first | omega | exact gi_r _ _ _) (fun _ => ?_) (fun c => by omega)
              refine x_iconst 110 hK rfl rfl ?_
              exact x_zret hK rfl (by omega) (Or.inl ⟨rfl, F8.le (by omega)⟩)
            · have W8 : RW sh h h8 1 1 := Wp8.call t8 (by omega)
              obtain ⟨hG8, a8, b8, c8, d8, to8, ln8, nr8, ar8⟩ := W8.1.ints
              refine x_if_eq 109 100 hK rfl rfl rfl (by first | omega | exact gi_r _ _ _) (fun c => by omega) (fun _ => ?_)
              refine x_aload_n 101 hK rfl rfl rfl ?_
              refine x_bipush 103 hK rfl rfl rfl ?_
              refine x_callV 106 hK hmono rfl rfl [.ref 171, .int (I 41)] [] rfl rfl (Nat.le_of_ble_eq_true rfl) (Nat.le_of_ble_eq_true rfl) rfl (sp_171 (h := h8) hG8) (CLd_le (by omega) (ctX11_takes hSP hG8 (by omega))) ?_
              rintro v9 h9 ⟨hH9, hF9, tk9⟩
              have nq9 : gi h9 171 20 = gi h8 171 20 := FRM_gi hF9 (r := 54) rfl rfl
              rcases tk9 with ⟨rfl, -, k9, e9⟩ | ⟨rfl, -, e9⟩
              · have W9 : RW sh h h9 1 2 := W8.take hH9 hF9 (q := 1) (by omega) (by omega) (by omega)
                obtain ⟨hG9, a9, b9, c9, d9, to9, ln9, nr9, ar9⟩ := W9.1.ints
                refine x_if_ne 111 109 hK rfl rfl rfl (by first | omega | exact gi_r _ _ _) (fun _ => ?_) (fun c => by omega)
                refine x_aload_n 112 hK rfl rfl rfl ?_
                refine x_dup 113 hK rfl rfl rfl ?_
                refine x_getE 116 hK rfl (Or.inl rfl) rfl (sp_171 (h := h9) hG9) (e := (gi h9 171 20)) (rfl) ?_
                refine x_iconst 117 hK rfl rfl ?_
                refine x_isub 118 hK rfl rfl ?_
                refine x_putI 121 hK rfl rfl (sp_171 (h := h9) hG9) ?_
                refine x_iconst 122 hK rfl rfl ?_
                have hGz : GD gE gRL sh (wI h9 171 20 ((gi h9 171 20) - 1)) := GD_w1 (hG9) (r := 54) rfl (by omega) rfl (by omega) (by omega)
                have zu : gi (wI h9 171 20 ((gi h9 171 20) - 1)) 171 18 = (gi h9 171 18) := gi_k (by decide) _
                have zy : gi (wI h9 171 20 ((gi h9 171 20) - 1)) 171 20 = ((gi h9 171 20) - 1) := gi_same (by first | omega | exact gi_r _ _ _)
                exact x_zret hK rfl (by omega) (Or.inr ⟨rfl, (W9.nest hGz).le (by omega), by omega, by omega⟩)
              · have W9 : RW sh h h9 1 1 := W8.take hH9 hF9 (q := 0) (by omega) (by omega) (by omega)
                obtain ⟨hG9, a9, b9, c9, d9, to9, ln9, nr9, ar9⟩ := W9.1.ints
                refine x_if_ne 111 109 hK rfl rfl rfl (by first | omega | exact gi_r _ _ _) (fun c => by omega) (fun _ => ?_)
                refine x_iconst 110 hK rfl rfl ?_
                exact x_zret hK rfl (by omega) (Or.inl ⟨rfl, W9.1.le (by omega)⟩)
          · have W7 : RW sh h h7 0 0 := W6.take hH7 hF7 (q := 0) (by omega) (by omega) (by omega)
            obtain ⟨hG7, a7, b7, c7, d7, to7, ln7, nr7, ar7⟩ := W7.1.ints
            refine x_if_ne 82 80 hK rfl rfl rfl (by first | omega | exact gi_r _ _ _) (fun c => by omega) (fun _ => ?_)
            refine x_iconst 81 hK rfl rfl ?_
            exact x_zret hK rfl (by omega) (Or.inl ⟨rfl, W7.1.le (by omega)⟩)
      · rw [if_neg ce] at at6
        have le0 := to6 (by omega)
        have W6 : RW sh h h6 0 1 := W2.take hH6 hF6 (q := 1) (by omega) (by omega) (by omega)
        obtain ⟨hG6, a6, b6, c6, d6, to6, ln6, nr6, ar6⟩ := W6.1.ints
        refine x_istore_n 48 hK rfl rfl [(1, .int (I e)), (0, .ref 171)] rfl ?_
        refine x_iload_n 49 hK rfl rfl rfl ?_
        refine x_if_lt 63 52 hK rfl rfl rfl (by first | omega | exact gi_r _ _ _) (fun c => by omega) (fun _ => ?_)
        refine x_aload_n 53 hK rfl rfl rfl ?_
        refine x_sipush 56 hK rfl rfl rfl ?_
        refine x_iload_n 57 hK rfl rfl rfl ?_
        refine x_iadd 58 hK rfl rfl ?_
        refine x_callV 61 hK hmono rfl rfl [.ref 171, .int (I (1000 + e))] [] rfl rfl (Nat.le_of_ble_eq_true rfl) (Nat.le_of_ble_eq_true rfl) rfl (sp_171 (h := h6) hG6) (CLd_le (by omega) (ctX11_codes hSP hG6 (by omega) (by omega))) ?_
        rintro v10 h10 ⟨rfl, C10⟩
        have nq10 : gi h10 171 20 = gi h6 171 20 := FRM_gi C10.2.1 (r := 54) rfl rfl
        have aq10 : gi h10 171 18 = gi h6 171 18 := FRM_gi C10.2.1 (r := 54) rfl rfl
        have W10 : RW sh h h10 1 0 := W6.code C10 (by omega) (by omega)
        obtain ⟨hG10, a10, b10, c10, d10, to10, ln10, nr10, ar10⟩ := W10.1.ints
        refine x_iconst 62 hK rfl rfl ?_
        exact x_zret hK rfl (by omega) (Or.inr ⟨rfl, W10.le (by omega), by omega, by omega⟩)
theorem ctX11_readsRank3 (hSP : MONO SPt) {sh : List (Nat × Nat)} {m : Nat} (hT : ∀ {h : aH}, GD gE gRL sh h → (gi h 171 26 ≤ gi h 171 18 ∧ gi h 171 18 ≤ gi h 171 19) → (gi h 171 19 - gi h 171 18).toNat ≤ m → CLd SPt (5 * m + 5) mX11_readsThing [.ref 171] h 0 0 (RS sh h)) {h : aH} (hG : GD gE gRL sh h) (hA : gi h 171 26 ≤ gi h 171 18 ∧ gi h 171 18 ≤ gi h 171 19) (hm : (gi h 171 19 - gi h 171 18).toNat ≤ m) : CLd SPt (5 * m + 5 + 1) mX11_readsRank [.ref 171, .int (I 3)] h 0 0 (RS sh h) := by
  refine x_met _ rfl (Nat.le_of_ble_eq_true rfl) (fun K hK => ?_)
  have hmono := MONO_CLd hSP (5 * m + 5)
  have W : RW sh h h 0 0 := RW.rf hG hA.2
  obtain ⟨hG, a, b, c, d, to, ln, nr, ar⟩ := W.1.ints
  refine x_iload_n 1 hK rfl rfl rfl ?_
  refine x_iconst 2 hK rfl rfl ?_
  refine x_if_icmp_ne 10 5 hK rfl rfl rfl (by first | omega | exact gi_r _ _ _) (by first | omega | exact gi_r _ _ _) (fun c => by omega) (fun _ => ?_)
  refine x_aload_n 6 hK rfl rfl rfl ?_
  refine x_callV 9 hK hmono rfl rfl [.ref 171] [] rfl rfl (Nat.le_of_ble_eq_true rfl) (Nat.le_of_ble_eq_true rfl) rfl (sp_171 (h := h) hG) (CLd_le (by omega) (hT hG (by omega) (by omega))) ?_
  rintro v2 h2 (⟨rfl, t2⟩ | ⟨rfl, t2, g2, n2⟩)
  · have F2 : RF sh h h2 0 := W.1.call t2
    obtain ⟨hG2, a2, b2, c2, d2, to2, ln2, nr2, ar2⟩ := F2.ints
    exact x_zret hK rfl (by omega) (Or.inl ⟨rfl, F2.le (by omega)⟩)
  · have W2 : RW sh h h2 1 0 := W.call t2 (by omega)
    obtain ⟨hG2, a2, b2, c2, d2, to2, ln2, nr2, ar2⟩ := W2.1.ints
    exact x_zret hK rfl (by omega) (Or.inr ⟨rfl, W2.le (by omega), by omega, by omega⟩)
theorem ctX11_readsRank2 (hSP : MONO SPt) {sh : List (Nat × Nat)} {m : Nat} (hR : ∀ {h : aH}, GD gE gRL sh h → (gi h 171 26 ≤ gi h 171 18 ∧ gi h 171 18 ≤ gi h 171 19) → (gi h 171 19 - gi h 171 18).toNat ≤ m → CLd SPt (5 * m + 6) mX11_readsRank [.ref 171, .int (I 3)] h 0 0 (RS sh h)) {h : aH} (hG : GD gE gRL sh h) (hA : gi h 171 26 ≤ gi h 171 18 ∧ gi h 171 18 ≤ gi h 171 19) (hm : (gi h 171 19 - gi h 171 18).toNat ≤ m) : CLd SPt (5 * m + 6 + 1) mX11_readsRank [.ref 171, .int (I 2)] h 0 0 (RS sh h) := by
  refine x_met _ rfl (Nat.le_of_ble_eq_true rfl) (fun K hK => ?_)
  have hmono := MONO_CLd hSP (5 * m + 6)
  have W : RW sh h h 0 0 := RW.rf hG hA.2
  obtain ⟨hG, a, b, c, d, to, ln, nr, ar⟩ := W.1.ints
  have loop : ∀ (q : Nat) (h2 : aH) (ls : List (Nat × Value)), ((gi h2 171 19 - gi h2 171 18).toNat = q) → RW sh h h2 1 0 → gi h 171 18 < gi h2 171 18 → gi h2 171 20 = gi h 171 20 → lk ls 0 = some (.ref 171) → lk ls 1 = some (.int (I 2)) → lk ls 2 = some (.int (I 1)) → K 28 ls [] h2 0 0 := by
    intro q
    induction q using Nat.strongRecOn with
    | ind q ih =>
    intro h2 ls hq W2 k2 y2 l0 l1 l2
    obtain ⟨hG2, a2, b2, c2, d2, to2, ln2, nr2, ar2⟩ := W2.1.ints
    refine x_aload_n 29 hK rfl rfl l0 ?_
    refine x_iload_n 30 hK rfl rfl l1 ?_
    refine x_if_ne 38 33 hK rfl rfl rfl (by first | omega | exact gi_r _ _ _) (fun _ => ?_) (fun c => by omega)
    refine x_iload_n 39 hK rfl rfl l1 ?_
    refine x_iconst 40 hK rfl rfl ?_
    refine x_if_icmp_ne 48 43 hK rfl rfl rfl (by first | omega | exact gi_r _ _ _) (by first | omega | exact gi_r _ _ _) (fun _ => ?_) (fun c => by omega)
    refine x_ldcS 50 hK rfl rfl ?_
    have fr := fidx_r (fm h2 (gi h2 171 18)) (byJ.getD 4 []) 0
    rw [show (byJ.getD 4 []).length = 2 from rfl] at fr
    refine x_callV 53 hK hmono rfl rfl [.ref 171, .ref 1000004] [] rfl rfl (Nat.le_of_ble_eq_true rfl) (Nat.le_of_ble_eq_true rfl) rfl (sp_171 (h := h2) hG2) (CLd_le (by omega) (ctX11_takesOf hSP hG2 (b := 4) (by decide))) ?_
    rintro v6 h6 ⟨⟨e, rfl, ee, le, ue, at6, to6⟩, hH6, hF6⟩
    rw [← ee] at fr
    clear ee
    have nq6 : gi h6 171 20 = gi h2 171 20 := FRM_gi hF6 (r := 54) rfl rfl
    by_cases ce : e < 0
    · rw [if_pos ce] at at6
      have W6 : RW sh h h6 1 0 := W2.take hH6 hF6 (q := 0) (by omega) (by omega) (by omega)
      obtain ⟨hG6, a6, b6, c6, d6, to6, ln6, nr6, ar6⟩ := W6.1.ints
      refine x_istore_n 54 hK rfl rfl _ rfl ?_
      refine x_iload_n 55 hK rfl rfl lk1_s ?_
      refine x_if_ge 60 58 hK rfl rfl rfl (by first | omega | exact gi_r _ _ _) (fun c => by omega) (fun _ => ?_)
      refine x_iconst 59 hK rfl rfl ?_
      exact x_zret hK rfl (by omega) (Or.inr ⟨rfl, W6.le (by omega), by omega, by omega⟩)
    · rw [if_neg ce] at at6
      have le0 := to6 (by omega)
      have W6 : RW sh h h6 1 1 := W2.take hH6 hF6 (q := 1) (by omega) (by omega) (by omega)
      obtain ⟨hG6, a6, b6, c6, d6, to6, ln6, nr6, ar6⟩ := W6.1.ints
      refine x_istore_n 54 hK rfl rfl _ rfl ?_
      refine x_iload_n 55 hK rfl rfl lk1_s ?_
      refine x_if_ge 60 58 hK rfl rfl rfl (by first | omega | exact gi_r _ _ _) (fun _ => ?_) (fun c => by omega)
      refine x_aload_n 61 hK rfl rfl (lk1_n l0 (by decide) (Or.inl rfl)) ?_
      refine x_iload_n 62 hK rfl rfl (lk1_n l1 (by decide) (Or.inl rfl)) ?_
      refine x_iconst 63 hK rfl rfl ?_
      refine x_iadd 64 hK rfl rfl ?_
      refine x_callV 67 hK hmono rfl rfl [.ref 171, .int (I (2 + 1))] [] rfl rfl (Nat.le_of_ble_eq_true rfl) (Nat.le_of_ble_eq_true rfl) rfl (sp_171 (h := h6) hG6) (CLd_le (by omega) (hR hG6 (by omega) (by omega))) ?_
      rintro v7 h7 (⟨rfl, t7⟩ | ⟨rfl, t7, g7, n7⟩)
      · have F7 : RF sh h h7 1 := W6.1.call t7
        obtain ⟨hG7, a7, b7, c7, d7, to7, ln7, nr7, ar7⟩ := F7.ints
        refine x_if_ne 72 70 hK rfl rfl rfl (by first | omega | exact gi_r _ _ _) (fun c => by omega) (fun _ => ?_)
        refine x_iconst 71 hK rfl rfl ?_
        exact x_zret hK rfl (by omega) (Or.inl ⟨rfl, F7.le (by omega)⟩)
      · have W7 : RW sh h h7 2 1 := W6.call t7 (by omega)
        obtain ⟨hG7, a7, b7, c7, d7, to7, ln7, nr7, ar7⟩ := W7.1.ints
        refine x_if_ne 72 70 hK rfl rfl rfl (by first | omega | exact gi_r _ _ _) (fun _ => ?_) (fun c => by omega)
        refine x_aload_n 73 hK rfl rfl (lk1_n l0 (by decide) (Or.inl rfl)) ?_
        refine x_sipush 76 hK rfl rfl rfl ?_
        refine x_iload_n 77 hK rfl rfl lk1_s ?_
        refine x_iadd 78 hK rfl rfl ?_
        refine x_iload_n 79 hK rfl rfl (lk1_n l1 (by decide) (Or.inl rfl)) ?_
        refine x_if_ne 86 82 hK rfl rfl rfl (by first | omega | exact gi_r _ _ _) (fun _ => ?_) (fun c => by omega)
        refine x_iload_n 87 hK rfl rfl (lk1_n l1 (by decide) (Or.inl rfl)) ?_
        refine x_iconst 88 hK rfl rfl ?_
        refine x_if_icmp_ne 95 91 hK rfl rfl rfl (by first | omega | exact gi_r _ _ _) (by first | omega | exact gi_r _ _ _) (fun _ => ?_) (fun c => by omega)
        refine x_iconst 96 hK rfl rfl ?_
        refine x_iadd 97 hK rfl rfl ?_
        refine x_callV 100 hK hmono rfl rfl [.ref 171, .int (I ((2000 + e) + 5))] [] rfl rfl (Nat.le_of_ble_eq_true rfl) (Nat.le_of_ble_eq_true rfl) rfl (sp_171 (h := h7) hG7) (CLd_le (by omega) (ctX11_codes hSP hG7 (by omega) (by omega))) ?_
        rintro v8 h8 ⟨rfl, C8⟩
        have nq8 : gi h8 171 20 = gi h7 171 20 := FRM_gi C8.2.1 (r := 54) rfl rfl
        have aq8 : gi h8 171 18 = gi h7 171 18 := FRM_gi C8.2.1 (r := 54) rfl rfl
        have W8 : RW sh h h8 1 0 := W7.code C8 (by omega) (by omega)
        obtain ⟨hG8, a8, b8, c8, d8, to8, ln8, nr8, ar8⟩ := W8.1.ints
        refine x_iload_n 101 hK rfl rfl (lk1_n l1 (by decide) (Or.inl rfl)) ?_
        refine x_if_le 108 104 hK rfl rfl rfl (by first | omega | exact gi_r _ _ _) (fun c => by omega) (fun _ => ?_)
        refine x_iconst 105 hK rfl rfl ?_
        refine x_goto 109 hK rfl rfl ?_
        refine x_istore_n 110 hK rfl rfl _ rfl ?_
        refine x_goto 24 hK rfl rfl ?_
        refine x_iload_n 25 hK rfl rfl lk1_s ?_
        refine x_if_eq 113 28 hK rfl rfl rfl (by first | omega | exact gi_r _ _ _) (fun c => by omega) (fun _ => ?_)
        exact ih _ (by omega) h8 _ rfl W8 (by omega) (by omega) (lk1_n (lk1_n l0 (by decide) (Or.inl rfl)) (by decide) (Or.inl rfl)) (lk1_n (lk1_n l1 (by decide) (Or.inl rfl)) (by decide) (Or.inl rfl)) lk1_s
  refine x_iload_n 1 hK rfl rfl rfl ?_
  refine x_iconst 2 hK rfl rfl ?_
  refine x_if_icmp_ne 10 5 hK rfl rfl rfl (by first | omega | exact gi_r _ _ _) (by first | omega | exact gi_r _ _ _) (fun _ => ?_) (fun c => by omega)
  refine x_aload_n 11 hK rfl rfl rfl ?_
  refine x_iload_n 12 hK rfl rfl rfl ?_
  refine x_iconst 13 hK rfl rfl ?_
  refine x_iadd 14 hK rfl rfl ?_
  refine x_callV 17 hK hmono rfl rfl [.ref 171, .int (I (2 + 1))] [] rfl rfl (Nat.le_of_ble_eq_true rfl) (Nat.le_of_ble_eq_true rfl) rfl (sp_171 (h := h) hG) (CLd_le (by omega) (hR hG (by omega) (by omega))) ?_
  rintro v2 h2 (⟨rfl, t2⟩ | ⟨rfl, t2, g2, n2⟩)
  · have F2 : RF sh h h2 0 := W.1.call t2
    obtain ⟨hG2, a2, b2, c2, d2, to2, ln2, nr2, ar2⟩ := F2.ints
    refine x_if_ne 22 20 hK rfl rfl rfl (by first | omega | exact gi_r _ _ _) (fun c => by omega) (fun _ => ?_)
    refine x_iconst 21 hK rfl rfl ?_
    exact x_zret hK rfl (by omega) (Or.inl ⟨rfl, F2.le (by omega)⟩)
  · have W2 : RW sh h h2 1 0 := W.call t2 (by omega)
    obtain ⟨hG2, a2, b2, c2, d2, to2, ln2, nr2, ar2⟩ := W2.1.ints
    refine x_if_ne 22 20 hK rfl rfl rfl (by first | omega | exact gi_r _ _ _) (fun _ => ?_) (fun c => by omega)
    refine x_iconst 23 hK rfl rfl ?_
    refine x_istore_n 24 hK rfl rfl [(2, .int (I 1)), (0, .ref 171), (1, .int (I 2))] rfl ?_
    refine x_iload_n 25 hK rfl rfl rfl ?_
    refine x_if_eq 113 28 hK rfl rfl rfl (by first | omega | exact gi_r _ _ _) (fun c => by omega) (fun _ => ?_)
    exact loop _ h2 _ rfl W2 (by omega) (by omega) rfl rfl rfl
theorem ctX11_readsRank1 (hSP : MONO SPt) {sh : List (Nat × Nat)} {m : Nat} (hR : ∀ {h : aH}, GD gE gRL sh h → (gi h 171 26 ≤ gi h 171 18 ∧ gi h 171 18 ≤ gi h 171 19) → (gi h 171 19 - gi h 171 18).toNat ≤ m → CLd SPt (5 * m + 7) mX11_readsRank [.ref 171, .int (I 2)] h 0 0 (RS sh h)) {h : aH} (hG : GD gE gRL sh h) (hA : gi h 171 26 ≤ gi h 171 18 ∧ gi h 171 18 ≤ gi h 171 19) (hm : (gi h 171 19 - gi h 171 18).toNat ≤ m) : CLd SPt (5 * m + 7 + 1) mX11_readsRank [.ref 171, .int (I 1)] h 0 0 (RS sh h) := by
  refine x_met _ rfl (Nat.le_of_ble_eq_true rfl) (fun K hK => ?_)
  have hmono := MONO_CLd hSP (5 * m + 7)
  have W : RW sh h h 0 0 := RW.rf hG hA.2
  obtain ⟨hG, a, b, c, d, to, ln, nr, ar⟩ := W.1.ints
  have loop : ∀ (q : Nat) (h2 : aH) (ls : List (Nat × Value)), ((gi h2 171 19 - gi h2 171 18).toNat = q) → RW sh h h2 1 0 → gi h 171 18 < gi h2 171 18 → gi h2 171 20 = gi h 171 20 → lk ls 0 = some (.ref 171) → lk ls 1 = some (.int (I 1)) → lk ls 2 = some (.int (I 1)) → K 28 ls [] h2 0 0 := by
    intro q
    induction q using Nat.strongRecOn with
    | ind q ih =>
    intro h2 ls hq W2 k2 y2 l0 l1 l2
    obtain ⟨hG2, a2, b2, c2, d2, to2, ln2, nr2, ar2⟩ := W2.1.ints
    refine x_aload_n 29 hK rfl rfl l0 ?_
    refine x_iload_n 30 hK rfl rfl l1 ?_
    refine x_if_ne 38 33 hK rfl rfl rfl (by first | omega | exact gi_r _ _ _) (fun _ => ?_) (fun c => by omega)
    refine x_iload_n 39 hK rfl rfl l1 ?_
    refine x_iconst 40 hK rfl rfl ?_
    refine x_if_icmp_ne 48 43 hK rfl rfl rfl (by first | omega | exact gi_r _ _ _) (by first | omega | exact gi_r _ _ _) (fun c => by omega) (fun _ => ?_)
    refine x_ldcS 45 hK rfl rfl ?_
    refine x_goto 50 hK rfl rfl ?_
    have fr := fidx_r (fm h2 (gi h2 171 18)) (byJ.getD 3 []) 0
    rw [show (byJ.getD 3 []).length = 2 from rfl] at fr
    refine x_callV 53 hK hmono rfl rfl [.ref 171, .ref 1000003] [] rfl rfl (Nat.le_of_ble_eq_true rfl) (Nat.le_of_ble_eq_true rfl) rfl (sp_171 (h := h2) hG2) (CLd_le (by omega) (ctX11_takesOf hSP hG2 (b := 3) (by decide))) ?_
    rintro v6 h6 ⟨⟨e, rfl, ee, le, ue, at6, to6⟩, hH6, hF6⟩
    rw [← ee] at fr
    clear ee
    have nq6 : gi h6 171 20 = gi h2 171 20 := FRM_gi hF6 (r := 54) rfl rfl
    by_cases ce : e < 0
    · rw [if_pos ce] at at6
      have W6 : RW sh h h6 1 0 := W2.take hH6 hF6 (q := 0) (by omega) (by omega) (by omega)
      obtain ⟨hG6, a6, b6, c6, d6, to6, ln6, nr6, ar6⟩ := W6.1.ints
      refine x_istore_n 54 hK rfl rfl _ rfl ?_
      refine x_iload_n 55 hK rfl rfl lk1_s ?_
      refine x_if_ge 60 58 hK rfl rfl rfl (by first | omega | exact gi_r _ _ _) (fun c => by omega) (fun _ => ?_)
      refine x_iconst 59 hK rfl rfl ?_
      exact x_zret hK rfl (by omega) (Or.inr ⟨rfl, W6.le (by omega), by omega, by omega⟩)
    · rw [if_neg ce] at at6
      have le0 := to6 (by omega)
      have W6 : RW sh h h6 1 1 := W2.take hH6 hF6 (q := 1) (by omega) (by omega) (by omega)
      obtain ⟨hG6, a6, b6, c6, d6, to6, ln6, nr6, ar6⟩ := W6.1.ints
      refine x_istore_n 54 hK rfl rfl _ rfl ?_
      refine x_iload_n 55 hK rfl rfl lk1_s ?_
      refine x_if_ge 60 58 hK rfl rfl rfl (by first | omega | exact gi_r _ _ _) (fun _ => ?_) (fun c => by omega)
      refine x_aload_n 61 hK rfl rfl (lk1_n l0 (by decide) (Or.inl rfl)) ?_
      refine x_iload_n 62 hK rfl rfl (lk1_n l1 (by decide) (Or.inl rfl)) ?_
      refine x_iconst 63 hK rfl rfl ?_
      refine x_iadd 64 hK rfl rfl ?_
      refine x_callV 67 hK hmono rfl rfl [.ref 171, .int (I (1 + 1))] [] rfl rfl (Nat.le_of_ble_eq_true rfl) (Nat.le_of_ble_eq_true rfl) rfl (sp_171 (h := h6) hG6) (CLd_le (by omega) (hR hG6 (by omega) (by omega))) ?_
      rintro v7 h7 (⟨rfl, t7⟩ | ⟨rfl, t7, g7, n7⟩)
      · have F7 : RF sh h h7 1 := W6.1.call t7
        obtain ⟨hG7, a7, b7, c7, d7, to7, ln7, nr7, ar7⟩ := F7.ints
        refine x_if_ne 72 70 hK rfl rfl rfl (by first | omega | exact gi_r _ _ _) (fun c => by omega) (fun _ => ?_)
        refine x_iconst 71 hK rfl rfl ?_
        exact x_zret hK rfl (by omega) (Or.inl ⟨rfl, F7.le (by omega)⟩)
      · have W7 : RW sh h h7 2 1 := W6.call t7 (by omega)
        obtain ⟨hG7, a7, b7, c7, d7, to7, ln7, nr7, ar7⟩ := W7.1.ints
        refine x_if_ne 72 70 hK rfl rfl rfl (by first | omega | exact gi_r _ _ _) (fun _ => ?_) (fun c => by omega)
        refine x_aload_n 73 hK rfl rfl (lk1_n l0 (by decide) (Or.inl rfl)) ?_
        refine x_sipush 76 hK rfl rfl rfl ?_
        refine x_iload_n 77 hK rfl rfl lk1_s ?_
        refine x_iadd 78 hK rfl rfl ?_
        refine x_iload_n 79 hK rfl rfl (lk1_n l1 (by decide) (Or.inl rfl)) ?_
        refine x_if_ne 86 82 hK rfl rfl rfl (by first | omega | exact gi_r _ _ _) (fun _ => ?_) (fun c => by omega)
        refine x_iload_n 87 hK rfl rfl (lk1_n l1 (by decide) (Or.inl rfl)) ?_
        refine x_iconst 88 hK rfl rfl ?_
        refine x_if_icmp_ne 95 91 hK rfl rfl rfl (by first | omega | exact gi_r _ _ _) (by first | omega | exact gi_r _ _ _) (fun c => by omega) (fun _ => ?_)
        refine x_iconst 92 hK rfl rfl ?_
        refine x_goto 96 hK rfl rfl ?_
        refine x_iadd 97 hK rfl rfl ?_
        refine x_callV 100 hK hmono rfl rfl [.ref 171, .int (I ((2000 + e) + 3))] [] rfl rfl (Nat.le_of_ble_eq_true rfl) (Nat.le_of_ble_eq_true rfl) rfl (sp_171 (h := h7) hG7) (CLd_le (by omega) (ctX11_codes hSP hG7 (by omega) (by omega))) ?_
        rintro v8 h8 ⟨rfl, C8⟩
        have nq8 : gi h8 171 20 = gi h7 171 20 := FRM_gi C8.2.1 (r := 54) rfl rfl
        have aq8 : gi h8 171 18 = gi h7 171 18 := FRM_gi C8.2.1 (r := 54) rfl rfl
        have W8 : RW sh h h8 1 0 := W7.code C8 (by omega) (by omega)
        obtain ⟨hG8, a8, b8, c8, d8, to8, ln8, nr8, ar8⟩ := W8.1.ints
        refine x_iload_n 101 hK rfl rfl (lk1_n l1 (by decide) (Or.inl rfl)) ?_
        refine x_if_le 108 104 hK rfl rfl rfl (by first | omega | exact gi_r _ _ _) (fun c => by omega) (fun _ => ?_)
        refine x_iconst 105 hK rfl rfl ?_
        refine x_goto 109 hK rfl rfl ?_
        refine x_istore_n 110 hK rfl rfl _ rfl ?_
        refine x_goto 24 hK rfl rfl ?_
        refine x_iload_n 25 hK rfl rfl lk1_s ?_
        refine x_if_eq 113 28 hK rfl rfl rfl (by first | omega | exact gi_r _ _ _) (fun c => by omega) (fun _ => ?_)
        exact ih _ (by omega) h8 _ rfl W8 (by omega) (by omega) (lk1_n (lk1_n l0 (by decide) (Or.inl rfl)) (by decide) (Or.inl rfl)) (lk1_n (lk1_n l1 (by decide) (Or.inl rfl)) (by decide) (Or.inl rfl)) lk1_s
  refine x_iload_n 1 hK rfl rfl rfl ?_
  refine x_iconst 2 hK rfl rfl ?_
  refine x_if_icmp_ne 10 5 hK rfl rfl rfl (by first | omega | exact gi_r _ _ _) (by first | omega | exact gi_r _ _ _) (fun _ => ?_) (fun c => by omega)
  refine x_aload_n 11 hK rfl rfl rfl ?_
  refine x_iload_n 12 hK rfl rfl rfl ?_
  refine x_iconst 13 hK rfl rfl ?_
  refine x_iadd 14 hK rfl rfl ?_
  refine x_callV 17 hK hmono rfl rfl [.ref 171, .int (I (1 + 1))] [] rfl rfl (Nat.le_of_ble_eq_true rfl) (Nat.le_of_ble_eq_true rfl) rfl (sp_171 (h := h) hG) (CLd_le (by omega) (hR hG (by omega) (by omega))) ?_
  rintro v2 h2 (⟨rfl, t2⟩ | ⟨rfl, t2, g2, n2⟩)
  · have F2 : RF sh h h2 0 := W.1.call t2
    obtain ⟨hG2, a2, b2, c2, d2, to2, ln2, nr2, ar2⟩ := F2.ints
    refine x_if_ne 22 20 hK rfl rfl rfl (by first | omega | exact gi_r _ _ _) (fun c => by omega) (fun _ => ?_)
    refine x_iconst 21 hK rfl rfl ?_
    exact x_zret hK rfl (by omega) (Or.inl ⟨rfl, F2.le (by omega)⟩)
  · have W2 : RW sh h h2 1 0 := W.call t2 (by omega)
    obtain ⟨hG2, a2, b2, c2, d2, to2, ln2, nr2, ar2⟩ := W2.1.ints
    refine x_if_ne 22 20 hK rfl rfl rfl (by first | omega | exact gi_r _ _ _) (fun _ => ?_) (fun c => by omega)
    refine x_iconst 23 hK rfl rfl ?_
    refine x_istore_n 24 hK rfl rfl [(2, .int (I 1)), (0, .ref 171), (1, .int (I 1))] rfl ?_
    refine x_iload_n 25 hK rfl rfl rfl ?_
    refine x_if_eq 113 28 hK rfl rfl rfl (by first | omega | exact gi_r _ _ _) (fun c => by omega) (fun _ => ?_)
    exact loop _ h2 _ rfl W2 (by omega) (by omega) rfl rfl rfl
theorem ctX11_readsRank0 (hSP : MONO SPt) {sh : List (Nat × Nat)} {m : Nat} (hR : ∀ {h : aH}, GD gE gRL sh h → (gi h 171 26 ≤ gi h 171 18 ∧ gi h 171 18 ≤ gi h 171 19) → (gi h 171 19 - gi h 171 18).toNat ≤ m → CLd SPt (5 * m + 8) mX11_readsRank [.ref 171, .int (I 1)] h 0 0 (RS sh h)) {h : aH} (hG : GD gE gRL sh h) (hA : gi h 171 26 ≤ gi h 171 18 ∧ gi h 171 18 ≤ gi h 171 19) (hm : (gi h 171 19 - gi h 171 18).toNat ≤ m) : CLd SPt (5 * m + 8 + 1) mX11_readsRank [.ref 171, .int (I 0)] h 0 0 (RS sh h) := by
  refine x_met _ rfl (Nat.le_of_ble_eq_true rfl) (fun K hK => ?_)
  have hmono := MONO_CLd hSP (5 * m + 8)
  have W : RW sh h h 0 0 := RW.rf hG hA.2
  obtain ⟨hG, a, b, c, d, to, ln, nr, ar⟩ := W.1.ints
  have loop : ∀ (q : Nat) (h2 : aH) (ls : List (Nat × Value)), ((gi h2 171 19 - gi h2 171 18).toNat = q) → RW sh h h2 1 0 → gi h 171 18 < gi h2 171 18 → gi h2 171 20 = gi h 171 20 → lk ls 0 = some (.ref 171) → lk ls 1 = some (.int (I 0)) → lk ls 2 = some (.int (I 1)) → K 28 ls [] h2 0 0 := by
    intro q
    induction q using Nat.strongRecOn with
    | ind q ih =>
    intro h2 ls hq W2 k2 y2 l0 l1 l2
    obtain ⟨hG2, a2, b2, c2, d2, to2, ln2, nr2, ar2⟩ := W2.1.ints
    refine x_aload_n 29 hK rfl rfl l0 ?_
    refine x_iload_n 30 hK rfl rfl l1 ?_
    refine x_if_ne 38 33 hK rfl rfl rfl (by first | omega | exact gi_r _ _ _) (fun c => by omega) (fun _ => ?_)
    refine x_ldcS 35 hK rfl rfl ?_
    refine x_goto 50 hK rfl rfl ?_
    have fr := fidx_r (fm h2 (gi h2 171 18)) (byJ.getD 2 []) 0
    rw [show (byJ.getD 2 []).length = 3 from rfl] at fr
    refine x_callV 53 hK hmono rfl rfl [.ref 171, .ref 1000002] [] rfl rfl (Nat.le_of_ble_eq_true rfl) (Nat.le_of_ble_eq_true rfl) rfl (sp_171 (h := h2) hG2) (CLd_le (by omega) (ctX11_takesOf hSP hG2 (b := 2) (by decide))) ?_
    rintro v6 h6 ⟨⟨e, rfl, ee, le, ue, at6, to6⟩, hH6, hF6⟩
    rw [← ee] at fr
    clear ee
    have nq6 : gi h6 171 20 = gi h2 171 20 := FRM_gi hF6 (r := 54) rfl rfl
    by_cases ce : e < 0
    · rw [if_pos ce] at at6
      have W6 : RW sh h h6 1 0 := W2.take hH6 hF6 (q := 0) (by omega) (by omega) (by omega)
      obtain ⟨hG6, a6, b6, c6, d6, to6, ln6, nr6, ar6⟩ := W6.1.ints
      refine x_istore_n 54 hK rfl rfl _ rfl ?_
      refine x_iload_n 55 hK rfl rfl lk1_s ?_
      refine x_if_ge 60 58 hK rfl rfl rfl (by first | omega | exact gi_r _ _ _) (fun c => by omega) (fun _ => ?_)
      refine x_iconst 59 hK rfl rfl ?_
      exact x_zret hK rfl (by omega) (Or.inr ⟨rfl, W6.le (by omega), by omega, by omega⟩)
    · rw [if_neg ce] at at6
      have le0 := to6 (by omega)
      have W6 : RW sh h h6 1 1 := W2.take hH6 hF6 (q := 1) (by omega) (by omega) (by omega)
      obtain ⟨hG6, a6, b6, c6, d6, to6, ln6, nr6, ar6⟩ := W6.1.ints
      refine x_istore_n 54 hK rfl rfl _ rfl ?_
      refine x_iload_n 55 hK rfl rfl lk1_s ?_
      refine x_if_ge 60 58 hK rfl rfl rfl (by first | omega | exact gi_r _ _ _) (fun _ => ?_) (fun c => by omega)
      refine x_aload_n 61 hK rfl rfl (lk1_n l0 (by decide) (Or.inl rfl)) ?_
      refine x_iload_n 62 hK rfl rfl (lk1_n l1 (by decide) (Or.inl rfl)) ?_
      refine x_iconst 63 hK rfl rfl ?_
      refine x_iadd 64 hK rfl rfl ?_
      refine x_callV 67 hK hmono rfl rfl [.ref 171, .int (I (0 + 1))] [] rfl rfl (Nat.le_of_ble_eq_true rfl) (Nat.le_of_ble_eq_true rfl) rfl (sp_171 (h := h6) hG6) (CLd_le (by omega) (hR hG6 (by omega) (by omega))) ?_
      rintro v7 h7 (⟨rfl, t7⟩ | ⟨rfl, t7, g7, n7⟩)
      · have F7 : RF sh h h7 1 := W6.1.call t7
        obtain ⟨hG7, a7, b7, c7, d7, to7, ln7, nr7, ar7⟩ := F7.ints
        refine x_if_ne 72 70 hK rfl rfl rfl (by first | omega | exact gi_r _ _ _) (fun c => by omega) (fun _ => ?_)
        refine x_iconst 71 hK rfl rfl ?_
        exact x_zret hK rfl (by omega) (Or.inl ⟨rfl, F7.le (by omega)⟩)
      · have W7 : RW sh h h7 2 1 := W6.call t7 (by omega)
        obtain ⟨hG7, a7, b7, c7, d7, to7, ln7, nr7, ar7⟩ := W7.1.ints
        refine x_if_ne 72 70 hK rfl rfl rfl (by first | omega | exact gi_r _ _ _) (fun _ => ?_) (fun c => by omega)
        refine x_aload_n 73 hK rfl rfl (lk1_n l0 (by decide) (Or.inl rfl)) ?_
        refine x_sipush 76 hK rfl rfl rfl ?_
        refine x_iload_n 77 hK rfl rfl lk1_s ?_
        refine x_iadd 78 hK rfl rfl ?_
        refine x_iload_n 79 hK rfl rfl (lk1_n l1 (by decide) (Or.inl rfl)) ?_
        refine x_if_ne 86 82 hK rfl rfl rfl (by first | omega | exact gi_r _ _ _) (fun c => by omega) (fun _ => ?_)
        refine x_iconst 83 hK rfl rfl ?_
        refine x_goto 96 hK rfl rfl ?_
        refine x_iadd 97 hK rfl rfl ?_
        refine x_callV 100 hK hmono rfl rfl [.ref 171, .int (I ((2000 + e) + 0))] [] rfl rfl (Nat.le_of_ble_eq_true rfl) (Nat.le_of_ble_eq_true rfl) rfl (sp_171 (h := h7) hG7) (CLd_le (by omega) (ctX11_codes hSP hG7 (by omega) (by omega))) ?_
        rintro v8 h8 ⟨rfl, C8⟩
        have nq8 : gi h8 171 20 = gi h7 171 20 := FRM_gi C8.2.1 (r := 54) rfl rfl
        have aq8 : gi h8 171 18 = gi h7 171 18 := FRM_gi C8.2.1 (r := 54) rfl rfl
        have W8 : RW sh h h8 1 0 := W7.code C8 (by omega) (by omega)
        obtain ⟨hG8, a8, b8, c8, d8, to8, ln8, nr8, ar8⟩ := W8.1.ints
        refine x_iload_n 101 hK rfl rfl (lk1_n l1 (by decide) (Or.inl rfl)) ?_
        refine x_if_le 108 104 hK rfl rfl rfl (by first | omega | exact gi_r _ _ _) (fun _ => ?_) (fun c => by omega)
        refine x_iconst 109 hK rfl rfl ?_
        refine x_istore_n 110 hK rfl rfl _ rfl ?_
        refine x_goto 24 hK rfl rfl ?_
        refine x_iload_n 25 hK rfl rfl lk1_s ?_
        refine x_if_eq 113 28 hK rfl rfl rfl (by first | omega | exact gi_r _ _ _) (fun _ => ?_) (fun c => by omega)
        refine x_iconst 114 hK rfl rfl ?_
        exact x_zret hK rfl (by omega) (Or.inr ⟨rfl, W8.le (by omega), by omega, by omega⟩)
  refine x_iload_n 1 hK rfl rfl rfl ?_
  refine x_iconst 2 hK rfl rfl ?_
  refine x_if_icmp_ne 10 5 hK rfl rfl rfl (by first | omega | exact gi_r _ _ _) (by first | omega | exact gi_r _ _ _) (fun _ => ?_) (fun c => by omega)
  refine x_aload_n 11 hK rfl rfl rfl ?_
  refine x_iload_n 12 hK rfl rfl rfl ?_
  refine x_iconst 13 hK rfl rfl ?_
  refine x_iadd 14 hK rfl rfl ?_
  refine x_callV 17 hK hmono rfl rfl [.ref 171, .int (I (0 + 1))] [] rfl rfl (Nat.le_of_ble_eq_true rfl) (Nat.le_of_ble_eq_true rfl) rfl (sp_171 (h := h) hG) (CLd_le (by omega) (hR hG (by omega) (by omega))) ?_
  rintro v2 h2 (⟨rfl, t2⟩ | ⟨rfl, t2, g2, n2⟩)
  · have F2 : RF sh h h2 0 := W.1.call t2
    obtain ⟨hG2, a2, b2, c2, d2, to2, ln2, nr2, ar2⟩ := F2.ints
    refine x_if_ne 22 20 hK rfl rfl rfl (by first | omega | exact gi_r _ _ _) (fun c => by omega) (fun _ => ?_)
    refine x_iconst 21 hK rfl rfl ?_
    exact x_zret hK rfl (by omega) (Or.inl ⟨rfl, F2.le (by omega)⟩)
  · have W2 : RW sh h h2 1 0 := W.call t2 (by omega)
    obtain ⟨hG2, a2, b2, c2, d2, to2, ln2, nr2, ar2⟩ := W2.1.ints
    refine x_if_ne 22 20 hK rfl rfl rfl (by first | omega | exact gi_r _ _ _) (fun _ => ?_) (fun c => by omega)
    refine x_iconst 23 hK rfl rfl ?_
    refine x_istore_n 24 hK rfl rfl [(2, .int (I 1)), (0, .ref 171), (1, .int (I 0))] rfl ?_
    refine x_iload_n 25 hK rfl rfl rfl ?_
    refine x_if_eq 113 28 hK rfl rfl rfl (by first | omega | exact gi_r _ _ _) (fun c => by omega) (fun _ => ?_)
    exact loop _ h2 _ rfl W2 (by omega) (by omega) rfl rfl rfl
theorem reads_all (hSP : MONO SPt) {sh : List (Nat × Nat)} : ∀ m : Nat, (∀ {h : aH}, GD gE gRL sh h → (gi h 171 26 ≤ gi h 171 18 ∧ gi h 171 18 ≤ gi h 171 19) → (gi h 171 19 - gi h 171 18).toNat ≤ m → CLd SPt (5 * m + 5) mX11_readsThing [.ref 171] h 0 0 (RS sh h)) ∧ (∀ {h : aH}, GD gE gRL sh h → (gi h 171 26 ≤ gi h 171 18 ∧ gi h 171 18 ≤ gi h 171 19) → (gi h 171 19 - gi h 171 18).toNat ≤ m → CLd SPt (5 * m + 9) mX11_readsRank [.ref 171, .int (I 0)] h 0 0 (RS sh h)) := by
  intro m
  induction m using Nat.strongRecOn with
  | ind m ih =>
    have hT : ∀ {h : aH}, GD gE gRL sh h → (gi h 171 26 ≤ gi h 171 18 ∧ gi h 171 18 ≤ gi h 171 19) → (gi h 171 19 - gi h 171 18).toNat ≤ m → CLd SPt (5 * m + 5) mX11_readsThing [.ref 171] h 0 0 (RS sh h) := fun hG hA hm => ctX11_readsThing hSP (fun m' h' => (ih m' h').1) (fun m' h' => (ih m' h').2) hG hA hm
    have h3 : ∀ {h : aH}, GD gE gRL sh h → (gi h 171 26 ≤ gi h 171 18 ∧ gi h 171 18 ≤ gi h 171 19) → (gi h 171 19 - gi h 171 18).toNat ≤ m → CLd SPt (5 * m + 6) mX11_readsRank [.ref 171, .int (I 3)] h 0 0 (RS sh h) := fun hG hA hm => ctX11_readsRank3 hSP hT hG hA hm
    have h2 : ∀ {h : aH}, GD gE gRL sh h → (gi h 171 26 ≤ gi h 171 18 ∧ gi h 171 18 ≤ gi h 171 19) → (gi h 171 19 - gi h 171 18).toNat ≤ m → CLd SPt (5 * m + 7) mX11_readsRank [.ref 171, .int (I 2)] h 0 0 (RS sh h) := fun hG hA hm => ctX11_readsRank2 hSP h3 hG hA hm
    have h1 : ∀ {h : aH}, GD gE gRL sh h → (gi h 171 26 ≤ gi h 171 18 ∧ gi h 171 18 ≤ gi h 171 19) → (gi h 171 19 - gi h 171 18).toNat ≤ m → CLd SPt (5 * m + 8) mX11_readsRank [.ref 171, .int (I 1)] h 0 0 (RS sh h) := fun hG hA hm => ctX11_readsRank1 hSP h2 hG hA hm
    exact ⟨hT, fun hG hA hm => ctX11_readsRank0 hSP h1 hG hA hm⟩
theorem ctX11_rule (hSP : MONO SPt) {sh : List (Nat × Nat)} {h : aH} (hG : GD gE gRL sh h) (hX : XI h) : CLd SPt 300 mX11_rule [.ref 171] h 0 0 (fun rv h' => (∃ e, rv = some (.int (I e))) ∧ GD gE gRL sh h' ∧ FRM gRL [(0, 54, 0, 0), (0, 54, 17, 20), (0, 54, 25, 26), (0, 65, 0, 79), (0, 66, 0, 79)] h h' ∧ gi h' 171 0 = 0 ∧ XI h' ∧ (∀ b, NB b h → NB b h') ∧ gi h' 171 17 = 0) := by
  refine x_met _ rfl (Nat.le_of_ble_eq_true rfl) (fun K hK => ?_)
  have hmono := MONO_CLd hSP 299
  have loop2 : ∀ (m : Nat) (k : Int) (h4 : aH) (ls : List (Nat × Value)), ((gi h4 171 26 - k).toNat = m) → 0 ≤ k → k ≤ gi h4 171 26 → gi h4 171 25 = gi h4 171 26 → VCd (fun j => gi h4 183 j) (gi h4 171 26) → (∀ j : Nat, (j : Int) < k → gi h4 182 j = gi h4 183 j) → lk ls 0 = some (.ref 171) → lk ls 4 = some (.int (I k)) → GD gE gRL sh h4 → FRM gRL [(0, 54, 0, 0), (0, 54, 17, 20), (0, 54, 25, 26), (0, 65, 0, 79), (0, 66, 0, 79)] h h4 → gi h4 171 0 = 0 → gi h4 171 17 = 0 → K 61 ls [] h4 0 0 := by
    intro m
    induction m using Nat.strongRecOn with
    | ind m ih =>
    intro k h4 ls hm h0 hk h25 hV hc l0 l4 hG4 hF4 t4 z4
    have g26 := gri 0 80 hG4 (a := 171) (r := 54) (k := 26) rfl rfl
    refine x_iload 63 hK rfl rfl l4 ?_
    refine x_aload_n 64 hK rfl rfl l0 ?_
    refine x_getE 67 hK rfl (Or.inl rfl) rfl (sp_171 (h := h4) hG4) (e := (gi h4 171 26)) (rfl) ?_
    refine x_if_icmp_ge 90 70 hK rfl rfl rfl (by first | omega | exact gi_r _ _ _) (by first | omega | exact gi_r _ _ _) (fun c4 => ?_) (fun c4 => ?_)
    · refine x_iconst 91 hK rfl rfl ?_
      have hX4 : XI h4 := by
        show VCd (fun j => gi h4 182 j) (gi h4 171 25)
        rw [h25]
        refine ⟨hV.1, fun j hj => ?_⟩
        have hh := hgt_congr (c := fun j => gi h4 183 j) (c' := fun j => gi h4 182 j) j (fun i hi => hc i (by omega))
        rw [hh]
        have hcj := hc j (by omega)
        show _ ∧ _ ∧ (gi h4 182 j = 3000 → _) ∧ (gi h4 182 j ≠ 3000 → 2000 ≤ gi h4 182 j → _) ∧ (1000 ≤ gi h4 182 j → gi h4 182 j < 2000 → gi h4 182 j ≤ 1003)
        rw [hcj]
        exact hV.2 j hj
      exact x_iret hK rfl ⟨⟨_, rfl⟩, hG4, hF4, t4, hX4, fun b z => NB_frm (by decide) hF4 z, z4⟩
    · refine x_aload_n 71 hK rfl rfl l0 ?_
      refine x_getR 74 hK rfl rfl (sp_171 (h := h4) hG4) (rf_171_23 (h := h4) hG4) ?_
      refine x_iload 76 hK rfl rfl l4 ?_
      refine x_aload_n 77 hK rfl rfl l0 ?_
      refine x_getR 80 hK rfl rfl (sp_171 (h := h4) hG4) (rf_171_24 (h := h4) hG4) ?_
      refine x_iload 82 hK rfl rfl l4 ?_
      refine x_ialoadE 83 hK rfl rfl (sp_183 (h := h4) hG4) (by first | omega | exact gi_r _ _ _) (by first | omega | exact gi_r _ _ _) (by first | omega | exact gi_r _ _ _) (e' := (gi h4 183 k.toNat)) (rfl) ?_
      refine x_iastore 84 hK rfl rfl (sp_182 (h := h4) hG4) (by first | omega | exact gi_r _ _ _) (by first | omega | exact gi_r _ _ _) (by first | omega | exact gi_r _ _ _) ?_
      refine x_iinc 87 hK rfl rfl l4 _ rfl ?_
      refine x_goto 61 hK rfl rfl ?_
      have s26 : gi (wI h4 182 k.toNat (gi h4 183 k.toNat)) 171 26 = (gi h4 171 26) := gi_a (by decide) _
      have s25 : gi (wI h4 182 k.toNat (gi h4 183 k.toNat)) 171 25 = (gi h4 171 25) := gi_a (by decide) _
      have s0 : gi (wI h4 182 k.toNat (gi h4 183 k.toNat)) 171 0 = (gi h4 171 0) := gi_a (by decide) _
      have s17 : gi (wI h4 182 k.toNat (gi h4 183 k.toNat)) 171 17 = (gi h4 171 17) := gi_a (by decide) _
      have s3 : ∀ j, gi (wI h4 182 k.toNat (gi h4 183 k.toNat)) 183 j = gi h4 183 j := fun j => gi_a (by decide) _
      refine ih _ (by omega) (k + 1) _ _ rfl (by omega) (by omega) (by omega) ?_ ?_ (lk1_n l0 (by decide) (Or.inl rfl)) lk1_s (GD_wn (hG4) (r := 65) rfl rfl) (FRM_wn 0 79 (hF4) (r := 65) rfl rfl rfl (by omega) (by omega)) (s0.trans t4) (s17.trans z4)
      · rw [s26, show (fun j => gi (wI h4 182 k.toNat (gi h4 183 k.toNat)) 183 j) = fun j => gi h4 183 j from funext s3]; exact hV
      · intro j hj
        rw [s3]
        by_cases cj : (j : Int) < k
        · rw [gi_k (by omega)]; exact hc j cj
        · rw [show j = k.toNat by omega]; exact gi_same (gi_r _ _ _)
  have end1 : ∀ (is n : Int) (h2 : aH) (ls : List (Nat × Value)), (is = 0 ∨ is = 1) → (is = 1 → VCd (fun j => gi h2 183 j) (gi h2 171 26)) → r32 n → lk ls 0 = some (.ref 171) → lk ls 1 = some (.int (I n)) → lk ls 2 = some (.int (I is)) → GD gE gRL sh h2 → FRM gRL [(0, 54, 0, 0), (0, 54, 17, 20), (0, 54, 26, 26), (0, 66, 0, 79)] h h2 → gi h2 171 0 = 0 → gi h2 171 17 = 0 → K 35 ls [] h2 0 0 := by
    intro is n h2 ls his hV rn l0 l1 l2 hG2 hF2 t2 z2
    have g26 := gri 0 80 hG2 (a := 171) (r := 54) (k := 26) rfl rfl
    have hX2 : XI h2 := xOk_ok rfl h h2 hF2 hX
    refine x_aload_n 36 hK rfl rfl l0 ?_
    refine x_iload_n 37 hK rfl rfl l1 ?_
    refine x_bipush 39 hK rfl rfl rfl ?_
    refine x_iload_n 40 hK rfl rfl l2 ?_
    refine x_callV 43 hK hmono rfl rfl [.ref 171, .int (I n), .int (I 40), .int (I is)] [] rfl rfl (Nat.le_of_ble_eq_true rfl) (Nat.le_of_ble_eq_true rfl) rfl (sp_171 (h := h2) hG2) (CLd_le (Nat.le_of_ble_eq_true rfl) (ctX11_faultOf hSP hG2 rn (by omega) (by omega))) ?_
    rintro v9 h9 ⟨e9, rfl⟩
    rw [e9]
    clear e9
    have at9 := at_r hG2
    obtain ⟨w9, hw9, lw9, uw9⟩ : ∃ w : Int, (if 40 < n ∧ ((is = 1 ∧ gi h2 171 18 = gi h2 171 19) ∨ 40 ≤ gi h2 171 18) then -1 - 40 else if is = 1 ∧ gi h2 171 18 = gi h2 171 19 then 0 else -1 - gi h2 171 18) = w ∧ -82 ≤ w ∧ (w = 0 → is = 1) := by
      split
      · exact ⟨_, rfl, by omega, by omega⟩
      · split
        · exact ⟨_, rfl, by omega, by omega⟩
        · exact ⟨_, rfl, by omega, by omega⟩
    rw [hw9]
    refine x_istore_n 44 hK rfl rfl _ rfl ?_
    refine x_iload_n 45 hK rfl rfl lk1_s ?_
    refine x_if_ge 50 48 hK rfl rfl rfl (by first | omega | exact gi_r _ _ _) (fun c8 => ?_) (fun c8 => ?_)
    · refine x_aload_n 51 hK rfl rfl (lk1_n l0 (by decide) (Or.inl rfl)) ?_
      refine x_aload_n 52 hK rfl rfl (lk1_n l0 (by decide) (Or.inl rfl)) ?_
      refine x_getE 55 hK rfl (Or.inl rfl) rfl (sp_171 (h := h2) hG2) (e := (gi h2 171 26)) (rfl) ?_
      refine x_putI 58 hK rfl rfl (sp_171 (h := h2) hG2) ?_
      refine x_iconst 59 hK rfl rfl ?_
      refine x_istore 61 hK rfl rfl _ rfl ?_
      have s26 : gi (wI h2 171 25 (gi h2 171 26)) 171 26 = (gi h2 171 26) := gi_k (by decide) _
      have s25 : gi (wI h2 171 25 (gi h2 171 26)) 171 25 = (gi h2 171 26) := gi_same (by first | omega | exact gi_r _ _ _)
      have s0 : gi (wI h2 171 25 (gi h2 171 26)) 171 0 = (gi h2 171 0) := gi_k (by decide) _
      have s17 : gi (wI h2 171 25 (gi h2 171 26)) 171 17 = (gi h2 171 17) := gi_k (by decide) _
      have s3 : ∀ j, gi (wI h2 171 25 (gi h2 171 26)) 183 j = gi h2 183 j := fun j => gi_a (by decide) _
      have hV2 := hV (by omega)
      refine loop2 _ 0 _ _ rfl (by omega) (by omega) (by omega) ?_ (fun j hj => by omega) (lk1_n (lk1_n l0 (by decide) (Or.inl rfl)) (by decide) (Or.inl rfl)) lk1_s (GD_w1 (hG2) (r := 54) rfl (by omega) rfl (by omega) (by omega)) (FRM_w ((hF2.mono rfl)) (r := 54) rfl rfl) (s0.trans t2) (s17.trans z2)
      rw [s26, show (fun j => gi (wI h2 171 25 (gi h2 171 26)) 183 j) = fun j => gi h2 183 j from funext s3]
      exact hV2
    · refine x_iload_n 49 hK rfl rfl lk1_s ?_
      exact x_iret hK rfl ⟨⟨_, rfl⟩, hG2, hF2.mono rfl, t2, hX2, fun b z => NB_frm (by decide) hF2 z, z2⟩
  refine x_aload_n 1 hK rfl rfl rfl ?_
  refine x_iconst 2 hK rfl rfl ?_
  refine x_putI 5 hK rfl rfl (sp_171 (h := h) hG) ?_
  refine x_aload_n 6 hK rfl rfl rfl ?_
  refine x_bipush 8 hK rfl rfl rfl ?_
  have hGp1 : GD gE gRL sh (wI h 171 0 0) := GD_w1 (hG) (r := 54) rfl (by omega) rfl (by omega) (by omega)
  have hFp1 : FRM gRL [(0, 54, 0, 0), (0, 54, 17, 20), (0, 54, 26, 26), (0, 66, 0, 79)] h (wI h 171 0 0) := FRM_w (FRM.rf) (r := 54) rfl rfl
  refine x_callV 11 hK hmono rfl rfl [.ref 171, .int (I 40)] [] rfl rfl (Nat.le_of_ble_eq_true rfl) (Nat.le_of_ble_eq_true rfl) rfl (sp_171 (h := h) hG) (CLd_le (Nat.le_of_ble_eq_true rfl) (ctX11_begins hSP hGp1 (by omega))) ?_
  rintro v1 h1 ⟨rfl, hG1, hF1, b17, b18, b20, b19⟩
  have f1_171_0 : gi h1 171 0 = 0 := (FRM_gi hF1 (r := 54) rfl rfl).trans (gi_same (by first | omega | exact gi_r _ _ _))
  have tn := gri 0 80 hGp1 (a := 171) (r := 54) (k := 17) rfl rfl
  generalize gi (wI h 171 0 0) 171 17 = n at *
  have rn : r32 n := by omega
  replace hF1 : FRM gRL [(0, 54, 0, 0), (0, 54, 17, 20), (0, 54, 26, 26), (0, 66, 0, 79)] h h1 := hFp1.trans (hF1.mono rfl)
  refine x_istore_n 12 hK rfl rfl [(1, .int (I n)), (0, .ref 171)] rfl ?_
  refine x_aload_n 13 hK rfl rfl rfl ?_
  refine x_iconst 14 hK rfl rfl ?_
  refine x_putI 17 hK rfl rfl (sp_171 (h := h1) hG1) ?_
  refine x_iload_n 18 hK rfl rfl rfl ?_
  refine x_if_eq 29 21 hK rfl rfl rfl (by first | omega | exact gi_r _ _ _) (fun c12 => ?_) (fun c12 => ?_)
  · refine x_iconst 30 hK rfl rfl ?_
    refine x_goto 34 hK rfl rfl ?_
    refine x_istore_n 35 hK rfl rfl [(2, .int (I 1)), (1, .int (I n)), (0, .ref 171)] rfl ?_
    have s0 : gi (wI h1 171 26 0) 171 0 = 0 := (gi_k (by decide) _).trans (f1_171_0)
    have s17 : gi (wI h1 171 26 0) 171 17 = (gi h1 171 17) := gi_k (by decide) _
    have s26 : gi (wI h1 171 26 0) 171 26 = 0 := gi_same (by first | omega | exact gi_r _ _ _)
    refine end1 1 n _ _ (by omega) (fun _ => ?_) rn rfl rfl rfl (GD_w1 (hG1) (r := 54) rfl (by omega) rfl (by omega) (by omega)) (FRM_w (hF1) (r := 54) rfl rfl) s0 (s17.trans b17)
    rw [s26]
    exact ⟨by omega, fun k hk => by omega⟩
  · refine x_aload_n 22 hK rfl rfl rfl ?_
    refine x_iconst 23 hK rfl rfl ?_
    have hGp : GD gE gRL sh (wI h1 171 26 0) := GD_w1 (hG1) (r := 54) rfl (by omega) rfl (by omega) (by omega)
    have hFp : FRM gRL [(0, 54, 0, 0), (0, 54, 17, 20), (0, 54, 26, 26), (0, 66, 0, 79)] h (wI h1 171 26 0) := FRM_w (hF1) (r := 54) rfl rfl
    have s0 : gi (wI h1 171 26 0) 171 0 = 0 := (gi_k (by decide) _).trans (f1_171_0)
    have s17 : gi (wI h1 171 26 0) 171 17 = (gi h1 171 17) := gi_k (by decide) _
    have s18 : gi (wI h1 171 26 0) 171 18 = (gi h1 171 18) := gi_k (by decide) _
    have s19 : gi (wI h1 171 26 0) 171 19 = (gi h1 171 19) := gi_k (by decide) _
    have s26 : gi (wI h1 171 26 0) 171 26 = 0 := gi_same (by first | omega | exact gi_r _ _ _)
    refine x_callV 26 hK hmono rfl rfl [.ref 171, .int (I 0)] [] rfl rfl (Nat.le_of_ble_eq_true rfl) (Nat.le_of_ble_eq_true rfl) rfl (sp_171 (h := h1) hG1) (CLd_le (Nat.le_of_ble_eq_true rfl) ((reads_all hSP 40).2 hGp (by omega) (by omega))) ?_
    rintro v3 h3 (⟨rfl, t3⟩ | ⟨rfl, ⟨t3, g3⟩, -, -⟩)
    · have hF3 : FRM gRL [(0, 54, 0, 0), (0, 54, 17, 20), (0, 54, 26, 26), (0, 66, 0, 79)] h h3 := hFp.trans (t3.2.1.mono rfl)
      have z3 : gi h3 171 0 = 0 := (FRM_gi t3.2.1 (r := 54) rfl rfl).trans s0
      have y3 : gi h3 171 17 = 0 := (FRM_gi t3.2.1 (r := 54) rfl rfl).trans (s17.trans b17)
      have g26 := gri 0 80 t3.1 (a := 171) (r := 54) (k := 26) rfl rfl
      refine x_if_eq 33 29 hK rfl rfl rfl (by first | omega | exact gi_r _ _ _) (fun _ => ?_) (fun c => by omega)
      refine x_iconst 34 hK rfl rfl ?_
      refine x_istore_n 35 hK rfl rfl [(2, .int (I 0)), (1, .int (I n)), (0, .ref 171)] rfl ?_
      exact end1 0 n h3 _ (by omega) (fun c => absurd c (by decide)) rn rfl rfl rfl t3.1 hF3 z3 y3
    · have hF3 : FRM gRL [(0, 54, 0, 0), (0, 54, 17, 20), (0, 54, 26, 26), (0, 66, 0, 79)] h h3 := hFp.trans (t3.2.1.mono rfl)
      have z3 : gi h3 171 0 = 0 := (FRM_gi t3.2.1 (r := 54) rfl rfl).trans s0
      have y3 : gi h3 171 17 = 0 := (FRM_gi t3.2.1 (r := 54) rfl rfl).trans (s17.trans b17)
      have g26 := gri 0 80 t3.1 (a := 171) (r := 54) (k := 26) rfl rfl
      rw [s26] at g3
      have hV3 := g3.VC (by omega)
      rw [Int.toNat_of_nonneg g26.1] at hV3
      refine x_if_eq 33 29 hK rfl rfl rfl (by first | omega | exact gi_r _ _ _) (fun c => by omega) (fun _ => ?_)
      refine x_iconst 30 hK rfl rfl ?_
      refine x_goto 34 hK rfl rfl ?_
      refine x_istore_n 35 hK rfl rfl [(2, .int (I 1)), (1, .int (I n)), (0, .ref 171)] rfl ?_
      exact end1 1 n h3 _ (by omega) (fun _ => hV3) rn rfl rfl rfl t3.1 hF3 z3 y3
