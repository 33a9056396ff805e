/-! HOW THE CLASS READS TEXTS; THE SHIP -/
theorem fx_F {M : MD} {h h' : aH} (hF : FRM gRL M h h') (h1 : mHas M 0 1 3 = false) (h2 : (M.all fun q => !(Nat.beq q.1 0 && Nat.beq q.2.1 2)) = true) : fx h' = fx h := by
  rw [fx_tx, fx_tx, FRM_gi hF (a := 1) (r := 1) rfl h1, show gi h' 2 = gi h 2 from funext fun k => FRM_gi hF (a := 2) (r := 2) rfl (mHas_non h2 k)]
theorem fx_wI {h : aH} {a k : Nat} {e : Int} (h1 : 2 ≠ a) (h2 : 1 ≠ a ∨ 3 ≠ k) : fx (wI h a k e) = fx h := by
  rw [fx_tx, fx_tx, show gi (wI h a k e) 2 = gi h 2 from funext fun j => gi_a h1 j]
  rcases h2 with h2 | h2
  · rw [gi_a h2]
  · rw [gi_k h2]
theorem tkv_lb (f : Int → Int) : ∀ (n : Nat) (p v : Int), p ≤ (tkv f n p v).2 ∧ (tkv f n p v).2 ≤ p + n
  | 0, p, v => ⟨Int.le_refl _, by show p ≤ _; omega⟩
  | n + 1, p, v => by
    have := tkv_lb f n (p + 1) (v * 10 + f p - 48)
    unfold tkv
    split
    · omega
    · show p ≤ p ∧ p ≤ _; omega
theorem tkv_sp {f : Int → Int} {stop : Int} (hf : ∀ a, stop ≤ a → f a = -1) : ∀ (n : Nat) (p v : Int), p ≤ stop → (tkv f n p v).2 ≤ stop
  | 0, p, v, h => h
  | n + 1, p, v, h => by
    unfold tkv
    split
    · rename_i c
      have : p < stop := by
        by_cases z : stop ≤ p
        · have := hf p z; omega
        · omega
      exact tkv_sp hf n (p + 1) _ (by omega)
    · exact h
theorem fx_end (h : aH) : ∀ a, gi h 1 3 ≤ a → fx h a = -1 := fun a ha => if_neg (by omega)
/-- where the class's reader comes to a stop; -1: nothing is wrong -/
def cfl (n most : Int) (r : Bool × Int) : Int := if r.1 = true ∧ r.2 = min n most then (if most < n then min n most else -1) else r.2
theorem cfl_flt {n most : Int} {r : Bool × Int} (hm : 0 ≤ most) (hn : 0 ≤ n) (h0 : 0 ≤ r.2) (h1 : r.2 ≤ min n most) : (cfl n most r = -1 ↔ fltF n most r = 0) ∧ (cfl n most r ≠ -1 → -1 - cfl n most r = fltF n most r) := by
  unfold cfl fltF
  by_cases c : r.1 = true ∧ r.2 = min n most
  · rw [if_pos c]
    by_cases d : most < n
    · rw [if_pos d, if_pos ⟨d, Or.inl c⟩]; omega
    · rw [if_neg d, if_neg (fun z => d z.1), if_pos c]; omega
  · rw [if_neg c]
    by_cases d : most < n ∧ ((r.1 = true ∧ r.2 = min n most) ∨ most ≤ r.2)
    · rw [if_pos d]
      rcases d with ⟨d1, d2 | d2⟩
      · exact absurd d2 c
      · omega
    · rw [if_neg d, if_neg c]; omega
theorem fltF_lt {n most : Int} {r : Bool × Int} (hm : 0 ≤ most) (hn : 0 ≤ n) (h0 : 0 ≤ r.2) (h1 : r.2 ≤ min n most) (h : cfl n most r ≠ -1) : fltF n most r < 0 := by
  have := fltF_le (n := n) (r := r) hm h0
  have := cfl_flt hm hn h0 h1
  omega
/-- a number within bounds -/
def nmI (f : Int → Int) (n : Nat) (lo hi p : Int) : Int × Int := if (nmF f n p).1 < 0 then nmF f n p else if lo ≤ (nmF f n p).1 ∧ (nmF f n p).1 ≤ hi then nmF f n p else (-1, (nmF f n p).2 - 1)
/-- POSTS of a ship w long, behind one at a, of which n at most have room -/
def shP (f : Int → Int) (w : Int) : Nat → Int → Int → (Bool × Int) × List (Int × Int)
  | 0, _, p => ((true, p), [])
  | n + 1, a, p => if f p = 44 then (if (nmI f 2 (a + 1) (w - 1) (p + 1)).1 < 0 then ((false, (nmI f 2 (a + 1) (w - 1) (p + 1)).2), []) else
      if f (nmI f 2 (a + 1) (w - 1) (p + 1)).2 = 42 then ((shP f w n (nmI f 2 (a + 1) (w - 1) (p + 1)).1 ((nmI f 2 (a + 1) (w - 1) (p + 1)).2 + 1)).1, ((nmI f 2 (a + 1) (w - 1) (p + 1)).1, 1) :: (shP f w n (nmI f 2 (a + 1) (w - 1) (p + 1)).1 ((nmI f 2 (a + 1) (w - 1) (p + 1)).2 + 1)).2)
      else ((shP f w n (nmI f 2 (a + 1) (w - 1) (p + 1)).1 (nmI f 2 (a + 1) (w - 1) (p + 1)).2).1, ((nmI f 2 (a + 1) (w - 1) (p + 1)).1, 0) :: (shP f w n (nmI f 2 (a + 1) (w - 1) (p + 1)).1 (nmI f 2 (a + 1) (w - 1) (p + 1)).2).2)) else ((true, p), [])
/-- LONG, can it stand and up to where, the POSTS -/
def shF (f : Int → Int) : Int × (Bool × Int) × List (Int × Int) := ((nmI f 2 2 40 0).1, if 0 < (nmI f 2 2 40 0).1 then shP f (nmI f 2 2 40 0).1 10 (-1) (nmI f 2 2 40 0).2 else ((false, (nmI f 2 2 40 0).2), []))
theorem nmF_p {f : Int → Int} {n : Nat} {p : Int} : p ≤ (nmF f n p).2 := (tkv_lb f n p 0).1
theorem nmF_n {f : Int → Int} {n : Nat} {p : Int} (h : 0 ≤ (nmF f n p).1) : p < (nmF f n p).2 := by
  have := nmF_p (f := f) (n := n) (p := p)
  unfold nmF at h ⊢
  by_cases c : (tkv f n p 0).2 = p
  · rw [if_pos c] at h; exact absurd (show (0 : Int) ≤ -1 from h) (by decide)
  · have := (tkv_lb f n p 0).1
    show p < (tkv f n p 0).2
    omega
theorem nmI_b {f : Int → Int} {n : Nat} {lo hi p stop : Int} (hf : ∀ a, stop ≤ a → f a = -1) (hp : p ≤ stop) : p ≤ (nmI f n lo hi p).2 ∧ (nmI f n lo hi p).2 ≤ stop ∧ (0 ≤ (nmI f n lo hi p).1 → p < (nmI f n lo hi p).2 ∧ lo ≤ (nmI f n lo hi p).1 ∧ (nmI f n lo hi p).1 ≤ hi) := by
  have a := nmF_p (f := f) (n := n) (p := p)
  have b : (nmF f n p).2 ≤ stop := tkv_sp hf n p 0 hp
  unfold nmI
  by_cases c : (nmF f n p).1 < 0
  · rw [if_pos c]
    exact ⟨a, b, fun z => by omega⟩
  · have d := nmF_n (f := f) (n := n) (p := p) (by omega)
    rw [if_neg c]
    by_cases e : lo ≤ (nmF f n p).1 ∧ (nmF f n p).1 ≤ hi
    · rw [if_pos e]; exact ⟨a, b, fun _ => ⟨d, e.1, e.2⟩⟩
    · rw [if_neg e]
      refine ⟨?_, ?_, fun z => ?_⟩
      · show p ≤ (nmF f n p).2 - 1; omega
      · show (nmF f n p).2 - 1 ≤ stop; omega
      · exact absurd (show (0 : Int) ≤ -1 from z) (by decide)
theorem shP_b {f : Int → Int} {w stop : Int} (hf : ∀ a, stop ≤ a → f a = -1) : ∀ (n : Nat) (a p : Int), 0 ≤ p → p ≤ stop → (p ≤ (shP f w n a p).1.2 ∧ (shP f w n a p).1.2 ≤ stop) ∧ (shP f w n a p).2.length ≤ n ∧ ∀ q ∈ (shP f w n a p).2, (a < q.1 ∧ q.1 ≤ w - 1) ∧ (q.2 = 0 ∨ q.2 = 1)
  | 0, a, p, _, h => ⟨⟨Int.le_refl _, h⟩, Nat.le_refl _, fun q hq => absurd hq List.not_mem_nil⟩
  | n + 1, a, p, h0, h => by
    unfold shP
    by_cases c : f p = 44
    · have hp : p < stop := by
        by_cases z : stop ≤ p
        · have := hf p z; omega
        · omega
      have m := nmI_b (n := 2) (lo := a + 1) (hi := w - 1) hf (show p + 1 ≤ stop by omega)
      rw [if_pos c]
      generalize nmI f 2 (a + 1) (w - 1) (p + 1) = e at m ⊢
      by_cases d : e.1 < 0
      · rw [if_pos d]
        exact ⟨⟨by show p ≤ e.2; omega, m.2.1⟩, Nat.zero_le _, fun q hq => absurd hq List.not_mem_nil⟩
      · have m2 := m.2.2 (by omega)
        rw [if_neg d]
        by_cases g : f e.2 = 42
        · have hp2 : e.2 < stop := by
            by_cases z : stop ≤ e.2
            · have := hf e.2 z; omega
            · omega
          have ih := shP_b (w := w) hf n e.1 (e.2 + 1) (by omega) (by omega)
          rw [if_pos g]
          refine ⟨⟨by show p ≤ (shP f w n e.1 (e.2 + 1)).1.2; omega, ih.1.2⟩, by simp only [List.length_cons]; omega, fun q hq => ?_⟩
          rcases List.mem_cons.mp hq with rfl | hq
          · exact ⟨⟨by show a < e.1; omega, by show e.1 ≤ w - 1; omega⟩, Or.inr rfl⟩
          · have := ih.2.2 q hq; omega
        · have ih := shP_b (w := w) hf n e.1 e.2 (by omega) m.2.1
          rw [if_neg g]
          refine ⟨⟨by show p ≤ (shP f w n e.1 e.2).1.2; omega, ih.1.2⟩, by simp only [List.length_cons]; omega, fun q hq => ?_⟩
          rcases List.mem_cons.mp hq with rfl | hq
          · exact ⟨⟨by show a < e.1; omega, by show e.1 ≤ w - 1; omega⟩, Or.inl rfl⟩
          · have := ih.2.2 q hq; omega
    · rw [if_neg c]
      exact ⟨⟨Int.le_refl _, h⟩, Nat.zero_le _, fun q hq => absurd hq List.not_mem_nil⟩
theorem shF_b {f : Int → Int} {stop : Int} (hf : ∀ a, stop ≤ a → f a = -1) (h0 : 0 ≤ stop) : (0 ≤ (shF f).2.1.2 ∧ (shF f).2.1.2 ≤ stop) ∧ (shF f).2.2.length ≤ 10 ∧ ((shF f).2.1.1 = true → 2 ≤ (shF f).1 ∧ (shF f).1 ≤ 40) ∧ ∀ q ∈ (shF f).2.2, (0 ≤ q.1 ∧ q.1 ≤ (shF f).1 - 1) ∧ (q.2 = 0 ∨ q.2 = 1) := by
  have m := nmI_b (n := 2) (lo := 2) (hi := 40) hf (show (0 : Int) ≤ stop from h0)
  unfold shF
  generalize nmI f 2 2 40 0 = e at m ⊢
  by_cases c : 0 < e.1
  · have m2 := m.2.2 (by omega)
    have b := shP_b (w := e.1) hf 10 (-1) e.2 m.1 m.2.1
    simp only [if_pos c]
    exact ⟨⟨by omega, b.1.2⟩, b.2.1, fun _ => ⟨m2.2.1, m2.2.2⟩, fun q hq => by have := b.2.2 q hq; omega⟩
  · simp only [if_neg c]
    exact ⟨⟨m.1, m.2.1⟩, Nat.zero_le _, fun z => absurd z (by decide), fun q hq => absurd hq List.not_mem_nil⟩
/-- the POSTS of a ship at s -/
def pstL (h : aH) (s n : Nat) : List (Int × Int) := (List.range n).map fun j => (gi h (s + 1) j, gi h (s + 2) j)
def lsum (l : List (Int × Int)) : Int := (l.map Prod.snd).sum
theorem lsum_snoc (l : List (Int × Int)) (q : Int × Int) : lsum (l ++ [q]) = lsum l + q.2 := by unfold lsum; simp
theorem lsum_b {l : List (Int × Int)} (h : ∀ q ∈ l, q.2 = 0 ∨ q.2 = 1) : 0 ≤ lsum l ∧ lsum l ≤ l.length := by
  induction l with
  | nil => exact ⟨Int.le_refl _, Int.le_refl _⟩
  | cons q t ih =>
    have a := ih fun z hz => h z (List.mem_cons_of_mem _ hz)
    have b := h q List.mem_cons_self
    unfold lsum at a ⊢
    simp only [List.map_cons, List.sum_cons, List.length_cons]
    omega
theorem pstL_l (h : aH) (s n : Nat) : (pstL h s n).length = n := by unfold pstL; rw [List.length_map, List.length_range]
theorem pstL_s {h h' : aH} {s n : Nat} {c l : Int} (h1 : gi h' (s + 1) n = c) (h2 : gi h' (s + 2) n = l) (h3 : ∀ j, j < n → gi h' (s + 1) j = gi h (s + 1) j ∧ gi h' (s + 2) j = gi h (s + 2) j) : pstL h' s (n + 1) = pstL h s n ++ [(c, l)] := by
  unfold pstL
  rw [List.range_succ, List.map_append, List.map_cons, List.map_nil, h1, h2]
  congr 1
  exact List.map_congr_left fun j hj => by rw [(h3 j (List.mem_range.mp hj)).1, (h3 j (List.mem_range.mp hj)).2]
theorem pstL_eq {h h' : aH} {s n : Nat} (h3 : ∀ j, j < n → gi h' (s + 1) j = gi h (s + 1) j ∧ gi h' (s + 2) j = gi h (s + 2) j) : pstL h' s n = pstL h s n := by
  unfold pstL
  exact List.map_congr_left fun j hj => by rw [(h3 j (List.mem_range.mp hj)).1, (h3 j (List.mem_range.mp hj)).2]
set_option maxRecDepth 8000 in
theorem rl1 : ∀ a, a < 202 → gRL[a]? = some 1 → a = 1 := by decide
theorem one1 {M : MD} {h h' : aH} (hF : FRM gRL M h h') (hm : (M.all fun q => Nat.beq q.2.1 1) = true) {a : Nat} (ha : a ≠ 1) (k : Nat) : gi h' a k = gi h a k := by
  show (aI h' a k).toInt = (aI h a k).toInt
  rw [hF.1 a k fun r hr => by
    have la : a < 202 := (List.getElem?_eq_some_iff.mp hr).1
    by_cases c : r = 1
    · subst c; exact absurd (rl1 a la hr) ha
    · cases hc : mHas M 0 r k with
      | false => rfl
      | true =>
        obtain ⟨q, hq, h2⟩ := List.any_eq_true.mp hc
        have z := List.all_eq_true.mp hm q hq
        simp only [Bool.and_eq_true, Nat.beq_eq] at h2 z
        exact absurd (h2.1.1.2.symm.trans z) c]
theorem ss_r {s : Nat} (hs : s = 5 ∨ s = 8) : gRL[s]? = some 5 ∧ gRL[s + 1]? = some 6 ∧ gRL[s + 2]? = some 7 := by rcases hs with rfl | rfl <;> decide
theorem ss_p {s : Nat} {h : aH} (hP : PT h) (hs : s = 5 ∨ s = 8) : aR h s 3 = some (s + 1) ∧ aR h s 4 = some (s + 2) := by
  obtain ⟨-, -, -, -, h5, h8, -⟩ := hP
  rcases hs with rfl | rfl
  · exact h5
  · exact h8
theorem tkv_nn {f : Int → Int} : ∀ (n : Nat) (p v : Int), 0 ≤ v → 0 ≤ (tkv f n p v).1
  | 0, _, v, h => h
  | n + 1, p, v, h => by
    unfold tkv
    split
    · exact tkv_nn n _ _ (by omega)
    · exact h
set_option maxRecDepth 4000 in
theorem ctX9_take {SP : CT} (hSP : MONO SP) {sh : List (Nat × Nat)} {h : aH} (hG : GD gE gRL sh h) {s : Int} (hs : 0 ≤ s ∧ s ≤ 65535) (hr : r32 s) : CLd SP 2 mX9_take [.ref 1, .int (I s)] h 0 0 (fun rv h' => GD gE gRL sh h' ∧ FRM gRL [(0, 1, 2, 2)] h h' ∧ ((rv = some (.int (I 1)) ∧ fx h (gi h 1 2) = s ∧ gi h' 1 2 = gi h 1 2 + 1) ∨ (rv = some (.int (I 0)) ∧ fx h (gi h 1 2) ≠ s ∧ gi h' 1 2 = gi h 1 2))) := by
  refine x_met _ rfl (Nat.le_of_ble_eq_true rfl) (fun K hK => ?_)
  have hmono := MONO_CLd hSP 1
  have fr := fx_r hG (gi h 1 2)
  refine x_aload_n 1 hK rfl rfl rfl ?_
  have g258 := gi_r h 1 2
  have at259 : gi h 1 2 = (gi h 1 2) := rfl
  have fe259 : fx h = (fx h) := rfl
  refine x_callV 4 hK hmono rfl rfl [.ref 1] [] rfl rfl (Nat.le_of_ble_eq_true rfl) (Nat.le_of_ble_eq_true rfl) rfl (sp_1 (h := h) hG) (CLd_le (Nat.le_of_ble_eq_true rfl) (ctX9_next hSP hG)) ?_
  rw [fe259, at259]
  rintro v9 h9 ⟨e9, rfl⟩
  rw [e9]
  clear e9
  have fr259 := fx_r hG (gi h 1 2)
  refine x_iload_n 5 hK rfl rfl rfl ?_
  refine x_if_icmp_eq 10 8 hK rfl rfl rfl (by omega) (by omega) (fun c4 => ?_) (fun c4 => ?_)
  · refine x_aload_n 11 hK rfl rfl rfl ?_
    refine x_dup 12 hK rfl rfl rfl ?_
    refine x_getE 15 hK rfl (Or.inl rfl) rfl (sp_1 (h := h) hG) (e := (gi h 1 2)) (rfl) ?_
    refine x_iconst 16 hK rfl rfl ?_
    refine x_iadd 17 hK rfl rfl ?_
    refine x_putI 20 hK rfl rfl (sp_1 (h := h) hG) ?_
    refine x_iconst 21 hK rfl rfl ?_
    have at9 : -1 ≤ fx h (gi h 1 2) := fr.1
    have lt9 : gi h 1 2 < 80 := by
        by_cases z : gi h 1 2 < 80
        · exact z
        · have : fx h (gi h 1 2) = -1 := if_neg (by omega)
          omega
    exact x_zret hK rfl (by omega) ⟨GD_w0 (hG) (r := 1) rfl rfl, FRM_w ((FRM.rf : FRM gRL [(0, 1, 2, 2)] h h)) (r := 1) rfl rfl, Or.inl ⟨rfl, by omega, gi_same (by omega)⟩⟩
  · refine x_iconst 9 hK rfl rfl ?_
    exact x_zret hK rfl (by omega) ⟨hG, FRM.rf, Or.inr ⟨rfl, by omega, rfl⟩⟩
set_option maxRecDepth 4000 in
theorem ctX9_faultAtEnd {SP : CT} (hSP : MONO SP) {sh : List (Nat × Nat)} {h : aH} (hG : GD gE gRL sh h) : CLd SP 1 mX9_faultAtEnd [.ref 1] h 0 0 (fun rv h' => h' = h ∧ rv = some (.int (I (if gi h 1 4 = 1 then gi h 1 3 else -1)))) := by
  refine x_met _ rfl (Nat.le_of_ble_eq_true rfl) (fun K hK => ?_)
  have hmono := MONO_CLd hSP 0
  have gm := gri 0 1 hG (a := 1) (r := 1) (k := 4) rfl rfl
  refine x_aload_n 1 hK rfl rfl rfl ?_
  have g260 := gri (0) (1) hG (a := 1) (r := 1) (k := 4) rfl rfl
  refine x_getE 4 hK rfl (Or.inr rfl) rfl (sp_1 (h := h) hG) (e := (gi h 1 4)) (rfl) ?_
  refine x_if_eq 14 7 hK rfl rfl rfl (by omega) (fun c3 => ?_) (fun c3 => ?_)
  · refine x_iconst 15 hK rfl rfl ?_
    exact x_iret hK rfl ⟨rfl, by first | rw [if_pos (by omega)] | rw [if_neg (by omega)]⟩
  · refine x_aload_n 8 hK rfl rfl rfl ?_
    have g261 := gri (0) (76) hG (a := 1) (r := 1) (k := 3) rfl rfl
    refine x_getE 11 hK rfl (Or.inl rfl) rfl (sp_1 (h := h) hG) (e := (gi h 1 3)) (rfl) ?_
    refine x_goto 15 hK rfl rfl ?_
    exact x_iret hK rfl ⟨rfl, by first | rw [if_pos (by omega)] | rw [if_neg (by omega)]⟩
set_option maxRecDepth 4000 in
theorem ctX6_addPost {SP : CT} (hSP : MONO SP) {sh : List (Nat × Nat)} {h : aH} (hG : GD gE gRL sh h) {s : Nat} {c l : Int} (hP : PT h) (hs : s = 5 ∨ s = 8) (hc : r32 c) (hl : l = 0 ∨ l = 1) (hn : gi h s 1 < 10) (h2 : 0 ≤ gi h s 2 ∧ gi h s 2 ≤ 100) : CLd SP 1 mX6_addPost [.ref s, .int (I c), .int (I l)] h 0 0 (fun rv h' => rv = none ∧ GD gE gRL sh h' ∧ FRM gRL [(0, 5, 1, 2), (0, 6, 0, 9), (0, 7, 0, 9)] h h' ∧ gi h' s 1 = gi h s 1 + 1 ∧ gi h' s 2 = gi h s 2 + l ∧ gi h' s 0 = gi h s 0 ∧ pstL h' s (gi h s 1 + 1).toNat = pstL h s (gi h s 1).toNat ++ [(c, l)] ∧ ∀ a k : Nat, a ≠ 1 → a ≠ s → a ≠ s + 1 → a ≠ s + 2 → gi h' a k = gi h a k) := by
  refine x_met _ rfl (Nat.le_of_ble_eq_true rfl) (fun K hK => ?_)
  have hmono := MONO_CLd hSP 0
  have gp := gri 0 10 hG (a := s) (r := 5) (k := 1) (ss_r hs).1 rfl
  refine x_aload_n 1 hK rfl rfl rfl ?_
  have g262 := gri (0) (10) hG (a := s) (r := 5) (k := 1) (ss_r hs).1 rfl
  refine x_getE 4 hK rfl (Or.inl rfl) rfl (shx (h := h) hG (r := 5) (ss_r hs).1 rfl) (e := (gi h s 1)) (rfl) ?_
  refine x_bipush 6 hK rfl rfl rfl ?_
  refine x_if_icmp_ge 49 9 hK rfl rfl rfl (by omega) (by omega) (fun c4 => ?_) (fun c4 => ?_)
  · exact absurd hn (by omega)
  · refine x_aload_n 10 hK rfl rfl rfl ?_
    refine x_getR 13 hK rfl rfl (shx (h := h) hG (r := 5) (ss_r hs).1 rfl) (ss_p hP hs).1 ?_
    refine x_aload_n 14 hK rfl rfl rfl ?_
    refine x_getE 17 hK rfl (Or.inl rfl) rfl (shx (h := h) hG (r := 5) (ss_r hs).1 rfl) (e := (gi h s 1)) (rfl) ?_
    refine x_iload_n 18 hK rfl rfl rfl ?_
    refine x_iastore 19 hK rfl rfl (shx (h := h) hG (r := 6) (ss_r hs).2.1 rfl) (by omega) (by omega) (by omega) ?_
    refine x_aload_n 20 hK rfl rfl rfl ?_
    refine x_getR 23 hK rfl rfl (shx (h := h) hG (r := 5) (ss_r hs).1 rfl) (ss_p hP hs).2 ?_
    refine x_aload_n 24 hK rfl rfl rfl ?_
    refine x_getE 27 hK rfl (Or.inl rfl) rfl (shx (h := h) hG (r := 5) (ss_r hs).1 rfl) (e := (gi h s 1)) (gi_a (by omega) _) ?_
    refine x_iload_n 28 hK rfl rfl rfl ?_
    refine x_iastore 29 hK rfl rfl (shx (h := h) hG (r := 7) (ss_r hs).2.2 rfl) (by omega) (by omega) (by omega) ?_
    refine x_aload_n 30 hK rfl rfl rfl ?_
    refine x_dup 31 hK rfl rfl rfl ?_
    refine x_getE 34 hK rfl (Or.inl rfl) rfl (shx (h := h) hG (r := 5) (ss_r hs).1 rfl) (e := (gi h s 1)) ((gi_a (by omega) _).trans (gi_a (by omega) _)) ?_
    refine x_iconst 35 hK rfl rfl ?_
    refine x_iadd 36 hK rfl rfl ?_
    refine x_putI 39 hK rfl rfl (shx (h := h) hG (r := 5) (ss_r hs).1 rfl) ?_
    refine x_aload_n 40 hK rfl rfl rfl ?_
    refine x_dup 41 hK rfl rfl rfl ?_
    have g263 := gi_r h s 2
    refine x_getE 44 hK rfl (Or.inl rfl) rfl (shx (h := h) hG (r := 5) (ss_r hs).1 rfl) (e := (gi h s 2)) ((gi_k (by decide) _).trans ((gi_a (by omega) _).trans (gi_a (by omega) _))) ?_
    refine x_iload_n 45 hK rfl rfl rfl ?_
    refine x_iadd 46 hK rfl rfl ?_
    refine x_putI 49 hK rfl rfl (shx (h := h) hG (r := 5) (ss_r hs).1 rfl) ?_
    exact x_vret hK rfl ⟨rfl, GD_w0 (GD_w1 (GD_wu (GD_wn (hG) (r := 6) (ss_r hs).2.1 rfl) (r := 7) (ss_r hs).2.2 (by omega) rfl (by omega) (by omega)) (r := 5) (ss_r hs).1 (by omega) rfl (by omega) (by omega)) (r := 5) (ss_r hs).1 rfl, FRM_w (FRM_w (FRM_wn 0 9 (FRM_wn 0 9 ((FRM.rf : FRM gRL [(0, 5, 1, 2), (0, 6, 0, 9), (0, 7, 0, 9)] h h)) (r := 6) (ss_r hs).2.1 rfl rfl (by omega) (by omega)) (r := 7) (ss_r hs).2.2 rfl rfl (by omega) (by omega)) (r := 5) (ss_r hs).1 rfl) (r := 5) (ss_r hs).1 rfl, (gi_k (by decide) _).trans (gi_same (by omega)), gi_same (by omega), (gi_k (by decide) _).trans ((gi_k (by decide) _).trans ((gi_a (by omega) _).trans (gi_a (by omega) _))), (by
        rw [show (gi h s 1 + 1).toNat = (gi h s 1).toNat + 1 by omega]
        exact pstL_s ((gi_a (by omega) _).trans ((gi_a (by omega) _).trans ((gi_a (by omega) _).trans (gi_same (by omega))))) ((gi_a (by omega) _).trans ((gi_a (by omega) _).trans (gi_same (by omega)))) fun j hj => ⟨(gi_a (by omega) _).trans ((gi_a (by omega) _).trans ((gi_a (by omega) _).trans (gi_k (by omega) _))), (gi_a (by omega) _).trans ((gi_a (by omega) _).trans ((gi_k (by omega) _).trans (gi_a (by omega) _)))⟩), (fun a k n1 n2 n3 n4 => (gi_a (by omega) _).trans ((gi_a (by omega) _).trans ((gi_a (by omega) _).trans (gi_a (by omega) _))))⟩
set_option maxRecDepth 4000 in
theorem ctX6_readFrom {SP : CT} (hSP : MONO SP) {sh : List (Nat × Nat)} {h : aH} (hG : GD gE gRL sh h) {s : Nat} {n : Int} (hP : PT h) (hs : s = 5 ∨ s = 8) (h12 : gi h 1 2 = 0) (h13 : gi h 1 3 = min n 43) (h14 : gi h 1 4 = if 43 < n then 1 else 0) (hn : 0 ≤ n ∧ n ≤ 80) : CLd SP 4 mX6_readFrom [.ref s, .ref 1] h 0 0 (fun rv h' => rv = some (.int (I (cfl n 43 (shF (fx h)).2.1))) ∧ GD gE gRL sh h' ∧ FRM gRL [(0, 1, 2, 2), (0, 1, 5, 5), (0, 5, 0, 2), (0, 6, 0, 9), (0, 7, 0, 9)] h h' ∧ (cfl n 43 (shF (fx h)).2.1 = -1 → gi h' s 0 = (shF (fx h)).1 ∧ gi h' s 1 = ((shF (fx h)).2.2.length : Nat) ∧ gi h' s 2 = lsum (shF (fx h)).2.2 ∧ pstL h' s (shF (fx h)).2.2.length = (shF (fx h)).2.2) ∧ ∀ a k : Nat, a ≠ 1 → a ≠ s → a ≠ s + 1 → a ≠ s + 2 → gi h' a k = gi h a k) := by
  refine x_met _ rfl (Nat.le_of_ble_eq_true rfl) (fun K hK => ?_)
  have hmono := MONO_CLd hSP 3
  have fe0 : ∀ a, min n 43 ≤ a → fx h a = -1 := fun a ha => fx_end h a (by rw [h13]; exact ha)
  have loop : ∀ (mz : Nat) (a i p w : Int) (h4 : aH) (ls : List (Nat × Value)), ((11 - i).toNat = mz) → (0 ≤ i ∧ i ≤ 10) → (0 ≤ p ∧ p ≤ min n 43) → (2 ≤ w ∧ w ≤ 40) → (nmI (fx h) 2 2 40 0 = (w, (nmI (fx h) 2 2 40 0).2)) → (-1 ≤ a ∧ a < w) → (gi h4 1 2 = p) → (gi h4 s 0 = w) → (gi h4 s 1 = i) → (gi h4 s 2 = lsum (pstL h4 s i.toNat)) → (0 ≤ lsum (pstL h4 s i.toNat) ∧ lsum (pstL h4 s i.toNat) ≤ i) → (shP (fx h) w 10 (-1) (nmI (fx h) 2 2 40 0).2 = ((shP (fx h) w (10 - i).toNat a p).1, pstL h4 s i.toNat ++ (shP (fx h) w (10 - i).toNat a p).2)) → (∀ a k : Nat, a ≠ 1 → a ≠ s → a ≠ s + 1 → a ≠ s + 2 → gi h4 a k = gi h a k) → lk ls 0 = some (.ref s) → lk ls 1 = some (.ref 1) → lk ls 2 = some (.int (I a)) → lk ls 3 = some (.int (I i)) → GD gE gRL sh h4 → FRM gRL [(0, 1, 2, 2), (0, 1, 5, 5), (0, 5, 0, 2), (0, 6, 0, 9), (0, 7, 0, 9)] h h4 → K 60 ls [] h4 0 0 := by
    intro mz
    induction mz using Nat.strongRecOn with
    | ind mz ih =>
    intro a i p w h4 ls hm i0 p0 w0 wd a0 d2 d3 d4 d5 d6 eq oa l0 l1 l2 l3 hG4 hF4
    have s3 : gi h4 1 3 = min n 43 := (FRM_gi hF4 (r := 1) rfl rfl).trans h13
    have s4 : gi h4 1 4 = (if 43 < n then (1 : Int) else 0) := (FRM_gi hF4 (r := 1) rfl rfl).trans h14
    have sF : fx h4 = fx h := fx_F hF4 rfl rfl
    have sh0 : shF (fx h) = (w, shP (fx h) w 10 (-1) (nmI (fx h) 2 2 40 0).2) := by unfold shF; rw [wd, if_pos (show 0 < w by omega)]
    refine x_iload_n 61 hK rfl rfl l3 ?_
    refine x_bipush 63 hK rfl rfl rfl ?_
    refine x_if_icmp_gt 162 66 hK rfl rfl rfl (by omega) (by omega) (fun c3 => ?_) (fun c3 => ?_)
    · refine x_aload_n 163 hK rfl rfl l1 ?_
      have to264 : gi h4 1 3 = (min n 43) := s3
      have mo264 : gi h4 1 4 = (if 43 < n then (1 : Int) else 0) := s4
      refine x_callV 166 hK hmono rfl rfl [.ref 1] [] rfl rfl (Nat.le_of_ble_eq_true rfl) (Nat.le_of_ble_eq_true rfl) rfl (sp_1 (h := h4) hG4) (CLd_le (Nat.le_of_ble_eq_true rfl) (ctX9_faultAtEnd hSP hG4)) ?_
      rw [to264, mo264]
      rintro v9 h9 ⟨e9, rfl⟩
      rw [e9]
      clear e9
      have er : shP (fx h) w (10 - i).toNat a p = ((true, p), []) := by
        by_cases z : i = 10
        · rw [z]; rfl
        · rw [show (10 - i).toNat = (9 - i).toNat + 1 by omega]
          show (if fx h p = 44 then _ else _) = _
          rw [if_neg (by first | omega | (have := fe0 p (by omega); omega))]
      have e2 : (shF (fx h)).2.1 = (true, p) := by rw [sh0, eq, er]
      have e4 : (shF (fx h)).2.2 = pstL h4 s i.toNat := by rw [sh0, eq, er]; exact List.append_nil _
      have e3 : cfl n 43 (shF (fx h)).2.1 = (if (if 43 < n then (1 : Int) else 0) = 1 then (min n 43) else -1) := by
        rw [e2]
        unfold cfl
        rw [if_pos ⟨rfl, show p = min n 43 by omega⟩]
        by_cases z : 43 < n
        · rw [if_pos z, if_pos z, if_pos rfl]
        · rw [if_neg z, if_neg z, if_neg (by decide)]
      exact x_iret hK rfl ⟨by rw [e3], hG4, hF4, fun z => ⟨by rw [sh0]; exact d3, by rw [e4, pstL_l]; exact (d4).trans (by omega), by rw [e4]; exact d5, by rw [e4, pstL_l]⟩, (fun a k n1 n2 n3 n4 => oa a k n1 n2 n3 n4)⟩
    · refine x_aload_n 67 hK rfl rfl l1 ?_
      have at265 : gi h4 1 2 = p := d2
      have to265 : gi h4 1 3 = (min n 43) := s3
      refine x_callV 70 hK hmono rfl rfl [.ref 1] [] rfl rfl (Nat.le_of_ble_eq_true rfl) (Nat.le_of_ble_eq_true rfl) rfl (sp_1 (h := h4) hG4) (CLd_le (Nat.le_of_ble_eq_true rfl) (ctX9_ended hSP hG4)) ?_
      rw [at265, to265]
      rintro v9 h9 ⟨e9, ⟨rfl, en265⟩ | ⟨rfl, en265⟩⟩ <;> rw [e9] <;> clear e9
      · refine x_if_ne 162 73 hK rfl rfl rfl (by omega) (fun _ => ?_) (fun c => by omega)
        refine x_aload_n 163 hK rfl rfl l1 ?_
        have to266 : gi h4 1 3 = (min n 43) := s3
        have mo266 : gi h4 1 4 = (if 43 < n then (1 : Int) else 0) := s4
        refine x_callV 166 hK hmono rfl rfl [.ref 1] [] rfl rfl (Nat.le_of_ble_eq_true rfl) (Nat.le_of_ble_eq_true rfl) rfl (sp_1 (h := h4) hG4) (CLd_le (Nat.le_of_ble_eq_true rfl) (ctX9_faultAtEnd hSP hG4)) ?_
        rw [to266, mo266]
        rintro v9 h9 ⟨e9, rfl⟩
        rw [e9]
        clear e9
        have er : shP (fx h) w (10 - i).toNat a p = ((true, p), []) := by
          by_cases z : i = 10
          · rw [z]; rfl
          · rw [show (10 - i).toNat = (9 - i).toNat + 1 by omega]
            show (if fx h p = 44 then _ else _) = _
            rw [if_neg (by first | omega | (have := fe0 p (by omega); omega))]
        have e2 : (shF (fx h)).2.1 = (true, p) := by rw [sh0, eq, er]
        have e4 : (shF (fx h)).2.2 = pstL h4 s i.toNat := by rw [sh0, eq, er]; exact List.append_nil _
        have e3 : cfl n 43 (shF (fx h)).2.1 = (if (if 43 < n then (1 : Int) else 0) = 1 then (min n 43) else -1) := by
          rw [e2]
          unfold cfl
          rw [if_pos ⟨rfl, show p = min n 43 by omega⟩]
          by_cases z : 43 < n
          · rw [if_pos z, if_pos z, if_pos rfl]
          · rw [if_neg z, if_neg z, if_neg (by decide)]
        exact x_iret hK rfl ⟨by rw [e3], hG4, hF4, fun z => ⟨by rw [sh0]; exact d3, by rw [e4, pstL_l]; exact (d4).trans (by omega), by rw [e4]; exact d5, by rw [e4, pstL_l]⟩, (fun a k n1 n2 n3 n4 => oa a k n1 n2 n3 n4)⟩
      · refine x_if_ne 162 73 hK rfl rfl rfl (by omega) (fun c => by omega) (fun _ => ?_)
        refine x_iload_n 74 hK rfl rfl l3 ?_
        refine x_bipush 76 hK rfl rfl rfl ?_
        refine x_if_icmp_eq 88 79 hK rfl rfl rfl (by omega) (by omega) (fun c16 => ?_) (fun c16 => ?_)
        · refine x_aload_n 89 hK rfl rfl l1 ?_
          refine x_getE 92 hK rfl (Or.inl rfl) rfl (sp_1 (h := h4) hG4) (e := p) (d2) ?_
          have er : shP (fx h) w (10 - i).toNat a p = ((true, p), []) := by
            by_cases z : i = 10
            · rw [z]; rfl
            · rw [show (10 - i).toNat = (9 - i).toNat + 1 by omega]
              show (if fx h p = 44 then _ else _) = _
              rw [if_neg (by first | omega | (have := fe0 p (by omega); omega))]
          have e2 : (shF (fx h)).2.1 = (true, p) := by rw [sh0, eq, er]
          have e4 : (shF (fx h)).2.2 = pstL h4 s i.toNat := by rw [sh0, eq, er]; exact List.append_nil _
          have e3 : cfl n 43 (shF (fx h)).2.1 = p := by rw [e2]; exact if_neg (fun z => by have z2 : p = min n 43 := z.2; omega)
          exact x_iret hK rfl ⟨by rw [e3], hG4, hF4, fun z => by rw [e3] at z; omega, (fun a k n1 n2 n3 n4 => oa a k n1 n2 n3 n4)⟩
        · refine x_aload_n 80 hK rfl rfl l1 ?_
          refine x_bipush 82 hK rfl rfl rfl ?_
          have at267 : gi h4 1 2 = p := d2
          have fe267 : fx h4 = (fx h) := fx_F hF4 rfl rfl
          refine x_callV 85 hK hmono rfl rfl [.ref 1, .int (I 44)] [] rfl rfl (Nat.le_of_ble_eq_true rfl) (Nat.le_of_ble_eq_true rfl) rfl (sp_1 (h := h4) hG4) (CLd_le (Nat.le_of_ble_eq_true rfl) (ctX9_take hSP hG4 (s := 44) (by omega) (by omega))) ?_
          rw [fe267, at267]
          rintro v267 h267 ⟨hG267, hF267, ⟨rfl, tk267, eq267⟩ | ⟨rfl, tk267, eq267⟩⟩
          · refine x_if_ne 93 88 hK rfl rfl rfl (by omega) (fun _ => ?_) (fun c => by omega)
            refine x_aload_n 94 hK rfl rfl l1 ?_
            refine x_iconst 95 hK rfl rfl ?_
            have at268 : gi h267 1 2 = (p + 1) := eq267
            have fe268 : fx h267 = (fx h) := (fx_F hF267 rfl rfl).trans (fx_F hF4 rfl rfl)
            have to268 : gi h267 1 3 = (min n 43) := (FRM_gi hF267 (r := 1) rfl rfl).trans (s3)
            have mo268 : gi h267 1 4 = (if 43 < n then (1 : Int) else 0) := (FRM_gi hF267 (r := 1) rfl rfl).trans (s4)
            refine x_callV 98 hK hmono rfl rfl [.ref 1, .int (I 2)] [] rfl rfl (Nat.le_of_ble_eq_true rfl) (Nat.le_of_ble_eq_true rfl) rfl (sp_1 (h := h267) hG267) (CLd_le (Nat.le_of_ble_eq_true rfl) (ctX9_takeNumber hSP hG267 (n := 2) (by omega))) ?_
            rw [fe268, at268, to268, mo268]
            rintro v268 h268 ⟨⟨e268, rfl, nu268, ne268⟩, hG268, hF268, np268, nc268, nd268⟩
            have nm268 : nmF (fx h) 2 (p + 1) = (e268, gi h268 1 2) := by rw [nu268, np268]; rfl
            have nb268 : (p + 1) ≤ gi h268 1 2 ∧ gi h268 1 2 ≤ (min n 43) := by rw [np268]; exact ⟨(tkv_lb _ _ _ _).1, tkv_sp fe0 _ _ _ (by first | omega | (have q := fe0 p; omega))⟩
            have nz268 : 0 ≤ e268 → (p + 1) < gi h268 1 2 := fun z => by have := nmF_n (f := (fx h)) (n := 2) (p := (p + 1)) (by rw [nm268]; exact z); rw [nm268] at this; exact this
            have ny268 : e268 = -1 → gi h268 1 2 = (p + 1) := fun z => by
              rw [np268]
              by_cases c : (tkv (fx h) (Int.toNat 2) (p + 1) 0).2 = (p + 1)
              · exact c
              · rw [if_neg c] at nu268
                have := tkv_nn (f := (fx h)) (Int.toNat 2) (p + 1) 0 (by omega)
                omega
            clear nu268 np268
            generalize eq268 : gi h268 1 2 = p268 at *
            refine x_istore 100 hK rfl rfl _ rfl ?_
            refine x_iload 102 hK rfl rfl lk1_s ?_
            refine x_iconst 103 hK rfl rfl ?_
            refine x_if_icmp_ne 111 106 hK rfl rfl rfl (by omega) (by omega) (fun c30 => ?_) (fun c30 => ?_)
            · refine x_iload 113 hK rfl rfl lk1_s ?_
              refine x_iload_n 114 hK rfl rfl (lk1_n l2 (by decide) (Or.inl rfl)) ?_
              refine x_if_icmp_le 126 117 hK rfl rfl rfl (by omega) (by omega) (fun c33 => ?_) (fun c33 => ?_)
              · refine x_aload_n 127 hK rfl rfl (lk1_n l1 (by decide) (Or.inl rfl)) ?_
                refine x_getE 130 hK rfl (Or.inl rfl) rfl (sp_1 (h := h268) hG268) (e := p268) (eq268) ?_
                refine x_iconst 131 hK rfl rfl ?_
                refine x_isub 132 hK rfl rfl ?_
                have ni : nmI (fx h) 2 (a + 1) (w - 1) (p + 1) = (-1, p268 - 1) := by unfold nmI; rw [nm268, if_neg (show ¬ e268 < 0 by omega), if_neg (show ¬ (a + 1 ≤ e268 ∧ e268 ≤ w - 1) by omega)]
                have er : shP (fx h) w (10 - i).toNat a p = ((false, (p268 - 1)), []) := by
                  rw [show (10 - i).toNat = (9 - i).toNat + 1 by omega]
                  show (if fx h p = 44 then _ else _) = _
                  rw [if_pos (by omega)]
                  rw [ni, if_pos (show (-1 : Int) < 0 by decide)]
                have e2 : (shF (fx h)).2.1 = (false, (p268 - 1)) := by rw [sh0, eq, er]
                have e3 : cfl n 43 (shF (fx h)).2.1 = (p268 - 1) := by rw [e2]; exact if_neg (fun z => absurd (show false = true from z.1) (by decide))
                exact x_iret hK rfl ⟨by rw [e3], hG268, ((hF4).trans ((hF267).mono rfl)).trans ((hF268).mono rfl), fun z => by rw [e3] at z; omega, (fun a k n1 n2 n3 n4 => (one1 hF268 rfl n1 k).trans ((one1 hF267 rfl n1 k).trans (oa a k n1 n2 n3 n4)))⟩
              · refine x_iload 119 hK rfl rfl lk1_s ?_
                refine x_aload_n 120 hK rfl rfl (lk1_n l0 (by decide) (Or.inl rfl)) ?_
                refine x_getE 123 hK rfl (Or.inl rfl) rfl (shx (h := h268) hG268 (r := 5) (ss_r hs).1 rfl) (e := w) ((FRM_gi hF268 (r := 5) (ss_r hs).1 rfl).trans ((FRM_gi hF267 (r := 5) (ss_r hs).1 rfl).trans (d3))) ?_
                refine x_if_icmp_lt 133 126 hK rfl rfl rfl (by omega) (by omega) (fun c42 => ?_) (fun c42 => ?_)
                · refine x_iload 135 hK rfl rfl lk1_s ?_
                  refine x_istore_n 136 hK rfl rfl _ rfl ?_
                  refine x_aload_n 137 hK rfl rfl (lk1_n (lk1_n l0 (by decide) (Or.inl rfl)) (by decide) (Or.inl rfl)) ?_
                  refine x_iload 139 hK rfl rfl (lk1_n lk1_s (by decide) (Or.inl rfl)) ?_
                  refine x_aload_n 140 hK rfl rfl (lk1_n (lk1_n l1 (by decide) (Or.inl rfl)) (by decide) (Or.inl rfl)) ?_
                  refine x_bipush 142 hK rfl rfl rfl ?_
                  have at269 : gi h268 1 2 = p268 := eq268
                  have fe269 : fx h268 = (fx h) := (fx_F hF268 rfl rfl).trans ((fx_F hF267 rfl rfl).trans (fx_F hF4 rfl rfl))
                  refine x_callV 145 hK hmono rfl rfl [.ref 1, .int (I 42)] [.int (I e268), .ref s] rfl rfl (Nat.le_of_ble_eq_true rfl) (Nat.le_of_ble_eq_true rfl) rfl (sp_1 (h := h268) hG268) (CLd_le (Nat.le_of_ble_eq_true rfl) (ctX9_take hSP hG268 (s := 42) (by omega) (by omega))) ?_
                  rw [fe269, at269]
                  rintro v269 h269 ⟨hG269, hF269, ⟨rfl, tk269, eq269⟩ | ⟨rfl, tk269, eq269⟩⟩
                  · refine x_if_eq 152 148 hK rfl rfl rfl (by omega) (fun c => by omega) (fun _ => ?_)
                    refine x_iconst 149 hK rfl rfl ?_
                    refine x_goto 153 hK rfl rfl ?_
                    have z1 : gi h269 s 1 = i := (FRM_gi hF269 (r := 5) (ss_r hs).1 rfl).trans ((FRM_gi hF268 (r := 5) (ss_r hs).1 rfl).trans ((FRM_gi hF267 (r := 5) (ss_r hs).1 rfl).trans (d4)))
                    have z2 : gi h269 s 2 = lsum (pstL h4 s i.toNat) := (FRM_gi hF269 (r := 5) (ss_r hs).1 rfl).trans ((FRM_gi hF268 (r := 5) (ss_r hs).1 rfl).trans ((FRM_gi hF267 (r := 5) (ss_r hs).1 rfl).trans (d5)))
                    have z0 : gi h269 s 0 = w := (FRM_gi hF269 (r := 5) (ss_r hs).1 rfl).trans ((FRM_gi hF268 (r := 5) (ss_r hs).1 rfl).trans ((FRM_gi hF267 (r := 5) (ss_r hs).1 rfl).trans (d3)))
                    have zl : pstL h269 s i.toNat = pstL h4 s i.toNat := pstL_eq fun j hj => ⟨(FRM_gi hF269 (r := 6) (ss_r hs).2.1 rfl).trans ((FRM_gi hF268 (r := 6) (ss_r hs).2.1 rfl).trans (FRM_gi hF267 (r := 6) (ss_r hs).2.1 rfl)), (FRM_gi hF269 (r := 7) (ss_r hs).2.2 rfl).trans ((FRM_gi hF268 (r := 7) (ss_r hs).2.2 rfl).trans (FRM_gi hF267 (r := 7) (ss_r hs).2.2 rfl))⟩
                    refine x_callV 156 hK hmono rfl rfl [.ref s, .int (I e268), .int (I 1)] [] rfl rfl (Nat.le_of_ble_eq_true rfl) (Nat.le_of_ble_eq_true rfl) rfl (shx (h := h269) hG269 (r := 5) (ss_r hs).1 rfl) (CLd_le (Nat.le_of_ble_eq_true rfl) (ctX6_addPost hSP hG269 (PT_F hF269 (by decide) (PT_F hF268 (by decide) (PT_F hF267 (by decide) (PT_F hF4 (by decide) hP)))) hs (by omega) (by omega) (by omega) (by omega))) ?_
                    rintro v270 h270 ⟨rfl, hG270, hF270, a1270, a2270, a0270, al270, oa270⟩
                    rw [z1] at a1270 al270
                    rw [z2] at a2270
                    rw [z0] at a0270
                    rw [zl] at al270
                    refine x_iinc 159 hK rfl rfl (lk1_n (lk1_n l3 (by decide) (Or.inl rfl)) (by decide) (Or.inl rfl)) _ rfl ?_
                    refine x_goto 60 hK rfl rfl ?_
                    have ni : nmI (fx h) 2 (a + 1) (w - 1) (p + 1) = (e268, p268) := by unfold nmI; rw [nm268, if_neg (show ¬ e268 < 0 by omega), if_pos (show a + 1 ≤ e268 ∧ e268 ≤ w - 1 by omega)]
                    have er : shP (fx h) w (10 - i).toNat a p = ((shP (fx h) w (10 - (i + 1)).toNat e268 (p268 + 1)).1, (e268, 1) :: (shP (fx h) w (10 - (i + 1)).toNat e268 (p268 + 1)).2) := by
                      rw [show (10 - i).toNat = (10 - (i + 1)).toNat + 1 by omega]
                      show (if fx h p = 44 then _ else _) = _
                      rw [if_pos (by omega), ni, if_neg (show ¬ e268 < 0 by omega)]
                      show (if fx h p268 = 42 then _ else _) = _
                      rw [if_pos (by omega)]
                    have sl : lsum (pstL h270 s (i + 1).toNat) = lsum (pstL h4 s i.toNat) + 1 := by rw [al270, lsum_snoc]
                    have pl : p268 < min n 43 := by
                      by_cases z : min n 43 ≤ p268
                      · have := fe0 p268 z; omega
                      · omega
                    exact ih _ (by omega) e268 (i + 1) (p268 + 1) w _ _ rfl (by omega) (by omega) (w0) (wd) (by omega) ((FRM_gi hF270 (r := 1) rfl rfl).trans (eq269)) (a0270) (a1270) ((a2270).trans sl.symm) (by rw [sl]; omega) (by rw [eq, er, al270, List.append_assoc]; rfl) ((fun a k n1 n2 n3 n4 => (oa270 a k n1 n2 n3 n4).trans ((one1 hF269 rfl n1 k).trans ((one1 hF268 rfl n1 k).trans ((one1 hF267 rfl n1 k).trans (oa a k n1 n2 n3 n4)))))) (lk1_n (lk1_n (lk1_n l0 (by decide) (Or.inl rfl)) (by decide) (Or.inl rfl)) (by decide) (Or.inl rfl)) (lk1_n (lk1_n (lk1_n l1 (by decide) (Or.inl rfl)) (by decide) (Or.inl rfl)) (by decide) (Or.inl rfl)) (lk1_n lk1_s (by decide) (Or.inl rfl)) lk1_s (hG270) (((((hF4).trans ((hF267).mono rfl)).trans ((hF268).mono rfl)).trans ((hF269).mono rfl)).trans ((hF270).mono rfl))
                  · refine x_if_eq 152 148 hK rfl rfl rfl (by omega) (fun _ => ?_) (fun c => by omega)
                    refine x_iconst 153 hK rfl rfl ?_
                    have z1 : gi h269 s 1 = i := (FRM_gi hF269 (r := 5) (ss_r hs).1 rfl).trans ((FRM_gi hF268 (r := 5) (ss_r hs).1 rfl).trans ((FRM_gi hF267 (r := 5) (ss_r hs).1 rfl).trans (d4)))
                    have z2 : gi h269 s 2 = lsum (pstL h4 s i.toNat) := (FRM_gi hF269 (r := 5) (ss_r hs).1 rfl).trans ((FRM_gi hF268 (r := 5) (ss_r hs).1 rfl).trans ((FRM_gi hF267 (r := 5) (ss_r hs).1 rfl).trans (d5)))
                    have z0 : gi h269 s 0 = w := (FRM_gi hF269 (r := 5) (ss_r hs).1 rfl).trans ((FRM_gi hF268 (r := 5) (ss_r hs).1 rfl).trans ((FRM_gi hF267 (r := 5) (ss_r hs).1 rfl).trans (d3)))
                    have zl : pstL h269 s i.toNat = pstL h4 s i.toNat := pstL_eq fun j hj => ⟨(FRM_gi hF269 (r := 6) (ss_r hs).2.1 rfl).trans ((FRM_gi hF268 (r := 6) (ss_r hs).2.1 rfl).trans (FRM_gi hF267 (r := 6) (ss_r hs).2.1 rfl)), (FRM_gi hF269 (r := 7) (ss_r hs).2.2 rfl).trans ((FRM_gi hF268 (r := 7) (ss_r hs).2.2 rfl).trans (FRM_gi hF267 (r := 7) (ss_r hs).2.2 rfl))⟩
                    refine x_callV 156 hK hmono rfl rfl [.ref s, .int (I e268), .int (I 0)] [] rfl rfl (Nat.le_of_ble_eq_true rfl) (Nat.le_of_ble_eq_true rfl) rfl (shx (h := h269) hG269 (r := 5) (ss_r hs).1 rfl) (CLd_le (Nat.le_of_ble_eq_true rfl) (ctX6_addPost hSP hG269 (PT_F hF269 (by decide) (PT_F hF268 (by decide) (PT_F hF267 (by decide) (PT_F hF4 (by decide) hP)))) hs (by omega) (by omega) (by omega) (by omega))) ?_
                    rintro v271 h271 ⟨rfl, hG271, hF271, a1271, a2271, a0271, al271, oa271⟩
                    rw [z1] at a1271 al271
                    rw [z2] at a2271
                    rw [z0] at a0271
                    rw [zl] at al271
                    refine x_iinc 159 hK rfl rfl (lk1_n (lk1_n l3 (by decide) (Or.inl rfl)) (by decide) (Or.inl rfl)) _ rfl ?_
                    refine x_goto 60 hK rfl rfl ?_
                    have ni : nmI (fx h) 2 (a + 1) (w - 1) (p + 1) = (e268, p268) := by unfold nmI; rw [nm268, if_neg (show ¬ e268 < 0 by omega), if_pos (show a + 1 ≤ e268 ∧ e268 ≤ w - 1 by omega)]
                    have er : shP (fx h) w (10 - i).toNat a p = ((shP (fx h) w (10 - (i + 1)).toNat e268 p268).1, (e268, 0) :: (shP (fx h) w (10 - (i + 1)).toNat e268 p268).2) := by
                      rw [show (10 - i).toNat = (10 - (i + 1)).toNat + 1 by omega]
                      show (if fx h p = 44 then _ else _) = _
                      rw [if_pos (by omega), ni, if_neg (show ¬ e268 < 0 by omega)]
                      show (if fx h p268 = 42 then _ else _) = _
                      rw [if_neg (by omega)]
                    have sl : lsum (pstL h271 s (i + 1).toNat) = lsum (pstL h4 s i.toNat) + 0 := by rw [al271, lsum_snoc]
                    exact ih _ (by omega) e268 (i + 1) p268 w _ _ rfl (by omega) (by omega) (w0) (wd) (by omega) ((FRM_gi hF271 (r := 1) rfl rfl).trans (eq269)) (a0271) (a1271) ((a2271).trans sl.symm) (by rw [sl]; omega) (by rw [eq, er, al271, List.append_assoc]; rfl) ((fun a k n1 n2 n3 n4 => (oa271 a k n1 n2 n3 n4).trans ((one1 hF269 rfl n1 k).trans ((one1 hF268 rfl n1 k).trans ((one1 hF267 rfl n1 k).trans (oa a k n1 n2 n3 n4)))))) (lk1_n (lk1_n (lk1_n l0 (by decide) (Or.inl rfl)) (by decide) (Or.inl rfl)) (by decide) (Or.inl rfl)) (lk1_n (lk1_n (lk1_n l1 (by decide) (Or.inl rfl)) (by decide) (Or.inl rfl)) (by decide) (Or.inl rfl)) (lk1_n lk1_s (by decide) (Or.inl rfl)) lk1_s (hG271) (((((hF4).trans ((hF267).mono rfl)).trans ((hF268).mono rfl)).trans ((hF269).mono rfl)).trans ((hF271).mono rfl))
                · refine x_aload_n 127 hK rfl rfl (lk1_n l1 (by decide) (Or.inl rfl)) ?_
                  refine x_getE 130 hK rfl (Or.inl rfl) rfl (sp_1 (h := h268) hG268) (e := p268) (eq268) ?_
                  refine x_iconst 131 hK rfl rfl ?_
                  refine x_isub 132 hK rfl rfl ?_
                  have ni : nmI (fx h) 2 (a + 1) (w - 1) (p + 1) = (-1, p268 - 1) := by unfold nmI; rw [nm268, if_neg (show ¬ e268 < 0 by omega), if_neg (show ¬ (a + 1 ≤ e268 ∧ e268 ≤ w - 1) by omega)]
                  have er : shP (fx h) w (10 - i).toNat a p = ((false, (p268 - 1)), []) := by
                    rw [show (10 - i).toNat = (9 - i).toNat + 1 by omega]
                    show (if fx h p = 44 then _ else _) = _
                    rw [if_pos (by omega)]
                    rw [ni, if_pos (show (-1 : Int) < 0 by decide)]
                  have e2 : (shF (fx h)).2.1 = (false, (p268 - 1)) := by rw [sh0, eq, er]
                  have e3 : cfl n 43 (shF (fx h)).2.1 = (p268 - 1) := by rw [e2]; exact if_neg (fun z => absurd (show false = true from z.1) (by decide))
                  exact x_iret hK rfl ⟨by rw [e3], hG268, ((hF4).trans ((hF267).mono rfl)).trans ((hF268).mono rfl), fun z => by rw [e3] at z; omega, (fun a k n1 n2 n3 n4 => (one1 hF268 rfl n1 k).trans ((one1 hF267 rfl n1 k).trans (oa a k n1 n2 n3 n4)))⟩
            · refine x_aload_n 107 hK rfl rfl (lk1_n l1 (by decide) (Or.inl rfl)) ?_
              refine x_getE 110 hK rfl (Or.inl rfl) rfl (sp_1 (h := h268) hG268) (e := p268) (eq268) ?_
              have ni : nmI (fx h) 2 (a + 1) (w - 1) (p + 1) = (e268, p268) := by unfold nmI; rw [nm268, if_pos (show e268 < 0 by omega)]
              have er : shP (fx h) w (10 - i).toNat a p = ((false, p268), []) := by
                rw [show (10 - i).toNat = (9 - i).toNat + 1 by omega]
                show (if fx h p = 44 then _ else _) = _
                rw [if_pos (by omega)]
                rw [ni, if_pos (show e268 < 0 by omega)]
              have e2 : (shF (fx h)).2.1 = (false, p268) := by rw [sh0, eq, er]
              have e3 : cfl n 43 (shF (fx h)).2.1 = p268 := by rw [e2]; exact if_neg (fun z => absurd (show false = true from z.1) (by decide))
              exact x_iret hK rfl ⟨by rw [e3], hG268, ((hF4).trans ((hF267).mono rfl)).trans ((hF268).mono rfl), fun z => by rw [e3] at z; omega, (fun a k n1 n2 n3 n4 => (one1 hF268 rfl n1 k).trans ((one1 hF267 rfl n1 k).trans (oa a k n1 n2 n3 n4)))⟩
          · refine x_if_ne 93 88 hK rfl rfl rfl (by omega) (fun c => by omega) (fun _ => ?_)
            refine x_aload_n 89 hK rfl rfl l1 ?_
            refine x_getE 92 hK rfl (Or.inl rfl) rfl (sp_1 (h := h267) hG267) (e := p) (eq267) ?_
            have er : shP (fx h) w (10 - i).toNat a p = ((true, p), []) := by
              by_cases z : i = 10
              · rw [z]; rfl
              · rw [show (10 - i).toNat = (9 - i).toNat + 1 by omega]
                show (if fx h p = 44 then _ else _) = _
                rw [if_neg (by first | omega | (have := fe0 p (by omega); omega))]
            have e2 : (shF (fx h)).2.1 = (true, p) := by rw [sh0, eq, er]
            have e4 : (shF (fx h)).2.2 = pstL h4 s i.toNat := by rw [sh0, eq, er]; exact List.append_nil _
            have e3 : cfl n 43 (shF (fx h)).2.1 = p := by rw [e2]; exact if_neg (fun z => by have z2 : p = min n 43 := z.2; omega)
            exact x_iret hK rfl ⟨by rw [e3], hG267, (hF4).trans ((hF267).mono rfl), fun z => by rw [e3] at z; omega, (fun a k n1 n2 n3 n4 => (one1 hF267 rfl n1 k).trans (oa a k n1 n2 n3 n4))⟩
  refine x_aload_n 1 hK rfl rfl rfl ?_
  refine x_iconst 2 hK rfl rfl ?_
  refine x_putI 5 hK rfl rfl (shx (h := h) hG (r := 5) (ss_r hs).1 rfl) ?_
  refine x_aload_n 6 hK rfl rfl rfl ?_
  refine x_iconst 7 hK rfl rfl ?_
  refine x_putI 10 hK rfl rfl (shx (h := h) hG (r := 5) (ss_r hs).1 rfl) ?_
  refine x_aload_n 11 hK rfl rfl rfl ?_
  refine x_aload_n 12 hK rfl rfl rfl ?_
  refine x_iconst 13 hK rfl rfl ?_
  have hGp273 : GD gE gRL sh (wI (wI h s 1 0) s 2 0) := GD_w0 (GD_w1 (hG) (r := 5) (ss_r hs).1 (by omega) rfl (by omega) (by omega)) (r := 5) (ss_r hs).1 rfl
  have at272 : gi (wI (wI h s 1 0) s 2 0) 1 2 = 0 := (gi_a (by omega) _).trans ((gi_a (by omega) _).trans (h12))
  have fe272 : fx (wI (wI h s 1 0) s 2 0) = (fx h) := (fx_wI (by omega) (Or.inl (by omega))).trans (fx_wI (by omega) (Or.inl (by omega)))
  have to272 : gi (wI (wI h s 1 0) s 2 0) 1 3 = (min n 43) := (gi_a (by omega) _).trans ((gi_a (by omega) _).trans (h13))
  have mo272 : gi (wI (wI h s 1 0) s 2 0) 1 4 = (if 43 < n then (1 : Int) else 0) := (gi_a (by omega) _).trans ((gi_a (by omega) _).trans (h14))
  refine x_callV 16 hK hmono rfl rfl [.ref 1, .int (I 2)] [.ref s] rfl rfl (Nat.le_of_ble_eq_true rfl) (Nat.le_of_ble_eq_true rfl) rfl (sp_1 (h := h) hG) (CLd_le (Nat.le_of_ble_eq_true rfl) (ctX9_takeNumber hSP hGp273 (n := 2) (by omega))) ?_
  rw [fe272, at272, to272, mo272]
  rintro v272 h272 ⟨⟨e272, rfl, nu272, ne272⟩, hG272, hF272, np272, nc272, nd272⟩
  have nm272 : nmF (fx h) 2 0 = (e272, gi h272 1 2) := by rw [nu272, np272]; rfl
  have nb272 : 0 ≤ gi h272 1 2 ∧ gi h272 1 2 ≤ (min n 43) := by rw [np272]; exact ⟨(tkv_lb _ _ _ _).1, tkv_sp fe0 _ _ _ (by first | omega | (have q := fe0 0; omega))⟩
  have nz272 : 0 ≤ e272 → 0 < gi h272 1 2 := fun z => by have := nmF_n (f := (fx h)) (n := 2) (p := 0) (by rw [nm272]; exact z); rw [nm272] at this; exact this
  have ny272 : e272 = -1 → gi h272 1 2 = 0 := fun z => by
    rw [np272]
    by_cases c : (tkv (fx h) (Int.toNat 2) 0 0).2 = 0
    · exact c
    · rw [if_neg c] at nu272
      have := tkv_nn (f := (fx h)) (Int.toNat 2) 0 0 (by omega)
      omega
  clear nu272 np272
  generalize eq272 : gi h272 1 2 = p272 at *
  refine x_putI 19 hK rfl rfl (shx (h := h272) hG272 (r := 5) (ss_r hs).1 rfl) ?_
  refine x_aload_n 20 hK rfl rfl rfl ?_
  refine x_getE 23 hK rfl (Or.inl rfl) rfl (shx (h := h272) hG272 (r := 5) (ss_r hs).1 rfl) (e := e272) (gi_same (by omega)) ?_
  refine x_iconst 24 hK rfl rfl ?_
  refine x_if_icmp_ne 32 27 hK rfl rfl rfl (by omega) (by omega) (fun c15 => ?_) (fun c15 => ?_)
  · refine x_aload_n 33 hK rfl rfl rfl ?_
    refine x_getE 36 hK rfl (Or.inl rfl) rfl (shx (h := h272) hG272 (r := 5) (ss_r hs).1 rfl) (e := e272) (gi_same (by omega)) ?_
    refine x_iconst 37 hK rfl rfl ?_
    refine x_if_icmp_lt 49 40 hK rfl rfl rfl (by omega) (by omega) (fun c19 => ?_) (fun c19 => ?_)
    · refine x_aload_n 50 hK rfl rfl rfl ?_
      refine x_getE 53 hK rfl (Or.inl rfl) rfl (sp_1 (h := h272) hG272) (e := p272) ((gi_a (by omega) _).trans (eq272)) ?_
      refine x_iconst 54 hK rfl rfl ?_
      refine x_isub 55 hK rfl rfl ?_
      have ni : nmI (fx h) 2 2 40 0 = (-1, p272 - 1) := by unfold nmI; rw [nm272, if_neg (show ¬ e272 < 0 by omega), if_neg (show ¬ (2 ≤ e272 ∧ e272 ≤ 40) by omega)]
      have e2 : (shF (fx h)).2.1 = (false, (p272 - 1)) := by unfold shF; rw [ni, if_neg (show ¬ (0 : Int) < (-1) by omega)]
      have e3 : cfl n 43 (shF (fx h)).2.1 = (p272 - 1) := by rw [e2]; exact if_neg (fun z => absurd (show false = true from z.1) (by decide))
      exact x_iret hK rfl ⟨by rw [e3], GD_w1 (hG272) (r := 5) (ss_r hs).1 (by omega) rfl (by omega) (by omega), FRM_w ((FRM_w (FRM_w ((FRM.rf : FRM gRL [(0, 1, 2, 2), (0, 1, 5, 5), (0, 5, 0, 2), (0, 6, 0, 9), (0, 7, 0, 9)] h h)) (r := 5) (ss_r hs).1 rfl) (r := 5) (ss_r hs).1 rfl).trans ((hF272).mono rfl)) (r := 5) (ss_r hs).1 rfl, fun z => by rw [e3] at z; omega, (fun a k n1 n2 n3 n4 => (gi_a (by omega) _).trans ((one1 hF272 rfl n1 k).trans ((gi_a (by omega) _).trans (gi_a (by omega) _))))⟩
    · refine x_aload_n 41 hK rfl rfl rfl ?_
      refine x_getE 44 hK rfl (Or.inl rfl) rfl (shx (h := h272) hG272 (r := 5) (ss_r hs).1 rfl) (e := e272) (gi_same (by omega)) ?_
      refine x_bipush 46 hK rfl rfl rfl ?_
      refine x_if_icmp_le 56 49 hK rfl rfl rfl (by omega) (by omega) (fun c28 => ?_) (fun c28 => ?_)
      · refine x_iconst 57 hK rfl rfl ?_
        refine x_istore_n 58 hK rfl rfl [(2, .int (I (-1))), (0, .ref s), (1, .ref 1)] rfl ?_
        refine x_iconst 59 hK rfl rfl ?_
        refine x_istore_n 60 hK rfl rfl [(3, .int (I 0)), (2, .int (I (-1))), (0, .ref s), (1, .ref 1)] rfl ?_
        have ni : nmI (fx h) 2 2 40 0 = (e272, p272) := by unfold nmI; rw [nm272, if_neg (show ¬ e272 < 0 by omega), if_pos (show 2 ≤ e272 ∧ e272 ≤ 40 by omega)]
        exact loop _ (-1) 0 p272 e272 _ _ rfl (by omega) (by omega) (by omega) (by rw [ni]) (by omega) ((gi_a (by omega) _).trans (eq272)) (gi_same (by omega)) ((gi_k (by decide) _).trans ((FRM_gi hF272 (r := 5) (ss_r hs).1 rfl).trans ((gi_k (by decide) _).trans (gi_same (by omega))))) (((gi_k (by decide) _).trans ((FRM_gi hF272 (r := 5) (ss_r hs).1 rfl).trans (gi_same (by omega)))).trans rfl) (by show (0 : Int) ≤ 0 ∧ (0 : Int) ≤ 0; omega) (by rw [ni]; rfl) ((fun a k n1 n2 n3 n4 => (gi_a (by omega) _).trans ((one1 hF272 rfl n1 k).trans ((gi_a (by omega) _).trans (gi_a (by omega) _))))) rfl rfl rfl rfl (GD_w1 (hG272) (r := 5) (ss_r hs).1 (by omega) rfl (by omega) (by omega)) (FRM_w ((FRM_w (FRM_w ((FRM.rf : FRM gRL [(0, 1, 2, 2), (0, 1, 5, 5), (0, 5, 0, 2), (0, 6, 0, 9), (0, 7, 0, 9)] h h)) (r := 5) (ss_r hs).1 rfl) (r := 5) (ss_r hs).1 rfl).trans ((hF272).mono rfl)) (r := 5) (ss_r hs).1 rfl)
      · refine x_aload_n 50 hK rfl rfl rfl ?_
        refine x_getE 53 hK rfl (Or.inl rfl) rfl (sp_1 (h := h272) hG272) (e := p272) ((gi_a (by omega) _).trans (eq272)) ?_
        refine x_iconst 54 hK rfl rfl ?_
        refine x_isub 55 hK rfl rfl ?_
        have ni : nmI (fx h) 2 2 40 0 = (-1, p272 - 1) := by unfold nmI; rw [nm272, if_neg (show ¬ e272 < 0 by omega), if_neg (show ¬ (2 ≤ e272 ∧ e272 ≤ 40) by omega)]
        have e2 : (shF (fx h)).2.1 = (false, (p272 - 1)) := by unfold shF; rw [ni, if_neg (show ¬ (0 : Int) < (-1) by omega)]
        have e3 : cfl n 43 (shF (fx h)).2.1 = (p272 - 1) := by rw [e2]; exact if_neg (fun z => absurd (show false = true from z.1) (by decide))
        exact x_iret hK rfl ⟨by rw [e3], GD_w1 (hG272) (r := 5) (ss_r hs).1 (by omega) rfl (by omega) (by omega), FRM_w ((FRM_w (FRM_w ((FRM.rf : FRM gRL [(0, 1, 2, 2), (0, 1, 5, 5), (0, 5, 0, 2), (0, 6, 0, 9), (0, 7, 0, 9)] h h)) (r := 5) (ss_r hs).1 rfl) (r := 5) (ss_r hs).1 rfl).trans ((hF272).mono rfl)) (r := 5) (ss_r hs).1 rfl, fun z => by rw [e3] at z; omega, (fun a k n1 n2 n3 n4 => (gi_a (by omega) _).trans ((one1 hF272 rfl n1 k).trans ((gi_a (by omega) _).trans (gi_a (by omega) _))))⟩
  · refine x_aload_n 28 hK rfl rfl rfl ?_
    refine x_getE 31 hK rfl (Or.inl rfl) rfl (sp_1 (h := h272) hG272) (e := p272) ((gi_a (by omega) _).trans (eq272)) ?_
    have ni : nmI (fx h) 2 2 40 0 = (e272, p272) := by unfold nmI; rw [nm272, if_pos (show e272 < 0 by omega)]
    have e2 : (shF (fx h)).2.1 = (false, p272) := by unfold shF; rw [ni, if_neg (show ¬ (0 : Int) < e272 by omega)]
    have e3 : cfl n 43 (shF (fx h)).2.1 = p272 := by rw [e2]; exact if_neg (fun z => absurd (show false = true from z.1) (by decide))
    exact x_iret hK rfl ⟨by rw [e3], GD_w1 (hG272) (r := 5) (ss_r hs).1 (by omega) rfl (by omega) (by omega), FRM_w ((FRM_w (FRM_w ((FRM.rf : FRM gRL [(0, 1, 2, 2), (0, 1, 5, 5), (0, 5, 0, 2), (0, 6, 0, 9), (0, 7, 0, 9)] h h)) (r := 5) (ss_r hs).1 rfl) (r := 5) (ss_r hs).1 rfl).trans ((hF272).mono rfl)) (r := 5) (ss_r hs).1 rfl, fun z => by rw [e3] at z; omega, (fun a k n1 n2 n3 n4 => (gi_a (by omega) _).trans ((one1 hF272 rfl n1 k).trans ((gi_a (by omega) _).trans (gi_a (by omega) _))))⟩
