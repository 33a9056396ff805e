/-! ORDERS, FOOD, STEPS BY CALLS (the reference), as what they make of a state -/
/-- why an order is refused; the state behind one -/
def gvR (v : Int) (w : WS) : Int := if ¬ (-1 ≤ v ∧ v ≤ 1) then -1 else if w.2.2.2.1 = w.1 then -2 else if w.2.2.2.2.1.length = 12 then -3 else 0
def gvW (d v : Int) (w : WS) : WS := (w.1, w.2.1, w.2.2.1, w.1, w.2.2.2.2.1 ++ [(w.1 + d, v, w.1)], w.2.2.2.2.2)
def tvF (l v : Int) : Int := if l.tmod 2 = 1 then -v else v
theorem tvF_b {l v : Int} (h : -1 ≤ v ∧ v ≤ 1) : -1 ≤ tvF l v ∧ tvF l v ≤ 1 := by unfold tvF; split <;> omega
theorem wl_len {h : aH} {a : Nat} (hn : 0 ≤ gi h a 3 ∧ gi h a 3 ≤ 12) : ((wl (RC h a 0)).length : Int) = gi h a 3 := by rw [wl_RC hn.2, wlK_l]; omega
def othF (m a : Int) : Int := if a = 1 then m + 1 else m - 1
/-- why FOOD isn't passed; the state behind it -/
def psR (ms : Int) (fd : Nat → Int) (m n a : Int) : Int :=
  if ¬ ((0 ≤ m ∧ m < ms) ∧ (0 ≤ a ∧ a ≤ 1) ∧ (0 ≤ othF m a ∧ othF m a < ms) ∧ 1 ≤ n ∧ n ≤ 99) then -1 else if fd m.toNat < n then -2 else if 99 < fd (othF m a).toNat + n then -3 else 0
def psW (m n a : Int) (w : WS) : WS := (w.1, w.2.1, w.2.2.1, w.2.2.2.1, w.2.2.2.2.1, (fun j => if (j : Int) = m then w.2.2.2.2.2.1 j - n else if (j : Int) = othF m a then w.2.2.2.2.2.1 j + n else w.2.2.2.2.2.1 j), w.2.2.2.2.2.2)
def ckOk (ms m n : Int) : Prop := (0 ≤ m ∧ m < ms) ∧ 0 ≤ n ∧ n ≤ 99
def ckW (m n : Int) (w : WS) : WS := (w.1, w.2.1, w.2.2.1, w.2.2.2.1, w.2.2.2.2.1, (fun j => if (j : Int) = m then n else w.2.2.2.2.2.1 j), w.2.2.2.2.2.2)
/-- the states that can be brought back, the eldest first -/
def UL (h : aH) : List (Nat → Int) := (List.range (gi h 171 29).toNat).map fun u => RC h 186 (57 * u)
def pushU (l : List (Nat → Int)) (x : Nat → Int) : List (Nat → Int) := if l.length < 15 then l ++ [x] else l.drop 1 ++ [x]
theorem UL_l (h : aH) : (UL h).length = (gi h 171 29).toNat := by unfold UL; rw [List.length_map, List.length_range]
theorem UL_eq {h h' : aH} (e : gi h' 171 29 = gi h 171 29) (f : ∀ u : Nat, (u : Int) < gi h 171 29 → RC h' 186 (57 * u) = RC h 186 (57 * u)) : UL h' = UL h := by
  unfold UL
  rw [e]
  refine List.map_congr_left fun u hu => f u ?_
  have := List.mem_range.mp hu
  omega
/-- put by, then counted -/
theorem UL_push {h h1 h' : aH} {x : Nat → Int} (hu : 0 ≤ gi h 171 29 ∧ gi h 171 29 ≤ 15) (e1 : gi h1 171 29 = gi h 171 29) (f0 : RC h1 186 (57 * (gi h 171 29).toNat) = x) (f1 : ∀ v, v ≠ (gi h 171 29).toNat → RC h1 186 (57 * v) = RC h 186 (57 * v))
    (e2 : gi h' 171 29 = min 15 (gi h1 171 29 + 1)) (a1 : gi h1 171 29 < 15 → ∀ v, RC h' 186 (57 * v) = RC h1 186 (57 * v)) (a2 : gi h1 171 29 = 15 → (∀ v, v < 15 → RC h' 186 (57 * v) = RC h1 186 (57 * (v + 1))) ∧ RC h' 186 (57 * 15) = RC h1 186 (57 * 15)) : UL h' = pushU (UL h) x := by
  obtain ⟨n, hn⟩ : ∃ n : Nat, gi h 171 29 = n := ⟨(gi h 171 29).toNat, by omega⟩
  rw [e1] at e2 a1 a2
  rw [hn] at e2 a1 a2 f0 f1
  rw [show ((n : Int)).toNat = n from rfl] at f0 f1
  unfold pushU
  rw [UL_l, hn, show ((n : Int)).toNat = n from rfl]
  by_cases c : n < 15
  · rw [if_pos c]
    unfold UL
    rw [e2, hn, show (min 15 ((n : Int) + 1)).toNat = n + 1 by omega, show ((n : Int)).toNat = n from rfl, List.range_succ, List.map_append, List.map_cons, List.map_nil, a1 (by omega), f0]
    congr 1
    refine List.map_congr_left fun u hu => ?_
    have := List.mem_range.mp hu
    rw [a1 (by omega), f1 u (by omega)]
  · rw [if_neg c]
    obtain rfl : n = 15 := by omega
    obtain ⟨b1, b2⟩ := a2 rfl
    have r15 : (UL h).drop 1 = (List.range 14).map fun u => RC h 186 (57 * (u + 1)) := by unfold UL; rw [hn]; rfl
    rw [r15]
    unfold UL
    rw [e2]
    show (List.range (14 + 1)).map _ = _
    rw [List.range_succ, List.map_append, List.map_cons, List.map_nil, b1 14 (by omega), f0]
    congr 1
    refine List.map_congr_left fun u hu => ?_
    have := List.mem_range.mp hu
    rw [b1 u (by omega), f1 (u + 1) (by omega)]
theorem AW_push {b : Int} {h h1 h' : aH} (w : AW b h) (hu : 0 ≤ gi h 171 29 ∧ gi h 171 29 ≤ 15) (wx : WB b (RC h' 178 0)) (e1 : gi h1 171 29 = gi h 171 29) (f0 : RC h1 186 (57 * (gi h 171 29).toNat) = RC h 178 0) (f1 : ∀ v, v ≠ (gi h 171 29).toNat → RC h1 186 (57 * v) = RC h 186 (57 * v)) (e3 : ∀ u, u < 3 → RC h' 200 (57 * u) = RC h 200 (57 * u))
    (a1 : gi h1 171 29 < 15 → ∀ v, RC h' 186 (57 * v) = RC h1 186 (57 * v)) (a2 : gi h1 171 29 = 15 → (∀ v, v < 15 → RC h' 186 (57 * v) = RC h1 186 (57 * (v + 1))) ∧ RC h' 186 (57 * 15) = RC h1 186 (57 * 15)) : AW b h' := by
  have g1 : ∀ v, v < 16 → WB b (RC h1 186 (57 * v)) := fun v hv => by
    by_cases c : v = (gi h 171 29).toNat
    · rw [c, f0]; exact w.1
    · rw [f1 v c]; exact w.2.1 v hv
  refine ⟨wx, fun v hv => ?_, fun v hv => by rw [e3 v hv]; exact w.2.2 v hv⟩
  rw [e1] at a1 a2
  by_cases c : gi h 171 29 < 15
  · rw [a1 c v]; exact g1 v hv
  · obtain ⟨b1, b2⟩ := a2 (by omega)
    by_cases c2 : v < 15
    · rw [b1 v c2]; exact g1 _ (by omega)
    · obtain rfl : v = 15 := by omega
      rw [b2]; exact g1 15 hv
set_option maxRecDepth 4000 in
theorem ctX11_givesNF {SP : CT} (hSP : MONO SP) {sh : List (Nat × Nat)} {h : aH} (hG : GD gE gRL sh h) {v b : Int} (hX : XI h) (hv : r32 v) (wb : WB b (RC h 178 0)) (hb : b ≤ 1000000) : CLd SP 7 mX11_gives [.ref 171, .ref 178, .int (I v)] h 0 0 (fun rv h' => ((gvR v (vw (RC h 178 0)) ≠ 0 ∧ rv = some (.int (I (gvR v (vw (RC h 178 0))))) ∧ RC h' 178 0 = RC h 178 0) ∨ (gvR v (vw (RC h 178 0)) = 0 ∧ rv = some (.int (I (dlA h (gi h 178 0)))) ∧ vw (RC h' 178 0) = gvW (dlA h (gi h 178 0)) (tvF (gi h 171 5) v) (vw (RC h 178 0)))) ∧ GD gE gRL sh h' ∧ FRM gRL [(0, 61, 3, 40), (0, 67, 0, 79), (0, 68, 0, 3)] h h' ∧ WB b (RC h' 178 0)) := by
  refine x_met _ rfl (Nat.le_of_ble_eq_true rfl) (fun K hK => ?_)
  have hmono := MONO_CLd hSP 6
  have wb0 := wb
  obtain ⟨w0, w1, w2, w3, w4, w5⟩ := wb
  rw [RC_0 (by omega)] at w0 w1 w2 w3 w4
  have w6 : ∀ m, m < 8 → (0 ≤ gi h 178 (41 + m) ∧ gi h 178 (41 + m) ≤ 99) ∧ 0 ≤ gi h 178 (49 + m) ∧ gi h 178 (49 + m) ≤ b := fun m hm => by have := w5 m hm; rw [RC_0 (by omega), RC_0 (by omega)] at this; exact this
  have ln := wl_len (a := 178) w3
  have gd0 : gvR v (vw (RC h 178 0)) = if ¬ (-1 ≤ v ∧ v ≤ 1) then -1 else if RC h 178 0 4 = RC h 178 0 0 then -2 else if (wl (RC h 178 0)).length = 12 then -3 else 0 := rfl
  rw [RC_0 (by omega), RC_0 (by omega)] at gd0
  have db := dlA_b h (gi h 178 0)
  have tb := fun z => tvF_b (l := gi h 171 5) (v := v) z
  refine x_iload_n 1 hK rfl rfl rfl ?_
  refine x_i2l 2 hK rfl rfl (by omega) ?_
  refine x_ldc2_w 5 hK rfl rfl ?_
  refine x_lconstE 6 1 hK rfl rfl rfl ?_
  refine x_callS 9 hK hmono rfl (Or.inl rfl) rfl [.long (J v), .long (J (-1)), .long (J 1)] [] rfl rfl (Nat.le_of_ble_eq_true rfl) (Nat.le_of_ble_eq_true rfl) (CLd_le (Nat.le_of_ble_eq_true rfl) (ctX11_in (by omega) (by omega) (by omega))) ?_
  rintro v9 h9 ⟨e9, ⟨rfl, i1166, i2166⟩ | ⟨rfl, i1166⟩⟩ <;> rw [e9] <;> clear e9
  · refine x_if_ne 14 12 hK rfl rfl rfl (by omega) (fun _ => ?_) (fun c => by omega)
    refine x_aload_n 15 hK rfl rfl rfl ?_
    refine x_iconst 16 hK rfl rfl ?_
    have g167 := gi_r h 178 4
    refine x_ialoadE 17 hK rfl rfl (sp_178 (h := h) hG) (by omega) (by omega) (by omega) (e' := (gi h 178 4)) (rfl) ?_
    refine x_aload_n 18 hK rfl rfl rfl ?_
    refine x_iconst 19 hK rfl rfl ?_
    have g168 := gi_r h 178 0
    refine x_ialoadE 20 hK rfl rfl (sp_178 (h := h) hG) (by omega) (by omega) (by omega) (e' := (gi h 178 0)) (rfl) ?_
    refine x_if_icmp_ne 26 23 hK rfl rfl rfl (by omega) (by omega) (fun c13 => ?_) (fun c13 => ?_)
    · refine x_aload_n 27 hK rfl rfl rfl ?_
      refine x_iconst 28 hK rfl rfl ?_
      have g169 := gri (0) (12) hG (a := 178) (r := 61) (k := 3) rfl rfl
      refine x_ialoadE 29 hK rfl rfl (sp_178 (h := h) hG) (by omega) (by omega) (by omega) (e' := (gi h 178 3)) (rfl) ?_
      refine x_bipush 31 hK rfl rfl rfl ?_
      refine x_if_icmp_ne 37 34 hK rfl rfl rfl (by omega) (by omega) (fun c18 => ?_) (fun c18 => ?_)
      · refine x_aload_n 38 hK rfl rfl rfl ?_
        refine x_aload_n 39 hK rfl rfl rfl ?_
        refine x_iconst 40 hK rfl rfl ?_
        refine x_ialoadE 41 hK rfl rfl (sp_178 (h := h) hG) (by omega) (by omega) (by omega) (e' := (gi h 178 0)) (rfl) ?_
        refine x_callV 44 hK hmono rfl rfl [.ref 171, .int (I (gi h 178 0))] [] rfl rfl (Nat.le_of_ble_eq_true rfl) (Nat.le_of_ble_eq_true rfl) rfl (sp_171 (h := h) hG) (CLd_le (Nat.le_of_ble_eq_true rfl) (ctX11_delayAtF hSP hG hX (by omega))) ?_
        rintro v8 h8 ⟨rfl, hG8, hF8⟩
        refine x_istore_n 45 hK rfl rfl [(3, .int (I (dlA h (gi h 178 0)))), (0, .ref 171), (1, .ref 178), (2, .int (I v))] rfl ?_
        refine x_iconst 46 hK rfl rfl ?_
        refine x_iconst 47 hK rfl rfl ?_
        refine x_aload_n 48 hK rfl rfl rfl ?_
        refine x_iconst 49 hK rfl rfl ?_
        refine x_ialoadE 50 hK rfl rfl (sp_178 (h := h8) hG8) (by omega) (by omega) (by omega) (e' := (gi h 178 3)) (FRM_gi hF8 (r := 61) rfl rfl) ?_
        refine x_imul 51 hK rfl rfl ?_
        refine x_iadd 52 hK rfl rfl ?_
        refine x_istore 54 hK rfl rfl [(4, .int (I (5 + (3 * (gi h 178 3))))), (3, .int (I (dlA h (gi h 178 0)))), (0, .ref 171), (1, .ref 178), (2, .int (I v))] rfl ?_
        refine x_aload_n 55 hK rfl rfl rfl ?_
        refine x_iload 57 hK rfl rfl rfl ?_
        refine x_iconst 58 hK rfl rfl ?_
        refine x_iadd 59 hK rfl rfl ?_
        refine x_aload_n 60 hK rfl rfl rfl ?_
        refine x_iconst 61 hK rfl rfl ?_
        refine x_ialoadE 62 hK rfl rfl (sp_178 (h := h8) hG8) (by omega) (by omega) (by omega) (e' := (gi h 178 0)) (FRM_gi hF8 (r := 61) rfl rfl) ?_
        refine x_iload_n 63 hK rfl rfl rfl ?_
        refine x_iadd 64 hK rfl rfl ?_
        refine x_iastore 65 hK rfl rfl (sp_178 (h := h8) hG8) (by omega) (by omega) (by omega) ?_
        refine x_aload_n 66 hK rfl rfl rfl ?_
        refine x_iload 68 hK rfl rfl rfl ?_
        refine x_iconst 69 hK rfl rfl ?_
        refine x_iadd 70 hK rfl rfl ?_
        refine x_aload_n 71 hK rfl rfl rfl ?_
        refine x_iload_n 72 hK rfl rfl rfl ?_
        have hGp170 : GD gE gRL sh (wI h8 178 ((5 + (3 * (gi h 178 3))) + 0).toNat ((gi h 178 0) + (dlA h (gi h 178 0)))) := GD_st (hG8) (r := 61) rfl rfl (fun z => by omega) (fun z => by omega) (fun j hj z => by omega)
        refine x_callV 75 hK hmono rfl rfl [.ref 171, .int (I v)] [.int (I ((5 + (3 * (gi h 178 3))) + 1)), .ref 178] rfl rfl (Nat.le_of_ble_eq_true rfl) (Nat.le_of_ble_eq_true rfl) rfl (sp_171 (h := h8) hG8) (CLd_le (Nat.le_of_ble_eq_true rfl) (ctX11_turned hSP hGp170)) ?_
        rintro v9 h9 ⟨e9, rfl⟩
        rw [e9, show gi (wI h8 178 ((5 + (3 * (gi h 178 3))) + 0).toNat ((gi h 178 0) + (dlA h (gi h 178 0)))) 171 5 = gi h 171 5 from (gi_a (by decide) _).trans (FRM_gi hF8 (r := 54) rfl rfl)]
        clear e9
        change K 75 _ (.int (I (tvF (gi h 171 5) v)) :: _) _ _ _
        have tb1 := tb (by omega)
        refine x_iastore 76 hK rfl rfl (sp_178 (h := h8) hG8) (by omega) (by omega) (by omega) ?_
        refine x_aload_n 77 hK rfl rfl rfl ?_
        refine x_iload 79 hK rfl rfl rfl ?_
        refine x_iconst 80 hK rfl rfl ?_
        refine x_iadd 81 hK rfl rfl ?_
        refine x_aload_n 82 hK rfl rfl rfl ?_
        refine x_iconst 83 hK rfl rfl ?_
        refine x_ialoadE 84 hK rfl rfl (sp_178 (h := h8) hG8) (by omega) (by omega) (by omega) (e' := (gi h 178 0)) ((gi_k (by omega) _).trans ((gi_k (by omega) _).trans (FRM_gi hF8 (r := 61) rfl rfl))) ?_
        refine x_iastore 85 hK rfl rfl (sp_178 (h := h8) hG8) (by omega) (by omega) (by omega) ?_
        refine x_aload_n 86 hK rfl rfl rfl ?_
        refine x_iconst 87 hK rfl rfl ?_
        refine x_dup2 88 hK rfl rfl rfl rfl ?_
        refine x_ialoadE 89 hK rfl rfl (sp_178 (h := h8) hG8) (by omega) (by omega) (by omega) (e' := (gi h 178 3)) ((gi_k (by omega) _).trans ((gi_k (by omega) _).trans ((gi_k (by omega) _).trans (FRM_gi hF8 (r := 61) rfl rfl)))) ?_
        refine x_iconst 90 hK rfl rfl ?_
        refine x_iadd 91 hK rfl rfl ?_
        refine x_iastore 92 hK rfl rfl (sp_178 (h := h8) hG8) (by omega) (by omega) (by omega) ?_
        refine x_aload_n 93 hK rfl rfl rfl ?_
        refine x_iconst 94 hK rfl rfl ?_
        refine x_aload_n 95 hK rfl rfl rfl ?_
        refine x_iconst 96 hK rfl rfl ?_
        refine x_ialoadE 97 hK rfl rfl (sp_178 (h := h8) hG8) (by omega) (by omega) (by omega) (e' := (gi h 178 0)) ((gi_k (by decide) _).trans ((gi_k (by omega) _).trans ((gi_k (by omega) _).trans ((gi_k (by omega) _).trans (FRM_gi hF8 (r := 61) rfl rfl))))) ?_
        refine x_iastore 98 hK rfl rfl (sp_178 (h := h8) hG8) (by omega) (by omega) (by omega) ?_
        refine x_iload_n 99 hK rfl rfl rfl ?_
        have er : gvR v (vw (RC h 178 0)) = 0 := by rw [gd0, if_neg (by omega), if_neg (by omega), if_neg (by omega)]
        have n3 : gi (wI (wI (wI (wI (wI h8 178 ((5 + (3 * (gi h 178 3))) + 0).toNat ((gi h 178 0) + (dlA h (gi h 178 0)))) 178 ((5 + (3 * (gi h 178 3))) + 1).toNat (tvF (gi h 171 5) v)) 178 ((5 + (3 * (gi h 178 3))) + 2).toNat (gi h 178 0)) 178 3 ((gi h 178 3) + 1)) 178 4 (gi h 178 0)) 178 3 = gi h 178 3 + 1 := (gi_k (by decide) _).trans (gi_same (by omega))
        have n4 : gi (wI (wI (wI (wI (wI h8 178 ((5 + (3 * (gi h 178 3))) + 0).toNat ((gi h 178 0) + (dlA h (gi h 178 0)))) 178 ((5 + (3 * (gi h 178 3))) + 1).toNat (tvF (gi h 171 5) v)) 178 ((5 + (3 * (gi h 178 3))) + 2).toNat (gi h 178 0)) 178 3 ((gi h 178 3) + 1)) 178 4 (gi h 178 0)) 178 4 = gi h 178 0 := gi_same (by omega)
        have n5 : gi (wI (wI (wI (wI (wI h8 178 ((5 + (3 * (gi h 178 3))) + 0).toNat ((gi h 178 0) + (dlA h (gi h 178 0)))) 178 ((5 + (3 * (gi h 178 3))) + 1).toNat (tvF (gi h 171 5) v)) 178 ((5 + (3 * (gi h 178 3))) + 2).toNat (gi h 178 0)) 178 3 ((gi h 178 3) + 1)) 178 4 (gi h 178 0)) 178 ((5 + (3 * (gi h 178 3))) + 0).toNat = ((gi h 178 0) + (dlA h (gi h 178 0))) := (gi_k (by omega) _).trans ((gi_k (by omega) _).trans ((gi_k (by omega) _).trans ((gi_k (by omega) _).trans (gi_same (by omega)))))
        have n6 : gi (wI (wI (wI (wI (wI h8 178 ((5 + (3 * (gi h 178 3))) + 0).toNat ((gi h 178 0) + (dlA h (gi h 178 0)))) 178 ((5 + (3 * (gi h 178 3))) + 1).toNat (tvF (gi h 171 5) v)) 178 ((5 + (3 * (gi h 178 3))) + 2).toNat (gi h 178 0)) 178 3 ((gi h 178 3) + 1)) 178 4 (gi h 178 0)) 178 ((5 + (3 * (gi h 178 3))) + 1).toNat = (tvF (gi h 171 5) v) := (gi_k (by omega) _).trans ((gi_k (by omega) _).trans ((gi_k (by omega) _).trans (gi_same (by omega))))
        have n7 : gi (wI (wI (wI (wI (wI h8 178 ((5 + (3 * (gi h 178 3))) + 0).toNat ((gi h 178 0) + (dlA h (gi h 178 0)))) 178 ((5 + (3 * (gi h 178 3))) + 1).toNat (tvF (gi h 171 5) v)) 178 ((5 + (3 * (gi h 178 3))) + 2).toNat (gi h 178 0)) 178 3 ((gi h 178 3) + 1)) 178 4 (gi h 178 0)) 178 ((5 + (3 * (gi h 178 3))) + 2).toNat = (gi h 178 0) := (gi_k (by omega) _).trans ((gi_k (by omega) _).trans (gi_same (by omega)))
        have no : ∀ j : Nat, j ≠ 3 → j ≠ 4 → (j : Int) ≠ 5 + 3 * gi h 178 3 → (j : Int) ≠ 6 + 3 * gi h 178 3 → (j : Int) ≠ 7 + 3 * gi h 178 3 → gi (wI (wI (wI (wI (wI h8 178 ((5 + (3 * (gi h 178 3))) + 0).toNat ((gi h 178 0) + (dlA h (gi h 178 0)))) 178 ((5 + (3 * (gi h 178 3))) + 1).toNat (tvF (gi h 171 5) v)) 178 ((5 + (3 * (gi h 178 3))) + 2).toNat (gi h 178 0)) 178 3 ((gi h 178 3) + 1)) 178 4 (gi h 178 0)) 178 j = gi h 178 j := fun j y1 y2 y3 y4 y5 => (gi_k (by omega) _).trans ((gi_k (by omega) _).trans ((gi_k (by omega) _).trans ((gi_k (by omega) _).trans ((gi_k (by omega) _).trans (FRM_gi hF8 (r := 61) rfl rfl)))))
        have ew : wl (RC (wI (wI (wI (wI (wI h8 178 ((5 + (3 * (gi h 178 3))) + 0).toNat ((gi h 178 0) + (dlA h (gi h 178 0)))) 178 ((5 + (3 * (gi h 178 3))) + 1).toNat (tvF (gi h 171 5) v)) 178 ((5 + (3 * (gi h 178 3))) + 2).toNat (gi h 178 0)) 178 3 ((gi h 178 3) + 1)) 178 4 (gi h 178 0)) 178 0) = wl (RC h 178 0) ++ [(gi h 178 0 + (dlA h (gi h 178 0)), (tvF (gi h 171 5) v), gi h 178 0)] := by
          rw [wl_RC (by omega), wl_RC (by omega), n3, tn_s (i := gi h 178 3) (by omega), wlK_s]
          congr 1
          · exact wlK_congr fun j z1 z2 => no j (by omega) (by omega) (by omega) (by omega) (by omega)
          · unfold tri
            rw [show 5 + 3 * (gi h 178 3).toNat = ((5 + (3 * (gi h 178 3))) + 0).toNat by omega, show 6 + 3 * (gi h 178 3).toNat = ((5 + (3 * (gi h 178 3))) + 1).toNat by omega, show 7 + 3 * (gi h 178 3).toNat = ((5 + (3 * (gi h 178 3))) + 2).toNat by omega, n5, n6, n7]
        have ev : vw (RC (wI (wI (wI (wI (wI h8 178 ((5 + (3 * (gi h 178 3))) + 0).toNat ((gi h 178 0) + (dlA h (gi h 178 0)))) 178 ((5 + (3 * (gi h 178 3))) + 1).toNat (tvF (gi h 171 5) v)) 178 ((5 + (3 * (gi h 178 3))) + 2).toNat (gi h 178 0)) 178 3 ((gi h 178 3) + 1)) 178 4 (gi h 178 0)) 178 0) = gvW (dlA h (gi h 178 0)) (tvF (gi h 171 5) v) (vw (RC h 178 0)) := by
          refine WS_ext ?_ ?_ ?_ ?_ ?_ (fun m => ?_) (fun m => ?_)
          · show RC (wI (wI (wI (wI (wI h8 178 ((5 + (3 * (gi h 178 3))) + 0).toNat ((gi h 178 0) + (dlA h (gi h 178 0)))) 178 ((5 + (3 * (gi h 178 3))) + 1).toNat (tvF (gi h 171 5) v)) 178 ((5 + (3 * (gi h 178 3))) + 2).toNat (gi h 178 0)) 178 3 ((gi h 178 3) + 1)) 178 4 (gi h 178 0)) 178 0 0 = RC h 178 0 0; rw [RC_0 (by omega), RC_0 (by omega)]; exact no 0 (by omega) (by omega) (by omega) (by omega) (by omega)
          · show RC (wI (wI (wI (wI (wI h8 178 ((5 + (3 * (gi h 178 3))) + 0).toNat ((gi h 178 0) + (dlA h (gi h 178 0)))) 178 ((5 + (3 * (gi h 178 3))) + 1).toNat (tvF (gi h 171 5) v)) 178 ((5 + (3 * (gi h 178 3))) + 2).toNat (gi h 178 0)) 178 3 ((gi h 178 3) + 1)) 178 4 (gi h 178 0)) 178 0 1 = RC h 178 0 1; rw [RC_0 (by omega), RC_0 (by omega)]; exact no 1 (by omega) (by omega) (by omega) (by omega) (by omega)
          · show RC (wI (wI (wI (wI (wI h8 178 ((5 + (3 * (gi h 178 3))) + 0).toNat ((gi h 178 0) + (dlA h (gi h 178 0)))) 178 ((5 + (3 * (gi h 178 3))) + 1).toNat (tvF (gi h 171 5) v)) 178 ((5 + (3 * (gi h 178 3))) + 2).toNat (gi h 178 0)) 178 3 ((gi h 178 3) + 1)) 178 4 (gi h 178 0)) 178 0 2 = RC h 178 0 2; rw [RC_0 (by omega), RC_0 (by omega)]; exact no 2 (by omega) (by omega) (by omega) (by omega) (by omega)
          · show RC (wI (wI (wI (wI (wI h8 178 ((5 + (3 * (gi h 178 3))) + 0).toNat ((gi h 178 0) + (dlA h (gi h 178 0)))) 178 ((5 + (3 * (gi h 178 3))) + 1).toNat (tvF (gi h 171 5) v)) 178 ((5 + (3 * (gi h 178 3))) + 2).toNat (gi h 178 0)) 178 3 ((gi h 178 3) + 1)) 178 4 (gi h 178 0)) 178 0 4 = RC h 178 0 0; rw [RC_0 (by omega), RC_0 (by omega)]; exact n4
          · show wl (RC (wI (wI (wI (wI (wI h8 178 ((5 + (3 * (gi h 178 3))) + 0).toNat ((gi h 178 0) + (dlA h (gi h 178 0)))) 178 ((5 + (3 * (gi h 178 3))) + 1).toNat (tvF (gi h 171 5) v)) 178 ((5 + (3 * (gi h 178 3))) + 2).toNat (gi h 178 0)) 178 3 ((gi h 178 3) + 1)) 178 4 (gi h 178 0)) 178 0) = wl (RC h 178 0) ++ [(RC h 178 0 0 + _, _, RC h 178 0 0)]; rw [RC_0 (by omega)]; exact ew
          · show (if m < 8 then RC (wI (wI (wI (wI (wI h8 178 ((5 + (3 * (gi h 178 3))) + 0).toNat ((gi h 178 0) + (dlA h (gi h 178 0)))) 178 ((5 + (3 * (gi h 178 3))) + 1).toNat (tvF (gi h 171 5) v)) 178 ((5 + (3 * (gi h 178 3))) + 2).toNat (gi h 178 0)) 178 3 ((gi h 178 3) + 1)) 178 4 (gi h 178 0)) 178 0 (41 + m) else 0) = if m < 8 then RC h 178 0 (41 + m) else 0
            by_cases c : m < 8
            · rw [if_pos c, if_pos c, RC_0 (by omega), RC_0 (by omega)]; exact no _ (by omega) (by omega) (by omega) (by omega) (by omega)
            · rw [if_neg c, if_neg c]
          · show (if m < 8 then RC (wI (wI (wI (wI (wI h8 178 ((5 + (3 * (gi h 178 3))) + 0).toNat ((gi h 178 0) + (dlA h (gi h 178 0)))) 178 ((5 + (3 * (gi h 178 3))) + 1).toNat (tvF (gi h 171 5) v)) 178 ((5 + (3 * (gi h 178 3))) + 2).toNat (gi h 178 0)) 178 3 ((gi h 178 3) + 1)) 178 4 (gi h 178 0)) 178 0 (49 + m) else 0) = if m < 8 then RC h 178 0 (49 + m) else 0
            by_cases c : m < 8
            · rw [if_pos c, if_pos c, RC_0 (by omega), RC_0 (by omega)]; exact no _ (by omega) (by omega) (by omega) (by omega) (by omega)
            · rw [if_neg c, if_neg c]
        have ewb : WB b (RC (wI (wI (wI (wI (wI h8 178 ((5 + (3 * (gi h 178 3))) + 0).toNat ((gi h 178 0) + (dlA h (gi h 178 0)))) 178 ((5 + (3 * (gi h 178 3))) + 1).toNat (tvF (gi h 171 5) v)) 178 ((5 + (3 * (gi h 178 3))) + 2).toNat (gi h 178 0)) 178 3 ((gi h 178 3) + 1)) 178 4 (gi h 178 0)) 178 0) := by
          refine ⟨?_, ?_, ?_, ?_, ?_, fun m hm => ?_⟩
          · rw [RC_0 (by omega), no 0 (by omega) (by omega) (by omega) (by omega) (by omega)]; exact w0
          · rw [RC_0 (by omega), no 1 (by omega) (by omega) (by omega) (by omega) (by omega)]; exact w1
          · rw [RC_0 (by omega), no 2 (by omega) (by omega) (by omega) (by omega) (by omega)]; exact w2
          · rw [RC_0 (by omega), n3]; omega
          · rw [RC_0 (by omega), n4]; omega
          · rw [RC_0 (by omega), RC_0 (by omega), no (41 + m) (by omega) (by omega) (by omega) (by omega) (by omega), no (49 + m) (by omega) (by omega) (by omega) (by omega) (by omega)]; exact w6 m hm
        exact x_iret hK rfl ⟨Or.inr ⟨er, rfl, ev⟩, GD_w0 (GD_st (GD_st (GD_st (GD_st (hG8) (r := 61) rfl rfl (fun z => by omega) (fun z => by omega) (fun j hj z => by omega)) (r := 61) rfl rfl (fun z => by omega) (fun z => by omega) (fun j hj z => by omega)) (r := 61) rfl rfl (fun z => by omega) (fun z => by omega) (fun j hj z => by omega)) (r := 61) rfl rfl (fun z => by omega) (fun z => by omega) (fun j hj z => by omega)) (r := 61) rfl rfl, FRM_w (FRM_w (FRM_wn 3 40 (FRM_wn 3 40 (FRM_wn 3 40 ((hF8).mono rfl) (r := 61) rfl rfl rfl (by omega) (by omega)) (r := 61) rfl rfl rfl (by omega) (by omega)) (r := 61) rfl rfl rfl (by omega) (by omega)) (r := 61) rfl rfl) (r := 61) rfl rfl, ewb⟩
      · refine x_bipush 36 hK rfl rfl rfl ?_
        have er : gvR v (vw (RC h 178 0)) = (-3) := by rw [gd0, if_neg (by omega), if_neg (by omega), if_pos (by omega)]
        exact x_iret hK rfl ⟨Or.inl ⟨by omega, by rw [er], rfl⟩, hG, FRM.rf, wb0⟩
    · refine x_bipush 25 hK rfl rfl rfl ?_
      have er : gvR v (vw (RC h 178 0)) = (-2) := by rw [gd0, if_neg (by omega), if_pos (by omega)]
      exact x_iret hK rfl ⟨Or.inl ⟨by omega, by rw [er], rfl⟩, hG, FRM.rf, wb0⟩
  · refine x_if_ne 14 12 hK rfl rfl rfl (by omega) (fun c => by omega) (fun _ => ?_)
    refine x_iconst 13 hK rfl rfl ?_
    have er : gvR v (vw (RC h 178 0)) = (-1) := by rw [gd0, if_pos (by omega)]
    exact x_iret hK rfl ⟨Or.inl ⟨by omega, by rw [er], rfl⟩, hG, FRM.rf, wb0⟩
set_option maxRecDepth 4000 in
theorem ctX11_isMessF {SP : CT} (hSP : MONO SP) {sh : List (Nat × Nat)} {h : aH} (hG : GD gE gRL sh h) {m : Int} (rm : r32 m) : CLd SP 2 mX11_isMess [.ref 171, .int (I m)] h 0 0 (fun rv h' => h' = h ∧ ((rv = some (.int (I 1)) ∧ 0 ≤ m ∧ m < gi h 171 7) ∨ (rv = some (.int (I 0)) ∧ ¬ (0 ≤ m ∧ m < gi h 171 7)))) := by
  refine x_met _ rfl (Nat.le_of_ble_eq_true rfl) (fun K hK => ?_)
  have hmono := MONO_CLd hSP 1
  refine x_iload_n 1 hK rfl rfl rfl ?_
  refine x_i2l 2 hK rfl rfl (by omega) ?_
  refine x_lconstE 3 0 hK rfl rfl rfl ?_
  refine x_aload_n 4 hK rfl rfl rfl ?_
  have g176 := gri (0) (8) hG (a := 171) (r := 54) (k := 7) rfl rfl
  refine x_getE 7 hK rfl (Or.inl rfl) rfl (sp_171 (h := h) hG) (e := (gi h 171 7)) (rfl) ?_
  refine x_iconst 8 hK rfl rfl ?_
  refine x_isub 9 hK rfl rfl ?_
  refine x_i2l 10 hK rfl rfl (by omega) ?_
  refine x_callS 13 hK hmono rfl (Or.inl rfl) rfl [.long (J m), .long (J 0), .long (J ((gi h 171 7) - 1))] [] rfl rfl (Nat.le_of_ble_eq_true rfl) (Nat.le_of_ble_eq_true rfl) (CLd_le (Nat.le_of_ble_eq_true rfl) (ctX11_in (by omega) (by omega) (by omega))) ?_
  rintro v9 h9 ⟨e9, ⟨rfl, i1177, i2177⟩ | ⟨rfl, i1177⟩⟩ <;> rw [e9] <;> clear e9
  · exact x_zret hK rfl (by omega) ⟨rfl, Or.inl ⟨rfl, by omega, by omega⟩⟩
  · exact x_zret hK rfl (by omega) ⟨rfl, Or.inr ⟨rfl, by omega⟩⟩
set_option maxRecDepth 4000 in
theorem ctX11_passesF {SP : CT} (hSP : MONO SP) {sh : List (Nat × Nat)} {h : aH} (hG : GD gE gRL sh h) {m n a b : Int} (rm : r32 m) (rn : r32 n) (ra : r32 a) (wb : WB b (RC h 178 0)) : CLd SP 3 mX11_passes [.ref 171, .int (I m), .int (I n), .int (I a)] h 0 0 (fun rv h' => ((psR (gi h 171 7) (vw (RC h 178 0)).2.2.2.2.2.1 m n a ≠ 0 ∧ rv = some (.int (I (psR (gi h 171 7) (vw (RC h 178 0)).2.2.2.2.2.1 m n a))) ∧ RC h' 178 0 = RC h 178 0) ∨ (psR (gi h 171 7) (vw (RC h 178 0)).2.2.2.2.2.1 m n a = 0 ∧ rv = some (.int (I ((vw (RC h 178 0)).2.2.2.2.2.1 m.toNat - n))) ∧ vw (RC h' 178 0) = psW m n a (vw (RC h 178 0)))) ∧ GD gE gRL sh h' ∧ FRM gRL [(0, 61, 41, 48)] h h' ∧ WB b (RC h' 178 0)) := by
  refine x_met _ rfl (Nat.le_of_ble_eq_true rfl) (fun K hK => ?_)
  have hmono := MONO_CLd hSP 2
  have wb0 := wb
  obtain ⟨w0, w1, w2, w3, w4, w5⟩ := wb
  rw [RC_0 (by omega)] at w0 w1 w2 w3 w4
  have w6 : ∀ m, m < 8 → (0 ≤ gi h 178 (41 + m) ∧ gi h 178 (41 + m) ≤ 99) ∧ 0 ≤ gi h 178 (49 + m) ∧ gi h 178 (49 + m) ≤ b := fun m hm => by have := w5 m hm; rw [RC_0 (by omega), RC_0 (by omega)] at this; exact this
  have g7 := gri 0 8 hG (a := 171) (r := 54) (k := 7) rfl rfl
  have ef : ∀ j : Nat, j < 8 → (vw (RC h 178 0)).2.2.2.2.2.1 j = gi h 178 (41 + j) := fun j hj => by show (if j < 8 then RC h 178 0 (41 + j) else 0) = _; rw [if_pos hj, RC_0 (by omega)]
  have ed : psR (gi h 171 7) (vw (RC h 178 0)).2.2.2.2.2.1 m n a = if ¬ ((0 ≤ m ∧ m < gi h 171 7) ∧ (0 ≤ a ∧ a ≤ 1) ∧ (0 ≤ othF m a ∧ othF m a < gi h 171 7) ∧ 1 ≤ n ∧ n ≤ 99) then -1 else if (vw (RC h 178 0)).2.2.2.2.2.1 m.toNat < n then -2 else if 99 < (vw (RC h 178 0)).2.2.2.2.2.1 (othF m a).toNat + n then -3 else 0 := rfl
  have eo : othF m a = if a = 1 then m + 1 else m - 1 := rfl
  refine x_iload_n 1 hK rfl rfl rfl ?_
  refine x_iconst 2 hK rfl rfl ?_
  refine x_if_icmp_ne 11 5 hK rfl rfl rfl (by omega) (by omega) (fun c3 => ?_) (fun c3 => ?_)
  · refine x_iload_n 12 hK rfl rfl rfl ?_
    refine x_iconst 13 hK rfl rfl ?_
    refine x_isub 14 hK rfl rfl ?_
    refine x_istore 16 hK rfl rfl [(4, .int (I (m - 1))), (0, .ref 171), (1, .int (I m)), (2, .int (I n)), (3, .int (I a))] rfl ?_
    refine x_aload_n 17 hK rfl rfl rfl ?_
    refine x_iload_n 18 hK rfl rfl rfl ?_
    have g179 := gri (0) (8) hG (a := 171) (r := 54) (k := 7) rfl rfl
    have x178 : gi h 171 7 = (gi h 171 7) := rfl
    refine x_callV 21 hK hmono rfl rfl [.ref 171, .int (I m)] [] rfl rfl (Nat.le_of_ble_eq_true rfl) (Nat.le_of_ble_eq_true rfl) rfl (sp_171 (h := h) hG) (CLd_le (Nat.le_of_ble_eq_true rfl) (ctX11_isMessF hSP hG (m := m) (by omega))) ?_
    rw [x178]
    rintro v9 h9 ⟨e9, ⟨rfl, i1178, i2178⟩ | ⟨rfl, i1178⟩⟩ <;> rw [e9] <;> clear e9
    · refine x_if_eq 55 24 hK rfl rfl rfl (by omega) (fun c => by omega) (fun _ => ?_)
      refine x_iload_n 25 hK rfl rfl rfl ?_
      refine x_i2l 26 hK rfl rfl (by omega) ?_
      refine x_lconstE 27 0 hK rfl rfl rfl ?_
      refine x_lconstE 28 1 hK rfl rfl rfl ?_
      refine x_callS 31 hK hmono rfl (Or.inl rfl) rfl [.long (J a), .long (J 0), .long (J 1)] [] rfl rfl (Nat.le_of_ble_eq_true rfl) (Nat.le_of_ble_eq_true rfl) (CLd_le (Nat.le_of_ble_eq_true rfl) (ctX11_in (by omega) (by omega) (by omega))) ?_
      rintro v9 h9 ⟨e9, ⟨rfl, i1180, i2180⟩ | ⟨rfl, i1180⟩⟩ <;> rw [e9] <;> clear e9
      · refine x_if_eq 55 34 hK rfl rfl rfl (by omega) (fun c => by omega) (fun _ => ?_)
        refine x_aload_n 35 hK rfl rfl rfl ?_
        refine x_iload 37 hK rfl rfl rfl ?_
        have x181 : gi h 171 7 = (gi h 171 7) := rfl
        refine x_callV 40 hK hmono rfl rfl [.ref 171, .int (I (m - 1))] [] rfl rfl (Nat.le_of_ble_eq_true rfl) (Nat.le_of_ble_eq_true rfl) rfl (sp_171 (h := h) hG) (CLd_le (Nat.le_of_ble_eq_true rfl) (ctX11_isMessF hSP hG (m := (m - 1)) (by omega))) ?_
        rw [x181]
        rintro v9 h9 ⟨e9, ⟨rfl, i1181, i2181⟩ | ⟨rfl, i1181⟩⟩ <;> rw [e9] <;> clear e9
        · refine x_if_eq 55 43 hK rfl rfl rfl (by omega) (fun c => by omega) (fun _ => ?_)
          refine x_iload_n 44 hK rfl rfl rfl ?_
          refine x_i2l 45 hK rfl rfl (by omega) ?_
          refine x_lconstE 46 1 hK rfl rfl rfl ?_
          refine x_ldc2_w 49 hK rfl rfl ?_
          refine x_callS 52 hK hmono rfl (Or.inl rfl) rfl [.long (J n), .long (J 1), .long (J 99)] [] rfl rfl (Nat.le_of_ble_eq_true rfl) (Nat.le_of_ble_eq_true rfl) (CLd_le (Nat.le_of_ble_eq_true rfl) (ctX11_in (by omega) (by omega) (by omega))) ?_
          rintro v9 h9 ⟨e9, ⟨rfl, i1182, i2182⟩ | ⟨rfl, i1182⟩⟩ <;> rw [e9] <;> clear e9
          · refine x_if_ne 57 55 hK rfl rfl rfl (by omega) (fun _ => ?_) (fun c => by omega)
            have oe : othF m a = (m - 1) := by rw [eo]; first | rw [if_pos (by omega)] | rw [if_neg (by omega)]
            have f1 := ef m.toNat (by omega)
            have f2 := ef ((m - 1)).toNat (by omega)
            have wm := w6 m.toNat (by omega)
            have wo := w6 ((m - 1)).toNat (by omega)
            refine x_aload_n 58 hK rfl rfl rfl ?_
            refine x_getR 61 hK rfl rfl (sp_171 (h := h) hG) (rf_171_14 (h := h) hG) ?_
            refine x_bipush 63 hK rfl rfl rfl ?_
            refine x_iload_n 64 hK rfl rfl rfl ?_
            refine x_iadd 65 hK rfl rfl ?_
            refine x_ialoadE 66 hK rfl rfl (sp_178 (h := h) hG) (by omega) (by omega) (by omega) (e' := (gi h 178 (41 + m.toNat))) ((gi_to (by omega))) ?_
            refine x_iload_n 67 hK rfl rfl rfl ?_
            refine x_if_icmp_ge 73 70 hK rfl rfl rfl (by omega) (by omega) (fun c36 => ?_) (fun c36 => ?_)
            · refine x_aload_n 74 hK rfl rfl rfl ?_
              refine x_getR 77 hK rfl rfl (sp_171 (h := h) hG) (rf_171_14 (h := h) hG) ?_
              refine x_bipush 79 hK rfl rfl rfl ?_
              refine x_iload 81 hK rfl rfl rfl ?_
              refine x_iadd 82 hK rfl rfl ?_
              refine x_ialoadE 83 hK rfl rfl (sp_178 (h := h) hG) (by omega) (by omega) (by omega) (e' := (gi h 178 (41 + (m - 1).toNat))) ((gi_to (by omega))) ?_
              refine x_iload_n 84 hK rfl rfl rfl ?_
              refine x_iadd 85 hK rfl rfl ?_
              refine x_bipush 87 hK rfl rfl rfl ?_
              refine x_if_icmp_le 93 90 hK rfl rfl rfl (by omega) (by omega) (fun c46 => ?_) (fun c46 => ?_)
              · refine x_aload_n 94 hK rfl rfl rfl ?_
                refine x_getR 97 hK rfl rfl (sp_171 (h := h) hG) (rf_171_14 (h := h) hG) ?_
                refine x_bipush 99 hK rfl rfl rfl ?_
                refine x_iload_n 100 hK rfl rfl rfl ?_
                refine x_iadd 101 hK rfl rfl ?_
                refine x_dup2 102 hK rfl rfl rfl rfl ?_
                refine x_ialoadE 103 hK rfl rfl (sp_178 (h := h) hG) (by omega) (by omega) (by omega) (e' := (gi h 178 (41 + m.toNat))) ((gi_to (by omega))) ?_
                refine x_iload_n 104 hK rfl rfl rfl ?_
                refine x_isub 105 hK rfl rfl ?_
                refine x_iastore 106 hK rfl rfl (sp_178 (h := h) hG) (by omega) (by omega) (by omega) ?_
                refine x_aload_n 107 hK rfl rfl rfl ?_
                refine x_getR 110 hK rfl rfl (sp_171 (h := h) hG) (rf_171_14 (h := h) hG) ?_
                refine x_bipush 112 hK rfl rfl rfl ?_
                refine x_iload 114 hK rfl rfl rfl ?_
                refine x_iadd 115 hK rfl rfl ?_
                refine x_dup2 116 hK rfl rfl rfl rfl ?_
                refine x_ialoadE 117 hK rfl rfl (sp_178 (h := h) hG) (by omega) (by omega) (by omega) (e' := (gi h 178 (41 + (m - 1).toNat))) ((gi_k (by omega) _).trans ((gi_to (by omega)))) ?_
                refine x_iload_n 118 hK rfl rfl rfl ?_
                refine x_iadd 119 hK rfl rfl ?_
                refine x_iastore 120 hK rfl rfl (sp_178 (h := h) hG) (by omega) (by omega) (by omega) ?_
                refine x_aload_n 121 hK rfl rfl rfl ?_
                refine x_getR 124 hK rfl rfl (sp_171 (h := h) hG) (rf_171_14 (h := h) hG) ?_
                refine x_bipush 126 hK rfl rfl rfl ?_
                refine x_iload_n 127 hK rfl rfl rfl ?_
                refine x_iadd 128 hK rfl rfl ?_
                refine x_ialoadE 129 hK rfl rfl (sp_178 (h := h) hG) (by omega) (by omega) (by omega) (e' := ((gi h 178 (41 + m.toNat)) - n)) ((gi_k (by omega) _).trans (gi_same (by omega))) ?_
                rw [oe] at ed
                have er : psR (gi h 171 7) (vw (RC h 178 0)).2.2.2.2.2.1 m n a = 0 := by rw [ed, if_neg (by omega), if_neg (by omega), if_neg (by omega)]
                have n1 : gi (wI (wI h 178 (41 + m).toNat ((gi h 178 (41 + m.toNat)) - n)) 178 (41 + (m - 1)).toNat ((gi h 178 (41 + (m - 1).toNat)) + n)) 178 (41 + m).toNat = ((gi h 178 (41 + m.toNat)) - n) := (gi_k (by omega) _).trans (gi_same (by omega))
                have n2 : gi (wI (wI h 178 (41 + m).toNat ((gi h 178 (41 + m.toNat)) - n)) 178 (41 + (m - 1)).toNat ((gi h 178 (41 + (m - 1).toNat)) + n)) 178 (41 + (m - 1)).toNat = ((gi h 178 (41 + (m - 1).toNat)) + n) := gi_same (by omega)
                have no : ∀ j : Nat, (j : Int) ≠ 41 + m → (j : Int) ≠ 41 + (m - 1) → gi (wI (wI h 178 (41 + m).toNat ((gi h 178 (41 + m.toNat)) - n)) 178 (41 + (m - 1)).toNat ((gi h 178 (41 + (m - 1).toNat)) + n)) 178 j = gi h 178 j := fun j y1 y2 => (gi_k (by omega) _).trans (gi_k (by omega) _)
                have nf : ∀ j : Nat, j < 8 → gi (wI (wI h 178 (41 + m).toNat ((gi h 178 (41 + m.toNat)) - n)) 178 (41 + (m - 1)).toNat ((gi h 178 (41 + (m - 1).toNat)) + n)) 178 (41 + j) = if (j : Int) = m then gi h 178 (41 + j) - n else if (j : Int) = (m - 1) then gi h 178 (41 + j) + n else gi h 178 (41 + j) := by
                  intro j hj
                  by_cases c1 : (j : Int) = m
                  · rw [if_pos c1, show 41 + j = (41 + m).toNat by omega, n1, show 41 + m.toNat = (41 + m).toNat by omega]
                  · rw [if_neg c1]
                    by_cases c2 : (j : Int) = (m - 1)
                    · rw [if_pos c2, show 41 + j = (41 + (m - 1)).toNat by omega, n2, show 41 + (m - 1).toNat = (41 + (m - 1)).toNat by omega]
                    · rw [if_neg c2]; exact no _ (by omega) (by omega)
                have ew : wl (RC (wI (wI h 178 (41 + m).toNat ((gi h 178 (41 + m.toNat)) - n)) 178 (41 + (m - 1)).toNat ((gi h 178 (41 + (m - 1).toNat)) + n)) 178 0) = wl (RC h 178 0) := by rw [wl_RC (by rw [no 3 (by omega) (by omega)]; omega), wl_RC (by omega), no 3 (by omega) (by omega)]; exact wlK_congr fun j z1 z2 => no j (by omega) (by omega)
                have ev : vw (RC (wI (wI h 178 (41 + m).toNat ((gi h 178 (41 + m.toNat)) - n)) 178 (41 + (m - 1)).toNat ((gi h 178 (41 + (m - 1).toNat)) + n)) 178 0) = psW m n a (vw (RC h 178 0)) := by
                  refine WS_ext ?_ ?_ ?_ ?_ ew (fun j => ?_) (fun j => ?_)
                  · show RC (wI (wI h 178 (41 + m).toNat ((gi h 178 (41 + m.toNat)) - n)) 178 (41 + (m - 1)).toNat ((gi h 178 (41 + (m - 1).toNat)) + n)) 178 0 0 = RC h 178 0 0; rw [RC_0 (by omega), RC_0 (by omega)]; exact no 0 (by omega) (by omega)
                  · show RC (wI (wI h 178 (41 + m).toNat ((gi h 178 (41 + m.toNat)) - n)) 178 (41 + (m - 1)).toNat ((gi h 178 (41 + (m - 1).toNat)) + n)) 178 0 1 = RC h 178 0 1; rw [RC_0 (by omega), RC_0 (by omega)]; exact no 1 (by omega) (by omega)
                  · show RC (wI (wI h 178 (41 + m).toNat ((gi h 178 (41 + m.toNat)) - n)) 178 (41 + (m - 1)).toNat ((gi h 178 (41 + (m - 1).toNat)) + n)) 178 0 2 = RC h 178 0 2; rw [RC_0 (by omega), RC_0 (by omega)]; exact no 2 (by omega) (by omega)
                  · show RC (wI (wI h 178 (41 + m).toNat ((gi h 178 (41 + m.toNat)) - n)) 178 (41 + (m - 1)).toNat ((gi h 178 (41 + (m - 1).toNat)) + n)) 178 0 4 = RC h 178 0 4; rw [RC_0 (by omega), RC_0 (by omega)]; exact no 4 (by omega) (by omega)
                  · show (if j < 8 then RC (wI (wI h 178 (41 + m).toNat ((gi h 178 (41 + m.toNat)) - n)) 178 (41 + (m - 1)).toNat ((gi h 178 (41 + (m - 1).toNat)) + n)) 178 0 (41 + j) else 0) = if (j : Int) = m then (if j < 8 then RC h 178 0 (41 + j) else 0) - n else if (j : Int) = othF m a then (if j < 8 then RC h 178 0 (41 + j) else 0) + n else (if j < 8 then RC h 178 0 (41 + j) else 0)
                    rw [oe]
                    by_cases c : j < 8
                    · rw [if_pos c, if_pos c, RC_0 (by omega), RC_0 (by omega)]; exact nf j c
                    · rw [if_neg c, if_neg c, if_neg (by omega), if_neg (by omega)]
                  · show (if j < 8 then RC (wI (wI h 178 (41 + m).toNat ((gi h 178 (41 + m.toNat)) - n)) 178 (41 + (m - 1)).toNat ((gi h 178 (41 + (m - 1).toNat)) + n)) 178 0 (49 + j) else 0) = if j < 8 then RC h 178 0 (49 + j) else 0
                    by_cases c : j < 8
                    · rw [if_pos c, if_pos c, RC_0 (by omega), RC_0 (by omega)]; exact no _ (by omega) (by omega)
                    · rw [if_neg c, if_neg c]
                have ewb : WB b (RC (wI (wI h 178 (41 + m).toNat ((gi h 178 (41 + m.toNat)) - n)) 178 (41 + (m - 1)).toNat ((gi h 178 (41 + (m - 1).toNat)) + n)) 178 0) := by
                  refine ⟨?_, ?_, ?_, ?_, ?_, fun j hj => ?_⟩
                  · rw [RC_0 (by omega), no 0 (by omega) (by omega)]; exact w0
                  · rw [RC_0 (by omega), no 1 (by omega) (by omega)]; exact w1
                  · rw [RC_0 (by omega), no 2 (by omega) (by omega)]; exact w2
                  · rw [RC_0 (by omega), no 3 (by omega) (by omega)]; exact w3
                  · rw [RC_0 (by omega), no 4 (by omega) (by omega)]; exact w4
                  · rw [RC_0 (by omega), RC_0 (by omega), nf j hj, no (49 + j) (by omega) (by omega)]
                    have z := w6 j hj
                    have c2 : (j : Int) = (m - 1) → gi h 178 (41 + j) = gi h 178 (41 + (m - 1).toNat) := fun z => gi_to (by omega)
                    have c1 : (j : Int) = m → gi h 178 (41 + j) = gi h 178 (41 + m.toNat) := fun z => gi_to (by omega)
                    (repeat' split) <;> omega
                exact x_iret hK rfl ⟨Or.inr ⟨er, by rw [f1], ev⟩, GD_st (GD_st (hG) (r := 61) rfl rfl (fun z => by omega) (fun z => by omega) (fun j hj z => by omega)) (r := 61) rfl rfl (fun z => by omega) (fun z => by omega) (fun j hj z => by omega), FRM_wn 41 48 (FRM_wn 41 48 ((FRM.rf : FRM gRL [(0, 61, 41, 48)] h h)) (r := 61) rfl rfl rfl (by omega) (by omega)) (r := 61) rfl rfl rfl (by omega) (by omega), ewb⟩
              · refine x_bipush 92 hK rfl rfl rfl ?_
                rw [oe] at ed
                have er : psR (gi h 171 7) (vw (RC h 178 0)).2.2.2.2.2.1 m n a = (-3) := by rw [ed, if_neg (by omega), if_neg (by omega), if_pos (by omega)]
                exact x_iret hK rfl ⟨Or.inl ⟨by omega, by rw [er], rfl⟩, hG, FRM.rf, wb0⟩
            · refine x_bipush 72 hK rfl rfl rfl ?_
              rw [oe] at ed
              have er : psR (gi h 171 7) (vw (RC h 178 0)).2.2.2.2.2.1 m n a = (-2) := by rw [ed, if_neg (by omega), if_pos (by omega)]
              exact x_iret hK rfl ⟨Or.inl ⟨by omega, by rw [er], rfl⟩, hG, FRM.rf, wb0⟩
          · refine x_if_ne 57 55 hK rfl rfl rfl (by omega) (fun c => by omega) (fun _ => ?_)
            refine x_iconst 56 hK rfl rfl ?_
            have oe : othF m a = if a = 1 then m + 1 else m - 1 := eo
            have er : psR (gi h 171 7) (vw (RC h 178 0)).2.2.2.2.2.1 m n a = (-1) := by rw [ed, if_pos (by omega)]
            exact x_iret hK rfl ⟨Or.inl ⟨by omega, by rw [er], rfl⟩, hG, FRM.rf, wb0⟩
        · refine x_if_eq 55 43 hK rfl rfl rfl (by omega) (fun _ => ?_) (fun c => by omega)
          refine x_iconst 56 hK rfl rfl ?_
          have oe : othF m a = if a = 1 then m + 1 else m - 1 := eo
          have er : psR (gi h 171 7) (vw (RC h 178 0)).2.2.2.2.2.1 m n a = (-1) := by rw [ed, if_pos (by omega)]
          exact x_iret hK rfl ⟨Or.inl ⟨by omega, by rw [er], rfl⟩, hG, FRM.rf, wb0⟩
      · refine x_if_eq 55 34 hK rfl rfl rfl (by omega) (fun _ => ?_) (fun c => by omega)
        refine x_iconst 56 hK rfl rfl ?_
        have oe : othF m a = if a = 1 then m + 1 else m - 1 := eo
        have er : psR (gi h 171 7) (vw (RC h 178 0)).2.2.2.2.2.1 m n a = (-1) := by rw [ed, if_pos (by omega)]
        exact x_iret hK rfl ⟨Or.inl ⟨by omega, by rw [er], rfl⟩, hG, FRM.rf, wb0⟩
    · refine x_if_eq 55 24 hK rfl rfl rfl (by omega) (fun _ => ?_) (fun c => by omega)
      refine x_iconst 56 hK rfl rfl ?_
      have oe : othF m a = if a = 1 then m + 1 else m - 1 := eo
      have er : psR (gi h 171 7) (vw (RC h 178 0)).2.2.2.2.2.1 m n a = (-1) := by rw [ed, if_pos (by omega)]
      exact x_iret hK rfl ⟨Or.inl ⟨by omega, by rw [er], rfl⟩, hG, FRM.rf, wb0⟩
  · refine x_iload_n 6 hK rfl rfl rfl ?_
    refine x_iconst 7 hK rfl rfl ?_
    refine x_iadd 8 hK rfl rfl ?_
    refine x_goto 14 hK rfl rfl ?_
    refine x_istore 16 hK rfl rfl [(4, .int (I (m + 1))), (0, .ref 171), (1, .int (I m)), (2, .int (I n)), (3, .int (I a))] rfl ?_
    refine x_aload_n 17 hK rfl rfl rfl ?_
    refine x_iload_n 18 hK rfl rfl rfl ?_
    have g184 := gri (0) (8) hG (a := 171) (r := 54) (k := 7) rfl rfl
    have x183 : gi h 171 7 = (gi h 171 7) := rfl
    refine x_callV 21 hK hmono rfl rfl [.ref 171, .int (I m)] [] rfl rfl (Nat.le_of_ble_eq_true rfl) (Nat.le_of_ble_eq_true rfl) rfl (sp_171 (h := h) hG) (CLd_le (Nat.le_of_ble_eq_true rfl) (ctX11_isMessF hSP hG (m := m) (by omega))) ?_
    rw [x183]
    rintro v9 h9 ⟨e9, ⟨rfl, i1183, i2183⟩ | ⟨rfl, i1183⟩⟩ <;> rw [e9] <;> clear e9
    · refine x_if_eq 55 24 hK rfl rfl rfl (by omega) (fun c => by omega) (fun _ => ?_)
      refine x_iload_n 25 hK rfl rfl rfl ?_
      refine x_i2l 26 hK rfl rfl (by omega) ?_
      refine x_lconstE 27 0 hK rfl rfl rfl ?_
      refine x_lconstE 28 1 hK rfl rfl rfl ?_
      refine x_callS 31 hK hmono rfl (Or.inl rfl) rfl [.long (J a), .long (J 0), .long (J 1)] [] rfl rfl (Nat.le_of_ble_eq_true rfl) (Nat.le_of_ble_eq_true rfl) (CLd_le (Nat.le_of_ble_eq_true rfl) (ctX11_in (by omega) (by omega) (by omega))) ?_
      rintro v9 h9 ⟨e9, ⟨rfl, i1185, i2185⟩ | ⟨rfl, i1185⟩⟩ <;> rw [e9] <;> clear e9
      · refine x_if_eq 55 34 hK rfl rfl rfl (by omega) (fun c => by omega) (fun _ => ?_)
        refine x_aload_n 35 hK rfl rfl rfl ?_
        refine x_iload 37 hK rfl rfl rfl ?_
        have x186 : gi h 171 7 = (gi h 171 7) := rfl
        refine x_callV 40 hK hmono rfl rfl [.ref 171, .int (I (m + 1))] [] rfl rfl (Nat.le_of_ble_eq_true rfl) (Nat.le_of_ble_eq_true rfl) rfl (sp_171 (h := h) hG) (CLd_le (Nat.le_of_ble_eq_true rfl) (ctX11_isMessF hSP hG (m := (m + 1)) (by omega))) ?_
        rw [x186]
        rintro v9 h9 ⟨e9, ⟨rfl, i1186, i2186⟩ | ⟨rfl, i1186⟩⟩ <;> rw [e9] <;> clear e9
        · refine x_if_eq 55 43 hK rfl rfl rfl (by omega) (fun c => by omega) (fun _ => ?_)
          refine x_iload_n 44 hK rfl rfl rfl ?_
          refine x_i2l 45 hK rfl rfl (by omega) ?_
          refine x_lconstE 46 1 hK rfl rfl rfl ?_
          refine x_ldc2_w 49 hK rfl rfl ?_
          refine x_callS 52 hK hmono rfl (Or.inl rfl) rfl [.long (J n), .long (J 1), .long (J 99)] [] rfl rfl (Nat.le_of_ble_eq_true rfl) (Nat.le_of_ble_eq_true rfl) (CLd_le (Nat.le_of_ble_eq_true rfl) (ctX11_in (by omega) (by omega) (by omega))) ?_
          rintro v9 h9 ⟨e9, ⟨rfl, i1187, i2187⟩ | ⟨rfl, i1187⟩⟩ <;> rw [e9] <;> clear e9
          · refine x_if_ne 57 55 hK rfl rfl rfl (by omega) (fun _ => ?_) (fun c => by omega)
            have oe : othF m a = (m + 1) := by rw [eo]; first | rw [if_pos (by omega)] | rw [if_neg (by omega)]
            have f1 := ef m.toNat (by omega)
            have f2 := ef ((m + 1)).toNat (by omega)
            have wm := w6 m.toNat (by omega)
            have wo := w6 ((m + 1)).toNat (by omega)
            refine x_aload_n 58 hK rfl rfl rfl ?_
            refine x_getR 61 hK rfl rfl (sp_171 (h := h) hG) (rf_171_14 (h := h) hG) ?_
            refine x_bipush 63 hK rfl rfl rfl ?_
            refine x_iload_n 64 hK rfl rfl rfl ?_
            refine x_iadd 65 hK rfl rfl ?_
            refine x_ialoadE 66 hK rfl rfl (sp_178 (h := h) hG) (by omega) (by omega) (by omega) (e' := (gi h 178 (41 + m.toNat))) ((gi_to (by omega))) ?_
            refine x_iload_n 67 hK rfl rfl rfl ?_
            refine x_if_icmp_ge 73 70 hK rfl rfl rfl (by omega) (by omega) (fun c123 => ?_) (fun c123 => ?_)
            · refine x_aload_n 74 hK rfl rfl rfl ?_
              refine x_getR 77 hK rfl rfl (sp_171 (h := h) hG) (rf_171_14 (h := h) hG) ?_
              refine x_bipush 79 hK rfl rfl rfl ?_
              refine x_iload 81 hK rfl rfl rfl ?_
              refine x_iadd 82 hK rfl rfl ?_
              refine x_ialoadE 83 hK rfl rfl (sp_178 (h := h) hG) (by omega) (by omega) (by omega) (e' := (gi h 178 (41 + (m + 1).toNat))) ((gi_to (by omega))) ?_
              refine x_iload_n 84 hK rfl rfl rfl ?_
              refine x_iadd 85 hK rfl rfl ?_
              refine x_bipush 87 hK rfl rfl rfl ?_
              refine x_if_icmp_le 93 90 hK rfl rfl rfl (by omega) (by omega) (fun c133 => ?_) (fun c133 => ?_)
              · refine x_aload_n 94 hK rfl rfl rfl ?_
                refine x_getR 97 hK rfl rfl (sp_171 (h := h) hG) (rf_171_14 (h := h) hG) ?_
                refine x_bipush 99 hK rfl rfl rfl ?_
                refine x_iload_n 100 hK rfl rfl rfl ?_
                refine x_iadd 101 hK rfl rfl ?_
                refine x_dup2 102 hK rfl rfl rfl rfl ?_
                refine x_ialoadE 103 hK rfl rfl (sp_178 (h := h) hG) (by omega) (by omega) (by omega) (e' := (gi h 178 (41 + m.toNat))) ((gi_to (by omega))) ?_
                refine x_iload_n 104 hK rfl rfl rfl ?_
                refine x_isub 105 hK rfl rfl ?_
                refine x_iastore 106 hK rfl rfl (sp_178 (h := h) hG) (by omega) (by omega) (by omega) ?_
                refine x_aload_n 107 hK rfl rfl rfl ?_
                refine x_getR 110 hK rfl rfl (sp_171 (h := h) hG) (rf_171_14 (h := h) hG) ?_
                refine x_bipush 112 hK rfl rfl rfl ?_
                refine x_iload 114 hK rfl rfl rfl ?_
                refine x_iadd 115 hK rfl rfl ?_
                refine x_dup2 116 hK rfl rfl rfl rfl ?_
                refine x_ialoadE 117 hK rfl rfl (sp_178 (h := h) hG) (by omega) (by omega) (by omega) (e' := (gi h 178 (41 + (m + 1).toNat))) ((gi_k (by omega) _).trans ((gi_to (by omega)))) ?_
                refine x_iload_n 118 hK rfl rfl rfl ?_
                refine x_iadd 119 hK rfl rfl ?_
                refine x_iastore 120 hK rfl rfl (sp_178 (h := h) hG) (by omega) (by omega) (by omega) ?_
                refine x_aload_n 121 hK rfl rfl rfl ?_
                refine x_getR 124 hK rfl rfl (sp_171 (h := h) hG) (rf_171_14 (h := h) hG) ?_
                refine x_bipush 126 hK rfl rfl rfl ?_
                refine x_iload_n 127 hK rfl rfl rfl ?_
                refine x_iadd 128 hK rfl rfl ?_
                refine x_ialoadE 129 hK rfl rfl (sp_178 (h := h) hG) (by omega) (by omega) (by omega) (e' := ((gi h 178 (41 + m.toNat)) - n)) ((gi_k (by omega) _).trans (gi_same (by omega))) ?_
                rw [oe] at ed
                have er : psR (gi h 171 7) (vw (RC h 178 0)).2.2.2.2.2.1 m n a = 0 := by rw [ed, if_neg (by omega), if_neg (by omega), if_neg (by omega)]
                have n1 : gi (wI (wI h 178 (41 + m).toNat ((gi h 178 (41 + m.toNat)) - n)) 178 (41 + (m + 1)).toNat ((gi h 178 (41 + (m + 1).toNat)) + n)) 178 (41 + m).toNat = ((gi h 178 (41 + m.toNat)) - n) := (gi_k (by omega) _).trans (gi_same (by omega))
                have n2 : gi (wI (wI h 178 (41 + m).toNat ((gi h 178 (41 + m.toNat)) - n)) 178 (41 + (m + 1)).toNat ((gi h 178 (41 + (m + 1).toNat)) + n)) 178 (41 + (m + 1)).toNat = ((gi h 178 (41 + (m + 1).toNat)) + n) := gi_same (by omega)
                have no : ∀ j : Nat, (j : Int) ≠ 41 + m → (j : Int) ≠ 41 + (m + 1) → gi (wI (wI h 178 (41 + m).toNat ((gi h 178 (41 + m.toNat)) - n)) 178 (41 + (m + 1)).toNat ((gi h 178 (41 + (m + 1).toNat)) + n)) 178 j = gi h 178 j := fun j y1 y2 => (gi_k (by omega) _).trans (gi_k (by omega) _)
                have nf : ∀ j : Nat, j < 8 → gi (wI (wI h 178 (41 + m).toNat ((gi h 178 (41 + m.toNat)) - n)) 178 (41 + (m + 1)).toNat ((gi h 178 (41 + (m + 1).toNat)) + n)) 178 (41 + j) = if (j : Int) = m then gi h 178 (41 + j) - n else if (j : Int) = (m + 1) then gi h 178 (41 + j) + n else gi h 178 (41 + j) := by
                  intro j hj
                  by_cases c1 : (j : Int) = m
                  · rw [if_pos c1, show 41 + j = (41 + m).toNat by omega, n1, show 41 + m.toNat = (41 + m).toNat by omega]
                  · rw [if_neg c1]
                    by_cases c2 : (j : Int) = (m + 1)
                    · rw [if_pos c2, show 41 + j = (41 + (m + 1)).toNat by omega, n2, show 41 + (m + 1).toNat = (41 + (m + 1)).toNat by omega]
                    · rw [if_neg c2]; exact no _ (by omega) (by omega)
                have ew : wl (RC (wI (wI h 178 (41 + m).toNat ((gi h 178 (41 + m.toNat)) - n)) 178 (41 + (m + 1)).toNat ((gi h 178 (41 + (m + 1).toNat)) + n)) 178 0) = wl (RC h 178 0) := by rw [wl_RC (by rw [no 3 (by omega) (by omega)]; omega), wl_RC (by omega), no 3 (by omega) (by omega)]; exact wlK_congr fun j z1 z2 => no j (by omega) (by omega)
                have ev : vw (RC (wI (wI h 178 (41 + m).toNat ((gi h 178 (41 + m.toNat)) - n)) 178 (41 + (m + 1)).toNat ((gi h 178 (41 + (m + 1).toNat)) + n)) 178 0) = psW m n a (vw (RC h 178 0)) := by
                  refine WS_ext ?_ ?_ ?_ ?_ ew (fun j => ?_) (fun j => ?_)
                  · show RC (wI (wI h 178 (41 + m).toNat ((gi h 178 (41 + m.toNat)) - n)) 178 (41 + (m + 1)).toNat ((gi h 178 (41 + (m + 1).toNat)) + n)) 178 0 0 = RC h 178 0 0; rw [RC_0 (by omega), RC_0 (by omega)]; exact no 0 (by omega) (by omega)
                  · show RC (wI (wI h 178 (41 + m).toNat ((gi h 178 (41 + m.toNat)) - n)) 178 (41 + (m + 1)).toNat ((gi h 178 (41 + (m + 1).toNat)) + n)) 178 0 1 = RC h 178 0 1; rw [RC_0 (by omega), RC_0 (by omega)]; exact no 1 (by omega) (by omega)
                  · show RC (wI (wI h 178 (41 + m).toNat ((gi h 178 (41 + m.toNat)) - n)) 178 (41 + (m + 1)).toNat ((gi h 178 (41 + (m + 1).toNat)) + n)) 178 0 2 = RC h 178 0 2; rw [RC_0 (by omega), RC_0 (by omega)]; exact no 2 (by omega) (by omega)
                  · show RC (wI (wI h 178 (41 + m).toNat ((gi h 178 (41 + m.toNat)) - n)) 178 (41 + (m + 1)).toNat ((gi h 178 (41 + (m + 1).toNat)) + n)) 178 0 4 = RC h 178 0 4; rw [RC_0 (by omega), RC_0 (by omega)]; exact no 4 (by omega) (by omega)
                  · show (if j < 8 then RC (wI (wI h 178 (41 + m).toNat ((gi h 178 (41 + m.toNat)) - n)) 178 (41 + (m + 1)).toNat ((gi h 178 (41 + (m + 1).toNat)) + n)) 178 0 (41 + j) else 0) = if (j : Int) = m then (if j < 8 then RC h 178 0 (41 + j) else 0) - n else if (j : Int) = othF m a then (if j < 8 then RC h 178 0 (41 + j) else 0) + n else (if j < 8 then RC h 178 0 (41 + j) else 0)
                    rw [oe]
                    by_cases c : j < 8
                    · rw [if_pos c, if_pos c, RC_0 (by omega), RC_0 (by omega)]; exact nf j c
                    · rw [if_neg c, if_neg c, if_neg (by omega), if_neg (by omega)]
                  · show (if j < 8 then RC (wI (wI h 178 (41 + m).toNat ((gi h 178 (41 + m.toNat)) - n)) 178 (41 + (m + 1)).toNat ((gi h 178 (41 + (m + 1).toNat)) + n)) 178 0 (49 + j) else 0) = if j < 8 then RC h 178 0 (49 + j) else 0
                    by_cases c : j < 8
                    · rw [if_pos c, if_pos c, RC_0 (by omega), RC_0 (by omega)]; exact no _ (by omega) (by omega)
                    · rw [if_neg c, if_neg c]
                have ewb : WB b (RC (wI (wI h 178 (41 + m).toNat ((gi h 178 (41 + m.toNat)) - n)) 178 (41 + (m + 1)).toNat ((gi h 178 (41 + (m + 1).toNat)) + n)) 178 0) := by
                  refine ⟨?_, ?_, ?_, ?_, ?_, fun j hj => ?_⟩
                  · rw [RC_0 (by omega), no 0 (by omega) (by omega)]; exact w0
                  · rw [RC_0 (by omega), no 1 (by omega) (by omega)]; exact w1
                  · rw [RC_0 (by omega), no 2 (by omega) (by omega)]; exact w2
                  · rw [RC_0 (by omega), no 3 (by omega) (by omega)]; exact w3
                  · rw [RC_0 (by omega), no 4 (by omega) (by omega)]; exact w4
                  · rw [RC_0 (by omega), RC_0 (by omega), nf j hj, no (49 + j) (by omega) (by omega)]
                    have z := w6 j hj
                    have c2 : (j : Int) = (m + 1) → gi h 178 (41 + j) = gi h 178 (41 + (m + 1).toNat) := fun z => gi_to (by omega)
                    have c1 : (j : Int) = m → gi h 178 (41 + j) = gi h 178 (41 + m.toNat) := fun z => gi_to (by omega)
                    (repeat' split) <;> omega
                exact x_iret hK rfl ⟨Or.inr ⟨er, by rw [f1], ev⟩, GD_st (GD_st (hG) (r := 61) rfl rfl (fun z => by omega) (fun z => by omega) (fun j hj z => by omega)) (r := 61) rfl rfl (fun z => by omega) (fun z => by omega) (fun j hj z => by omega), FRM_wn 41 48 (FRM_wn 41 48 ((FRM.rf : FRM gRL [(0, 61, 41, 48)] h h)) (r := 61) rfl rfl rfl (by omega) (by omega)) (r := 61) rfl rfl rfl (by omega) (by omega), ewb⟩
              · refine x_bipush 92 hK rfl rfl rfl ?_
                rw [oe] at ed
                have er : psR (gi h 171 7) (vw (RC h 178 0)).2.2.2.2.2.1 m n a = (-3) := by rw [ed, if_neg (by omega), if_neg (by omega), if_pos (by omega)]
                exact x_iret hK rfl ⟨Or.inl ⟨by omega, by rw [er], rfl⟩, hG, FRM.rf, wb0⟩
            · refine x_bipush 72 hK rfl rfl rfl ?_
              rw [oe] at ed
              have er : psR (gi h 171 7) (vw (RC h 178 0)).2.2.2.2.2.1 m n a = (-2) := by rw [ed, if_neg (by omega), if_pos (by omega)]
              exact x_iret hK rfl ⟨Or.inl ⟨by omega, by rw [er], rfl⟩, hG, FRM.rf, wb0⟩
          · refine x_if_ne 57 55 hK rfl rfl rfl (by omega) (fun c => by omega) (fun _ => ?_)
            refine x_iconst 56 hK rfl rfl ?_
            have oe : othF m a = if a = 1 then m + 1 else m - 1 := eo
            have er : psR (gi h 171 7) (vw (RC h 178 0)).2.2.2.2.2.1 m n a = (-1) := by rw [ed, if_pos (by omega)]
            exact x_iret hK rfl ⟨Or.inl ⟨by omega, by rw [er], rfl⟩, hG, FRM.rf, wb0⟩
        · refine x_if_eq 55 43 hK rfl rfl rfl (by omega) (fun _ => ?_) (fun c => by omega)
          refine x_iconst 56 hK rfl rfl ?_
          have oe : othF m a = if a = 1 then m + 1 else m - 1 := eo
          have er : psR (gi h 171 7) (vw (RC h 178 0)).2.2.2.2.2.1 m n a = (-1) := by rw [ed, if_pos (by omega)]
          exact x_iret hK rfl ⟨Or.inl ⟨by omega, by rw [er], rfl⟩, hG, FRM.rf, wb0⟩
      · refine x_if_eq 55 34 hK rfl rfl rfl (by omega) (fun _ => ?_) (fun c => by omega)
        refine x_iconst 56 hK rfl rfl ?_
        have oe : othF m a = if a = 1 then m + 1 else m - 1 := eo
        have er : psR (gi h 171 7) (vw (RC h 178 0)).2.2.2.2.2.1 m n a = (-1) := by rw [ed, if_pos (by omega)]
        exact x_iret hK rfl ⟨Or.inl ⟨by omega, by rw [er], rfl⟩, hG, FRM.rf, wb0⟩
    · refine x_if_eq 55 24 hK rfl rfl rfl (by omega) (fun _ => ?_) (fun c => by omega)
      refine x_iconst 56 hK rfl rfl ?_
      have oe : othF m a = if a = 1 then m + 1 else m - 1 := eo
      have er : psR (gi h 171 7) (vw (RC h 178 0)).2.2.2.2.2.1 m n a = (-1) := by rw [ed, if_pos (by omega)]
      exact x_iret hK rfl ⟨Or.inl ⟨by omega, by rw [er], rfl⟩, hG, FRM.rf, wb0⟩
set_option maxRecDepth 4000 in
theorem ctX11_cooksF {SP : CT} (hSP : MONO SP) {sh : List (Nat × Nat)} {h : aH} (hG : GD gE gRL sh h) {m n b : Int} (rm : r32 m) (rn : r32 n) (wb : WB b (RC h 178 0)) : CLd SP 3 mX11_cooks [.ref 171, .int (I m), .int (I n)] h 0 0 (fun rv h' => ((¬ ckOk (gi h 171 7) m n ∧ rv = some (.int (I (-1))) ∧ RC h' 178 0 = RC h 178 0) ∨ (ckOk (gi h 171 7) m n ∧ rv = some (.int (I ((vw (RC h 178 0)).2.2.2.2.2.1 m.toNat))) ∧ vw (RC h' 178 0) = ckW m n (vw (RC h 178 0)))) ∧ GD gE gRL sh h' ∧ FRM gRL [(0, 61, 41, 48)] h h' ∧ WB b (RC h' 178 0)) := by
  refine x_met _ rfl (Nat.le_of_ble_eq_true rfl) (fun K hK => ?_)
  have hmono := MONO_CLd hSP 2
  have wb0 := wb
  obtain ⟨w0, w1, w2, w3, w4, w5⟩ := wb
  rw [RC_0 (by omega)] at w0 w1 w2 w3 w4
  have w6 : ∀ m, m < 8 → (0 ≤ gi h 178 (41 + m) ∧ gi h 178 (41 + m) ≤ 99) ∧ 0 ≤ gi h 178 (49 + m) ∧ gi h 178 (49 + m) ≤ b := fun m hm => by have := w5 m hm; rw [RC_0 (by omega), RC_0 (by omega)] at this; exact this
  have g7 := gri 0 8 hG (a := 171) (r := 54) (k := 7) rfl rfl
  have ef : ∀ j : Nat, j < 8 → (vw (RC h 178 0)).2.2.2.2.2.1 j = gi h 178 (41 + j) := fun j hj => by show (if j < 8 then RC h 178 0 (41 + j) else 0) = _; rw [if_pos hj, RC_0 (by omega)]
  refine x_aload_n 1 hK rfl rfl rfl ?_
  refine x_iload_n 2 hK rfl rfl rfl ?_
  have g189 := gri (0) (8) hG (a := 171) (r := 54) (k := 7) rfl rfl
  have x188 : gi h 171 7 = (gi h 171 7) := rfl
  refine x_callV 5 hK hmono rfl rfl [.ref 171, .int (I m)] [] rfl rfl (Nat.le_of_ble_eq_true rfl) (Nat.le_of_ble_eq_true rfl) rfl (sp_171 (h := h) hG) (CLd_le (Nat.le_of_ble_eq_true rfl) (ctX11_isMessF hSP hG (m := m) (by omega))) ?_
  rw [x188]
  rintro v9 h9 ⟨e9, ⟨rfl, i1188, i2188⟩ | ⟨rfl, i1188⟩⟩ <;> rw [e9] <;> clear e9
  · refine x_if_eq 20 8 hK rfl rfl rfl (by omega) (fun c => by omega) (fun _ => ?_)
    refine x_iload_n 9 hK rfl rfl rfl ?_
    refine x_i2l 10 hK rfl rfl (by omega) ?_
    refine x_lconstE 11 0 hK rfl rfl rfl ?_
    refine x_ldc2_w 14 hK rfl rfl ?_
    refine x_callS 17 hK hmono rfl (Or.inl rfl) rfl [.long (J n), .long (J 0), .long (J 99)] [] rfl rfl (Nat.le_of_ble_eq_true rfl) (Nat.le_of_ble_eq_true rfl) (CLd_le (Nat.le_of_ble_eq_true rfl) (ctX11_in (by omega) (by omega) (by omega))) ?_
    rintro v9 h9 ⟨e9, ⟨rfl, i1190, i2190⟩ | ⟨rfl, i1190⟩⟩ <;> rw [e9] <;> clear e9
    · refine x_if_ne 22 20 hK rfl rfl rfl (by omega) (fun _ => ?_) (fun c => by omega)
      have f1 := ef m.toNat (by omega)
      have wm := w6 m.toNat (by omega)
      refine x_aload_n 23 hK rfl rfl rfl ?_
      refine x_getR 26 hK rfl rfl (sp_171 (h := h) hG) (rf_171_14 (h := h) hG) ?_
      refine x_bipush 28 hK rfl rfl rfl ?_
      refine x_iload_n 29 hK rfl rfl rfl ?_
      refine x_iadd 30 hK rfl rfl ?_
      refine x_ialoadE 31 hK rfl rfl (sp_178 (h := h) hG) (by omega) (by omega) (by omega) (e' := (gi h 178 (41 + m.toNat))) ((gi_to (by omega))) ?_
      refine x_istore_n 32 hK rfl rfl [(3, .int (I (gi h 178 (41 + m.toNat)))), (0, .ref 171), (1, .int (I m)), (2, .int (I n))] rfl ?_
      refine x_aload_n 33 hK rfl rfl rfl ?_
      refine x_getR 36 hK rfl rfl (sp_171 (h := h) hG) (rf_171_14 (h := h) hG) ?_
      refine x_bipush 38 hK rfl rfl rfl ?_
      refine x_iload_n 39 hK rfl rfl rfl ?_
      refine x_iadd 40 hK rfl rfl ?_
      refine x_iload_n 41 hK rfl rfl rfl ?_
      refine x_iastore 42 hK rfl rfl (sp_178 (h := h) hG) (by omega) (by omega) (by omega) ?_
      refine x_iload_n 43 hK rfl rfl rfl ?_
      have n1 : gi (wI h 178 (41 + m).toNat n) 178 (41 + m).toNat = n := gi_same (by omega)
      have no : ∀ j : Nat, (j : Int) ≠ 41 + m → gi (wI h 178 (41 + m).toNat n) 178 j = gi h 178 j := fun j y1 => gi_k (by omega) _
      have nf : ∀ j : Nat, j < 8 → gi (wI h 178 (41 + m).toNat n) 178 (41 + j) = if (j : Int) = m then n else gi h 178 (41 + j) := by
        intro j hj
        by_cases c1 : (j : Int) = m
        · rw [if_pos c1, show 41 + j = (41 + m).toNat by omega, n1]
        · rw [if_neg c1]; exact no _ (by omega)
      have ew : wl (RC (wI h 178 (41 + m).toNat n) 178 0) = wl (RC h 178 0) := by rw [wl_RC (by rw [no 3 (by omega)]; omega), wl_RC (by omega), no 3 (by omega)]; exact wlK_congr fun j z1 z2 => no j (by omega)
      have ev : vw (RC (wI h 178 (41 + m).toNat n) 178 0) = ckW m n (vw (RC h 178 0)) := by
        refine WS_ext ?_ ?_ ?_ ?_ ew (fun j => ?_) (fun j => ?_)
        · show RC (wI h 178 (41 + m).toNat n) 178 0 0 = RC h 178 0 0; rw [RC_0 (by omega), RC_0 (by omega)]; exact no 0 (by omega)
        · show RC (wI h 178 (41 + m).toNat n) 178 0 1 = RC h 178 0 1; rw [RC_0 (by omega), RC_0 (by omega)]; exact no 1 (by omega)
        · show RC (wI h 178 (41 + m).toNat n) 178 0 2 = RC h 178 0 2; rw [RC_0 (by omega), RC_0 (by omega)]; exact no 2 (by omega)
        · show RC (wI h 178 (41 + m).toNat n) 178 0 4 = RC h 178 0 4; rw [RC_0 (by omega), RC_0 (by omega)]; exact no 4 (by omega)
        · show (if j < 8 then RC (wI h 178 (41 + m).toNat n) 178 0 (41 + j) else 0) = if (j : Int) = m then n else (if j < 8 then RC h 178 0 (41 + j) else 0)
          by_cases c : j < 8
          · rw [if_pos c, if_pos c, RC_0 (by omega), RC_0 (by omega)]; exact nf j c
          · rw [if_neg c, if_neg c, if_neg (by omega)]
        · show (if j < 8 then RC (wI h 178 (41 + m).toNat n) 178 0 (49 + j) else 0) = if j < 8 then RC h 178 0 (49 + j) else 0
          by_cases c : j < 8
          · rw [if_pos c, if_pos c, RC_0 (by omega), RC_0 (by omega)]; exact no _ (by omega)
          · rw [if_neg c, if_neg c]
      have ewb : WB b (RC (wI h 178 (41 + m).toNat n) 178 0) := by
        refine ⟨?_, ?_, ?_, ?_, ?_, fun j hj => ?_⟩
        · rw [RC_0 (by omega), no 0 (by omega)]; exact w0
        · rw [RC_0 (by omega), no 1 (by omega)]; exact w1
        · rw [RC_0 (by omega), no 2 (by omega)]; exact w2
        · rw [RC_0 (by omega), no 3 (by omega)]; exact w3
        · rw [RC_0 (by omega), no 4 (by omega)]; exact w4
        · rw [RC_0 (by omega), RC_0 (by omega), nf j hj, no (49 + j) (by omega)]
          have z := w6 j hj
          split <;> omega
      exact x_iret hK rfl ⟨Or.inr ⟨⟨by omega, by omega⟩, by rw [f1], ev⟩, GD_st (hG) (r := 61) rfl rfl (fun z => by omega) (fun z => by omega) (fun j hj z => by omega), FRM_wn 41 48 ((FRM.rf : FRM gRL [(0, 61, 41, 48)] h h)) (r := 61) rfl rfl rfl (by omega) (by omega), ewb⟩
    · refine x_if_ne 22 20 hK rfl rfl rfl (by omega) (fun c => by omega) (fun _ => ?_)
      refine x_iconst 21 hK rfl rfl ?_
      exact x_iret hK rfl ⟨Or.inl ⟨by unfold ckOk; omega, rfl, rfl⟩, hG, FRM.rf, wb0⟩
  · refine x_if_eq 20 8 hK rfl rfl rfl (by omega) (fun _ => ?_) (fun c => by omega)
    refine x_iconst 21 hK rfl rfl ?_
    exact x_iret hK rfl ⟨Or.inl ⟨by unfold ckOk; omega, rfl, rfl⟩, hG, FRM.rf, wb0⟩
