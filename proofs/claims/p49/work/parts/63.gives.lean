section
/-! ORDERS, FOOD, STEPS BY CALLS (the reference), as what they make of a state -/
/-- why an order is refused; the state behind one -/
noncomputable def gvR (v : Int) (w : WS) : Int := if ¬ (-1 ≤ v ∧ v ≤ 1) then -1 else if w.2.2.2.1 = w.1 then -2 else if w.2.2.2.2.1.length = 12 then -3 else 0
noncomputable def gvW (d v : Int) (w : WS) : WS := (w.1, w.2.1, w.2.2.1, w.1, w.2.2.2.2.1 ++ [(w.1 + d, v, w.1)], w.2.2.2.2.2)
noncomputable def tvF (l v : Int) : Int := if l.tmod 2 = 1 then -v else v
theorem tvF_b {l v : Int} (h : -1 ≤ v ∧ v ≤ 1) : -1 ≤ tvF l v ∧ tvF l v ≤ 1 := by unfold tvF; split <;> omega
theorem wl_len {h : aH} {a : Nat} (hn : 0 ≤ gi h a 3 ∧ gi h a 3 ≤ 12) : ((wl (RC h a 0)).length : Int) = gi h a 3 := by rw [wl_RC hn.2, wlK_l]; omega
noncomputable def othF (m a : Int) : Int := if a = 1 then m + 1 else m - 1
/-- why FOOD isn't passed; the state behind it -/
noncomputable def psR (ms : Int) (fd : Nat → Int) (m n a : Int) : Int :=
  if ¬ ((0 ≤ m ∧ m < ms) ∧ (0 ≤ a ∧ a ≤ 1) ∧ (0 ≤ othF m a ∧ othF m a < ms) ∧ 1 ≤ n ∧ n ≤ 99) then -1 else if fd m.toNat < n then -2 else if 99 < fd (othF m a).toNat + n then -3 else 0
noncomputable def psW (m n a : Int) (w : WS) : WS := (w.1, w.2.1, w.2.2.1, w.2.2.2.1, w.2.2.2.2.1, (fun j => if (j : Int) = m then w.2.2.2.2.2.1 j - n else if (j : Int) = othF m a then w.2.2.2.2.2.1 j + n else w.2.2.2.2.2.1 j), w.2.2.2.2.2.2)
noncomputable def ckOk (ms m n : Int) : Prop := (0 ≤ m ∧ m < ms) ∧ 0 ≤ n ∧ n ≤ 99
noncomputable def ckW (m n : Int) (w : WS) : WS := (w.1, w.2.1, w.2.2.1, w.2.2.2.1, w.2.2.2.2.1, (fun j => if (j : Int) = m then n else w.2.2.2.2.2.1 j), w.2.2.2.2.2.2)
/-- the states that can be brought back, the eldest first -/
noncomputable def UL (h : aH) : List (Nat → Int) := (List.range (gi h 171 29).toNat).map fun u => RC h 186 (57 * u)
noncomputable def pushU (l : List (Nat → Int)) (x : Nat → Int) : List (Nat → Int) := if l.length < 15 then l ++ [x] else l.drop 1 ++ [x]
theorem UL_l (h : aH) : (UL h).length = (gi h 171 29).toNat := by unfold UL; rw [List.length_map, List.length_range]
theorem UL_eq {h h' : aH} (e : gi h' 171 29 = gi h 171 29) (f : ∀ u : Nat, (u : Int) < gi h 171 29 → RC h' 186 (57 * u) = RC h 186 (57 * u)) : UL h' = UL h := by
  unfold UL
  rw [e]
  refine List.map_congr_left fun u hu => f u ?_
  have := List.mem_range.mp hu
  omega
/-- put by, then counted -/
theorem UL_push {h h1 h' : aH} {x : Nat → Int} (hu : 0 ≤ gi h 171 29 ∧ gi h 171 29 ≤ 15) (e1 : gi h1 171 29 = gi h 171 29) (f0 : RC h1 186 (57 * (gi h 171 29).toNat) = x) (f1 : ∀ v, v ≠ (gi h 171 29).toNat → RC h1 186 (57 * v) = RC h 186 (57 * v))
    (e2 : gi h' 171 29 = min 15 (gi h1 171 29 + 1)) (a1 : gi h1 171 29 < 15 → ∀ v, RC h' 186 (57 * v) = RC h1 186 (57 * v)) (a2 : gi h1 171 29 = 15 → (∀ v, v < 15 → RC h' 186 (57 * v) = RC h1 186 (57 * (v + 1))) ∧ RC h' 186 (57 * 15) = RC h1 186 (57 * 15)) : UL h' = pushU (UL h) x := by
  obtain ⟨n, hn⟩ : ∃ n : Nat, gi h 171 29 = n := ⟨(gi h 171 29).toNat, by omega⟩
  rw [e1] at e2 a1 a2
  rw [hn] at e2 a1 a2 f0 f1
  rw [show ((n : Int)).toNat = n from rfl] at f0 f1
  unfold pushU
  rw [UL_l, hn, show ((n : Int)).toNat = n from rfl]
  by_cases c : n < 15
  · rw [if_pos c]
    unfold UL
    rw [e2, hn, show (min 15 ((n : Int) + 1)).toNat = n + 1 by omega, show ((n : Int)).toNat = n from rfl, List.range_succ, List.map_append, List.map_cons, List.map_nil, a1 (by omega), f0]
    congr 1
    refine List.map_congr_left fun u hu => ?_
    have := List.mem_range.mp hu
    rw [a1 (by omega), f1 u (by omega)]
  · rw [if_neg c]
    obtain rfl : n = 15 := by omega
    obtain ⟨b1, b2⟩ := a2 rfl
    have r15 : (UL h).drop 1 = (List.range 14).map fun u => RC h 186 (57 * (u + 1)) := by unfold UL; rw [hn]; rfl
    rw [r15]
    unfold UL
    rw [e2]
    show (List.range (14 + 1)).map _ = _
    rw [List.range_succ, List.map_append, List.map_cons, List.map_nil, b1 14 (by omega), f0]
    congr 1
    refine List.map_congr_left fun u hu => ?_
    have := List.mem_range.mp hu
    rw [b1 u (by omega), f1 (u + 1) (by omega)]
theorem AW_push {b : Int} {h h1 h' : aH} (w : AW b h) (hu : 0 ≤ gi h 171 29 ∧ gi h 171 29 ≤ 15) (wx : WB b (RC h' 178 0)) (e1 : gi h1 171 29 = gi h 171 29) (f0 : RC h1 186 (57 * (gi h 171 29).toNat) = RC h 178 0) (f1 : ∀ v, v ≠ (gi h 171 29).toNat → RC h1 186 (57 * v) = RC h 186 (57 * v)) (e3 : ∀ u, u < 3 → RC h' 200 (57 * u) = RC h 200 (57 * u))
    (a1 : gi h1 171 29 < 15 → ∀ v, RC h' 186 (57 * v) = RC h1 186 (57 * v)) (a2 : gi h1 171 29 = 15 → (∀ v, v < 15 → RC h' 186 (57 * v) = RC h1 186 (57 * (v + 1))) ∧ RC h' 186 (57 * 15) = RC h1 186 (57 * 15)) : AW b h' := by
  have g1 : ∀ v, v < 16 → WB b (RC h1 186 (57 * v)) := fun v hv => by
    by_cases c : v = (gi h 171 29).toNat
    · rw [c, f0]; exact w.1
    · rw [f1 v c]; exact w.2.1 v hv
  refine ⟨wx, fun v hv => ?_, fun v hv => by rw [e3 v hv]; exact w.2.2 v hv⟩
  rw [e1] at a1 a2
  by_cases c : gi h 171 29 < 15
  · rw [a1 c v]; exact g1 v hv
  · obtain ⟨b1, b2⟩ := a2 (by omega)
    by_cases c2 : v < 15
    · rw [b1 v c2]; exact g1 _ (by omega)
    · obtain rfl : v = 15 := by omega
      rw [b2]; exact g1 15 hv
set_option maxRecDepth 4000 in
theorem ctX11_givesNF {SP : CT} (hSP : MONO SP) {sh : List (Nat × Nat)} {h : aH} (hG : GD gE gRL sh h) {v b : Int} (hX : XI h) (hv : r32 v) (wb : WB b (RC h 178 0)) (hb : b ≤ 1000000) : CLd SP 7 mX11_gives [.ref 171, .ref 178, .int (I v)] h 0 0 (fun rv h' => ((gvR v (vw (RC h 178 0)) ≠ 0 ∧ rv = some (.int (I (gvR v (vw (RC h 178 0))))) ∧ RC h' 178 0 = RC h 178 0) ∨ (gvR v (vw (RC h 178 0)) = 0 ∧ rv = some (.int (I (dlA h (gi h 178 0)))) ∧ vw (RC h' 178 0) = gvW (dlA h (gi h 178 0)) (tvF (gi h 171 5) v) (vw (RC h 178 0)))) ∧ GD gE gRL sh h' ∧ FRM gRL [(0, 61, 3, 40), (0, 67, 0, 79), (0, 68, 0, 3)] h h' ∧ WB b (RC h' 178 0)) := by
  refine x_met _ rfl (Nat.le_of_ble_eq_true rfl) (fun K hK => ?_)
  have hmono := MONO_CLd hSP 6
  have wb0 := wb
  obtain ⟨w0, w1, w2, w3, w4, w5⟩ := wb
  rw [RC_0 (by omega)] at w0 w1 w2 w3 w4
  have w6 : ∀ m, m < 8 → (0 ≤ gi h 178 (41 + m) ∧ gi h 178 (41 + m) ≤ 99) ∧ 0 ≤ gi h 178 (49 + m) ∧ gi h 178 (49 + m) ≤ b := fun m hm => by have := w5 m hm; rw [RC_0 (by omega), RC_0 (by omega)] at this; exact this
  have ln := wl_len (a := 178) w3
  have gd0 : gvR v (vw (RC h 178 0)) = if ¬ (-1 ≤ v ∧ v ≤ 1) then -1 else if RC h 178 0 4 = RC h 178 0 0 then -2 else if (wl (RC h 178 0)).length = 12 then -3 else 0 := rfl
  rw [RC_0 (by omega), RC_0 (by omega)] at gd0
  have db := dlA_b h (gi h 178 0)
  have tb := fun z => tvF_b (l := gi h 171 5) (v := v) z
  refine x_iload_n 1 hK rfl rfl rfl ?_
  refine x_i2l 2 hK rfl rfl (by omega) ?_
  refine x_ldc2_w 5 hK rfl rfl ?_
  refine x_lconstE 6 1 hK rfl rfl rfl ?_
  refine x_callS 9 hK hmono rfl (Or.inl rfl) rfl [.long (J v), .long (J (-1)), .long (J 1)] [] rfl rfl (Nat.le_of_ble_eq_true rfl) (Nat.le_of_ble_eq_true rfl) (CLd_le (Nat.le_of_ble_eq_true rfl) (ctX11_in (by omega) (by omega) (by omega))) ?_
  rintro v9 h9 ⟨e9, ⟨rfl, i1166, i2166⟩ | ⟨rfl, i1166⟩⟩ <;> rw [e9] <;> clear e9
  · refine x_if_ne 14 12 hK rfl rfl rfl (by omega) (fun _ => ?_) (fun c => by omega)
    refine x_aload_n 15 hK rfl rfl rfl ?_
    refine x_iconst 16 hK rfl rfl ?_
    have g167 := gi_r h 178 4
    refine x_ialoadE 17 hK rfl rfl (sp_178 (h := h) hG) (by omega) (by omega) (by omega) (e' := (gi h 178 4)) (rfl) ?_
    refine x_aload_n 18 hK rfl rfl rfl ?_
    refine x_iconst 19 hK rfl rfl ?_
    have g168 := gi_r h 178 0
    refine x_ialoadE 20 hK rfl rfl (sp_178 (h := h) hG) (by omega) (by omega) (by omega) (e' := (gi h 178 0)) (rfl) ?_
    refine x_if_icmp_ne 26 23 hK rfl rfl rfl (by omega) (by omega) (fun c13 => ?_) (fun c13 => ?_)
    · refine x_aload_n 27 hK rfl rfl rfl ?_
      refine x_iconst 28 hK rfl rfl ?_
      have g169 := gri (0) (12) hG (a := 178) (r := 61) (k := 3) rfl rfl
      refine x_ialoadE 29 hK rfl rfl (sp_178 (h := h) hG) (by omega) (by omega) (by omega) (e' := (gi h 178 3)) (rfl) ?_
      refine x_bipush 31 hK rfl rfl rfl ?_
      refine x_if_icmp_ne 37 34 hK rfl rfl rfl (by omega) (by omega) (fun c18 => ?_) (fun c18 => ?_)
      · refine x_aload_n 38 hK rfl rfl rfl ?_
        refine x_aload_n 39 hK rfl rfl rfl ?_
        refine x_iconst 40 hK rfl rfl ?_
        refine x_ialoadE 41 hK rfl rfl (sp_178 (h := h) hG) (by omega) (by omega) (by omega) (e' := (gi h 178 0)) (rfl) ?_
        refine x_callV 44 hK hmono rfl rfl [.ref 171, .int (I (gi h 178 0))] [] rfl rfl (Nat.le_of_ble_eq_true rfl) (Nat.le_of_ble_eq_true rfl) rfl (sp_171 (h := h) hG) (CLd_le (Nat.le_of_ble_eq_true rfl) (ctX11_delayAtF hSP hG hX (by omega))) ?_
        rintro v8 h8 ⟨rfl, hG8, hF8⟩
        refine x_istore_n 45 hK rfl rfl [(3, .int (I (dlA h (gi h 178 0)))), (0, .ref 171), (1, .ref 178), (2, .int (I v))] rfl ?_
        refine x_iconst 46 hK rfl rfl ?_
        refine x_iconst 47 hK rfl rfl ?_
        refine x_aload_n 48 hK rfl rfl rfl ?_
        refine x_iconst 49 hK rfl rfl ?_
        refine x_ialoadE 50 hK rfl rfl (sp_178 (h := h8) hG8) (by omega) (by omega) (by omega) (e' := (gi h 178 3)) (FRM_gi hF8 (r := 61) rfl rfl) ?_
        refine x_imul 51 hK rfl rfl ?_
        refine x_iadd 52 hK rfl rfl ?_
        refine x_istore 54 hK rfl rfl [(4, .int (I (5 + (3 * (gi h 178 3))))), (3, .int (I (dlA h (gi h 178 0)))), (0, .ref 171), (1, .ref 178), (2, .int (I v))] rfl ?_
        refine x_aload_n 55 hK rfl rfl rfl ?_
        refine x_iload 57 hK rfl rfl rfl ?_
        refine x_iconst 58 hK rfl rfl ?_
        refine x_iadd 59 hK rfl rfl ?_
        refine x_aload_n 60 hK rfl rfl rfl ?_
        refine x_iconst 61 hK rfl rfl ?_
        refine x_ialoadE 62 hK rfl rfl (sp_178 (h := h8) hG8) (by omega) (by omega) (by omega) (e' := (gi h 178 0)) (FRM_gi hF8 (r := 61) rfl rfl) ?_
        refine x_iload_n 63 hK rfl rfl rfl ?_
        refine x_iadd 64 hK rfl rfl ?_
        refine x_iastore 65 hK rfl rfl (sp_178 (h := h8) hG8) (by omega) (by omega) (by omega) ?_
        refine x_aload_n 66 hK rfl rfl rfl ?_
        refine x_iload 68 hK rfl rfl rfl ?_
        refine x_iconst 69 hK rfl rfl ?_
        refine x_iadd 70 hK rfl rfl ?_
        refine x_aload_n 71 hK rfl rfl rfl ?_
        refine x_iload_n 72 hK rfl rfl rfl ?_
        have hGp170 : GD gE gRL sh (wI h8 178 ((5 + (3 * (gi h 178 3))) + 0).toNat ((gi h 178 0) + (dlA h (gi h 178 0)))) := GD_st (hG8) (r := 61) rfl rfl (fun z => by omega) (fun z => by omega) (fun j hj z => by omega)
        refine x_callV 75 hK hmono rfl rfl [.ref 171, .int (I v)] [.int (I ((5 + (3 * (gi h 178 3))) + 1)), .ref 178] rfl rfl (Nat.le_of_ble_eq_true rfl) (Nat.le_of_ble_eq_true rfl) rfl (sp_171 (h := h8) hG8) (CLd_le (Nat.le_of_ble_eq_true rfl) (ctX11_turned hSP hGp170)) ?_
        rintro v9 h9 ⟨e9, rfl⟩
        rw [e9, show gi (wI h8 178 ((5 + (3 * (gi h 178 3))) + 0).toNat ((gi h 178 0) + (dlA h (gi h 178 0)))) 171 5 = gi h 171 5 from (gi_a (by decide) _).trans (FRM_gi hF8 (r := 54) rfl rfl)]
        clear e9
        change K 75 _ (.int (I (tvF (gi h 171 5) v)) :: _) _ _ _
        have tb1 := tb (by omega)
        refine x_iastore 76 hK rfl rfl (sp_178 (h := h8) hG8) (by omega) (by omega) (by omega) ?_
        refine x_aload_n 77 hK rfl rfl rfl ?_
        refine x_iload 79 hK rfl rfl rfl ?_
        refine x_iconst 80 hK rfl rfl ?_
        refine x_iadd 81 hK rfl rfl ?_
        refine x_aload_n 82 hK rfl rfl rfl ?_
        refine x_iconst 83 hK rfl rfl ?_
        refine x_ialoadE 84 hK rfl rfl (sp_178 (h := h8) hG8) (by omega) (by omega) (by omega) (e' := (gi h 178 0)) ((gi_k (by omega) _).trans ((gi_k (by omega) _).trans (FRM_gi hF8 (r := 61) rfl rfl))) ?_
        refine x_iastore 85 hK rfl rfl (sp_178 (h := h8) hG8) (by omega) (by omega) (by omega) ?_
        refine x_aload_n 86 hK rfl rfl rfl ?_
        refine x_iconst 87 hK rfl rfl ?_
        refine x_dup2 88 hK rfl rfl rfl rfl ?_
        refine x_ialoadE 89 hK rfl rfl (sp_178 (h := h8) hG8) (by omega) (by omega) (by omega) (e' := (gi h 178 3)) ((gi_k (by omega) _).trans ((gi_k (by omega) _).trans ((gi_k (by omega) _).trans (FRM_gi hF8 (r := 61) rfl rfl)))) ?_
        refine x_iconst 90 hK rfl rfl ?_
        refine x_iadd 91 hK rfl rfl ?_
        refine x_iastore 92 hK rfl rfl (sp_178 (h := h8) hG8) (by omega) (by omega) (by omega) ?_
        refine x_aload_n 93 hK rfl rfl rfl ?_
        refine x_iconst 94 hK rfl rfl ?_
        refine x_aload_n 95 hK rfl rfl rfl ?_
        refine x_iconst 96 hK rfl rfl ?_
        refine x_ialoadE 97 hK rfl rfl (sp_178 (h := h8) hG8) (by omega) (by omega) (by omega) (e' := (gi h 178 0)) ((gi_k (by decide) _).trans ((gi_k (by omega) _).trans ((gi_k (by omega) _).trans ((gi_k (by omega) _).trans (FRM_gi hF8 (r := 61) rfl rfl))))) ?_
        refine x_iastore 98 hK rfl rfl (sp_178 (h := h8) hG8) (by omega) (by omega) (by omega) ?_
        refine x_iload_n 99 hK rfl rfl rfl ?_
        have er : gvR v (vw (RC h 178 0)) = 0 := by rw [gd0, if_neg (by omega), if_neg (by omega), if_neg (by omega)]
        have n3 : gi (wI (wI (wI (wI (wI h8 178 ((5 + (3 * (gi h 178 3))) + 0).toNat ((gi h 178 0) + (dlA h (gi h 178 0)))) 178 ((5 + (3 * (gi h 178 3))) + 1).toNat (tvF (gi h 171 5) v)) 178 ((5 + (3 * (gi h 178 3))) + 2).toNat (gi h 178 0)) 178 3 ((gi h 178 3) + 1)) 178 4 (gi h 178 0)) 178 3 = gi h 178 3 + 1 := (gi_k (by decide) _).trans (gi_same (by omega))
        have n4 : gi (wI (wI (wI (wI (wI h8 178 ((5 + (3 * (gi h 178 3))) + 0).toNat ((gi h 178 0) + (dlA h (gi h 178 0)))) 178 ((5 + (3 * (gi h 178 3))) + 1).toNat (tvF (gi h 171 5) v)) 178 ((5 + (3 * (gi h 178 3))) + 2).toNat (gi h 178 0)) 178 3 ((gi h 178 3) + 1)) 178 4 (gi h 178 0)) 178 4 = gi h 178 0 := gi_same (by omega)
        have n5 : gi (wI (wI (wI (wI (wI h8 178 ((5 + (3 * (gi h 178 3))) + 0).toNat ((gi h 178 0) + (dlA h (gi h 178 0)))) 178 ((5 + (3 * (gi h 178 3))) + 1).toNat (tvF (gi h 171 5) v)) 178 ((5 + (3 * (gi h 178 3))) + 2).toNat (gi h 178 0)) 178 3 ((gi h 178 3) + 1)) 178 4 (gi h 178 0)) 178 ((5 + (3 * (gi h 178 3))) + 0).toNat = ((gi h 178 0) + (dlA h (gi h 178 0))) := (gi_k (by omega) _).trans ((gi_k (by omega) _).trans ((gi_k (by omega) _).trans ((gi_k (by omega) _).trans (gi_same (by omega)))))
        have n6 : gi (wI (wI (wI (wI (wI h8 178 ((5 + (3 * (gi h 178 3))) + 0).toNat ((gi h 178 0) + (dlA h (gi h 178 0)))) 178 ((5 + (3 * (gi h 178 3))) + 1).toNat (tvF (gi h 171 5) v)) 178 ((5 + (3 * (gi h 178 3))) + 2).toNat (gi h 178 0)) 178 3 ((gi h 178 3) + 1)) 178 4 (gi h 178 0)) 178 ((5 + (3 * (gi h 178 3))) + 1).toNat = (tvF (gi h 171 5) v) := (gi_k (by omega) _).trans ((gi_k (by omega) _).trans ((gi_k (by omega) _).trans (gi_same (by omega))))
        have n7 : gi (wI (wI (wI (wI (wI h8 178 ((5 + (3 * (gi h 178 3))) + 0).toNat ((gi h 178 0) + (dlA h (gi h 178 0)))) 178 ((5 + (3 * (gi h 178 3))) + 1).toNat (tvF (gi h 171 5) v)) 178 ((5 + (3 * (gi h 178 3))) + 2).toNat (gi h 178 0)) 178 3 ((gi h 178 3) + 1)) 178 4 (gi h 178 0)) 178 ((5 + (3 * (gi h 178 3))) + 2).toNat = (gi h 178 0) := (gi_k (by omega) _).trans ((gi_k (by omega) _).trans (gi_same (by omega)))
        have no : ∀ j : Nat, j ≠ 3 → j ≠ 4 → (j : Int) ≠ 5 + 3 * gi h 178 3 → (j : Int) ≠ 6 + 3 * gi h 178 3 → (j : Int) ≠ 7 + 3 * gi h 178 3 → gi (wI (wI (wI (wI (wI h8 178 ((5 + (3 * (gi h 178 3))) + 0).toNat ((gi h 178 0) + (dlA h (gi h 178 0)))) 178 ((5 + (3 * (gi h 178 3))) + 1).toNat (tvF (gi h 171 5) v)) 178 ((5 + (3 * (gi h 178 3))) + 2).toNat (gi h 178 0)) 178 3 ((gi h 178 3) + 1)) 178 4 (gi h 178 0)) 178 j = gi h 178 j := fun j y1 y2 y3 y4 y5 => (gi_k (by omega) _).trans ((gi_k (by omega) _).trans ((gi_k (by omega) _).trans ((gi_k (by omega) _).trans ((gi_k (by omega) _).trans (FRM_gi hF8 (r := 61) rfl rfl)))))
        have ew : wl (RC (wI (wI (wI (wI (wI h8 178 ((5 + (3 * (gi h 178 3))) + 0).toNat ((gi h 178 0) + (dlA h (gi h 178 0)))) 178 ((5 + (3 * (gi h 178 3))) + 1).toNat (tvF (gi h 171 5) v)) 178 ((5 + (3 * (gi h 178 3))) + 2).toNat (gi h 178 0)) 178 3 ((gi h 178 3) + 1)) 178 4 (gi h 178 0)) 178 0) = wl (RC h 178 0) ++ [(gi h 178 0 + (dlA h (gi h 178 0)), (tvF (gi h 171 5) v), gi h 178 0)] := by
          rw [wl_RC (by omega), wl_RC (by omega), n3, tn_s (i := gi h 178 3) (by omega), wlK_s]
          congr 1
          · exact wlK_congr fun j z1 z2 => no j (by omega) (by omega) (by omega) (by omega) (by omega)
          · unfold tri
            rw [show 5 + 3 * (gi h 178 3).toNat = ((5 + (3 * (gi h 178 3))) + 0).toNat by omega, show 6 + 3 * (gi h 178 3).toNat = ((5 + (3 * (gi h 178 3))) + 1).toNat by omega, show 7 + 3 * (gi h 178 3).toNat = ((5 + (3 * (gi h 178 3))) + 2).toNat by omega, n5, n6, n7]
        have ev : vw (RC (wI (wI (wI (wI (wI h8 178 ((5 + (3 * (gi h 178 3))) + 0).toNat ((gi h 178 0) + (dlA h (gi h 178 0)))) 178 ((5 + (3 * (gi h 178 3))) + 1).toNat (tvF (gi h 171 5) v)) 178 ((5 + (3 * (gi h 178 3))) + 2).toNat (gi h 178 0)) 178 3 ((gi h 178 3) + 1)) 178 4 (gi h 178 0)) 178 0) = gvW (dlA h (gi h 178 0)) (tvF (gi h 171 5) v) (vw (RC h 178 0)) := by
          refine WS_ext ?_ ?_ ?_ ?_ ?_ (fun m => ?_) (fun m => ?_)
          · show RC (wI (wI (wI (wI (wI h8 178 ((5 + (3 * (gi h 178 3))) + 0).toNat ((gi h 178 0) + (dlA h (gi h 178 0)))) 178 ((5 + (3 * (gi h 178 3))) + 1).toNat (tvF (gi h 171 5) v)) 178 ((5 + (3 * (gi h 178 3))) + 2).toNat (gi h 178 0)) 178 3 ((gi h 178 3) + 1)) 178 4 (gi h 178 0)) 178 0 0 = RC h 178 0 0; rw [RC_0 (by omega), RC_0 (by omega)]; exact no 0 (by omega) (by omega) (by omega) (by omega) (by omega)
          · show RC (wI (wI (wI (wI (wI h8 178 ((5 + (3 * (gi h 178 3))) + 0).toNat ((gi h 178 0) + (dlA h (gi h 178 0)))) 178 ((5 + (3 * (gi h 178 3))) + 1).toNat (tvF (gi h 171 5) v)) 178 ((5 + (3 * (gi h 178 3))) + 2).toNat (gi h 178 0)) 178 3 ((gi h 178 3) + 1)) 178 4 (gi h 178 0)) 178 0 1 = RC h 178 0 1; rw [RC_0 (by omega), RC_0 (by omega)]; exact no 1 (by omega) (by omega) (by omega) (by omega) (by omega)
          · show RC (wI (wI (wI (wI (wI h8 178 ((5 + (3 * (gi h 178 3))) + 0).toNat ((gi h 178 0) + (dlA h (gi h 178 0)))) 178 ((5 + (3 * (gi h 178 3))) + 1).toNat (tvF (gi h 171 5) v)) 178 ((5 + (3 * (gi h 178 3))) + 2).toNat (gi h 178 0)) 178 3 ((gi h 178 3) + 1)) 178 4 (gi h 178 0)) 178 0 2 = RC h 178 0 2; rw [RC_0 (by omega), RC_0 (by omega)]; exact no 2 (by omega) (by omega) (by omega) (by omega) (by omega)
          · show RC (wI (wI (wI (wI (wI h8 178 ((5 + (3 * (gi h 178 3))) + 0).toNat ((gi h 178 0) + (dlA h (gi h 178 0)))) 178 ((5 + (3 * (gi h 178 3))) + 1).toNat (tvF (gi h 171 5) v)) 178 ((5 + (3 * (gi h 178 3))) + 2).toNat (gi h 178 0)) 178 3 ((gi h 178 3) + 1)) 178 4 (gi h 178 0)) 178 0 4 = RC h 178 0 0; rw [RC_0 (by omega), RC_0 (by omega)]; exact n4
          · show wl (RC (wI (wI (wI (wI (wI h8 178 ((5 + (3 * (gi h 178 3))) + 0).toNat ((gi h 178 0) + (dlA h (gi h 178 0)))) 178 ((5 + (3 * (gi h 178 3))) + 1).toNat (tvF (gi h 171 5) v)) 178 ((5 + (3 * (gi h 178 3))) + 2).toNat (gi h 178 0)) 178 3 ((gi h 178 3) + 1)) 178 4 (gi h 178 0)) 178 0) = wl (RC h 178 0) ++ [(RC h 178 0 0 + _, _, RC h 178 0 0)]; rw [RC_0 (by omega)]; exact ew
          · show (if m < 8 then RC (wI (wI (wI (wI (wI h8 178 ((5 + (3 * (gi h 178 3))) + 0).toNat ((gi h 178 0) + (dlA h (gi h 178 0)))) 178 ((5 + (3 * (gi h 178 3))) + 1).toNat (tvF (gi h 171 5) v)) 178 ((5 + (3 * (gi h 178 3))) + 2).toNat (gi h 178 0)) 178 3 ((gi h 178 3) + 1)) 178 4 (gi h 178 0)) 178 0 (41 + m) else 0) = if m < 8 then RC h 178 0 (41 + m) else 0
            by_cases c : m < 8
            · rw [if_pos c, if_pos c, RC_0 (by omega), RC_0 (by omega)]; exact no _ (by omega) (by omega) (by omega) (by omega) (by omega)
            · rw [if_neg c, if_neg c]
          · show (if m < 8 then RC (wI (wI (wI (wI (wI h8 178 ((5 + (3 * (gi h 178 3))) + 0).toNat ((gi h 178 0) + (dlA h (gi h 178 0)))) 178 ((5 + (3 * (gi h 178 3))) + 1).toNat (tvF (gi h 171 5) v)) 178 ((5 + (3 * (gi h 178 3))) + 2).toNat (gi h 178 0)) 178 3 ((gi h 178 3) + 1)) 178 4 (gi h 178 0)) 178 0 (49 + m) else 0) = if m < 8 then RC h 178 0 (49 + m) else 0
            by_cases c : m < 8
            · rw [if_pos c, if_pos c, RC_0 (by omega), RC_0 (by omega)]; exact no _ (by omega) (by omega) (by omega) (by omega) (by omega)
            · rw [if_neg c, if_neg c]
        have ewb : WB b (RC (wI (wI (wI (wI (wI h8 178 ((5 + (3 * (gi h 178 3))) + 0).toNat ((gi h 178 0) + (dlA h (gi h 178 0)))) 178 ((5 + (3 * (gi h 178 3))) + 1).toNat (tvF (gi h 171 5) v)) 178 ((5 + (3 * (gi h 178 3))) + 2).toNat (gi h 178 0)) 178 3 ((gi h 178 3) + 1)) 178 4 (gi h 178 0)) 178 0) := by
          refine ⟨?_, ?_, ?_, ?_, ?_, fun m hm => ?_⟩
          · rw [RC_0 (by omega), no 0 (by omega) (by omega) (by omega) (by omega) (by omega)]; exact w0
          · rw [RC_0 (by omega), no 1 (by omega) (by omega) (by omega) (by omega) (by omega)]; exact w1
          · rw [RC_0 (by omega), no 2 (by omega) (by omega) (by omega) (by omega) (by omega)]; exact w2
          · rw [RC_0 (by omega), n3]; omega
          · rw [RC_0 (by omega), n4]; omega
          · rw [RC_0 (by omega), RC_0 (by omega), no (41 + m) (by omega) (by omega) (by omega) (by omega) (by omega), no (49 + m) (by omega) (by omega) (by omega) (by omega) (by omega)]; exact w6 m hm
        exact x_iret hK rfl ⟨Or.inr ⟨er, rfl, ev⟩, GD_w0 (GD_st (GD_st (GD_st (GD_st (hG8) (r := 61) rfl rfl (fun z => by omega) (fun z => by omega) (fun j hj z => by omega)) (r := 61) rfl rfl (fun z => by omega) (fun z => by omega) (fun j hj z => by omega)) (r := 61) rfl rfl (fun z => by omega) (fun z => by omega) (fun j hj z => by omega)) (r := 61) rfl rfl (fun z => by omega) (fun z => by omega) (fun j hj z => by omega)) (r := 61) rfl rfl, FRM_w (FRM_w (FRM_wn 3 40 (FRM_wn 3 40 (FRM_wn 3 40 ((hF8).mono rfl) (r := 61) rfl rfl rfl (by omega) (by omega)) (r := 61) rfl rfl rfl (by omega) (by omega)) (r := 61) rfl rfl rfl (by omega) (by omega)) (r := 61) rfl rfl) (r := 61) rfl rfl, ewb⟩
      · refine x_bipush 36 hK rfl rfl rfl ?_
        have er : gvR v (vw (RC h 178 0)) = (-3) := by rw [gd0, if_neg (by omega), if_neg (by omega), if_pos (by omega)]
        exact x_iret hK rfl ⟨Or.inl ⟨by omega, by rw [er], rfl⟩, hG, FRM.rf, wb0⟩
    · refine x_bipush 25 hK rfl rfl rfl ?_
      have er : gvR v (vw (RC h 178 0)) = (-2) := by rw [gd0, if_neg (by omega), if_pos (by omega)]
      exact x_iret hK rfl ⟨Or.inl ⟨by omega, by rw [er], rfl⟩, hG, FRM.rf, wb0⟩
  · refine x_if_ne 14 12 hK rfl rfl rfl (by omega) (fun c => by omega) (fun _ => ?_)
    refine x_iconst 13 hK rfl rfl ?_
    have er : gvR v (vw (RC h 178 0)) = (-1) := by rw [gd0, if_pos (by omega)]
    exact x_iret hK rfl ⟨Or.inl ⟨by omega, by rw [er], rfl⟩, hG, FRM.rf, wb0⟩
set_option maxRecDepth 4000 in
theorem ctX11_givesTF {SP : CT} (hSP : MONO SP) {sh : List (Nat × Nat)} {h : aH} (hG : GD gE gRL sh h) {v b : Int} (hX : XI h) (hv : r32 v) (wb : WB b (RC h 179 0)) (hb : b ≤ 1000000) : CLd SP 7 mX11_gives [.ref 171, .ref 179, .int (I v)] h 0 0 (fun rv h' => ((gvR v (vw (RC h 179 0)) ≠ 0 ∧ rv = some (.int (I (gvR v (vw (RC h 179 0))))) ∧ RC h' 179 0 = RC h 179 0) ∨ (gvR v (vw (RC h 179 0)) = 0 ∧ rv = some (.int (I (dlA h (gi h 179 0)))) ∧ vw (RC h' 179 0) = gvW (dlA h (gi h 179 0)) (tvF (gi h 171 5) v) (vw (RC h 179 0)))) ∧ GD gE gRL sh h' ∧ FRM gRL [(0, 62, 3, 40), (0, 67, 0, 79), (0, 68, 0, 3)] h h' ∧ WB b (RC h' 179 0)) := by
  refine x_met _ rfl (Nat.le_of_ble_eq_true rfl) (fun K hK => ?_)
  have hmono := MONO_CLd hSP 6
  have wb0 := wb
  obtain ⟨w0, w1, w2, w3, w4, w5⟩ := wb
  rw [RC_0 (by omega)] at w0 w1 w2 w3 w4
  have w6 : ∀ m, m < 8 → (0 ≤ gi h 179 (41 + m) ∧ gi h 179 (41 + m) ≤ 99) ∧ 0 ≤ gi h 179 (49 + m) ∧ gi h 179 (49 + m) ≤ b := fun m hm => by have := w5 m hm; rw [RC_0 (by omega), RC_0 (by omega)] at this; exact this
  have ln := wl_len (a := 179) w3
  have gd0 : gvR v (vw (RC h 179 0)) = if ¬ (-1 ≤ v ∧ v ≤ 1) then -1 else if RC h 179 0 4 = RC h 179 0 0 then -2 else if (wl (RC h 179 0)).length = 12 then -3 else 0 := rfl
  rw [RC_0 (by omega), RC_0 (by omega)] at gd0
  have db := dlA_b h (gi h 179 0)
  have tb := fun z => tvF_b (l := gi h 171 5) (v := v) z
  refine x_iload_n 1 hK rfl rfl rfl ?_
  refine x_i2l 2 hK rfl rfl (by omega) ?_
  refine x_ldc2_w 5 hK rfl rfl ?_
  refine x_lconstE 6 1 hK rfl rfl rfl ?_
  refine x_callS 9 hK hmono rfl (Or.inl rfl) rfl [.long (J v), .long (J (-1)), .long (J 1)] [] rfl rfl (Nat.le_of_ble_eq_true rfl) (Nat.le_of_ble_eq_true rfl) (CLd_le (Nat.le_of_ble_eq_true rfl) (ctX11_in (by omega) (by omega) (by omega))) ?_
  rintro v9 h9 ⟨e9, ⟨rfl, i1171, i2171⟩ | ⟨rfl, i1171⟩⟩ <;> rw [e9] <;> clear e9
  · refine x_if_ne 14 12 hK rfl rfl rfl (by omega) (fun _ => ?_) (fun c => by omega)
    refine x_aload_n 15 hK rfl rfl rfl ?_
    refine x_iconst 16 hK rfl rfl ?_
    have g172 := gi_r h 179 4
    refine x_ialoadE 17 hK rfl rfl (sp_179 (h := h) hG) (by omega) (by omega) (by omega) (e' := (gi h 179 4)) (rfl) ?_
    refine x_aload_n 18 hK rfl rfl rfl ?_
    refine x_iconst 19 hK rfl rfl ?_
    have g173 := gi_r h 179 0
    refine x_ialoadE 20 hK rfl rfl (sp_179 (h := h) hG) (by omega) (by omega) (by omega) (e' := (gi h 179 0)) (rfl) ?_
    refine x_if_icmp_ne 26 23 hK rfl rfl rfl (by omega) (by omega) (fun c13 => ?_) (fun c13 => ?_)
    · refine x_aload_n 27 hK rfl rfl rfl ?_
      refine x_iconst 28 hK rfl rfl ?_
      have g174 := gri (0) (12) hG (a := 179) (r := 62) (k := 3) rfl rfl
      refine x_ialoadE 29 hK rfl rfl (sp_179 (h := h) hG) (by omega) (by omega) (by omega) (e' := (gi h 179 3)) (rfl) ?_
      refine x_bipush 31 hK rfl rfl rfl ?_
      refine x_if_icmp_ne 37 34 hK rfl rfl rfl (by omega) (by omega) (fun c18 => ?_) (fun c18 => ?_)
      · refine x_aload_n 38 hK rfl rfl rfl ?_
        refine x_aload_n 39 hK rfl rfl rfl ?_
        refine x_iconst 40 hK rfl rfl ?_
        refine x_ialoadE 41 hK rfl rfl (sp_179 (h := h) hG) (by omega) (by omega) (by omega) (e' := (gi h 179 0)) (rfl) ?_
        refine x_callV 44 hK hmono rfl rfl [.ref 171, .int (I (gi h 179 0))] [] rfl rfl (Nat.le_of_ble_eq_true rfl) (Nat.le_of_ble_eq_true rfl) rfl (sp_171 (h := h) hG) (CLd_le (Nat.le_of_ble_eq_true rfl) (ctX11_delayAtF hSP hG hX (by omega))) ?_
        rintro v8 h8 ⟨rfl, hG8, hF8⟩
        refine x_istore_n 45 hK rfl rfl [(3, .int (I (dlA h (gi h 179 0)))), (0, .ref 171), (1, .ref 179), (2, .int (I v))] rfl ?_
        refine x_iconst 46 hK rfl rfl ?_
        refine x_iconst 47 hK rfl rfl ?_
        refine x_aload_n 48 hK rfl rfl rfl ?_
        refine x_iconst 49 hK rfl rfl ?_
        refine x_ialoadE 50 hK rfl rfl (sp_179 (h := h8) hG8) (by omega) (by omega) (by omega) (e' := (gi h 179 3)) (FRM_gi hF8 (r := 62) rfl rfl) ?_
        refine x_imul 51 hK rfl rfl ?_
        refine x_iadd 52 hK rfl rfl ?_
        refine x_istore 54 hK rfl rfl [(4, .int (I (5 + (3 * (gi h 179 3))))), (3, .int (I (dlA h (gi h 179 0)))), (0, .ref 171), (1, .ref 179), (2, .int (I v))] rfl ?_
        refine x_aload_n 55 hK rfl rfl rfl ?_
        refine x_iload 57 hK rfl rfl rfl ?_
        refine x_iconst 58 hK rfl rfl ?_
        refine x_iadd 59 hK rfl rfl ?_
        refine x_aload_n 60 hK rfl rfl rfl ?_
        refine x_iconst 61 hK rfl rfl ?_
        refine x_ialoadE 62 hK rfl rfl (sp_179 (h := h8) hG8) (by omega) (by omega) (by omega) (e' := (gi h 179 0)) (FRM_gi hF8 (r := 62) rfl rfl) ?_
        refine x_iload_n 63 hK rfl rfl rfl ?_
        refine x_iadd 64 hK rfl rfl ?_
        refine x_iastore 65 hK rfl rfl (sp_179 (h := h8) hG8) (by omega) (by omega) (by omega) ?_
        refine x_aload_n 66 hK rfl rfl rfl ?_
        refine x_iload 68 hK rfl rfl rfl ?_
        refine x_iconst 69 hK rfl rfl ?_
        refine x_iadd 70 hK rfl rfl ?_
        refine x_aload_n 71 hK rfl rfl rfl ?_
        refine x_iload_n 72 hK rfl rfl rfl ?_
        have hGp175 : GD gE gRL sh (wI h8 179 ((5 + (3 * (gi h 179 3))) + 0).toNat ((gi h 179 0) + (dlA h (gi h 179 0)))) := GD_st (hG8) (r := 62) rfl rfl (fun z => by omega) (fun z => by omega) (fun j hj z => by omega)
        refine x_callV 75 hK hmono rfl rfl [.ref 171, .int (I v)] [.int (I ((5 + (3 * (gi h 179 3))) + 1)), .ref 179] rfl rfl (Nat.le_of_ble_eq_true rfl) (Nat.le_of_ble_eq_true rfl) rfl (sp_171 (h := h8) hG8) (CLd_le (Nat.le_of_ble_eq_true rfl) (ctX11_turned hSP hGp175)) ?_
        rintro v9 h9 ⟨e9, rfl⟩
        rw [e9, show gi (wI h8 179 ((5 + (3 * (gi h 179 3))) + 0).toNat ((gi h 179 0) + (dlA h (gi h 179 0)))) 171 5 = gi h 171 5 from (gi_a (by decide) _).trans (FRM_gi hF8 (r := 54) rfl rfl)]
        clear e9
        change K 75 _ (.int (I (tvF (gi h 171 5) v)) :: _) _ _ _
        have tb1 := tb (by omega)
        refine x_iastore 76 hK rfl rfl (sp_179 (h := h8) hG8) (by omega) (by omega) (by omega) ?_
        refine x_aload_n 77 hK rfl rfl rfl ?_
        refine x_iload 79 hK rfl rfl rfl ?_
        refine x_iconst 80 hK rfl rfl ?_
        refine x_iadd 81 hK rfl rfl ?_
        refine x_aload_n 82 hK rfl rfl rfl ?_
        refine x_iconst 83 hK rfl rfl ?_
        refine x_ialoadE 84 hK rfl rfl (sp_179 (h := h8) hG8) (by omega) (by omega) (by omega) (e' := (gi h 179 0)) ((gi_k (by omega) _).trans ((gi_k (by omega) _).trans (FRM_gi hF8 (r := 62) rfl rfl))) ?_
        refine x_iastore 85 hK rfl rfl (sp_179 (h := h8) hG8) (by omega) (by omega) (by omega) ?_
        refine x_aload_n 86 hK rfl rfl rfl ?_
        refine x_iconst 87 hK rfl rfl ?_
        refine x_dup2 88 hK rfl rfl rfl rfl ?_
        refine x_ialoadE 89 hK rfl rfl (sp_179 (h := h8) hG8) (by omega) (by omega) (by omega) (e' := (gi h 179 3)) ((gi_k (by omega) _).trans ((gi_k (by omega) _).trans ((gi_k (by omega) _).trans (FRM_gi hF8 (r := 62) rfl rfl)))) ?_
        refine x_iconst 90 hK rfl rfl ?_
        refine x_iadd 91 hK rfl rfl ?_
        refine x_iastore 92 hK rfl rfl (sp_179 (h := h8) hG8) (by omega) (by omega) (by omega) ?_
        refine x_aload_n 93 hK rfl rfl rfl ?_
        refine x_iconst 94 hK rfl rfl ?_
        refine x_aload_n 95 hK rfl rfl rfl ?_
        refine x_iconst 96 hK rfl rfl ?_
        refine x_ialoadE 97 hK rfl rfl (sp_179 (h := h8) hG8) (by omega) (by omega) (by omega) (e' := (gi h 179 0)) ((gi_k (by decide) _).trans ((gi_k (by omega) _).trans ((gi_k (by omega) _).trans ((gi_k (by omega) _).trans (FRM_gi hF8 (r := 62) rfl rfl))))) ?_
        refine x_iastore 98 hK rfl rfl (sp_179 (h := h8) hG8) (by omega) (by omega) (by omega) ?_
        refine x_iload_n 99 hK rfl rfl rfl ?_
        have er : gvR v (vw (RC h 179 0)) = 0 := by rw [gd0, if_neg (by omega), if_neg (by omega), if_neg (by omega)]
        have n3 : gi (wI (wI (wI (wI (wI h8 179 ((5 + (3 * (gi h 179 3))) + 0).toNat ((gi h 179 0) + (dlA h (gi h 179 0)))) 179 ((5 + (3 * (gi h 179 3))) + 1).toNat (tvF (gi h 171 5) v)) 179 ((5 + (3 * (gi h 179 3))) + 2).toNat (gi h 179 0)) 179 3 ((gi h 179 3) + 1)) 179 4 (gi h 179 0)) 179 3 = gi h 179 3 + 1 := (gi_k (by decide) _).trans (gi_same (by omega))
        have n4 : gi (wI (wI (wI (wI (wI h8 179 ((5 + (3 * (gi h 179 3))) + 0).toNat ((gi h 179 0) + (dlA h (gi h 179 0)))) 179 ((5 + (3 * (gi h 179 3))) + 1).toNat (tvF (gi h 171 5) v)) 179 ((5 + (3 * (gi h 179 3))) + 2).toNat (gi h 179 0)) 179 3 ((gi h 179 3) + 1)) 179 4 (gi h 179 0)) 179 4 = gi h 179 0 := gi_same (by omega)
        have n5 : gi (wI (wI (wI (wI (wI h8 179 ((5 + (3 * (gi h 179 3))) + 0).toNat ((gi h 179 0) + (dlA h (gi h 179 0)))) 179 ((5 + (3 * (gi h 179 3))) + 1).toNat (tvF (gi h 171 5) v)) 179 ((5 + (3 * (gi h 179 3))) + 2).toNat (gi h 179 0)) 179 3 ((gi h 179 3) + 1)) 179 4 (gi h 179 0)) 179 ((5 + (3 * (gi h 179 3))) + 0).toNat = ((gi h 179 0) + (dlA h (gi h 179 0))) := (gi_k (by omega) _).trans ((gi_k (by omega) _).trans ((gi_k (by omega) _).trans ((gi_k (by omega) _).trans (gi_same (by omega)))))
        have n6 : gi (wI (wI (wI (wI (wI h8 179 ((5 + (3 * (gi h 179 3))) + 0).toNat ((gi h 179 0) + (dlA h (gi h 179 0)))) 179 ((5 + (3 * (gi h 179 3))) + 1).toNat (tvF (gi h 171 5) v)) 179 ((5 + (3 * (gi h 179 3))) + 2).toNat (gi h 179 0)) 179 3 ((gi h 179 3) + 1)) 179 4 (gi h 179 0)) 179 ((5 + (3 * (gi h 179 3))) + 1).toNat = (tvF (gi h 171 5) v) := (gi_k (by omega) _).trans ((gi_k (by omega) _).trans ((gi_k (by omega) _).trans (gi_same (by omega))))
        have n7 : gi (wI (wI (wI (wI (wI h8 179 ((5 + (3 * (gi h 179 3))) + 0).toNat ((gi h 179 0) + (dlA h (gi h 179 0)))) 179 ((5 + (3 * (gi h 179 3))) + 1).toNat (tvF (gi h 171 5) v)) 179 ((5 + (3 * (gi h 179 3))) + 2).toNat (gi h 179 0)) 179 3 ((gi h 179 3) + 1)) 179 4 (gi h 179 0)) 179 ((5 + (3 * (gi h 179 3))) + 2).toNat = (gi h 179 0) := (gi_k (by omega) _).trans ((gi_k (by omega) _).trans (gi_same (by omega)))
        have no : ∀ j : Nat, j ≠ 3 → j ≠ 4 → (j : Int) ≠ 5 + 3 * gi h 179 3 → (j : Int) ≠ 6 + 3 * gi h 179 3 → (j : Int) ≠ 7 + 3 * gi h 179 3 → gi (wI (wI (wI (wI (wI h8 179 ((5 + (3 * (gi h 179 3))) + 0).toNat ((gi h 179 0) + (dlA h (gi h 179 0)))) 179 ((5 + (3 * (gi h 179 3))) + 1).toNat (tvF (gi h 171 5) v)) 179 ((5 + (3 * (gi h 179 3))) + 2).toNat (gi h 179 0)) 179 3 ((gi h 179 3) + 1)) 179 4 (gi h 179 0)) 179 j = gi h 179 j := fun j y1 y2 y3 y4 y5 => (gi_k (by omega) _).trans ((gi_k (by omega) _).trans ((gi_k (by omega) _).trans ((gi_k (by omega) _).trans ((gi_k (by omega) _).trans (FRM_gi hF8 (r := 62) rfl rfl)))))
        have ew : wl (RC (wI (wI (wI (wI (wI h8 179 ((5 + (3 * (gi h 179 3))) + 0).toNat ((gi h 179 0) + (dlA h (gi h 179 0)))) 179 ((5 + (3 * (gi h 179 3))) + 1).toNat (tvF (gi h 171 5) v)) 179 ((5 + (3 * (gi h 179 3))) + 2).toNat (gi h 179 0)) 179 3 ((gi h 179 3) + 1)) 179 4 (gi h 179 0)) 179 0) = wl (RC h 179 0) ++ [(gi h 179 0 + (dlA h (gi h 179 0)), (tvF (gi h 171 5) v), gi h 179 0)] := by
          rw [wl_RC (by omega), wl_RC (by omega), n3, tn_s (i := gi h 179 3) (by omega), wlK_s]
          congr 1
          · exact wlK_congr fun j z1 z2 => no j (by omega) (by omega) (by omega) (by omega) (by omega)
          · unfold tri
            rw [show 5 + 3 * (gi h 179 3).toNat = ((5 + (3 * (gi h 179 3))) + 0).toNat by omega, show 6 + 3 * (gi h 179 3).toNat = ((5 + (3 * (gi h 179 3))) + 1).toNat by omega, show 7 + 3 * (gi h 179 3).toNat = ((5 + (3 * (gi h 179 3))) + 2).toNat by omega, n5, n6, n7]
        have ev : vw (RC (wI (wI (wI (wI (wI h8 179 ((5 + (3 * (gi h 179 3))) + 0).toNat ((gi h 179 0) + (dlA h (gi h 179 0)))) 179 ((5 + (3 * (gi h 179 3))) + 1).toNat (tvF (gi h 171 5) v)) 179 ((5 + (3 * (gi h 179 3))) + 2).toNat (gi h 179 0)) 179 3 ((gi h 179 3) + 1)) 179 4 (gi h 179 0)) 179 0) = gvW (dlA h (gi h 179 0)) (tvF (gi h 171 5) v) (vw (RC h 179 0)) := by
          refine WS_ext ?_ ?_ ?_ ?_ ?_ (fun m => ?_) (fun m => ?_)
          · show RC (wI (wI (wI (wI (wI h8 179 ((5 + (3 * (gi h 179 3))) + 0).toNat ((gi h 179 0) + (dlA h (gi h 179 0)))) 179 ((5 + (3 * (gi h 179 3))) + 1).toNat (tvF (gi h 171 5) v)) 179 ((5 + (3 * (gi h 179 3))) + 2).toNat (gi h 179 0)) 179 3 ((gi h 179 3) + 1)) 179 4 (gi h 179 0)) 179 0 0 = RC h 179 0 0; rw [RC_0 (by omega), RC_0 (by omega)]; exact no 0 (by omega) (by omega) (by omega) (by omega) (by omega)
          · show RC (wI (wI (wI (wI (wI h8 179 ((5 + (3 * (gi h 179 3))) + 0).toNat ((gi h 179 0) + (dlA h (gi h 179 0)))) 179 ((5 + (3 * (gi h 179 3))) + 1).toNat (tvF (gi h 171 5) v)) 179 ((5 + (3 * (gi h 179 3))) + 2).toNat (gi h 179 0)) 179 3 ((gi h 179 3) + 1)) 179 4 (gi h 179 0)) 179 0 1 = RC h 179 0 1; rw [RC_0 (by omega), RC_0 (by omega)]; exact no 1 (by omega) (by omega) (by omega) (by omega) (by omega)
          · show RC (wI (wI (wI (wI (wI h8 179 ((5 + (3 * (gi h 179 3))) + 0).toNat ((gi h 179 0) + (dlA h (gi h 179 0)))) 179 ((5 + (3 * (gi h 179 3))) + 1).toNat (tvF (gi h 171 5) v)) 179 ((5 + (3 * (gi h 179 3))) + 2).toNat (gi h 179 0)) 179 3 ((gi h 179 3) + 1)) 179 4 (gi h 179 0)) 179 0 2 = RC h 179 0 2; rw [RC_0 (by omega), RC_0 (by omega)]; exact no 2 (by omega) (by omega) (by omega) (by omega) (by omega)
          · show RC (wI (wI (wI (wI (wI h8 179 ((5 + (3 * (gi h 179 3))) + 0).toNat ((gi h 179 0) + (dlA h (gi h 179 0)))) 179 ((5 + (3 * (gi h 179 3))) + 1).toNat (tvF (gi h 171 5) v)) 179 ((5 + (3 * (gi h 179 3))) + 2).toNat (gi h 179 0)) 179 3 ((gi h 179 3) + 1)) 179 4 (gi h 179 0)) 179 0 4 = RC h 179 0 0; rw [RC_0 (by omega), RC_0 (by omega)]; exact n4
          · show wl (RC (wI (wI (wI (wI (wI h8 179 ((5 + (3 * (gi h 179 3))) + 0).toNat ((gi h 179 0) + (dlA h (gi h 179 0)))) 179 ((5 + (3 * (gi h 179 3))) + 1).toNat (tvF (gi h 171 5) v)) 179 ((5 + (3 * (gi h 179 3))) + 2).toNat (gi h 179 0)) 179 3 ((gi h 179 3) + 1)) 179 4 (gi h 179 0)) 179 0) = wl (RC h 179 0) ++ [(RC h 179 0 0 + _, _, RC h 179 0 0)]; rw [RC_0 (by omega)]; exact ew
          · show (if m < 8 then RC (wI (wI (wI (wI (wI h8 179 ((5 + (3 * (gi h 179 3))) + 0).toNat ((gi h 179 0) + (dlA h (gi h 179 0)))) 179 ((5 + (3 * (gi h 179 3))) + 1).toNat (tvF (gi h 171 5) v)) 179 ((5 + (3 * (gi h 179 3))) + 2).toNat (gi h 179 0)) 179 3 ((gi h 179 3) + 1)) 179 4 (gi h 179 0)) 179 0 (41 + m) else 0) = if m < 8 then RC h 179 0 (41 + m) else 0
            by_cases c : m < 8
            · rw [if_pos c, if_pos c, RC_0 (by omega), RC_0 (by omega)]; exact no _ (by omega) (by omega) (by omega) (by omega) (by omega)
            · rw [if_neg c, if_neg c]
          · show (if m < 8 then RC (wI (wI (wI (wI (wI h8 179 ((5 + (3 * (gi h 179 3))) + 0).toNat ((gi h 179 0) + (dlA h (gi h 179 0)))) 179 ((5 + (3 * (gi h 179 3))) + 1).toNat (tvF (gi h 171 5) v)) 179 ((5 + (3 * (gi h 179 3))) + 2).toNat (gi h 179 0)) 179 3 ((gi h 179 3) + 1)) 179 4 (gi h 179 0)) 179 0 (49 + m) else 0) = if m < 8 then RC h 179 0 (49 + m) else 0
            by_cases c : m < 8
            · rw [if_pos c, if_pos c, RC_0 (by omega), RC_0 (by omega)]; exact no _ (by omega) (by omega) (by omega) (by omega) (by omega)
            · rw [if_neg c, if_neg c]
        have ewb : WB b (RC (wI (wI (wI (wI (wI h8 179 ((5 + (3 * (gi h 179 3))) + 0).toNat ((gi h 179 0) + (dlA h (gi h 179 0)))) 179 ((5 + (3 * (gi h 179 3))) + 1).toNat (tvF (gi h 171 5) v)) 179 ((5 + (3 * (gi h 179 3))) + 2).toNat (gi h 179 0)) 179 3 ((gi h 179 3) + 1)) 179 4 (gi h 179 0)) 179 0) := by
          refine ⟨?_, ?_, ?_, ?_, ?_, fun m hm => ?_⟩
          · rw [RC_0 (by omega), no 0 (by omega) (by omega) (by omega) (by omega) (by omega)]; exact w0
          · rw [RC_0 (by omega), no 1 (by omega) (by omega) (by omega) (by omega) (by omega)]; exact w1
          · rw [RC_0 (by omega), no 2 (by omega) (by omega) (by omega) (by omega) (by omega)]; exact w2
          · rw [RC_0 (by omega), n3]; omega
          · rw [RC_0 (by omega), n4]; omega
          · rw [RC_0 (by omega), RC_0 (by omega), no (41 + m) (by omega) (by omega) (by omega) (by omega) (by omega), no (49 + m) (by omega) (by omega) (by omega) (by omega) (by omega)]; exact w6 m hm
        exact x_iret hK rfl ⟨Or.inr ⟨er, rfl, ev⟩, GD_w0 (GD_st (GD_st (GD_st (GD_st (hG8) (r := 62) rfl rfl (fun z => by omega) (fun z => by omega) (fun j hj z => by omega)) (r := 62) rfl rfl (fun z => by omega) (fun z => by omega) (fun j hj z => by omega)) (r := 62) rfl rfl (fun z => by omega) (fun z => by omega) (fun j hj z => by omega)) (r := 62) rfl rfl (fun z => by omega) (fun z => by omega) (fun j hj z => by omega)) (r := 62) rfl rfl, FRM_w (FRM_w (FRM_wn 3 40 (FRM_wn 3 40 (FRM_wn 3 40 ((hF8).mono rfl) (r := 62) rfl rfl rfl (by omega) (by omega)) (r := 62) rfl rfl rfl (by omega) (by omega)) (r := 62) rfl rfl rfl (by omega) (by omega)) (r := 62) rfl rfl) (r := 62) rfl rfl, ewb⟩
      · refine x_bipush 36 hK rfl rfl rfl ?_
        have er : gvR v (vw (RC h 179 0)) = (-3) := by rw [gd0, if_neg (by omega), if_neg (by omega), if_pos (by omega)]
        exact x_iret hK rfl ⟨Or.inl ⟨by omega, by rw [er], rfl⟩, hG, FRM.rf, wb0⟩
    · refine x_bipush 25 hK rfl rfl rfl ?_
      have er : gvR v (vw (RC h 179 0)) = (-2) := by rw [gd0, if_neg (by omega), if_pos (by omega)]
      exact x_iret hK rfl ⟨Or.inl ⟨by omega, by rw [er], rfl⟩, hG, FRM.rf, wb0⟩
  · refine x_if_ne 14 12 hK rfl rfl rfl (by omega) (fun c => by omega) (fun _ => ?_)
    refine x_iconst 13 hK rfl rfl ?_
    have er : gvR v (vw (RC h 179 0)) = (-1) := by rw [gd0, if_pos (by omega)]
    exact x_iret hK rfl ⟨Or.inl ⟨by omega, by rw [er], rfl⟩, hG, FRM.rf, wb0⟩
set_option maxRecDepth 4000 in
theorem ctX11_isMessF {SP : CT} (hSP : MONO SP) {sh : List (Nat × Nat)} {h : aH} (hG : GD gE gRL sh h) {m : Int} (rm : r32 m) : CLd SP 2 mX11_isMess [.ref 171, .int (I m)] h 0 0 (fun rv h' => h' = h ∧ ((rv = some (.int (I 1)) ∧ 0 ≤ m ∧ m < gi h 171 7) ∨ (rv = some (.int (I 0)) ∧ ¬ (0 ≤ m ∧ m < gi h 171 7)))) := by
  refine x_met _ rfl (Nat.le_of_ble_eq_true rfl) (fun K hK => ?_)
  have hmono := MONO_CLd hSP 1
  refine x_iload_n 1 hK rfl rfl rfl ?_
  refine x_i2l 2 hK rfl rfl (by omega) ?_
  refine x_lconstE 3 0 hK rfl rfl rfl ?_
  refine x_aload_n 4 hK rfl rfl rfl ?_
  have g176 := gri (0) (8) hG (a := 171) (r := 54) (k := 7) rfl rfl
  refine x_getE 7 hK rfl (Or.inl rfl) rfl (sp_171 (h := h) hG) (e := (gi h 171 7)) (rfl) ?_
  refine x_iconst 8 hK rfl rfl ?_
  refine x_isub 9 hK rfl rfl ?_
  refine x_i2l 10 hK rfl rfl (by omega) ?_
  refine x_callS 13 hK hmono rfl (Or.inl rfl) rfl [.long (J m), .long (J 0), .long (J ((gi h 171 7) - 1))] [] rfl rfl (Nat.le_of_ble_eq_true rfl) (Nat.le_of_ble_eq_true rfl) (CLd_le (Nat.le_of_ble_eq_true rfl) (ctX11_in (by omega) (by omega) (by omega))) ?_
  rintro v9 h9 ⟨e9, ⟨rfl, i1177, i2177⟩ | ⟨rfl, i1177⟩⟩ <;> rw [e9] <;> clear e9
  · exact x_zret hK rfl (by omega) ⟨rfl, Or.inl ⟨rfl, by omega, by omega⟩⟩
  · exact x_zret hK rfl (by omega) ⟨rfl, Or.inr ⟨rfl, by omega⟩⟩
set_option maxRecDepth 4000 in
theorem ctX11_passesF {SP : CT} (hSP : MONO SP) {sh : List (Nat × Nat)} {h : aH} (hG : GD gE gRL sh h) {m n a b : Int} (rm : r32 m) (rn : r32 n) (ra : r32 a) (wb : WB b (RC h 178 0)) : CLd SP 3 mX11_passes [.ref 171, .int (I m), .int (I n), .int (I a)] h 0 0 (fun rv h' => ((psR (gi h 171 7) (vw (RC h 178 0)).2.2.2.2.2.1 m n a ≠ 0 ∧ rv = some (.int (I (psR (gi h 171 7) (vw (RC h 178 0)).2.2.2.2.2.1 m n a))) ∧ RC h' 178 0 = RC h 178 0) ∨ (psR (gi h 171 7) (vw (RC h 178 0)).2.2.2.2.2.1 m n a = 0 ∧ rv = some (.int (I ((vw (RC h 178 0)).2.2.2.2.2.1 m.toNat - n))) ∧ vw (RC h' 178 0) = psW m n a (vw (RC h 178 0)))) ∧ GD gE gRL sh h' ∧ FRM gRL [(0, 61, 41, 48)] h h' ∧ WB b (RC h' 178 0)) := by
  refine x_met _ rfl (Nat.le_of_ble_eq_true rfl) (fun K hK => ?_)
  have hmono := MONO_CLd hSP 2
  have wb0 := wb
  obtain ⟨w0, w1, w2, w3, w4, w5⟩ := wb
  rw [RC_0 (by omega)] at w0 w1 w2 w3 w4
  have w6 : ∀ m, m < 8 → (0 ≤ gi h 178 (41 + m) ∧ gi h 178 (41 + m) ≤ 99) ∧ 0 ≤ gi h 178 (49 + m) ∧ gi h 178 (49 + m) ≤ b := fun m hm => by have := w5 m hm; rw [RC_0 (by omega), RC_0 (by omega)] at this; exact this
  have g7 := gri 0 8 hG (a := 171) (r := 54) (k := 7) rfl rfl
  have ef : ∀ j : Nat, j < 8 → (vw (RC h 178 0)).2.2.2.2.2.1 j = gi h 178 (41 + j) := fun j hj => by show (if j < 8 then RC h 178 0 (41 + j) else 0) = _; rw [if_pos hj, RC_0 (by omega)]
  have ed : psR (gi h 171 7) (vw (RC h 178 0)).2.2.2.2.2.1 m n a = if ¬ ((0 ≤ m ∧ m < gi h 171 7) ∧ (0 ≤ a ∧ a ≤ 1) ∧ (0 ≤ othF m a ∧ othF m a < gi h 171 7) ∧ 1 ≤ n ∧ n ≤ 99) then -1 else if (vw (RC h 178 0)).2.2.2.2.2.1 m.toNat < n then -2 else if 99 < (vw (RC h 178 0)).2.2.2.2.2.1 (othF m a).toNat + n then -3 else 0 := rfl
  have eo : othF m a = if a = 1 then m + 1 else m - 1 := rfl
  refine x_iload_n 1 hK rfl rfl rfl ?_
  refine x_iconst 2 hK rfl rfl ?_
  refine x_if_icmp_ne 11 5 hK rfl rfl rfl (by omega) (by omega) (fun c3 => ?_) (fun c3 => ?_)
  · refine x_iload_n 12 hK rfl rfl rfl ?_
    refine x_iconst 13 hK rfl rfl ?_
    refine x_isub 14 hK rfl rfl ?_
    refine x_istore 16 hK rfl rfl [(4, .int (I (m - 1))), (0, .ref 171), (1, .int (I m)), (2, .int (I n)), (3, .int (I a))] rfl ?_
    refine x_aload_n 17 hK rfl rfl rfl ?_
    refine x_iload_n 18 hK rfl rfl rfl ?_
    have g179 := gri (0) (8) hG (a := 171) (r := 54) (k := 7) rfl rfl
    have x178 : gi h 171 7 = (gi h 171 7) := rfl
    refine x_callV 21 hK hmono rfl rfl [.ref 171, .int (I m)] [] rfl rfl (Nat.le_of_ble_eq_true rfl) (Nat.le_of_ble_eq_true rfl) rfl (sp_171 (h := h) hG) (CLd_le (Nat.le_of_ble_eq_true rfl) (ctX11_isMessF hSP hG (m := m) (by omega))) ?_
    rw [x178]
    rintro v9 h9 ⟨e9, ⟨rfl, i1178, i2178⟩ | ⟨rfl, i1178⟩⟩ <;> rw [e9] <;> clear e9
    · refine x_if_eq 55 24 hK rfl rfl rfl (by omega) (fun c => by omega) (fun _ => ?_)
      refine x_iload_n 25 hK rfl rfl rfl ?_
      refine x_i2l 26 hK rfl rfl (by omega) ?_
      refine x_lconstE 27 0 hK rfl rfl rfl ?_
      refine x_lconstE 28 1 hK rfl rfl rfl ?_
      refine x_callS 31 hK hmono rfl (Or.inl rfl) rfl [.long (J a), .long (J 0), .long (J 1)] [] rfl rfl (Nat.le_of_ble_eq_true rfl) (Nat.le_of_ble_eq_true rfl) (CLd_le (Nat.le_of_ble_eq_true rfl) (ctX11_in (by omega) (by omega) (by omega))) ?_
      rintro v9 h9 ⟨e9, ⟨rfl, i1180, i2180⟩ | ⟨rfl, i1180⟩⟩ <;> rw [e9] <;> clear e9
      · refine x_if_eq 55 34 hK rfl rfl rfl (by omega) (fun c => by omega) (fun _ => ?_)
        refine x_aload_n 35 hK rfl rfl rfl ?_
        refine x_iload 37 hK rfl rfl rfl ?_
        have x181 : gi h 171 7 = (gi h 171 7) := rfl
        refine x_callV 40 hK hmono rfl rfl [.ref 171, .int (I (m - 1))] [] rfl rfl (Nat.le_of_ble_eq_true rfl) (Nat.le_of_ble_eq_true rfl) rfl (sp_171 (h := h) hG) (CLd_le (Nat.le_of_ble_eq_true rfl) (ctX11_isMessF hSP hG (m := (m - 1)) (by omega))) ?_
        rw [x181]
        rintro v9 h9 ⟨e9, ⟨rfl, i1181, i2181⟩ | ⟨rfl, i1181⟩⟩ <;> rw [e9] <;> clear e9
        · refine x_if_eq 55 43 hK rfl rfl rfl (by omega) (fun c => by omega) (fun _ => ?_)
          refine x_iload_n 44 hK rfl rfl rfl ?_
          refine x_i2l 45 hK rfl rfl (by omega) ?_
          refine x_lconstE 46 1 hK rfl rfl rfl ?_
          refine x_ldc2_w 49 hK rfl rfl ?_
          refine x_callS 52 hK hmono rfl (Or.inl rfl) rfl [.long (J n), .long (J 1), .long (J 99)] [] rfl rfl (Nat.le_of_ble_eq_true rfl) (Nat.le_of_ble_eq_true rfl) (CLd_le (Nat.le_of_ble_eq_true rfl) (ctX11_in (by omega) (by omega) (by omega))) ?_
          rintro v9 h9 ⟨e9, ⟨rfl, i1182, i2182⟩ | ⟨rfl, i1182⟩⟩ <;> rw [e9] <;> clear e9
          · refine x_if_ne 57 55 hK rfl rfl rfl (by omega) (fun _ => ?_) (fun c => by omega)
            have oe : othF m a = (m - 1) := by rw [eo]; first | rw [if_pos (by omega)] | rw [if_neg (by omega)]
            have f1 := ef m.toNat (by omega)
            have f2 := ef ((m - 1)).toNat (by omega)
            have wm := w6 m.toNat (by omega)
            have wo := w6 ((m - 1)).toNat (by omega)
            refine x_aload_n 58 hK rfl rfl rfl ?_
            refine x_getR 61 hK rfl rfl (sp_171 (h := h) hG) (rf_171_14 (h := h) hG) ?_
            refine x_bipush 63 hK rfl rfl rfl ?_
            refine x_iload_n 64 hK rfl rfl rfl ?_
            refine x_iadd 65 hK rfl rfl ?_
            refine x_ialoadE 66 hK rfl rfl (sp_178 (h := h) hG) (by omega) (by omega) (by omega) (e' := (gi h 178 (41 + m.toNat))) ((gi_to (by omega))) ?_
            refine x_iload_n 67 hK rfl rfl rfl ?_
            refine x_if_icmp_ge 73 70 hK rfl rfl rfl (by omega) (by omega) (fun c36 => ?_) (fun c36 => ?_)
            · refine x_aload_n 74 hK rfl rfl rfl ?_
              refine x_getR 77 hK rfl rfl (sp_171 (h := h) hG) (rf_171_14 (h := h) hG) ?_
              refine x_bipush 79 hK rfl rfl rfl ?_
              refine x_iload 81 hK rfl rfl rfl ?_
              refine x_iadd 82 hK rfl rfl ?_
              refine x_ialoadE 83 hK rfl rfl (sp_178 (h := h) hG) (by omega) (by omega) (by omega) (e' := (gi h 178 (41 + (m - 1).toNat))) ((gi_to (by omega))) ?_
              refine x_iload_n 84 hK rfl rfl rfl ?_
              refine x_iadd 85 hK rfl rfl ?_
              refine x_bipush 87 hK rfl rfl rfl ?_
              refine x_if_icmp_le 93 90 hK rfl rfl rfl (by omega) (by omega) (fun c46 => ?_) (fun c46 => ?_)
              · refine x_aload_n 94 hK rfl rfl rfl ?_
                refine x_getR 97 hK rfl rfl (sp_171 (h := h) hG) (rf_171_14 (h := h) hG) ?_
                refine x_bipush 99 hK rfl rfl rfl ?_
                refine x_iload_n 100 hK rfl rfl rfl ?_
                refine x_iadd 101 hK rfl rfl ?_
                refine x_dup2 102 hK rfl rfl rfl rfl ?_
                refine x_ialoadE 103 hK rfl rfl (sp_178 (h := h) hG) (by omega) (by omega) (by omega) (e' := (gi h 178 (41 + m.toNat))) ((gi_to (by omega))) ?_
                refine x_iload_n 104 hK rfl rfl rfl ?_
                refine x_isub 105 hK rfl rfl ?_
                refine x_iastore 106 hK rfl rfl (sp_178 (h := h) hG) (by omega) (by omega) (by omega) ?_
                refine x_aload_n 107 hK rfl rfl rfl ?_
                refine x_getR 110 hK rfl rfl (sp_171 (h := h) hG) (rf_171_14 (h := h) hG) ?_
                refine x_bipush 112 hK rfl rfl rfl ?_
                refine x_iload 114 hK rfl rfl rfl ?_
                refine x_iadd 115 hK rfl rfl ?_
                refine x_dup2 116 hK rfl rfl rfl rfl ?_
                refine x_ialoadE 117 hK rfl rfl (sp_178 (h := h) hG) (by omega) (by omega) (by omega) (e' := (gi h 178 (41 + (m - 1).toNat))) ((gi_k (by omega) _).trans ((gi_to (by omega)))) ?_
                refine x_iload_n 118 hK rfl rfl rfl ?_
                refine x_iadd 119 hK rfl rfl ?_
                refine x_iastore 120 hK rfl rfl (sp_178 (h := h) hG) (by omega) (by omega) (by omega) ?_
                refine x_aload_n 121 hK rfl rfl rfl ?_
                refine x_getR 124 hK rfl rfl (sp_171 (h := h) hG) (rf_171_14 (h := h) hG) ?_
                refine x_bipush 126 hK rfl rfl rfl ?_
                refine x_iload_n 127 hK rfl rfl rfl ?_
                refine x_iadd 128 hK rfl rfl ?_
                refine x_ialoadE 129 hK rfl rfl (sp_178 (h := h) hG) (by omega) (by omega) (by omega) (e' := ((gi h 178 (41 + m.toNat)) - n)) ((gi_k (by omega) _).trans (gi_same (by omega))) ?_
                rw [oe] at ed
                have er : psR (gi h 171 7) (vw (RC h 178 0)).2.2.2.2.2.1 m n a = 0 := by rw [ed, if_neg (by omega), if_neg (by omega), if_neg (by omega)]
                have n1 : gi (wI (wI h 178 (41 + m).toNat ((gi h 178 (41 + m.toNat)) - n)) 178 (41 + (m - 1)).toNat ((gi h 178 (41 + (m - 1).toNat)) + n)) 178 (41 + m).toNat = ((gi h 178 (41 + m.toNat)) - n) := (gi_k (by omega) _).trans (gi_same (by omega))
                have n2 : gi (wI (wI h 178 (41 + m).toNat ((gi h 178 (41 + m.toNat)) - n)) 178 (41 + (m - 1)).toNat ((gi h 178 (41 + (m - 1).toNat)) + n)) 178 (41 + (m - 1)).toNat = ((gi h 178 (41 + (m - 1).toNat)) + n) := gi_same (by omega)
                have no : ∀ j : Nat, (j : Int) ≠ 41 + m → (j : Int) ≠ 41 + (m - 1) → gi (wI (wI h 178 (41 + m).toNat ((gi h 178 (41 + m.toNat)) - n)) 178 (41 + (m - 1)).toNat ((gi h 178 (41 + (m - 1).toNat)) + n)) 178 j = gi h 178 j := fun j y1 y2 => (gi_k (by omega) _).trans (gi_k (by omega) _)
                have nf : ∀ j : Nat, j < 8 → gi (wI (wI h 178 (41 + m).toNat ((gi h 178 (41 + m.toNat)) - n)) 178 (41 + (m - 1)).toNat ((gi h 178 (41 + (m - 1).toNat)) + n)) 178 (41 + j) = if (j : Int) = m then gi h 178 (41 + j) - n else if (j : Int) = (m - 1) then gi h 178 (41 + j) + n else gi h 178 (41 + j) := by
                  intro j hj
                  by_cases c1 : (j : Int) = m
                  · rw [if_pos c1, show 41 + j = (41 + m).toNat by omega, n1, show 41 + m.toNat = (41 + m).toNat by omega]
                  · rw [if_neg c1]
                    by_cases c2 : (j : Int) = (m - 1)
                    · rw [if_pos c2, show 41 + j = (41 + (m - 1)).toNat by omega, n2, show 41 + (m - 1).toNat = (41 + (m - 1)).toNat by omega]
                    · rw [if_neg c2]; exact no _ (by omega) (by omega)
                have ew : wl (RC (wI (wI h 178 (41 + m).toNat ((gi h 178 (41 + m.toNat)) - n)) 178 (41 + (m - 1)).toNat ((gi h 178 (41 + (m - 1).toNat)) + n)) 178 0) = wl (RC h 178 0) := by rw [wl_RC (by rw [no 3 (by omega) (by omega)]; omega), wl_RC (by omega), no 3 (by omega) (by omega)]; exact wlK_congr fun j z1 z2 => no j (by omega) (by omega)
                have ev : vw (RC (wI (wI h 178 (41 + m).toNat ((gi h 178 (41 + m.toNat)) - n)) 178 (41 + (m - 1)).toNat ((gi h 178 (41 + (m - 1).toNat)) + n)) 178 0) = psW m n a (vw (RC h 178 0)) := by
                  refine WS_ext ?_ ?_ ?_ ?_ ew (fun j => ?_) (fun j => ?_)
                  · show RC (wI (wI h 178 (41 + m).toNat ((gi h 178 (41 + m.toNat)) - n)) 178 (41 + (m - 1)).toNat ((gi h 178 (41 + (m - 1).toNat)) + n)) 178 0 0 = RC h 178 0 0; rw [RC_0 (by omega), RC_0 (by omega)]; exact no 0 (by omega) (by omega)
                  · show RC (wI (wI h 178 (41 + m).toNat ((gi h 178 (41 + m.toNat)) - n)) 178 (41 + (m - 1)).toNat ((gi h 178 (41 + (m - 1).toNat)) + n)) 178 0 1 = RC h 178 0 1; rw [RC_0 (by omega), RC_0 (by omega)]; exact no 1 (by omega) (by omega)
                  · show RC (wI (wI h 178 (41 + m).toNat ((gi h 178 (41 + m.toNat)) - n)) 178 (41 + (m - 1)).toNat ((gi h 178 (41 + (m - 1).toNat)) + n)) 178 0 2 = RC h 178 0 2; rw [RC_0 (by omega), RC_0 (by omega)]; exact no 2 (by omega) (by omega)
                  · show RC (wI (wI h 178 (41 + m).toNat ((gi h 178 (41 + m.toNat)) - n)) 178 (41 + (m - 1)).toNat ((gi h 178 (41 + (m - 1).toNat)) + n)) 178 0 4 = RC h 178 0 4; rw [RC_0 (by omega), RC_0 (by omega)]; exact no 4 (by omega) (by omega)
                  · show (if j < 8 then RC (wI (wI h 178 (41 + m).toNat ((gi h 178 (41 + m.toNat)) - n)) 178 (41 + (m - 1)).toNat ((gi h 178 (41 + (m - 1).toNat)) + n)) 178 0 (41 + j) else 0) = if (j : Int) = m then (if j < 8 then RC h 178 0 (41 + j) else 0) - n else if (j : Int) = othF m a then (if j < 8 then RC h 178 0 (41 + j) else 0) + n else (if j < 8 then RC h 178 0 (41 + j) else 0)
                    rw [oe]
                    by_cases c : j < 8
                    · rw [if_pos c, if_pos c, RC_0 (by omega), RC_0 (by omega)]; exact nf j c
                    · rw [if_neg c, if_neg c, if_neg (by omega), if_neg (by omega)]
                  · show (if j < 8 then RC (wI (wI h 178 (41 + m).toNat ((gi h 178 (41 + m.toNat)) - n)) 178 (41 + (m - 1)).toNat ((gi h 178 (41 + (m - 1).toNat)) + n)) 178 0 (49 + j) else 0) = if j < 8 then RC h 178 0 (49 + j) else 0
                    by_cases c : j < 8
                    · rw [if_pos c, if_pos c, RC_0 (by omega), RC_0 (by omega)]; exact no _ (by omega) (by omega)
                    · rw [if_neg c, if_neg c]
                have ewb : WB b (RC (wI (wI h 178 (41 + m).toNat ((gi h 178 (41 + m.toNat)) - n)) 178 (41 + (m - 1)).toNat ((gi h 178 (41 + (m - 1).toNat)) + n)) 178 0) := by
                  refine ⟨?_, ?_, ?_, ?_, ?_, fun j hj => ?_⟩
                  · rw [RC_0 (by omega), no 0 (by omega) (by omega)]; exact w0
                  · rw [RC_0 (by omega), no 1 (by omega) (by omega)]; exact w1
                  · rw [RC_0 (by omega), no 2 (by omega) (by omega)]; exact w2
                  · rw [RC_0 (by omega), no 3 (by omega) (by omega)]; exact w3
                  · rw [RC_0 (by omega), no 4 (by omega) (by omega)]; exact w4
                  · rw [RC_0 (by omega), RC_0 (by omega), nf j hj, no (49 + j) (by omega) (by omega)]
                    have z := w6 j hj
                    have c2 : (j : Int) = (m - 1) → gi h 178 (41 + j) = gi h 178 (41 + (m - 1).toNat) := fun z => gi_to (by omega)
                    have c1 : (j : Int) = m → gi h 178 (41 + j) = gi h 178 (41 + m.toNat) := fun z => gi_to (by omega)
                    (repeat' split) <;> omega
                exact x_iret hK rfl ⟨Or.inr ⟨er, by rw [f1], ev⟩, GD_st (GD_st (hG) (r := 61) rfl rfl (fun z => by omega) (fun z => by omega) (fun j hj z => by omega)) (r := 61) rfl rfl (fun z => by omega) (fun z => by omega) (fun j hj z => by omega), FRM_wn 41 48 (FRM_wn 41 48 ((FRM.rf : FRM gRL [(0, 61, 41, 48)] h h)) (r := 61) rfl rfl rfl (by omega) (by omega)) (r := 61) rfl rfl rfl (by omega) (by omega), ewb⟩
              · refine x_bipush 92 hK rfl rfl rfl ?_
                rw [oe] at ed
                have er : psR (gi h 171 7) (vw (RC h 178 0)).2.2.2.2.2.1 m n a = (-3) := by rw [ed, if_neg (by omega), if_neg (by omega), if_pos (by omega)]
                exact x_iret hK rfl ⟨Or.inl ⟨by omega, by rw [er], rfl⟩, hG, FRM.rf, wb0⟩
            · refine x_bipush 72 hK rfl rfl rfl ?_
              rw [oe] at ed
              have er : psR (gi h 171 7) (vw (RC h 178 0)).2.2.2.2.2.1 m n a = (-2) := by rw [ed, if_neg (by omega), if_pos (by omega)]
              exact x_iret hK rfl ⟨Or.inl ⟨by omega, by rw [er], rfl⟩, hG, FRM.rf, wb0⟩
          · refine x_if_ne 57 55 hK rfl rfl rfl (by omega) (fun c => by omega) (fun _ => ?_)
            refine x_iconst 56 hK rfl rfl ?_
            have oe : othF m a = if a = 1 then m + 1 else m - 1 := eo
            have er : psR (gi h 171 7) (vw (RC h 178 0)).2.2.2.2.2.1 m n a = (-1) := by rw [ed, if_pos (by omega)]
            exact x_iret hK rfl ⟨Or.inl ⟨by omega, by rw [er], rfl⟩, hG, FRM.rf, wb0⟩
        · refine x_if_eq 55 43 hK rfl rfl rfl (by omega) (fun _ => ?_) (fun c => by omega)
          refine x_iconst 56 hK rfl rfl ?_
          have oe : othF m a = if a = 1 then m + 1 else m - 1 := eo
          have er : psR (gi h 171 7) (vw (RC h 178 0)).2.2.2.2.2.1 m n a = (-1) := by rw [ed, if_pos (by omega)]
          exact x_iret hK rfl ⟨Or.inl ⟨by omega, by rw [er], rfl⟩, hG, FRM.rf, wb0⟩
      · refine x_if_eq 55 34 hK rfl rfl rfl (by omega) (fun _ => ?_) (fun c => by omega)
        refine x_iconst 56 hK rfl rfl ?_
        have oe : othF m a = if a = 1 then m + 1 else m - 1 := eo
        have er : psR (gi h 171 7) (vw (RC h 178 0)).2.2.2.2.2.1 m n a = (-1) := by rw [ed, if_pos (by omega)]
        exact x_iret hK rfl ⟨Or.inl ⟨by omega, by rw [er], rfl⟩, hG, FRM.rf, wb0⟩
    · refine x_if_eq 55 24 hK rfl rfl rfl (by omega) (fun _ => ?_) (fun c => by omega)
      refine x_iconst 56 hK rfl rfl ?_
      have oe : othF m a = if a = 1 then m + 1 else m - 1 := eo
      have er : psR (gi h 171 7) (vw (RC h 178 0)).2.2.2.2.2.1 m n a = (-1) := by rw [ed, if_pos (by omega)]
      exact x_iret hK rfl ⟨Or.inl ⟨by omega, by rw [er], rfl⟩, hG, FRM.rf, wb0⟩
  · refine x_iload_n 6 hK rfl rfl rfl ?_
    refine x_iconst 7 hK rfl rfl ?_
    refine x_iadd 8 hK rfl rfl ?_
    refine x_goto 14 hK rfl rfl ?_
    refine x_istore 16 hK rfl rfl [(4, .int (I (m + 1))), (0, .ref 171), (1, .int (I m)), (2, .int (I n)), (3, .int (I a))] rfl ?_
    refine x_aload_n 17 hK rfl rfl rfl ?_
    refine x_iload_n 18 hK rfl rfl rfl ?_
    have g184 := gri (0) (8) hG (a := 171) (r := 54) (k := 7) rfl rfl
    have x183 : gi h 171 7 = (gi h 171 7) := rfl
    refine x_callV 21 hK hmono rfl rfl [.ref 171, .int (I m)] [] rfl rfl (Nat.le_of_ble_eq_true rfl) (Nat.le_of_ble_eq_true rfl) rfl (sp_171 (h := h) hG) (CLd_le (Nat.le_of_ble_eq_true rfl) (ctX11_isMessF hSP hG (m := m) (by omega))) ?_
    rw [x183]
    rintro v9 h9 ⟨e9, ⟨rfl, i1183, i2183⟩ | ⟨rfl, i1183⟩⟩ <;> rw [e9] <;> clear e9
    · refine x_if_eq 55 24 hK rfl rfl rfl (by omega) (fun c => by omega) (fun _ => ?_)
      refine x_iload_n 25 hK rfl rfl rfl ?_
      refine x_i2l 26 hK rfl rfl (by omega) ?_
      refine x_lconstE 27 0 hK rfl rfl rfl ?_
      refine x_lconstE 28 1 hK rfl rfl rfl ?_
      refine x_callS 31 hK hmono rfl (Or.inl rfl) rfl [.long (J a), .long (J 0), .long (J 1)] [] rfl rfl (Nat.le_of_ble_eq_true rfl) (Nat.le_of_ble_eq_true rfl) (CLd_le (Nat.le_of_ble_eq_true rfl) (ctX11_in (by omega) (by omega) (by omega))) ?_
      rintro v9 h9 ⟨e9, ⟨rfl, i1185, i2185⟩ | ⟨rfl, i1185⟩⟩ <;> rw [e9] <;> clear e9
      · refine x_if_eq 55 34 hK rfl rfl rfl (by omega) (fun c => by omega) (fun _ => ?_)
        refine x_aload_n 35 hK rfl rfl rfl ?_
        refine x_iload 37 hK rfl rfl rfl ?_
        have x186 : gi h 171 7 = (gi h 171 7) := rfl
        refine x_callV 40 hK hmono rfl rfl [.ref 171, .int (I (m + 1))] [] rfl rfl (Nat.le_of_ble_eq_true rfl) (Nat.le_of_ble_eq_true rfl) rfl (sp_171 (h := h) hG) (CLd_le (Nat.le_of_ble_eq_true rfl) (ctX11_isMessF hSP hG (m := (m + 1)) (by omega))) ?_
        rw [x186]
        rintro v9 h9 ⟨e9, ⟨rfl, i1186, i2186⟩ | ⟨rfl, i1186⟩⟩ <;> rw [e9] <;> clear e9
        · refine x_if_eq 55 43 hK rfl rfl rfl (by omega) (fun c => by omega) (fun _ => ?_)
          refine x_iload_n 44 hK rfl rfl rfl ?_
          refine x_i2l 45 hK rfl rfl (by omega) ?_
          refine x_lconstE 46 1 hK rfl rfl rfl ?_
          refine x_ldc2_w 49 hK rfl rfl ?_
          refine x_callS 52 hK hmono rfl (Or.inl rfl) rfl [.long (J n), .long (J 1), .long (J 99)] [] rfl rfl (Nat.le_of_ble_eq_true rfl) (Nat.le_of_ble_eq_true rfl) (CLd_le (Nat.le_of_ble_eq_true rfl) (ctX11_in (by omega) (by omega) (by omega))) ?_
          rintro v9 h9 ⟨e9, ⟨rfl, i1187, i2187⟩ | ⟨rfl, i1187⟩⟩ <;> rw [e9] <;> clear e9
          · refine x_if_ne 57 55 hK rfl rfl rfl (by omega) (fun _ => ?_) (fun c => by omega)
            have oe : othF m a = (m + 1) := by rw [eo]; first | rw [if_pos (by omega)] | rw [if_neg (by omega)]
            have f1 := ef m.toNat (by omega)
            have f2 := ef ((m + 1)).toNat (by omega)
            have wm := w6 m.toNat (by omega)
            have wo := w6 ((m + 1)).toNat (by omega)
            refine x_aload_n 58 hK rfl rfl rfl ?_
            refine x_getR 61 hK rfl rfl (sp_171 (h := h) hG) (rf_171_14 (h := h) hG) ?_
            refine x_bipush 63 hK rfl rfl rfl ?_
            refine x_iload_n 64 hK rfl rfl rfl ?_
            refine x_iadd 65 hK rfl rfl ?_
            refine x_ialoadE 66 hK rfl rfl (sp_178 (h := h) hG) (by omega) (by omega) (by omega) (e' := (gi h 178 (41 + m.toNat))) ((gi_to (by omega))) ?_
            refine x_iload_n 67 hK rfl rfl rfl ?_
            refine x_if_icmp_ge 73 70 hK rfl rfl rfl (by omega) (by omega) (fun c123 => ?_) (fun c123 => ?_)
            · refine x_aload_n 74 hK rfl rfl rfl ?_
              refine x_getR 77 hK rfl rfl (sp_171 (h := h) hG) (rf_171_14 (h := h) hG) ?_
              refine x_bipush 79 hK rfl rfl rfl ?_
              refine x_iload 81 hK rfl rfl rfl ?_
              refine x_iadd 82 hK rfl rfl ?_
              refine x_ialoadE 83 hK rfl rfl (sp_178 (h := h) hG) (by omega) (by omega) (by omega) (e' := (gi h 178 (41 + (m + 1).toNat))) ((gi_to (by omega))) ?_
              refine x_iload_n 84 hK rfl rfl rfl ?_
              refine x_iadd 85 hK rfl rfl ?_
              refine x_bipush 87 hK rfl rfl rfl ?_
              refine x_if_icmp_le 93 90 hK rfl rfl rfl (by omega) (by omega) (fun c133 => ?_) (fun c133 => ?_)
              · refine x_aload_n 94 hK rfl rfl rfl ?_
                refine x_getR 97 hK rfl rfl (sp_171 (h := h) hG) (rf_171_14 (h := h) hG) ?_
                refine x_bipush 99 hK rfl rfl rfl ?_
                refine x_iload_n 100 hK rfl rfl rfl ?_
                refine x_iadd 101 hK rfl rfl ?_
                refine x_dup2 102 hK rfl rfl rfl rfl ?_
                refine x_ialoadE 103 hK rfl rfl (sp_178 (h := h) hG) (by omega) (by omega) (by omega) (e' := (gi h 178 (41 + m.toNat))) ((gi_to (by omega))) ?_
                refine x_iload_n 104 hK rfl rfl rfl ?_
                refine x_isub 105 hK rfl rfl ?_
                refine x_iastore 106 hK rfl rfl (sp_178 (h := h) hG) (by omega) (by omega) (by omega) ?_
                refine x_aload_n 107 hK rfl rfl rfl ?_
                refine x_getR 110 hK rfl rfl (sp_171 (h := h) hG) (rf_171_14 (h := h) hG) ?_
                refine x_bipush 112 hK rfl rfl rfl ?_
                refine x_iload 114 hK rfl rfl rfl ?_
                refine x_iadd 115 hK rfl rfl ?_
                refine x_dup2 116 hK rfl rfl rfl rfl ?_
                refine x_ialoadE 117 hK rfl rfl (sp_178 (h := h) hG) (by omega) (by omega) (by omega) (e' := (gi h 178 (41 + (m + 1).toNat))) ((gi_k (by omega) _).trans ((gi_to (by omega)))) ?_
                refine x_iload_n 118 hK rfl rfl rfl ?_
                refine x_iadd 119 hK rfl rfl ?_
                refine x_iastore 120 hK rfl rfl (sp_178 (h := h) hG) (by omega) (by omega) (by omega) ?_
                refine x_aload_n 121 hK rfl rfl rfl ?_
                refine x_getR 124 hK rfl rfl (sp_171 (h := h) hG) (rf_171_14 (h := h) hG) ?_
                refine x_bipush 126 hK rfl rfl rfl ?_
                refine x_iload_n 127 hK rfl rfl rfl ?_
                refine x_iadd 128 hK rfl rfl ?_
                refine x_ialoadE 129 hK rfl rfl (sp_178 (h := h) hG) (by omega) (by omega) (by omega) (e' := ((gi h 178 (41 + m.toNat)) - n)) ((gi_k (by omega) _).trans (gi_same (by omega))) ?_
                rw [oe] at ed
                have er : psR (gi h 171 7) (vw (RC h 178 0)).2.2.2.2.2.1 m n a = 0 := by rw [ed, if_neg (by omega), if_neg (by omega), if_neg (by omega)]
                have n1 : gi (wI (wI h 178 (41 + m).toNat ((gi h 178 (41 + m.toNat)) - n)) 178 (41 + (m + 1)).toNat ((gi h 178 (41 + (m + 1).toNat)) + n)) 178 (41 + m).toNat = ((gi h 178 (41 + m.toNat)) - n) := (gi_k (by omega) _).trans (gi_same (by omega))
                have n2 : gi (wI (wI h 178 (41 + m).toNat ((gi h 178 (41 + m.toNat)) - n)) 178 (41 + (m + 1)).toNat ((gi h 178 (41 + (m + 1).toNat)) + n)) 178 (41 + (m + 1)).toNat = ((gi h 178 (41 + (m + 1).toNat)) + n) := gi_same (by omega)
                have no : ∀ j : Nat, (j : Int) ≠ 41 + m → (j : Int) ≠ 41 + (m + 1) → gi (wI (wI h 178 (41 + m).toNat ((gi h 178 (41 + m.toNat)) - n)) 178 (41 + (m + 1)).toNat ((gi h 178 (41 + (m + 1).toNat)) + n)) 178 j = gi h 178 j := fun j y1 y2 => (gi_k (by omega) _).trans (gi_k (by omega) _)
                have nf : ∀ j : Nat, j < 8 → gi (wI (wI h 178 (41 + m).toNat ((gi h 178 (41 + m.toNat)) - n)) 178 (41 + (m + 1)).toNat ((gi h 178 (41 + (m + 1).toNat)) + n)) 178 (41 + j) = if (j : Int) = m then gi h 178 (41 + j) - n else if (j : Int) = (m + 1) then gi h 178 (41 + j) + n else gi h 178 (41 + j) := by
                  intro j hj
                  by_cases c1 : (j : Int) = m
                  · rw [if_pos c1, show 41 + j = (41 + m).toNat by omega, n1, show 41 + m.toNat = (41 + m).toNat by omega]
                  · rw [if_neg c1]
                    by_cases c2 : (j : Int) = (m + 1)
                    · rw [if_pos c2, show 41 + j = (41 + (m + 1)).toNat by omega, n2, show 41 + (m + 1).toNat = (41 + (m + 1)).toNat by omega]
                    · rw [if_neg c2]; exact no _ (by omega) (by omega)
                have ew : wl (RC (wI (wI h 178 (41 + m).toNat ((gi h 178 (41 + m.toNat)) - n)) 178 (41 + (m + 1)).toNat ((gi h 178 (41 + (m + 1).toNat)) + n)) 178 0) = wl (RC h 178 0) := by rw [wl_RC (by rw [no 3 (by omega) (by omega)]; omega), wl_RC (by omega), no 3 (by omega) (by omega)]; exact wlK_congr fun j z1 z2 => no j (by omega) (by omega)
                have ev : vw (RC (wI (wI h 178 (41 + m).toNat ((gi h 178 (41 + m.toNat)) - n)) 178 (41 + (m + 1)).toNat ((gi h 178 (41 + (m + 1).toNat)) + n)) 178 0) = psW m n a (vw (RC h 178 0)) := by
                  refine WS_ext ?_ ?_ ?_ ?_ ew (fun j => ?_) (fun j => ?_)
                  · show RC (wI (wI h 178 (41 + m).toNat ((gi h 178 (41 + m.toNat)) - n)) 178 (41 + (m + 1)).toNat ((gi h 178 (41 + (m + 1).toNat)) + n)) 178 0 0 = RC h 178 0 0; rw [RC_0 (by omega), RC_0 (by omega)]; exact no 0 (by omega) (by omega)
                  · show RC (wI (wI h 178 (41 + m).toNat ((gi h 178 (41 + m.toNat)) - n)) 178 (41 + (m + 1)).toNat ((gi h 178 (41 + (m + 1).toNat)) + n)) 178 0 1 = RC h 178 0 1; rw [RC_0 (by omega), RC_0 (by omega)]; exact no 1 (by omega) (by omega)
                  · show RC (wI (wI h 178 (41 + m).toNat ((gi h 178 (41 + m.toNat)) - n)) 178 (41 + (m + 1)).toNat ((gi h 178 (41 + (m + 1).toNat)) + n)) 178 0 2 = RC h 178 0 2; rw [RC_0 (by omega), RC_0 (by omega)]; exact no 2 (by omega) (by omega)
                  · show RC (wI (wI h 178 (41 + m).toNat ((gi h 178 (41 + m.toNat)) - n)) 178 (41 + (m + 1)).toNat ((gi h 178 (41 + (m + 1).toNat)) + n)) 178 0 4 = RC h 178 0 4; rw [RC_0 (by omega), RC_0 (by omega)]; exact no 4 (by omega) (by omega)
                  · show (if j < 8 then RC (wI (wI h 178 (41 + m).toNat ((gi h 178 (41 + m.toNat)) - n)) 178 (41 + (m + 1)).toNat ((gi h 178 (41 + (m + 1).toNat)) + n)) 178 0 (41 + j) else 0) = if (j : Int) = m then (if j < 8 then RC h 178 0 (41 + j) else 0) - n else if (j : Int) = othF m a then (if j < 8 then RC h 178 0 (41 + j) else 0) + n else (if j < 8 then RC h 178 0 (41 + j) else 0)
                    rw [oe]
                    by_cases c : j < 8
                    · rw [if_pos c, if_pos c, RC_0 (by omega), RC_0 (by omega)]; exact nf j c
                    · rw [if_neg c, if_neg c, if_neg (by omega), if_neg (by omega)]
                  · show (if j < 8 then RC (wI (wI h 178 (41 + m).toNat ((gi h 178 (41 + m.toNat)) - n)) 178 (41 + (m + 1)).toNat ((gi h 178 (41 + (m + 1).toNat)) + n)) 178 0 (49 + j) else 0) = if j < 8 then RC h 178 0 (49 + j) else 0
                    by_cases c : j < 8
                    · rw [if_pos c, if_pos c, RC_0 (by omega), RC_0 (by omega)]; exact no _ (by omega) (by omega)
                    · rw [if_neg c, if_neg c]
                have ewb : WB b (RC (wI (wI h 178 (41 + m).toNat ((gi h 178 (41 + m.toNat)) - n)) 178 (41 + (m + 1)).toNat ((gi h 178 (41 + (m + 1).toNat)) + n)) 178 0) := by
                  refine ⟨?_, ?_, ?_, ?_, ?_, fun j hj => ?_⟩
                  · rw [RC_0 (by omega), no 0 (by omega) (by omega)]; exact w0
                  · rw [RC_0 (by omega), no 1 (by omega) (by omega)]; exact w1
                  · rw [RC_0 (by omega), no 2 (by omega) (by omega)]; exact w2
                  · rw [RC_0 (by omega), no 3 (by omega) (by omega)]; exact w3
                  · rw [RC_0 (by omega), no 4 (by omega) (by omega)]; exact w4
                  · rw [RC_0 (by omega), RC_0 (by omega), nf j hj, no (49 + j) (by omega) (by omega)]
                    have z := w6 j hj
                    have c2 : (j : Int) = (m + 1) → gi h 178 (41 + j) = gi h 178 (41 + (m + 1).toNat) := fun z => gi_to (by omega)
                    have c1 : (j : Int) = m → gi h 178 (41 + j) = gi h 178 (41 + m.toNat) := fun z => gi_to (by omega)
                    (repeat' split) <;> omega
                exact x_iret hK rfl ⟨Or.inr ⟨er, by rw [f1], ev⟩, GD_st (GD_st (hG) (r := 61) rfl rfl (fun z => by omega) (fun z => by omega) (fun j hj z => by omega)) (r := 61) rfl rfl (fun z => by omega) (fun z => by omega) (fun j hj z => by omega), FRM_wn 41 48 (FRM_wn 41 48 ((FRM.rf : FRM gRL [(0, 61, 41, 48)] h h)) (r := 61) rfl rfl rfl (by omega) (by omega)) (r := 61) rfl rfl rfl (by omega) (by omega), ewb⟩
              · refine x_bipush 92 hK rfl rfl rfl ?_
                rw [oe] at ed
                have er : psR (gi h 171 7) (vw (RC h 178 0)).2.2.2.2.2.1 m n a = (-3) := by rw [ed, if_neg (by omega), if_neg (by omega), if_pos (by omega)]
                exact x_iret hK rfl ⟨Or.inl ⟨by omega, by rw [er], rfl⟩, hG, FRM.rf, wb0⟩
            · refine x_bipush 72 hK rfl rfl rfl ?_
              rw [oe] at ed
              have er : psR (gi h 171 7) (vw (RC h 178 0)).2.2.2.2.2.1 m n a = (-2) := by rw [ed, if_neg (by omega), if_pos (by omega)]
              exact x_iret hK rfl ⟨Or.inl ⟨by omega, by rw [er], rfl⟩, hG, FRM.rf, wb0⟩
          · refine x_if_ne 57 55 hK rfl rfl rfl (by omega) (fun c => by omega) (fun _ => ?_)
            refine x_iconst 56 hK rfl rfl ?_
            have oe : othF m a = if a = 1 then m + 1 else m - 1 := eo
            have er : psR (gi h 171 7) (vw (RC h 178 0)).2.2.2.2.2.1 m n a = (-1) := by rw [ed, if_pos (by omega)]
            exact x_iret hK rfl ⟨Or.inl ⟨by omega, by rw [er], rfl⟩, hG, FRM.rf, wb0⟩
        · refine x_if_eq 55 43 hK rfl rfl rfl (by omega) (fun _ => ?_) (fun c => by omega)
          refine x_iconst 56 hK rfl rfl ?_
          have oe : othF m a = if a = 1 then m + 1 else m - 1 := eo
          have er : psR (gi h 171 7) (vw (RC h 178 0)).2.2.2.2.2.1 m n a = (-1) := by rw [ed, if_pos (by omega)]
          exact x_iret hK rfl ⟨Or.inl ⟨by omega, by rw [er], rfl⟩, hG, FRM.rf, wb0⟩
      · refine x_if_eq 55 34 hK rfl rfl rfl (by omega) (fun _ => ?_) (fun c => by omega)
        refine x_iconst 56 hK rfl rfl ?_
        have oe : othF m a = if a = 1 then m + 1 else m - 1 := eo
        have er : psR (gi h 171 7) (vw (RC h 178 0)).2.2.2.2.2.1 m n a = (-1) := by rw [ed, if_pos (by omega)]
        exact x_iret hK rfl ⟨Or.inl ⟨by omega, by rw [er], rfl⟩, hG, FRM.rf, wb0⟩
    · refine x_if_eq 55 24 hK rfl rfl rfl (by omega) (fun _ => ?_) (fun c => by omega)
      refine x_iconst 56 hK rfl rfl ?_
      have oe : othF m a = if a = 1 then m + 1 else m - 1 := eo
      have er : psR (gi h 171 7) (vw (RC h 178 0)).2.2.2.2.2.1 m n a = (-1) := by rw [ed, if_pos (by omega)]
      exact x_iret hK rfl ⟨Or.inl ⟨by omega, by rw [er], rfl⟩, hG, FRM.rf, wb0⟩
set_option maxRecDepth 4000 in
theorem ctX11_cooksF {SP : CT} (hSP : MONO SP) {sh : List (Nat × Nat)} {h : aH} (hG : GD gE gRL sh h) {m n b : Int} (rm : r32 m) (rn : r32 n) (wb : WB b (RC h 178 0)) : CLd SP 3 mX11_cooks [.ref 171, .int (I m), .int (I n)] h 0 0 (fun rv h' => ((¬ ckOk (gi h 171 7) m n ∧ rv = some (.int (I (-1))) ∧ RC h' 178 0 = RC h 178 0) ∨ (ckOk (gi h 171 7) m n ∧ rv = some (.int (I ((vw (RC h 178 0)).2.2.2.2.2.1 m.toNat))) ∧ vw (RC h' 178 0) = ckW m n (vw (RC h 178 0)))) ∧ GD gE gRL sh h' ∧ FRM gRL [(0, 61, 41, 48)] h h' ∧ WB b (RC h' 178 0)) := by
  refine x_met _ rfl (Nat.le_of_ble_eq_true rfl) (fun K hK => ?_)
  have hmono := MONO_CLd hSP 2
  have wb0 := wb
  obtain ⟨w0, w1, w2, w3, w4, w5⟩ := wb
  rw [RC_0 (by omega)] at w0 w1 w2 w3 w4
  have w6 : ∀ m, m < 8 → (0 ≤ gi h 178 (41 + m) ∧ gi h 178 (41 + m) ≤ 99) ∧ 0 ≤ gi h 178 (49 + m) ∧ gi h 178 (49 + m) ≤ b := fun m hm => by have := w5 m hm; rw [RC_0 (by omega), RC_0 (by omega)] at this; exact this
  have g7 := gri 0 8 hG (a := 171) (r := 54) (k := 7) rfl rfl
  have ef : ∀ j : Nat, j < 8 → (vw (RC h 178 0)).2.2.2.2.2.1 j = gi h 178 (41 + j) := fun j hj => by show (if j < 8 then RC h 178 0 (41 + j) else 0) = _; rw [if_pos hj, RC_0 (by omega)]
  refine x_aload_n 1 hK rfl rfl rfl ?_
  refine x_iload_n 2 hK rfl rfl rfl ?_
  have g189 := gri (0) (8) hG (a := 171) (r := 54) (k := 7) rfl rfl
  have x188 : gi h 171 7 = (gi h 171 7) := rfl
  refine x_callV 5 hK hmono rfl rfl [.ref 171, .int (I m)] [] rfl rfl (Nat.le_of_ble_eq_true rfl) (Nat.le_of_ble_eq_true rfl) rfl (sp_171 (h := h) hG) (CLd_le (Nat.le_of_ble_eq_true rfl) (ctX11_isMessF hSP hG (m := m) (by omega))) ?_
  rw [x188]
  rintro v9 h9 ⟨e9, ⟨rfl, i1188, i2188⟩ | ⟨rfl, i1188⟩⟩ <;> rw [e9] <;> clear e9
  · refine x_if_eq 20 8 hK rfl rfl rfl (by omega) (fun c => by omega) (fun _ => ?_)
    refine x_iload_n 9 hK rfl rfl rfl ?_
    refine x_i2l 10 hK rfl rfl (by omega) ?_
    refine x_lconstE 11 0 hK rfl rfl rfl ?_
    refine x_ldc2_w 14 hK rfl rfl ?_
    refine x_callS 17 hK hmono rfl (Or.inl rfl) rfl [.long (J n), .long (J 0), .long (J 99)] [] rfl rfl (Nat.le_of_ble_eq_true rfl) (Nat.le_of_ble_eq_true rfl) (CLd_le (Nat.le_of_ble_eq_true rfl) (ctX11_in (by omega) (by omega) (by omega))) ?_
    rintro v9 h9 ⟨e9, ⟨rfl, i1190, i2190⟩ | ⟨rfl, i1190⟩⟩ <;> rw [e9] <;> clear e9
    · refine x_if_ne 22 20 hK rfl rfl rfl (by omega) (fun _ => ?_) (fun c => by omega)
      have f1 := ef m.toNat (by omega)
      have wm := w6 m.toNat (by omega)
      refine x_aload_n 23 hK rfl rfl rfl ?_
      refine x_getR 26 hK rfl rfl (sp_171 (h := h) hG) (rf_171_14 (h := h) hG) ?_
      refine x_bipush 28 hK rfl rfl rfl ?_
      refine x_iload_n 29 hK rfl rfl rfl ?_
      refine x_iadd 30 hK rfl rfl ?_
      refine x_ialoadE 31 hK rfl rfl (sp_178 (h := h) hG) (by omega) (by omega) (by omega) (e' := (gi h 178 (41 + m.toNat))) ((gi_to (by omega))) ?_
      refine x_istore_n 32 hK rfl rfl [(3, .int (I (gi h 178 (41 + m.toNat)))), (0, .ref 171), (1, .int (I m)), (2, .int (I n))] rfl ?_
      refine x_aload_n 33 hK rfl rfl rfl ?_
      refine x_getR 36 hK rfl rfl (sp_171 (h := h) hG) (rf_171_14 (h := h) hG) ?_
      refine x_bipush 38 hK rfl rfl rfl ?_
      refine x_iload_n 39 hK rfl rfl rfl ?_
      refine x_iadd 40 hK rfl rfl ?_
      refine x_iload_n 41 hK rfl rfl rfl ?_
      refine x_iastore 42 hK rfl rfl (sp_178 (h := h) hG) (by omega) (by omega) (by omega) ?_
      refine x_iload_n 43 hK rfl rfl rfl ?_
      have n1 : gi (wI h 178 (41 + m).toNat n) 178 (41 + m).toNat = n := gi_same (by omega)
      have no : ∀ j : Nat, (j : Int) ≠ 41 + m → gi (wI h 178 (41 + m).toNat n) 178 j = gi h 178 j := fun j y1 => gi_k (by omega) _
      have nf : ∀ j : Nat, j < 8 → gi (wI h 178 (41 + m).toNat n) 178 (41 + j) = if (j : Int) = m then n else gi h 178 (41 + j) := by
        intro j hj
        by_cases c1 : (j : Int) = m
        · rw [if_pos c1, show 41 + j = (41 + m).toNat by omega, n1]
        · rw [if_neg c1]; exact no _ (by omega)
      have ew : wl (RC (wI h 178 (41 + m).toNat n) 178 0) = wl (RC h 178 0) := by rw [wl_RC (by rw [no 3 (by omega)]; omega), wl_RC (by omega), no 3 (by omega)]; exact wlK_congr fun j z1 z2 => no j (by omega)
      have ev : vw (RC (wI h 178 (41 + m).toNat n) 178 0) = ckW m n (vw (RC h 178 0)) := by
        refine WS_ext ?_ ?_ ?_ ?_ ew (fun j => ?_) (fun j => ?_)
        · show RC (wI h 178 (41 + m).toNat n) 178 0 0 = RC h 178 0 0; rw [RC_0 (by omega), RC_0 (by omega)]; exact no 0 (by omega)
        · show RC (wI h 178 (41 + m).toNat n) 178 0 1 = RC h 178 0 1; rw [RC_0 (by omega), RC_0 (by omega)]; exact no 1 (by omega)
        · show RC (wI h 178 (41 + m).toNat n) 178 0 2 = RC h 178 0 2; rw [RC_0 (by omega), RC_0 (by omega)]; exact no 2 (by omega)
        · show RC (wI h 178 (41 + m).toNat n) 178 0 4 = RC h 178 0 4; rw [RC_0 (by omega), RC_0 (by omega)]; exact no 4 (by omega)
        · show (if j < 8 then RC (wI h 178 (41 + m).toNat n) 178 0 (41 + j) else 0) = if (j : Int) = m then n else (if j < 8 then RC h 178 0 (41 + j) else 0)
          by_cases c : j < 8
          · rw [if_pos c, if_pos c, RC_0 (by omega), RC_0 (by omega)]; exact nf j c
          · rw [if_neg c, if_neg c, if_neg (by omega)]
        · show (if j < 8 then RC (wI h 178 (41 + m).toNat n) 178 0 (49 + j) else 0) = if j < 8 then RC h 178 0 (49 + j) else 0
          by_cases c : j < 8
          · rw [if_pos c, if_pos c, RC_0 (by omega), RC_0 (by omega)]; exact no _ (by omega)
          · rw [if_neg c, if_neg c]
      have ewb : WB b (RC (wI h 178 (41 + m).toNat n) 178 0) := by
        refine ⟨?_, ?_, ?_, ?_, ?_, fun j hj => ?_⟩
        · rw [RC_0 (by omega), no 0 (by omega)]; exact w0
        · rw [RC_0 (by omega), no 1 (by omega)]; exact w1
        · rw [RC_0 (by omega), no 2 (by omega)]; exact w2
        · rw [RC_0 (by omega), no 3 (by omega)]; exact w3
        · rw [RC_0 (by omega), no 4 (by omega)]; exact w4
        · rw [RC_0 (by omega), RC_0 (by omega), nf j hj, no (49 + j) (by omega)]
          have z := w6 j hj
          split <;> omega
      exact x_iret hK rfl ⟨Or.inr ⟨⟨by omega, by omega⟩, by rw [f1], ev⟩, GD_st (hG) (r := 61) rfl rfl (fun z => by omega) (fun z => by omega) (fun j hj z => by omega), FRM_wn 41 48 ((FRM.rf : FRM gRL [(0, 61, 41, 48)] h h)) (r := 61) rfl rfl rfl (by omega) (by omega), ewb⟩
    · refine x_if_ne 22 20 hK rfl rfl rfl (by omega) (fun c => by omega) (fun _ => ?_)
      refine x_iconst 21 hK rfl rfl ?_
      exact x_iret hK rfl ⟨Or.inl ⟨by unfold ckOk; omega, rfl, rfl⟩, hG, FRM.rf, wb0⟩
  · refine x_if_eq 20 8 hK rfl rfl rfl (by omega) (fun _ => ?_) (fun c => by omega)
    refine x_iconst 21 hK rfl rfl ?_
    exact x_iret hK rfl ⟨Or.inl ⟨by unfold ckOk; omega, rfl, rfl⟩, hG, FRM.rf, wb0⟩
end
section
/-! CALLS THAT CHANGE THE STATE (the reference) -/
theorem AW_put {b : Int} {h h1 : aH} (w : AW b h) (e : RC h1 178 0 = RC h 178 0) (f0 : RC h1 186 (57 * (gi h 171 29).toNat) = RC h 178 0) (f1 : ∀ v, v ≠ (gi h 171 29).toNat → RC h1 186 (57 * v) = RC h 186 (57 * v)) (e3 : ∀ u, u < 3 → RC h1 200 (57 * u) = RC h 200 (57 * u)) : AW b h1 := by
  refine ⟨by rw [e]; exact w.1, fun v hv => ?_, fun v hv => by rw [e3 v hv]; exact w.2.2 v hv⟩
  by_cases c : v = (gi h 171 29).toNat
  · rw [c, f0]; exact w.1
  · rw [f1 v c]; exact w.2.1 v hv
/-- n STEPS: the state, HITS, how many were HUNGRY -/
noncomputable def stI (ml ln : Nat → Int) (nr : Nat) (ms : Int) (ea : Nat → Int) : Nat → WS → WS
  | 0, w => w
  | k + 1, w => stW ml ln nr ms ea (stI ml ln nr ms ea k w)
noncomputable def sHs (ml ln : Nat → Int) (nr : Nat) (ms : Int) (ea : Nat → Int) : Nat → WS → Int
  | 0, _ => 0
  | k + 1, w => sHs ml ln nr ms ea k w + stH ml ln nr (stI ml ln nr ms ea k w)
noncomputable def sUs (ml ln : Nat → Int) (nr : Nat) (ms : Int) (ea : Nat → Int) : Nat → WS → Int
  | 0, _ => 0
  | k + 1, w => sUs ml ln nr ms ea k w + stU ms ea (stI ml ln nr ms ea k w)
theorem sHs_b {ml ln : Nat → Int} {nr : Nat} {ms : Int} {ea : Nat → Int} (hn : nr ≤ 16) (w : WS) : ∀ k : Nat, 0 ≤ sHs ml ln nr ms ea k w ∧ sHs ml ln nr ms ea k w ≤ 16 * k
  | 0 => ⟨Int.le_refl _, Int.le_refl _⟩
  | k + 1 => by
    have h1 := sHs_b (ml := ml) (ln := ln) (ms := ms) (ea := ea) hn w k
    have h2 := hitN_b ml ln ((stI ml ln nr ms ea k w).1 + 1) (stL (stI ml ln nr ms ea k w)) nr
    show 0 ≤ sHs ml ln nr ms ea k w + hitN ml ln ((stI ml ln nr ms ea k w).1 + 1) (stL (stI ml ln nr ms ea k w)) nr ∧ sHs ml ln nr ms ea k w + hitN ml ln ((stI ml ln nr ms ea k w).1 + 1) (stL (stI ml ln nr ms ea k w)) nr ≤ _
    omega
theorem sUs_b {ml ln : Nat → Int} {nr : Nat} {ms : Int} {ea : Nat → Int} (hn : ms ≤ 8) (w : WS) : ∀ k : Nat, 0 ≤ sUs ml ln nr ms ea k w ∧ sUs ml ln nr ms ea k w ≤ 8 * k
  | 0 => ⟨Int.le_refl _, Int.le_refl _⟩
  | k + 1 => by
    have h1 := sUs_b (ml := ml) (ln := ln) (nr := nr) (ea := ea) hn w k
    have h2 := hcN_b (stI ml ln nr ms ea k w).2.2.2.2.2.1 ea ms.toNat
    show 0 ≤ sUs ml ln nr ms ea k w + hcN (stI ml ln nr ms ea k w).2.2.2.2.2.1 ea ms.toNat ∧ sUs ml ln nr ms ea k w + hcN (stI ml ln nr ms ea k w).2.2.2.2.2.1 ea ms.toNat ≤ _
    omega
set_option maxRecDepth 4000 in
theorem ctX11_countsF {SP : CT} (hSP : MONO SP) {sh : List (Nat × Nat)} {h : aH} (hG : GD gE gRL sh h) {n : Int} (rn : r32 n) (hu : 0 ≤ gi h 171 29 ∧ gi h 171 29 ≤ 15) : CLd SP 3 mX11_counts [.ref 171, .int (I n)] h 0 0 (fun rv h' => rv = some (.int (I n)) ∧ GD gE gRL sh h' ∧ FRM gRL [(0, 54, 29, 29), (0, 69, 0, 911)] h h' ∧ ((n < 0 ∧ h' = h) ∨ (0 ≤ n ∧ gi h' 171 29 = min 15 (gi h 171 29 + 1) ∧ (gi h 171 29 < 15 → ∀ v, RC h' 186 (57 * v) = RC h 186 (57 * v)) ∧ (gi h 171 29 = 15 → (∀ v, v < 15 → RC h' 186 (57 * v) = RC h 186 (57 * (v + 1))) ∧ RC h' 186 (57 * 15) = RC h 186 (57 * 15))))) := by
  refine x_met _ rfl (Nat.le_of_ble_eq_true rfl) (fun K hK => ?_)
  have hmono := MONO_CLd hSP 2
  refine x_iload_n 1 hK rfl rfl rfl ?_
  refine x_if_ge 8 4 hK rfl rfl rfl (by omega) (fun c2 => ?_) (fun c2 => ?_)
  · refine x_aload_n 9 hK rfl rfl rfl ?_
    refine x_iload_n 10 hK rfl rfl rfl ?_
    refine x_callV 13 hK hmono rfl rfl [.ref 171, .int (I n)] [] rfl rfl (Nat.le_of_ble_eq_true rfl) (Nat.le_of_ble_eq_true rfl) rfl (sp_171 (h := h) hG) (CLd_le (Nat.le_of_ble_eq_true rfl) (ctX11_addsF hSP hG hu)) ?_
    rintro v2 h2 ⟨rfl, hG2, hF2, a2⟩
    exact x_iret hK rfl ⟨rfl, hG2, hF2, Or.inr ⟨by omega, a2⟩⟩
  · refine x_iload_n 5 hK rfl rfl rfl ?_
    refine x_goto 13 hK rfl rfl ?_
    exact x_iret hK rfl ⟨rfl, hG, FRM.rf, Or.inl ⟨by omega, rfl⟩⟩
set_option maxRecDepth 4000 in
theorem ctX11_orderF {SP : CT} (hSP : MONO SP) {sh : List (Nat × Nat)} {h : aH} (hG : GD gE gRL sh h) {v b : Int} (hX : XI h) (hu : 0 ≤ gi h 171 29 ∧ gi h 171 29 ≤ 15) (rv : r32 v) (aw : AW b h) (hb : b ≤ 1000000) : CLd SP 9 mX11_order [.ref 171, .int (I v)] h 0 0 (fun rv h' => (((gvR v (vw (RC h 178 0)) ≠ 0 ∧ rv = some (.int (I (gvR v (vw (RC h 178 0)))))) ∧ RC h' 178 0 = RC h 178 0 ∧ UL h' = UL h) ∨ ((gvR v (vw (RC h 178 0)) = 0 ∧ rv = some (.int (I ((dlA h (gi h 178 0)))))) ∧ vw (RC h' 178 0) = gvW (dlA h (gi h 178 0)) (tvF (gi h 171 5) v) (vw (RC h 178 0)) ∧ UL h' = pushU (UL h) (RC h 178 0))) ∧ GD gE gRL sh h' ∧ FRM gRL [(0, 54, 0, 0), (0, 54, 29, 29), (0, 61, 3, 40), (0, 67, 0, 79), (0, 68, 0, 3), (0, 69, 0, 911)] h h' ∧ gi h' 171 0 = 0 ∧ (0 ≤ gi h' 171 29 ∧ gi h' 171 29 ≤ 15) ∧ AW b h') := by
  refine x_met _ rfl (Nat.le_of_ble_eq_true rfl) (fun K hK => ?_)
  have hmono := MONO_CLd hSP 8
  have wb := aw.1
  have rb0 := wb.1
  rw [RC_0 (by omega)] at rb0
  refine x_aload_n 1 hK rfl rfl rfl ?_
  refine x_iconst 2 hK rfl rfl ?_
  refine x_putI 5 hK rfl rfl (sp_171 (h := h) hG) ?_
  refine x_aload_n 6 hK rfl rfl rfl ?_
  have hGp191 : GD gE gRL sh (wI h 171 0 0) := GD_w1 (hG) (r := 54) rfl (by omega) rfl (by omega) (by omega)
  have u1 : gi (wI h 171 0 0) 171 29 = gi h 171 29 := gi_k (by decide) _
  refine x_callV 9 hK hmono rfl rfl [.ref 171] [] rfl rfl (Nat.le_of_ble_eq_true rfl) (Nat.le_of_ble_eq_true rfl) rfl (sp_171 (h := h) hG) (CLd_le (Nat.le_of_ble_eq_true rfl) (ctX11_putsByF hSP hGp191 (by rw [u1]; exact hu))) ?_
  rintro v2 h2 ⟨rfl, hG2, hF2, p0, p1⟩
  rw [u1, show RC (wI h 171 0 0) 178 0 = RC h 178 0 from RC_w (by decide)] at p0
  rw [u1] at p1
  replace p1 : ∀ v, v ≠ (gi h 171 29).toNat → RC h2 186 (57 * v) = RC h 186 (57 * v) := fun v hv => (p1 v hv).trans (RC_w (by decide))
  have c178 : RC h2 178 0 = RC h 178 0 := (RC_F hF2 (r := 61) rfl rfl 0).trans (RC_w (by decide))
  have u2 : gi h2 171 29 = gi h 171 29 := (FRM_gi hF2 (r := 54) rfl rfl).trans (gi_k (by decide) _)
  have c200 : ∀ v, RC h2 200 v = RC h 200 v := fun v => (RC_F hF2 (r := 83) rfl rfl v).trans (RC_w (by decide))
  refine x_aload_n 10 hK rfl rfl rfl ?_
  refine x_aload_n 11 hK rfl rfl rfl ?_
  refine x_aload_n 12 hK rfl rfl rfl ?_
  refine x_getR 15 hK rfl rfl (sp_171 (h := h2) hG2) (rf_171_14 (h := h2) hG2) ?_
  refine x_iload_n 16 hK rfl rfl rfl ?_
  have wb2 : WB b (RC h2 178 0) := by rw [c178]; exact wb
  have hX2 : XI h2 := (xOk_ok rfl _ h2 hF2 (xOk_ok rfl h (wI h 171 0 0) (FRM_w ((FRM.rf : FRM gRL [(0, 54, 0, 0)] h h)) (r := 54) rfl rfl) hX))
  refine x_callV 19 hK hmono rfl rfl [.ref 171, .ref 178, .int (I v)] [.ref 171] rfl rfl (Nat.le_of_ble_eq_true rfl) (Nat.le_of_ble_eq_true rfl) rfl (sp_171 (h := h2) hG2) (CLd_le (Nat.le_of_ble_eq_true rfl) (ctX11_givesNF hSP hG2 hX2 rv wb2 hb)) ?_
  rw [c178, show gi h2 178 0 = gi h 178 0 from (FRM_gi hF2 (r := 61) rfl rfl).trans (gi_a (by decide) _), show gi h2 171 5 = gi h 171 5 from (FRM_gi hF2 (r := 54) rfl rfl).trans (gi_k (by decide) _), show dlA h2 (gi h 178 0) = dlA h (gi h 178 0) from (dlA_F hF2 rfl _).trans (dlA_F (FRM_w ((FRM.rf : FRM gRL [(0, 54, 0, 0)] h h)) (r := 54) rfl rfl) rfl _)]
  rintro v3 h3 ⟨⟨e3, rfl, s3⟩ | ⟨e3, rfl, s3⟩, hG3, hF3, wb3⟩
  · have u3 : gi h3 171 29 = gi h 171 29 := (FRM_gi hF3 (r := 54) rfl rfl).trans ((FRM_gi hF2 (r := 54) rfl rfl).trans (gi_k (by decide) _))
    have q0 : RC h3 186 (57 * (gi h 171 29).toNat) = RC h 178 0 := (RC_F hF3 (r := 69) rfl rfl _).trans p0
    have q1 : ∀ v, v ≠ (gi h 171 29).toNat → RC h3 186 (57 * v) = RC h 186 (57 * v) := fun v hv => (RC_F hF3 (r := 69) rfl rfl _).trans (p1 v hv)
    have q2 : ∀ v, RC h3 200 v = RC h 200 v := fun v => (RC_F hF3 (r := 83) rfl rfl v).trans (c200 v)
    have an : gvR v (vw (RC h 178 0)) < 0 := by unfold gvR at e3 ⊢; revert e3; (repeat' split) <;> intro e3 <;> omega
    have ar : r32 (gvR v (vw (RC h 178 0))) := by unfold gvR at an ⊢; (repeat' split) <;> omega
    refine x_callV 22 hK hmono rfl rfl [.ref 171, .int (I (gvR v (vw (RC h 178 0))))] [] rfl rfl (Nat.le_of_ble_eq_true rfl) (Nat.le_of_ble_eq_true rfl) rfl (sp_171 (h := h3) hG3) (CLd_le (Nat.le_of_ble_eq_true rfl) (ctX11_countsF hSP hG3 (by omega) (by rw [u3]; exact hu))) ?_
    rintro v4 h4 ⟨rfl, hG4, hF4, ⟨n4, e4⟩ | ⟨n4, a4, a5, a6⟩⟩
    · subst e4
      have ff : FRM gRL [(0, 54, 0, 0), (0, 54, 29, 29), (0, 61, 3, 40), (0, 67, 0, 79), (0, 68, 0, 3), (0, 69, 0, 911)] h h4 := ((FRM_w ((FRM.rf : FRM gRL [(0, 54, 0, 0), (0, 54, 29, 29), (0, 61, 3, 40), (0, 67, 0, 79), (0, 68, 0, 3), (0, 69, 0, 911)] h h)) (r := 54) rfl rfl).trans ((hF2).mono rfl)).trans ((hF3).mono rfl)
      have t4 : gi h4 171 0 = 0 := (FRM_gi hF3 (r := 54) rfl rfl).trans ((FRM_gi hF2 (r := 54) rfl rfl).trans (gi_same (by omega)))
      exact x_iret hK rfl ⟨Or.inl ⟨⟨e3, rfl⟩, s3, UL_eq u3 fun v hv => q1 v (by omega)⟩, hG4, ff, t4, by rw [u3]; exact hu, AW_put aw s3 q0 q1 fun v _ => q2 _⟩
    · exfalso
      omega
  · have u3 : gi h3 171 29 = gi h 171 29 := (FRM_gi hF3 (r := 54) rfl rfl).trans ((FRM_gi hF2 (r := 54) rfl rfl).trans (gi_k (by decide) _))
    have q0 : RC h3 186 (57 * (gi h 171 29).toNat) = RC h 178 0 := (RC_F hF3 (r := 69) rfl rfl _).trans p0
    have q1 : ∀ v, v ≠ (gi h 171 29).toNat → RC h3 186 (57 * v) = RC h 186 (57 * v) := fun v hv => (RC_F hF3 (r := 69) rfl rfl _).trans (p1 v hv)
    have q2 : ∀ v, RC h3 200 v = RC h 200 v := fun v => (RC_F hF3 (r := 83) rfl rfl v).trans (c200 v)
    have an := dlA_b h (gi h 178 0)
    refine x_callV 22 hK hmono rfl rfl [.ref 171, .int (I ((dlA h (gi h 178 0))))] [] rfl rfl (Nat.le_of_ble_eq_true rfl) (Nat.le_of_ble_eq_true rfl) rfl (sp_171 (h := h3) hG3) (CLd_le (Nat.le_of_ble_eq_true rfl) (ctX11_countsF hSP hG3 (by omega) (by rw [u3]; exact hu))) ?_
    rintro v4 h4 ⟨rfl, hG4, hF4, ⟨n4, e4⟩ | ⟨n4, a4, a5, a6⟩⟩
    · exfalso
      omega
    · have w4 : RC h4 178 0 = RC h3 178 0 := RC_F hF4 (r := 61) rfl rfl 0
      exact x_iret hK rfl ⟨Or.inr ⟨⟨e3, rfl⟩, by rw [w4]; exact s3, UL_push hu u3 q0 q1 a4 a5 a6⟩, hG4, (((FRM_w ((FRM.rf : FRM gRL [(0, 54, 0, 0), (0, 54, 29, 29), (0, 61, 3, 40), (0, 67, 0, 79), (0, 68, 0, 3), (0, 69, 0, 911)] h h)) (r := 54) rfl rfl).trans ((hF2).mono rfl)).trans ((hF3).mono rfl)).trans ((hF4).mono rfl), (FRM_gi hF4 (r := 54) rfl rfl).trans ((FRM_gi hF3 (r := 54) rfl rfl).trans ((FRM_gi hF2 (r := 54) rfl rfl).trans (gi_same (by omega)))), by rw [a4, u3]; omega, AW_push aw hu (by rw [w4]; exact wb3) u3 q0 q1 (fun v _ => (RC_F hF4 (r := 83) rfl rfl _).trans (q2 _)) a5 a6⟩
theorem ps_ge {b ms m n a : Int} {s : Nat → Int} (wb : WB b s) (e : psR ms (vw s).2.2.2.2.2.1 m n a = 0) : 0 ≤ (vw s).2.2.2.2.2.1 m.toNat - n ∧ (vw s).2.2.2.2.2.1 m.toNat - n ≤ 99 := by
  have z : (vw s).2.2.2.2.2.1 m.toNat = if m.toNat < 8 then s (41 + m.toNat) else 0 := rfl
  have w5 := wb.2.2.2.2.2
  have w6 := fun q : m.toNat < 8 => w5 m.toNat q
  unfold psR at e
  revert e
  (repeat' split) <;> intro e <;> omega
theorem ck_ge {b ms m n : Int} {s : Nat → Int} (wb : WB b s) (hm : 0 ≤ ms ∧ ms ≤ 8) (e : ckOk ms m n) : 0 ≤ (vw s).2.2.2.2.2.1 m.toNat ∧ (vw s).2.2.2.2.2.1 m.toNat ≤ 99 := by
  have z : (vw s).2.2.2.2.2.1 m.toNat = if m.toNat < 8 then s (41 + m.toNat) else 0 := rfl
  have w6 := fun q : m.toNat < 8 => wb.2.2.2.2.2 m.toNat q
  generalize (vw s).2.2.2.2.2.1 m.toNat = y at *
  split at z <;> omega
set_option maxRecDepth 4000 in
theorem ctX11_passF {SP : CT} (hSP : MONO SP) {sh : List (Nat × Nat)} {h : aH} (hG : GD gE gRL sh h) {m n a b : Int} (hX : XI h) (hu : 0 ≤ gi h 171 29 ∧ gi h 171 29 ≤ 15) (rm : r32 m) (rn : r32 n) (ra : r32 a) (aw : AW b h) (hb : b ≤ 1000000) : CLd SP 9 mX11_pass [.ref 171, .int (I m), .int (I n), .int (I a)] h 0 0 (fun rv h' => (((psR (gi h 171 7) (vw (RC h 178 0)).2.2.2.2.2.1 m n a ≠ 0 ∧ rv = some (.int (I (psR (gi h 171 7) (vw (RC h 178 0)).2.2.2.2.2.1 m n a)))) ∧ RC h' 178 0 = RC h 178 0 ∧ UL h' = UL h) ∨ ((psR (gi h 171 7) (vw (RC h 178 0)).2.2.2.2.2.1 m n a = 0 ∧ rv = some (.int (I ((vw (RC h 178 0)).2.2.2.2.2.1 m.toNat - n)))) ∧ vw (RC h' 178 0) = psW m n a (vw (RC h 178 0)) ∧ UL h' = pushU (UL h) (RC h 178 0))) ∧ GD gE gRL sh h' ∧ FRM gRL [(0, 54, 0, 0), (0, 54, 29, 29), (0, 61, 41, 48), (0, 69, 0, 911)] h h' ∧ gi h' 171 0 = 0 ∧ (0 ≤ gi h' 171 29 ∧ gi h' 171 29 ≤ 15) ∧ AW b h') := by
  refine x_met _ rfl (Nat.le_of_ble_eq_true rfl) (fun K hK => ?_)
  have hmono := MONO_CLd hSP 8
  have wb := aw.1
  have rb0 := wb.1
  rw [RC_0 (by omega)] at rb0
  have g7 := gri 0 8 hG (a := 171) (r := 54) (k := 7) rfl rfl
  refine x_aload_n 1 hK rfl rfl rfl ?_
  refine x_iconst 2 hK rfl rfl ?_
  refine x_putI 5 hK rfl rfl (sp_171 (h := h) hG) ?_
  refine x_aload_n 6 hK rfl rfl rfl ?_
  have hGp192 : GD gE gRL sh (wI h 171 0 0) := GD_w1 (hG) (r := 54) rfl (by omega) rfl (by omega) (by omega)
  have u1 : gi (wI h 171 0 0) 171 29 = gi h 171 29 := gi_k (by decide) _
  refine x_callV 9 hK hmono rfl rfl [.ref 171] [] rfl rfl (Nat.le_of_ble_eq_true rfl) (Nat.le_of_ble_eq_true rfl) rfl (sp_171 (h := h) hG) (CLd_le (Nat.le_of_ble_eq_true rfl) (ctX11_putsByF hSP hGp192 (by rw [u1]; exact hu))) ?_
  rintro v2 h2 ⟨rfl, hG2, hF2, p0, p1⟩
  rw [u1, show RC (wI h 171 0 0) 178 0 = RC h 178 0 from RC_w (by decide)] at p0
  rw [u1] at p1
  replace p1 : ∀ v, v ≠ (gi h 171 29).toNat → RC h2 186 (57 * v) = RC h 186 (57 * v) := fun v hv => (p1 v hv).trans (RC_w (by decide))
  have c178 : RC h2 178 0 = RC h 178 0 := (RC_F hF2 (r := 61) rfl rfl 0).trans (RC_w (by decide))
  have u2 : gi h2 171 29 = gi h 171 29 := (FRM_gi hF2 (r := 54) rfl rfl).trans (gi_k (by decide) _)
  have c200 : ∀ v, RC h2 200 v = RC h 200 v := fun v => (RC_F hF2 (r := 83) rfl rfl v).trans (RC_w (by decide))
  refine x_aload_n 10 hK rfl rfl rfl ?_
  refine x_aload_n 11 hK rfl rfl rfl ?_
  refine x_iload_n 12 hK rfl rfl rfl ?_
  refine x_iload_n 13 hK rfl rfl rfl ?_
  refine x_iload_n 14 hK rfl rfl rfl ?_
  have wb2 : WB b (RC h2 178 0) := by rw [c178]; exact wb
  refine x_callV 17 hK hmono rfl rfl [.ref 171, .int (I m), .int (I n), .int (I a)] [.ref 171] rfl rfl (Nat.le_of_ble_eq_true rfl) (Nat.le_of_ble_eq_true rfl) rfl (sp_171 (h := h2) hG2) (CLd_le (Nat.le_of_ble_eq_true rfl) (ctX11_passesF hSP hG2 rm rn ra wb2)) ?_
  rw [c178, show gi h2 171 7 = gi h 171 7 from (FRM_gi hF2 (r := 54) rfl rfl).trans (gi_k (by decide) _)]
  rintro v3 h3 ⟨⟨e3, rfl, s3⟩ | ⟨e3, rfl, s3⟩, hG3, hF3, wb3⟩
  · have u3 : gi h3 171 29 = gi h 171 29 := (FRM_gi hF3 (r := 54) rfl rfl).trans ((FRM_gi hF2 (r := 54) rfl rfl).trans (gi_k (by decide) _))
    have q0 : RC h3 186 (57 * (gi h 171 29).toNat) = RC h 178 0 := (RC_F hF3 (r := 69) rfl rfl _).trans p0
    have q1 : ∀ v, v ≠ (gi h 171 29).toNat → RC h3 186 (57 * v) = RC h 186 (57 * v) := fun v hv => (RC_F hF3 (r := 69) rfl rfl _).trans (p1 v hv)
    have q2 : ∀ v, RC h3 200 v = RC h 200 v := fun v => (RC_F hF3 (r := 83) rfl rfl v).trans (c200 v)
    have an : psR (gi h 171 7) (vw (RC h 178 0)).2.2.2.2.2.1 m n a < 0 := by unfold psR at e3 ⊢; revert e3; (repeat' split) <;> intro e3 <;> omega
    have ar : r32 (psR (gi h 171 7) (vw (RC h 178 0)).2.2.2.2.2.1 m n a) := by unfold psR at an ⊢; (repeat' split) <;> omega
    refine x_callV 20 hK hmono rfl rfl [.ref 171, .int (I (psR (gi h 171 7) (vw (RC h 178 0)).2.2.2.2.2.1 m n a))] [] rfl rfl (Nat.le_of_ble_eq_true rfl) (Nat.le_of_ble_eq_true rfl) rfl (sp_171 (h := h3) hG3) (CLd_le (Nat.le_of_ble_eq_true rfl) (ctX11_countsF hSP hG3 (by omega) (by rw [u3]; exact hu))) ?_
    rintro v4 h4 ⟨rfl, hG4, hF4, ⟨n4, e4⟩ | ⟨n4, a4, a5, a6⟩⟩
    · subst e4
      have ff : FRM gRL [(0, 54, 0, 0), (0, 54, 29, 29), (0, 61, 41, 48), (0, 69, 0, 911)] h h4 := ((FRM_w ((FRM.rf : FRM gRL [(0, 54, 0, 0), (0, 54, 29, 29), (0, 61, 41, 48), (0, 69, 0, 911)] h h)) (r := 54) rfl rfl).trans ((hF2).mono rfl)).trans ((hF3).mono rfl)
      have t4 : gi h4 171 0 = 0 := (FRM_gi hF3 (r := 54) rfl rfl).trans ((FRM_gi hF2 (r := 54) rfl rfl).trans (gi_same (by omega)))
      exact x_iret hK rfl ⟨Or.inl ⟨⟨e3, rfl⟩, s3, UL_eq u3 fun v hv => q1 v (by omega)⟩, hG4, ff, t4, by rw [u3]; exact hu, AW_put aw s3 q0 q1 fun v _ => q2 _⟩
    · exfalso
      omega
  · have u3 : gi h3 171 29 = gi h 171 29 := (FRM_gi hF3 (r := 54) rfl rfl).trans ((FRM_gi hF2 (r := 54) rfl rfl).trans (gi_k (by decide) _))
    have q0 : RC h3 186 (57 * (gi h 171 29).toNat) = RC h 178 0 := (RC_F hF3 (r := 69) rfl rfl _).trans p0
    have q1 : ∀ v, v ≠ (gi h 171 29).toNat → RC h3 186 (57 * v) = RC h 186 (57 * v) := fun v hv => (RC_F hF3 (r := 69) rfl rfl _).trans (p1 v hv)
    have q2 : ∀ v, RC h3 200 v = RC h 200 v := fun v => (RC_F hF3 (r := 83) rfl rfl v).trans (c200 v)
    have an := ps_ge wb e3
    refine x_callV 20 hK hmono rfl rfl [.ref 171, .int (I ((vw (RC h 178 0)).2.2.2.2.2.1 m.toNat - n))] [] rfl rfl (Nat.le_of_ble_eq_true rfl) (Nat.le_of_ble_eq_true rfl) rfl (sp_171 (h := h3) hG3) (CLd_le (Nat.le_of_ble_eq_true rfl) (ctX11_countsF hSP hG3 (by omega) (by rw [u3]; exact hu))) ?_
    rintro v4 h4 ⟨rfl, hG4, hF4, ⟨n4, e4⟩ | ⟨n4, a4, a5, a6⟩⟩
    · exfalso
      omega
    · have w4 : RC h4 178 0 = RC h3 178 0 := RC_F hF4 (r := 61) rfl rfl 0
      exact x_iret hK rfl ⟨Or.inr ⟨⟨e3, rfl⟩, by rw [w4]; exact s3, UL_push hu u3 q0 q1 a4 a5 a6⟩, hG4, (((FRM_w ((FRM.rf : FRM gRL [(0, 54, 0, 0), (0, 54, 29, 29), (0, 61, 41, 48), (0, 69, 0, 911)] h h)) (r := 54) rfl rfl).trans ((hF2).mono rfl)).trans ((hF3).mono rfl)).trans ((hF4).mono rfl), (FRM_gi hF4 (r := 54) rfl rfl).trans ((FRM_gi hF3 (r := 54) rfl rfl).trans ((FRM_gi hF2 (r := 54) rfl rfl).trans (gi_same (by omega)))), by rw [a4, u3]; omega, AW_push aw hu (by rw [w4]; exact wb3) u3 q0 q1 (fun v _ => (RC_F hF4 (r := 83) rfl rfl _).trans (q2 _)) a5 a6⟩
set_option maxRecDepth 4000 in
theorem ctX11_cookF {SP : CT} (hSP : MONO SP) {sh : List (Nat × Nat)} {h : aH} (hG : GD gE gRL sh h) {m n b : Int} (hX : XI h) (hu : 0 ≤ gi h 171 29 ∧ gi h 171 29 ≤ 15) (rm : r32 m) (rn : r32 n) (aw : AW b h) (hb : b ≤ 1000000) : CLd SP 9 mX11_cook [.ref 171, .int (I m), .int (I n)] h 0 0 (fun rv h' => (((¬ ckOk (gi h 171 7) m n ∧ rv = some (.int (I (-1)))) ∧ RC h' 178 0 = RC h 178 0 ∧ UL h' = UL h) ∨ ((ckOk (gi h 171 7) m n ∧ rv = some (.int (I ((vw (RC h 178 0)).2.2.2.2.2.1 m.toNat)))) ∧ vw (RC h' 178 0) = ckW m n (vw (RC h 178 0)) ∧ UL h' = pushU (UL h) (RC h 178 0))) ∧ GD gE gRL sh h' ∧ FRM gRL [(0, 54, 0, 0), (0, 54, 29, 29), (0, 61, 41, 48), (0, 69, 0, 911)] h h' ∧ gi h' 171 0 = 0 ∧ (0 ≤ gi h' 171 29 ∧ gi h' 171 29 ≤ 15) ∧ AW b h') := by
  refine x_met _ rfl (Nat.le_of_ble_eq_true rfl) (fun K hK => ?_)
  have hmono := MONO_CLd hSP 8
  have wb := aw.1
  have rb0 := wb.1
  rw [RC_0 (by omega)] at rb0
  have g7 := gri 0 8 hG (a := 171) (r := 54) (k := 7) rfl rfl
  refine x_aload_n 1 hK rfl rfl rfl ?_
  refine x_iconst 2 hK rfl rfl ?_
  refine x_putI 5 hK rfl rfl (sp_171 (h := h) hG) ?_
  refine x_aload_n 6 hK rfl rfl rfl ?_
  have hGp193 : GD gE gRL sh (wI h 171 0 0) := GD_w1 (hG) (r := 54) rfl (by omega) rfl (by omega) (by omega)
  have u1 : gi (wI h 171 0 0) 171 29 = gi h 171 29 := gi_k (by decide) _
  refine x_callV 9 hK hmono rfl rfl [.ref 171] [] rfl rfl (Nat.le_of_ble_eq_true rfl) (Nat.le_of_ble_eq_true rfl) rfl (sp_171 (h := h) hG) (CLd_le (Nat.le_of_ble_eq_true rfl) (ctX11_putsByF hSP hGp193 (by rw [u1]; exact hu))) ?_
  rintro v2 h2 ⟨rfl, hG2, hF2, p0, p1⟩
  rw [u1, show RC (wI h 171 0 0) 178 0 = RC h 178 0 from RC_w (by decide)] at p0
  rw [u1] at p1
  replace p1 : ∀ v, v ≠ (gi h 171 29).toNat → RC h2 186 (57 * v) = RC h 186 (57 * v) := fun v hv => (p1 v hv).trans (RC_w (by decide))
  have c178 : RC h2 178 0 = RC h 178 0 := (RC_F hF2 (r := 61) rfl rfl 0).trans (RC_w (by decide))
  have u2 : gi h2 171 29 = gi h 171 29 := (FRM_gi hF2 (r := 54) rfl rfl).trans (gi_k (by decide) _)
  have c200 : ∀ v, RC h2 200 v = RC h 200 v := fun v => (RC_F hF2 (r := 83) rfl rfl v).trans (RC_w (by decide))
  refine x_aload_n 10 hK rfl rfl rfl ?_
  refine x_aload_n 11 hK rfl rfl rfl ?_
  refine x_iload_n 12 hK rfl rfl rfl ?_
  refine x_iload_n 13 hK rfl rfl rfl ?_
  have wb2 : WB b (RC h2 178 0) := by rw [c178]; exact wb
  refine x_callV 16 hK hmono rfl rfl [.ref 171, .int (I m), .int (I n)] [.ref 171] rfl rfl (Nat.le_of_ble_eq_true rfl) (Nat.le_of_ble_eq_true rfl) rfl (sp_171 (h := h2) hG2) (CLd_le (Nat.le_of_ble_eq_true rfl) (ctX11_cooksF hSP hG2 rm rn wb2)) ?_
  rw [c178, show gi h2 171 7 = gi h 171 7 from (FRM_gi hF2 (r := 54) rfl rfl).trans (gi_k (by decide) _)]
  rintro v3 h3 ⟨⟨e3, rfl, s3⟩ | ⟨e3, rfl, s3⟩, hG3, hF3, wb3⟩
  · have u3 : gi h3 171 29 = gi h 171 29 := (FRM_gi hF3 (r := 54) rfl rfl).trans ((FRM_gi hF2 (r := 54) rfl rfl).trans (gi_k (by decide) _))
    have q0 : RC h3 186 (57 * (gi h 171 29).toNat) = RC h 178 0 := (RC_F hF3 (r := 69) rfl rfl _).trans p0
    have q1 : ∀ v, v ≠ (gi h 171 29).toNat → RC h3 186 (57 * v) = RC h 186 (57 * v) := fun v hv => (RC_F hF3 (r := 69) rfl rfl _).trans (p1 v hv)
    have q2 : ∀ v, RC h3 200 v = RC h 200 v := fun v => (RC_F hF3 (r := 83) rfl rfl v).trans (c200 v)
    refine x_callV 19 hK hmono rfl rfl [.ref 171, .int (I (-1))] [] rfl rfl (Nat.le_of_ble_eq_true rfl) (Nat.le_of_ble_eq_true rfl) rfl (sp_171 (h := h3) hG3) (CLd_le (Nat.le_of_ble_eq_true rfl) (ctX11_countsF hSP hG3 (by omega) (by rw [u3]; exact hu))) ?_
    rintro v4 h4 ⟨rfl, hG4, hF4, ⟨n4, e4⟩ | ⟨n4, a4, a5, a6⟩⟩
    · subst e4
      have ff : FRM gRL [(0, 54, 0, 0), (0, 54, 29, 29), (0, 61, 41, 48), (0, 69, 0, 911)] h h4 := ((FRM_w ((FRM.rf : FRM gRL [(0, 54, 0, 0), (0, 54, 29, 29), (0, 61, 41, 48), (0, 69, 0, 911)] h h)) (r := 54) rfl rfl).trans ((hF2).mono rfl)).trans ((hF3).mono rfl)
      have t4 : gi h4 171 0 = 0 := (FRM_gi hF3 (r := 54) rfl rfl).trans ((FRM_gi hF2 (r := 54) rfl rfl).trans (gi_same (by omega)))
      exact x_iret hK rfl ⟨Or.inl ⟨⟨e3, rfl⟩, s3, UL_eq u3 fun v hv => q1 v (by omega)⟩, hG4, ff, t4, by rw [u3]; exact hu, AW_put aw s3 q0 q1 fun v _ => q2 _⟩
    · exfalso
      omega
  · have u3 : gi h3 171 29 = gi h 171 29 := (FRM_gi hF3 (r := 54) rfl rfl).trans ((FRM_gi hF2 (r := 54) rfl rfl).trans (gi_k (by decide) _))
    have q0 : RC h3 186 (57 * (gi h 171 29).toNat) = RC h 178 0 := (RC_F hF3 (r := 69) rfl rfl _).trans p0
    have q1 : ∀ v, v ≠ (gi h 171 29).toNat → RC h3 186 (57 * v) = RC h 186 (57 * v) := fun v hv => (RC_F hF3 (r := 69) rfl rfl _).trans (p1 v hv)
    have q2 : ∀ v, RC h3 200 v = RC h 200 v := fun v => (RC_F hF3 (r := 83) rfl rfl v).trans (c200 v)
    have an := ck_ge wb g7 e3
    refine x_callV 19 hK hmono rfl rfl [.ref 171, .int (I ((vw (RC h 178 0)).2.2.2.2.2.1 m.toNat))] [] rfl rfl (Nat.le_of_ble_eq_true rfl) (Nat.le_of_ble_eq_true rfl) rfl (sp_171 (h := h3) hG3) (CLd_le (Nat.le_of_ble_eq_true rfl) (ctX11_countsF hSP hG3 (by omega) (by rw [u3]; exact hu))) ?_
    rintro v4 h4 ⟨rfl, hG4, hF4, ⟨n4, e4⟩ | ⟨n4, a4, a5, a6⟩⟩
    · exfalso
      omega
    · have w4 : RC h4 178 0 = RC h3 178 0 := RC_F hF4 (r := 61) rfl rfl 0
      exact x_iret hK rfl ⟨Or.inr ⟨⟨e3, rfl⟩, by rw [w4]; exact s3, UL_push hu u3 q0 q1 a4 a5 a6⟩, hG4, (((FRM_w ((FRM.rf : FRM gRL [(0, 54, 0, 0), (0, 54, 29, 29), (0, 61, 41, 48), (0, 69, 0, 911)] h h)) (r := 54) rfl rfl).trans ((hF2).mono rfl)).trans ((hF3).mono rfl)).trans ((hF4).mono rfl), (FRM_gi hF4 (r := 54) rfl rfl).trans ((FRM_gi hF3 (r := 54) rfl rfl).trans ((FRM_gi hF2 (r := 54) rfl rfl).trans (gi_same (by omega)))), by rw [a4, u3]; omega, AW_push aw hu (by rw [w4]; exact wb3) u3 q0 q1 (fun v _ => (RC_F hF4 (r := 83) rfl rfl _).trans (q2 _)) a5 a6⟩
set_option maxRecDepth 4000 in
theorem ctX11_startsCountingF {SP : CT} (hSP : MONO SP) {sh : List (Nat × Nat)} {h : aH} (hG : GD gE gRL sh h) : CLd SP 1 mX11_startsCounting [.ref 171] h 0 0 (fun rv h' => rv = none ∧ GD gE gRL sh h' ∧ FRM gRL [(0, 54, 31, 32)] h h' ∧ gi h' 171 31 = 0 ∧ gi h' 171 32 = 0) := by
  refine x_met _ rfl (Nat.le_of_ble_eq_true rfl) (fun K hK => ?_)
  have hmono := MONO_CLd hSP 0
  refine x_aload_n 1 hK rfl rfl rfl ?_
  refine x_iconst 2 hK rfl rfl ?_
  refine x_putI 5 hK rfl rfl (sp_171 (h := h) hG) ?_
  refine x_aload_n 6 hK rfl rfl rfl ?_
  refine x_iconst 7 hK rfl rfl ?_
  refine x_putI 10 hK rfl rfl (sp_171 (h := h) hG) ?_
  exact x_vret hK rfl ⟨rfl, GD_w0 (GD_w0 (hG) (r := 54) rfl rfl) (r := 54) rfl rfl, FRM_w (FRM_w ((FRM.rf : FRM gRL [(0, 54, 31, 32)] h h)) (r := 54) rfl rfl) (r := 54) rfl rfl, (gi_k (by decide) _).trans (gi_same (by omega)), gi_same (by omega)⟩
set_option maxRecDepth 4000 in
theorem ctX11_stepsF {SP : CT} (hSP : MONO SP) {sh : List (Nat × Nat)} {h : aH} (hG : GD gE gRL sh h) {n b : Int} (hu : 0 ≤ gi h 171 29 ∧ gi h 171 29 ≤ 15) (rn : r32 n) (aw : AW b h) (hb : b ≤ 900000) : CLd SP 9 mX11_steps [.ref 171, .int (I n)] h 0 0 (fun rv h' => ((¬ (0 ≤ n ∧ n ≤ 60) ∧ rv = some (.int (I (-1))) ∧ RC h' 178 0 = RC h 178 0 ∧ UL h' = UL h ∧ mrow h' = mrow h) ∨ ((0 ≤ n ∧ n ≤ 60) ∧ rv = some (.int (I (stI (gi h 175) (gi h 176) (gi h 171 6).toNat (gi h 171 7) (gi h 177) n.toNat (vw (RC h 178 0))).2.1)) ∧ vw (RC h' 178 0) = stI (gi h 175) (gi h 176) (gi h 171 6).toNat (gi h 171 7) (gi h 177) n.toNat (vw (RC h 178 0)) ∧ UL h' = pushU (UL h) (RC h 178 0) ∧ mrow h' = [sHs (gi h 175) (gi h 176) (gi h 171 6).toNat (gi h 171 7) (gi h 177) n.toNat (vw (RC h 178 0)), sUs (gi h 175) (gi h 176) (gi h 171 6).toNat (gi h 171 7) (gi h 177) n.toNat (vw (RC h 178 0))])) ∧ GD gE gRL sh h' ∧ FRM gRL [(0, 54, 0, 0), (0, 54, 1, 1), (0, 54, 29, 29), (0, 54, 31, 32), (0, 61, 0, 56), (0, 69, 0, 911), (1, 55, 0, 39)] h h' ∧ gi h' 171 0 = 0 ∧ (0 ≤ gi h' 171 29 ∧ gi h' 171 29 ≤ 15) ∧ AW (b + 60) h') := by
  refine x_met _ rfl (Nat.le_of_ble_eq_true rfl) (fun K hK => ?_)
  have hmono := MONO_CLd hSP 8
  have g6 := gri 0 16 hG (a := 171) (r := 54) (k := 6) rfl rfl
  have g7 := gri 0 8 hG (a := 171) (r := 54) (k := 7) rfl rfl
  have sb := sHs_b (ml := gi h 175) (ln := gi h 176) (ms := gi h 171 7) (ea := gi h 177) (show (gi h 171 6).toNat ≤ 16 by omega) (vw (RC h 178 0))
  have ub := sUs_b (ml := gi h 175) (ln := gi h 176) (nr := (gi h 171 6).toNat) (ea := gi h 177) g7.2 (vw (RC h 178 0))
  have loop : ∀ (mz : Nat) (k : Int) (h4 : aH) (ls : List (Nat × Value)), ((n - k).toNat = mz) → (0 ≤ n ∧ n ≤ 60) → (0 ≤ k ∧ k ≤ n) → (gi h4 171 0 = 0) → (gi h4 171 29 = gi h 171 29) → (vw (RC h4 178 0) = stI (gi h 175) (gi h 176) (gi h 171 6).toNat (gi h 171 7) (gi h 177) k.toNat (vw (RC h 178 0))) → (gi h4 171 31 = sHs (gi h 175) (gi h 176) (gi h 171 6).toNat (gi h 171 7) (gi h 177) k.toNat (vw (RC h 178 0))) → (gi h4 171 32 = sUs (gi h 175) (gi h 176) (gi h 171 6).toNat (gi h 171 7) (gi h 177) k.toNat (vw (RC h 178 0))) → (WB (b + k) (RC h4 178 0)) → (RC h4 186 (57 * (gi h 171 29).toNat) = RC h 178 0) → (∀ v, v ≠ (gi h 171 29).toNat → RC h4 186 (57 * v) = RC h 186 (57 * v)) → (∀ v, RC h4 200 v = RC h 200 v) → lk ls 0 = some (.ref 171) → lk ls 1 = some (.int (I n)) → lk ls 2 = some (.int (I k)) → GD gE gRL sh h4 → FRM gRL [(0, 54, 0, 0), (0, 54, 1, 1), (0, 54, 29, 29), (0, 54, 31, 32), (0, 61, 0, 56), (0, 69, 0, 911), (1, 55, 0, 39)] h h4 → K 29 ls [] h4 0 0 := by
    intro mz
    induction mz using Nat.strongRecOn with
    | ind mz ih =>
    intro k h4 ls hm n0 k0 t4 u4 sv s31 s32 wb4 q0 q1 q2 l0 l1 l2 hG4 hF4
    have sbk := sb k.toNat
    have ubk := ub k.toNat
    have gl := gri 0 8 hG4 (a := 178) (r := 61) (k := 1) rfl rfl
    refine x_iload_n 30 hK rfl rfl l2 ?_
    refine x_iload_n 31 hK rfl rfl l1 ?_
    refine x_if_icmp_ge 48 34 hK rfl rfl rfl (by omega) (by omega) (fun c3 => ?_) (fun c3 => ?_)
    · refine x_aload_n 49 hK rfl rfl l0 ?_
      refine x_iconst 50 hK rfl rfl ?_
      refine x_putI 53 hK rfl rfl (sp_171 (h := h4) hG4) ?_
      refine x_aload_n 54 hK rfl rfl l0 ?_
      refine x_aload_n 55 hK rfl rfl l0 ?_
      refine x_getE 58 hK rfl (Or.inl rfl) rfl (sp_171 (h := h4) hG4) (e := (sHs (gi h 175) (gi h 176) (gi h 171 6).toNat (gi h 171 7) (gi h 177) k.toNat (vw (RC h 178 0)))) ((gi_k (by decide) _).trans (s31)) ?_
      refine x_i2l 59 hK rfl rfl (by omega) ?_
      have hGp194 : GD gE gRL sh (wI h4 171 1 0) := GD_w1 (hG4) (r := 54) rfl (by omega) rfl (by omega) (by omega)
      have z196 : gi (wI h4 171 1 0) 171 1 = 0 := gi_same (by omega)
      have z196r : mrow (wI h4 171 1 0) = [] := mrow_0 (gi_same (by omega))
      refine x_callV 62 hK hmono rfl rfl [.ref 171, .long (J (sHs (gi h 175) (gi h 176) (gi h 171 6).toNat (gi h 171 7) (gi h 177) k.toNat (vw (RC h 178 0))))] [] rfl rfl (Nat.le_of_ble_eq_true rfl) (Nat.le_of_ble_eq_true rfl) rfl (sp_171 (h := h4) hG4) (CLd_le (Nat.le_of_ble_eq_true rfl) (ctX11_entersF hSP hGp194 (by omega) (by omega))) ?_
      rintro v195 h195 ⟨rfl, hG195, hF195, t195, s195⟩
      rw [z196] at t195
      rw [z196r] at s195
      replace t195 : gi h195 171 1 = 1 := t195
      change mrow h195 = [(sHs (gi h 175) (gi h 176) (gi h 171 6).toNat (gi h 171 7) (gi h 177) k.toNat (vw (RC h 178 0)))] at s195
      refine x_aload_n 63 hK rfl rfl l0 ?_
      refine x_aload_n 64 hK rfl rfl l0 ?_
      refine x_getE 67 hK rfl (Or.inl rfl) rfl (sp_171 (h := h195) hG195) (e := (sUs (gi h 175) (gi h 176) (gi h 171 6).toNat (gi h 171 7) (gi h 177) k.toNat (vw (RC h 178 0)))) ((FRM_gi hF195 (r := 54) rfl rfl).trans ((gi_k (by decide) _).trans (s32))) ?_
      refine x_i2l 68 hK rfl rfl (by omega) ?_
      have z198 : gi h195 171 1 = 1 := t195
      have z198r : mrow h195 = [(sHs (gi h 175) (gi h 176) (gi h 171 6).toNat (gi h 171 7) (gi h 177) k.toNat (vw (RC h 178 0)))] := s195
      refine x_callV 71 hK hmono rfl rfl [.ref 171, .long (J (sUs (gi h 175) (gi h 176) (gi h 171 6).toNat (gi h 171 7) (gi h 177) k.toNat (vw (RC h 178 0))))] [] rfl rfl (Nat.le_of_ble_eq_true rfl) (Nat.le_of_ble_eq_true rfl) rfl (sp_171 (h := h195) hG195) (CLd_le (Nat.le_of_ble_eq_true rfl) (ctX11_entersF hSP hG195 (by omega) (by omega))) ?_
      rintro v197 h197 ⟨rfl, hG197, hF197, t197, s197⟩
      rw [z198] at t197
      rw [z198r] at s197
      replace t197 : gi h197 171 1 = 2 := t197
      change mrow h197 = [(sHs (gi h 175) (gi h 176) (gi h 171 6).toNat (gi h 171 7) (gi h 177) k.toNat (vw (RC h 178 0))), (sUs (gi h 175) (gi h 176) (gi h 171 6).toNat (gi h 171 7) (gi h 177) k.toNat (vw (RC h 178 0)))] at s197
      refine x_aload_n 72 hK rfl rfl l0 ?_
      refine x_aload_n 73 hK rfl rfl l0 ?_
      refine x_getR 76 hK rfl rfl (sp_171 (h := h197) hG197) (rf_171_14 (h := h197) hG197) ?_
      refine x_iconst 77 hK rfl rfl ?_
      have g199 := gri (0) (8) hG4 (a := 178) (r := 61) (k := 1) rfl rfl
      refine x_ialoadE 78 hK rfl rfl (sp_178 (h := h197) hG197) (by omega) (by omega) (by omega) (e' := (gi h4 178 1)) ((FRM_gi hF197 (r := 61) rfl rfl).trans ((FRM_gi hF195 (r := 61) rfl rfl).trans (gi_a (by decide) _))) ?_
      have ua : gi h197 171 29 = gi h 171 29 := (FRM_gi hF197 (r := 54) rfl rfl).trans ((FRM_gi hF195 (r := 54) rfl rfl).trans ((gi_k (by decide) _).trans (u4)))
      have ra : mrow h197 = [(sHs (gi h 175) (gi h 176) (gi h 171 6).toNat (gi h 171 7) (gi h 177) k.toNat (vw (RC h 178 0))), (sUs (gi h 175) (gi h 176) (gi h 171 6).toNat (gi h 171 7) (gi h 177) k.toNat (vw (RC h 178 0)))] := s197
      have ta : gi h197 171 0 = 0 := (FRM_gi hF197 (r := 54) rfl rfl).trans ((FRM_gi hF195 (r := 54) rfl rfl).trans ((gi_k (by decide) _).trans (t4)))
      have fa : FRM gRL [(0, 54, 0, 0), (0, 54, 1, 1), (0, 54, 29, 29), (0, 54, 31, 32), (0, 61, 0, 56), (0, 69, 0, 911), (1, 55, 0, 39)] h h197 := ((FRM_w (hF4) (r := 54) rfl rfl).trans ((hF195).mono rfl)).trans ((hF197).mono rfl)
      refine x_callV 81 hK hmono rfl rfl [.ref 171, .int (I (gi h4 178 1))] [] rfl rfl (Nat.le_of_ble_eq_true rfl) (Nat.le_of_ble_eq_true rfl) rfl (sp_171 (h := h197) hG197) (CLd_le (Nat.le_of_ble_eq_true rfl) (ctX11_addsF hSP hG197 (by rw [ua]; exact hu))) ?_
      rintro v9 h9 ⟨rfl, hG9, hF9, a4, a5, a6⟩
      have y1 : RC h197 178 0 = RC h4 178 0 := (((RC_F hF197 (r := 61) rfl rfl 0)).trans (RC_F hF195 (r := 61) rfl rfl 0)).trans (RC_w (by decide))
      have y2 : ∀ v, RC h197 186 v = RC h4 186 v := fun v => (((RC_F hF197 (r := 69) rfl rfl v)).trans (RC_F hF195 (r := 69) rfl rfl v)).trans (RC_w (by decide))
      have y3 : ∀ v, RC h197 200 v = RC h4 200 v := fun v => (((RC_F hF197 (r := 83) rfl rfl v)).trans (RC_F hF195 (r := 83) rfl rfl v)).trans (RC_w (by decide))
      obtain rfl : k = n := by omega
      have x1 : RC h9 178 0 = RC h4 178 0 := (RC_F hF9 (r := 61) rfl rfl 0).trans y1
      have x2 : gi h4 178 1 = (stI (gi h 175) (gi h 176) (gi h 171 6).toNat (gi h 171 7) (gi h 177) k.toNat (vw (RC h 178 0))).2.1 := by rw [← sv]; show _ = RC h4 178 0 1; rw [RC_0 (by omega)]
      have q0b : RC h197 186 (57 * (gi h 171 29).toNat) = RC h 178 0 := (y2 _).trans q0
      have q1b : ∀ v, v ≠ (gi h 171 29).toNat → RC h197 186 (57 * v) = RC h 186 (57 * v) := fun v hv => (y2 _).trans (q1 v hv)
      have mr : mrow h9 = [sHs (gi h 175) (gi h 176) (gi h 171 6).toNat (gi h 171 7) (gi h 177) k.toNat (vw (RC h 178 0)), sUs (gi h 175) (gi h 176) (gi h 171 6).toNat (gi h 171 7) (gi h 177) k.toNat (vw (RC h 178 0))] := (mrow_F hF9 rfl rfl).trans ra
      exact x_iret hK rfl ⟨Or.inr ⟨n0, by rw [x2], by rw [x1]; exact sv, UL_push hu ua q0b q1b a4 a5 a6, mr⟩, hG9, fa.trans (hF9.mono rfl), (FRM_gi hF9 (r := 54) rfl rfl).trans ta, by rw [a4, ua]; omega, AW_push (aw.mono (by omega)) hu (by rw [x1]; exact wb4.mono (by omega)) ua q0b q1b (fun v _ => (RC_F hF9 (r := 83) rfl rfl _).trans ((y3 _).trans (q2 _))) a5 a6⟩
    · refine x_aload_n 35 hK rfl rfl l0 ?_
      refine x_aload_n 36 hK rfl rfl l0 ?_
      refine x_getR 39 hK rfl rfl (sp_171 (h := h4) hG4) (rf_171_14 (h := h4) hG4) ?_
      refine x_callV 42 hK hmono rfl rfl [.ref 171, .ref 178] [] rfl rfl (Nat.le_of_ble_eq_true rfl) (Nat.le_of_ble_eq_true rfl) rfl (sp_171 (h := h4) hG4) (CLd_le (Nat.le_of_ble_eq_true rfl) (ctX11_stepGoesNF hSP hG4 wb4 (by omega) (by omega) (by omega))) ?_
      rw [sv, show gi h4 175 = gi h 175 from funext fun j => FRM_gi hF4 (r := 58) rfl rfl, show gi h4 176 = gi h 176 from funext fun j => FRM_gi hF4 (r := 59) rfl rfl, show gi h4 171 6 = gi h 171 6 from FRM_gi hF4 (r := 54) rfl rfl, show gi h4 171 7 = gi h 171 7 from FRM_gi hF4 (r := 54) rfl rfl, show gi h4 177 = gi h 177 from funext fun j => FRM_gi hF4 (r := 60) rfl rfl]
      rintro v200 h200 ⟨rfl, hG200, hF200, sv200, x31200, x32200, wb200⟩
      refine x_iinc 45 hK rfl rfl l2 _ rfl ?_
      refine x_goto 29 hK rfl rfl ?_
      exact ih _ (by omega) (k + 1) _ _ rfl (n0) (by omega) ((FRM_gi hF200 (r := 54) rfl rfl).trans (t4)) ((FRM_gi hF200 (r := 54) rfl rfl).trans (u4)) ((by rw [tn_s k0.1]; exact sv200)) ((by rw [tn_s k0.1, x31200, s31]; rfl)) ((by rw [tn_s k0.1, x32200, s32]; rfl)) ((by rw [show b + (k + 1) = b + k + 1 by omega]; exact wb200)) (((RC_F hF200 (r := 69) rfl rfl _).trans q0)) ((fun v hv => (RC_F hF200 (r := 69) rfl rfl _).trans (q1 v hv))) ((fun v => (RC_F hF200 (r := 83) rfl rfl _).trans (q2 v))) (lk1_n l0 (by decide) (Or.inl rfl)) (lk1_n l1 (by decide) (Or.inl rfl)) lk1_s (hG200) ((hF4).trans ((hF200).mono rfl))
  refine x_aload_n 1 hK rfl rfl rfl ?_
  refine x_iconst 2 hK rfl rfl ?_
  refine x_putI 5 hK rfl rfl (sp_171 (h := h) hG) ?_
  refine x_iload_n 6 hK rfl rfl rfl ?_
  refine x_i2l 7 hK rfl rfl (by omega) ?_
  refine x_lconstE 8 0 hK rfl rfl rfl ?_
  refine x_ldc2_w 11 hK rfl rfl ?_
  have hGp201 : GD gE gRL sh (wI h 171 0 0) := GD_w1 (hG) (r := 54) rfl (by omega) rfl (by omega) (by omega)
  refine x_callS 14 hK hmono rfl (Or.inl rfl) rfl [.long (J n), .long (J 0), .long (J 60)] [] rfl rfl (Nat.le_of_ble_eq_true rfl) (Nat.le_of_ble_eq_true rfl) (CLd_le (Nat.le_of_ble_eq_true rfl) (ctX11_in (by omega) (by omega) (by omega))) ?_
  rintro v9 h9 ⟨e9, ⟨rfl, i1202, i2202⟩ | ⟨rfl, i1202⟩⟩ <;> rw [e9] <;> clear e9
  · refine x_if_ne 19 17 hK rfl rfl rfl (by omega) (fun _ => ?_) (fun c => by omega)
    refine x_aload_n 20 hK rfl rfl rfl ?_
    have hGp203 : GD gE gRL sh (wI h 171 0 0) := GD_w1 (hG) (r := 54) rfl (by omega) rfl (by omega) (by omega)
    have u1 : gi (wI h 171 0 0) 171 29 = gi h 171 29 := gi_k (by decide) _
    refine x_callV 23 hK hmono rfl rfl [.ref 171] [] rfl rfl (Nat.le_of_ble_eq_true rfl) (Nat.le_of_ble_eq_true rfl) rfl (sp_171 (h := h) hG) (CLd_le (Nat.le_of_ble_eq_true rfl) (ctX11_putsByF hSP hGp203 (by rw [u1]; exact hu))) ?_
    rintro v2 h2 ⟨rfl, hG2, hF2, p0, p1⟩
    rw [u1, show RC (wI h 171 0 0) 178 0 = RC h 178 0 from RC_w (by decide)] at p0
    rw [u1] at p1
    replace p1 : ∀ v, v ≠ (gi h 171 29).toNat → RC h2 186 (57 * v) = RC h 186 (57 * v) := fun v hv => (p1 v hv).trans (RC_w (by decide))
    have c178 : RC h2 178 0 = RC h 178 0 := (RC_F hF2 (r := 61) rfl rfl 0).trans (RC_w (by decide))
    have u2 : gi h2 171 29 = gi h 171 29 := (FRM_gi hF2 (r := 54) rfl rfl).trans (gi_k (by decide) _)
    have c200 : ∀ v, RC h2 200 v = RC h 200 v := fun v => (RC_F hF2 (r := 83) rfl rfl v).trans (RC_w (by decide))
    refine x_aload_n 24 hK rfl rfl rfl ?_
    refine x_callV 27 hK hmono rfl rfl [.ref 171] [] rfl rfl (Nat.le_of_ble_eq_true rfl) (Nat.le_of_ble_eq_true rfl) rfl (sp_171 (h := h2) hG2) (CLd_le (Nat.le_of_ble_eq_true rfl) (ctX11_startsCountingF hSP hG2)) ?_
    rintro v3 h3 ⟨rfl, hG3, hF3, z31, z32⟩
    refine x_iconst 28 hK rfl rfl ?_
    refine x_istore_n 29 hK rfl rfl [(2, .int (I 0)), (0, .ref 171), (1, .int (I n))] rfl ?_
    have c3 : RC h3 178 0 = RC h 178 0 := (RC_F hF3 (r := 61) rfl rfl 0).trans c178
    exact loop _ 0 _ _ rfl (by omega) (by omega) ((FRM_gi hF3 (r := 54) rfl rfl).trans ((FRM_gi hF2 (r := 54) rfl rfl).trans (gi_same (by omega)))) ((FRM_gi hF3 (r := 54) rfl rfl).trans ((FRM_gi hF2 (r := 54) rfl rfl).trans (gi_k (by decide) _))) ((by rw [c3]; rfl)) (z31) (z32) ((by rw [c3, show b + 0 = b by omega]; exact aw.1)) (((RC_F hF3 (r := 69) rfl rfl _).trans p0)) ((fun v hv => (RC_F hF3 (r := 69) rfl rfl _).trans (p1 v hv))) ((fun v => (RC_F hF3 (r := 83) rfl rfl _).trans (c200 v))) rfl rfl rfl (hG3) (((FRM_w ((FRM.rf : FRM gRL [(0, 54, 0, 0), (0, 54, 1, 1), (0, 54, 29, 29), (0, 54, 31, 32), (0, 61, 0, 56), (0, 69, 0, 911), (1, 55, 0, 39)] h h)) (r := 54) rfl rfl).trans ((hF2).mono rfl)).trans ((hF3).mono rfl))
  · refine x_if_ne 19 17 hK rfl rfl rfl (by omega) (fun c => by omega) (fun _ => ?_)
    refine x_iconst 18 hK rfl rfl ?_
    exact x_iret hK rfl ⟨Or.inl ⟨by omega, rfl, RC_w (by decide), UL_eq (gi_k (by decide) _) fun v _ => RC_w (by decide), mrow_k (by decide)⟩, GD_w1 (hG) (r := 54) rfl (by omega) rfl (by omega) (by omega), FRM_w ((FRM.rf : FRM gRL [(0, 54, 0, 0), (0, 54, 1, 1), (0, 54, 29, 29), (0, 54, 31, 32), (0, 61, 0, 56), (0, 69, 0, 911), (1, 55, 0, 39)] h h)) (r := 54) rfl rfl, gi_same (by omega), by rw [gi_k (by decide)]; exact hu, (aw.w (by decide)).mono (by omega)⟩
end
section
/-! MESSES AND VOYAGES TOLD (the reference), by what the text tells -/
/-- the sign at a place of a text, of which the first ones are seen; -1 at its end -/
noncomputable def txF (t : Nat → Int) (stop a : Int) : Int := if 0 ≤ a ∧ a < stop ∧ a < 80 then t a.toNat else -1
theorem fm_tx (h : aH) : fm h = txF (gi h 180) (gi h 171 19) := rfl
theorem fx_tx (h : aH) : fx h = txF (gi h 2) (gi h 1 3) := rfl
/-- a number of at most n digits, and the place behind it; -1 if there is none -/
noncomputable def nmF (f : Int → Int) (n : Nat) (p : Int) : Int × Int := (if (tkv f n p 0).2 = p then -1 else (tkv f n p 0).1, (tkv f n p 0).2)
/-- what is told at the end: n signs, of which most are seen; can it stand, and up to where -/
noncomputable def fltF (n most : Int) (r : Bool × Int) : Int := if most < n ∧ ((r.1 = true ∧ r.2 = min n most) ∨ most ≤ r.2) then -1 - most else if r.1 = true ∧ r.2 = min n most then 0 else -1 - r.2
noncomputable def rdMess (f : Int → Int) (p : Int) : (Bool × Int) × Int × Int :=
  if (nmF f 2 p).1 < 0 then ((false, (nmF f 2 p).2), 0, 0) else if f (nmF f 2 p).2 ≠ 42 then ((false, (nmF f 2 p).2), 0, 0)
  else if (nmF f 1 ((nmF f 2 p).2 + 1)).1 < 0 then ((false, (nmF f 1 ((nmF f 2 p).2 + 1)).2), 0, 0) else ((true, (nmF f 1 ((nmF f 2 p).2 + 1)).2), (nmF f 2 p).1, (nmF f 1 ((nmF f 2 p).2 + 1)).1)
/-- LINES of MESSES, of which n at most have room -/
noncomputable def rdMs (f : Int → Int) : Nat → Int → (Bool × Int) × List (Int × Int)
  | 0, p => ((false, p), [])
  | n + 1, p => if (rdMess f p).1.1 = true then (if f (rdMess f p).1.2 = 59 then ((rdMs f n ((rdMess f p).1.2 + 1)).1, (rdMess f p).2 :: (rdMs f n ((rdMess f p).1.2 + 1)).2) else ((true, (rdMess f p).1.2), [(rdMess f p).2])) else ((false, (rdMess f p).1.2), [])
theorem fm_F {M : MD} {h h' : aH} (hF : FRM gRL M h h') (h1 : mHas M 0 54 19 = false) (h2 : (M.all fun q => !(Nat.beq q.1 0 && Nat.beq q.2.1 63)) = true) : fm h' = fm h := by
  rw [fm_tx, fm_tx, FRM_gi hF (r := 54) rfl h1, show gi h' 180 = gi h 180 from funext fun k => FRM_gi hF (r := 63) rfl (mHas_non h2 k)]
theorem fm_wI {h : aH} {a k : Nat} {e : Int} (h1 : a ≠ 180) (h2 : a ≠ 171 ∨ k ≠ 19) : fm (wI h a k e) = fm h := by
  rw [fm_tx, fm_tx, show gi (wI h a k e) 180 = gi h 180 from funext fun j => gi_a (fun z => h1 z.symm) j]
  rcases h2 with h2 | h2
  · rw [gi_a (fun z => h2 z.symm)]
  · rw [gi_k (fun z => h2 z.symm)]
set_option maxRecDepth 4000 in
theorem ctX11_readsMessF {SP : CT} (hSP : MONO SP) {sh : List (Nat × Nat)} {h : aH} (hG : GD gE gRL sh h) (hc : gi h 171 7 + gi h 171 22 ≤ 8) (ha : gi h 171 18 ≤ gi h 171 19) : CLd SP 6 mX11_readsMess [.ref 171] h 0 0 (fun rv h' => ((gi h 171 7 + gi h 171 22 = 8 ∧ rv = some (.int (I 0)) ∧ gi h' 171 18 = (gi h 171 18) ∧ gi h' 171 22 = gi h 171 22) ∨ (gi h 171 7 + gi h 171 22 < 8 ∧ (rdMess (fm h) (gi h 171 18)).1.1 = false ∧ rv = some (.int (I 0)) ∧ gi h' 171 18 = (rdMess (fm h) (gi h 171 18)).1.2 ∧ gi h' 171 22 ≤ gi h 171 22 + 1) ∨ (gi h 171 7 + gi h 171 22 < 8 ∧ (rdMess (fm h) (gi h 171 18)).1.1 = true ∧ rv = some (.int (I 1)) ∧ gi h' 171 18 = (rdMess (fm h) (gi h 171 18)).1.2 ∧ gi h' 171 22 = gi h 171 22 + 1 ∧ gi h' 181 (2 * gi h 171 22).toNat = (rdMess (fm h) (gi h 171 18)).2.1 ∧ gi h' 181 (2 * gi h 171 22 + 1).toNat = (rdMess (fm h) (gi h 171 18)).2.2 ∧ (gi h 171 18) < (rdMess (fm h) (gi h 171 18)).1.2 ∧ (0 ≤ (rdMess (fm h) (gi h 171 18)).2.1 ∧ (rdMess (fm h) (gi h 171 18)).2.1 ≤ 99) ∧ (0 ≤ (rdMess (fm h) (gi h 171 18)).2.2 ∧ (rdMess (fm h) (gi h 171 18)).2.2 ≤ 9) ∧ ∀ j, j ≠ (2 * gi h 171 22).toNat → j ≠ (2 * gi h 171 22 + 1).toNat → gi h' 181 j = gi h 181 j)) ∧ (gi h 171 18) ≤ gi h' 171 18 ∧ gi h' 171 18 ≤ gi h 171 19 ∧ GD gE gRL sh h' ∧ FRM gRL [(0, 54, 18, 18), (0, 54, 22, 22), (0, 64, 0, 31)] h h') := by
  refine x_met _ rfl (Nat.le_of_ble_eq_true rfl) (fun K hK => ?_)
  have hmono := MONO_CLd hSP 5
  have g22 := gri 0 16 hG (a := 171) (r := 54) (k := 22) rfl rfl
  have gc := gri 0 8 hG (a := 171) (r := 54) (k := 7) rfl rfl
  refine x_aload_n 1 hK rfl rfl rfl ?_
  have g204 := gri (0) (8) hG (a := 171) (r := 54) (k := 7) rfl rfl
  refine x_getE 4 hK rfl (Or.inl rfl) rfl (sp_171 (h := h) hG) (e := (gi h 171 7)) (rfl) ?_
  refine x_aload_n 5 hK rfl rfl rfl ?_
  have g205 := gri (0) (16) hG (a := 171) (r := 54) (k := 22) rfl rfl
  refine x_getE 8 hK rfl (Or.inl rfl) rfl (sp_171 (h := h) hG) (e := (gi h 171 22)) (rfl) ?_
  refine x_iadd 9 hK rfl rfl ?_
  refine x_bipush 11 hK rfl rfl rfl ?_
  refine x_if_icmp_ne 16 14 hK rfl rfl rfl (by omega) (by omega) (fun c7 => ?_) (fun c7 => ?_)
  · refine x_iconst 17 hK rfl rfl ?_
    refine x_aload_n 18 hK rfl rfl rfl ?_
    refine x_getE 21 hK rfl (Or.inl rfl) rfl (sp_171 (h := h) hG) (e := (gi h 171 22)) (rfl) ?_
    refine x_imul 22 hK rfl rfl ?_
    refine x_istore_n 23 hK rfl rfl [(1, .int (I (2 * (gi h 171 22)))), (0, .ref 171)] rfl ?_
    refine x_aload_n 24 hK rfl rfl rfl ?_
    refine x_getR 27 hK rfl rfl (sp_171 (h := h) hG) (rf_171_21 (h := h) hG) ?_
    refine x_iload_n 28 hK rfl rfl rfl ?_
    refine x_aload_n 29 hK rfl rfl rfl ?_
    refine x_iconst 30 hK rfl rfl ?_
    have g207 := gri (0) (81) hG (a := 171) (r := 54) (k := 18) rfl rfl
    have at206 : gi h 171 18 = (gi h 171 18) := rfl
    have fe206 : fm h = (fm h) := rfl
    have to206 : gi h 171 19 = gi h 171 19 := rfl
    refine x_callV 33 hK hmono rfl rfl [.ref 171, .int (I 2)] [.int (I (2 * (gi h 171 22))), .ref 181] rfl rfl (Nat.le_of_ble_eq_true rfl) (Nat.le_of_ble_eq_true rfl) rfl (sp_171 (h := h) hG) (CLd_le (Nat.le_of_ble_eq_true rfl) (ctX11_number hSP hG (n := 2) (by omega))) ?_
    rw [fe206, at206, to206]
    rintro v206 h206 ⟨⟨e206, rfl, nu206, ne206, nf206, ng206⟩, hG206, hF206, np206, nq206, nr206⟩
    have nm206 : nmF (fm h) 2 (gi h 171 18) = (e206, gi h206 171 18) := by rw [nu206, np206]; rfl
    clear nu206 np206
    generalize eq206 : gi h206 171 18 = p206 at *
    refine x_iastore 34 hK rfl rfl (sp_181 (h := h206) hG206) (by omega) (by omega) (by omega) ?_
    refine x_aload_n 35 hK rfl rfl rfl ?_
    refine x_getR 38 hK rfl rfl (sp_171 (h := h206) hG206) (rf_171_21 (h := h206) hG206) ?_
    refine x_iload_n 39 hK rfl rfl rfl ?_
    refine x_ialoadE 40 hK rfl rfl (sp_181 (h := h206) hG206) (by omega) (by omega) (by omega) (e' := e206) (gi_same (by omega)) ?_
    refine x_if_lt 52 43 hK rfl rfl rfl (by omega) (fun c24 => ?_) (fun c24 => ?_)
    · refine x_iconst 53 hK rfl rfl ?_
      have za : gi (wI h206 181 (2 * (gi h 171 22)).toNat e206) 171 18 = p206 := (gi_a (by decide) _).trans (eq206)
      have zb : gi (wI h206 181 (2 * (gi h 171 22)).toNat e206) 171 22 = (gi h 171 22) := (gi_a (by decide) _).trans (FRM_gi hF206 (r := 54) rfl rfl)
      have er : (rdMess (fm h) (gi h 171 18)) = ((false, p206), 0, 0) := by unfold rdMess; rw [nm206, if_pos (show e206 < 0 by omega)]
      exact x_zret hK rfl (by omega) ⟨Or.inr (Or.inl ⟨by omega, by rw [er], rfl, by rw [er]; exact za, by omega⟩), by omega, by omega, GD_wn (hG206) (r := 64) rfl rfl, FRM_wn 0 31 ((hF206).mono rfl) (r := 64) rfl rfl rfl (by omega) (by omega)⟩
    · refine x_aload_n 44 hK rfl rfl rfl ?_
      refine x_bipush 46 hK rfl rfl rfl ?_
      have hGp209 : GD gE gRL sh (wI h206 181 (2 * (gi h 171 22)).toNat e206) := GD_wn (hG206) (r := 64) rfl rfl
      have at208 : gi (wI h206 181 (2 * (gi h 171 22)).toNat e206) 171 18 = p206 := (gi_a (by decide) _).trans (eq206)
      have fe208 : fm (wI h206 181 (2 * (gi h 171 22)).toNat e206) = (fm h) := (fm_wI (by decide) (Or.inl (by decide))).trans (fm_F hF206 rfl rfl)
      have to208 : gi (wI h206 181 (2 * (gi h 171 22)).toNat e206) 171 19 = gi h 171 19 := (gi_a (by decide) _).trans (FRM_gi hF206 (r := 54) rfl rfl)
      refine x_callV 49 hK hmono rfl rfl [.ref 171, .int (I 42)] [] rfl rfl (Nat.le_of_ble_eq_true rfl) (Nat.le_of_ble_eq_true rfl) rfl (sp_171 (h := h206) hG206) (CLd_le (Nat.le_of_ble_eq_true rfl) (ctX11_takes hSP hGp209 (s := 42) (by omega))) ?_
      rw [fe208, at208, to208]
      rintro v208 h208 ⟨hG208, hF208, ⟨rfl, tk208, tt208, eq208⟩ | ⟨rfl, tk208, eq208⟩⟩
      · refine x_if_ne 54 52 hK rfl rfl rfl (by omega) (fun _ => ?_) (fun c => by omega)
        refine x_aload_n 55 hK rfl rfl rfl ?_
        refine x_getR 58 hK rfl rfl (sp_171 (h := h208) hG208) (rf_171_21 (h := h208) hG208) ?_
        refine x_iload_n 59 hK rfl rfl rfl ?_
        refine x_iconst 60 hK rfl rfl ?_
        refine x_iadd 61 hK rfl rfl ?_
        refine x_aload_n 62 hK rfl rfl rfl ?_
        refine x_iconst 63 hK rfl rfl ?_
        have at210 : gi h208 171 18 = (p206 + 1) := eq208
        have fe210 : fm h208 = (fm h) := (fm_F hF208 rfl rfl).trans ((fm_wI (by decide) (Or.inl (by decide))).trans (fm_F hF206 rfl rfl))
        have to210 : gi h208 171 19 = gi h 171 19 := (FRM_gi hF208 (r := 54) rfl rfl).trans ((gi_a (by decide) _).trans (FRM_gi hF206 (r := 54) rfl rfl))
        refine x_callV 66 hK hmono rfl rfl [.ref 171, .int (I 1)] [.int (I ((2 * (gi h 171 22)) + 1)), .ref 181] rfl rfl (Nat.le_of_ble_eq_true rfl) (Nat.le_of_ble_eq_true rfl) rfl (sp_171 (h := h208) hG208) (CLd_le (Nat.le_of_ble_eq_true rfl) (ctX11_number hSP hG208 (n := 1) (by omega))) ?_
        rw [fe210, at210, to210]
        rintro v210 h210 ⟨⟨e210, rfl, nu210, ne210, nf210, ng210⟩, hG210, hF210, np210, nq210, nr210⟩
        have nm210 : nmF (fm h) 1 (p206 + 1) = (e210, gi h210 171 18) := by rw [nu210, np210]; rfl
        clear nu210 np210
        generalize eq210 : gi h210 171 18 = p210 at *
        refine x_iastore 67 hK rfl rfl (sp_181 (h := h210) hG210) (by omega) (by omega) (by omega) ?_
        refine x_aload_n 68 hK rfl rfl rfl ?_
        refine x_dup 69 hK rfl rfl rfl ?_
        refine x_getE 72 hK rfl (Or.inl rfl) rfl (sp_171 (h := h210) hG210) (e := (gi h 171 22)) ((gi_a (by decide) _).trans ((FRM_gi hF210 (r := 54) rfl rfl).trans ((FRM_gi hF208 (r := 54) rfl rfl).trans ((gi_a (by decide) _).trans (FRM_gi hF206 (r := 54) rfl rfl))))) ?_
        refine x_iconst 73 hK rfl rfl ?_
        refine x_iadd 74 hK rfl rfl ?_
        refine x_putI 77 hK rfl rfl (sp_171 (h := h210) hG210) ?_
        refine x_aload_n 78 hK rfl rfl rfl ?_
        refine x_getR 81 hK rfl rfl (sp_171 (h := h210) hG210) (rf_171_21 (h := h210) hG210) ?_
        refine x_iload_n 82 hK rfl rfl rfl ?_
        refine x_iconst 83 hK rfl rfl ?_
        refine x_iadd 84 hK rfl rfl ?_
        refine x_ialoadE 85 hK rfl rfl (sp_181 (h := h210) hG210) (by omega) (by omega) (by omega) (e' := e210) ((gi_a (by decide) _).trans (gi_same (by omega))) ?_
        refine x_if_lt 92 88 hK rfl rfl rfl (by omega) (fun c52 => ?_) (fun c52 => ?_)
        · refine x_iconst 93 hK rfl rfl ?_
          have za : gi (wI (wI h210 181 ((2 * (gi h 171 22)) + 1).toNat e210) 171 22 ((gi h 171 22) + 1)) 171 18 = p210 := (gi_k (by decide) _).trans ((gi_a (by decide) _).trans (eq210))
          have zb : gi (wI (wI h210 181 ((2 * (gi h 171 22)) + 1).toNat e210) 171 22 ((gi h 171 22) + 1)) 171 22 = ((gi h 171 22) + 1) := gi_same (by omega)
          have er : (rdMess (fm h) (gi h 171 18)) = ((false, p210), 0, 0) := by unfold rdMess; rw [nm206]; show (if e206 < 0 then _ else if fm h p206 ≠ 42 then _ else if (nmF (fm h) 1 (p206 + 1)).1 < 0 then _ else _) = _; rw [if_neg (by omega), if_neg (by omega), nm210, if_pos (show e210 < 0 by omega)]
          exact x_zret hK rfl (by omega) ⟨Or.inr (Or.inl ⟨by omega, by rw [er], rfl, by rw [er]; exact za, by omega⟩), by omega, by omega, GD_w1 (GD_wn (hG210) (r := 64) rfl rfl) (r := 54) rfl (by omega) rfl (by omega) (by omega), FRM_w (FRM_wn 0 31 (((FRM_wn 0 31 ((hF206).mono rfl) (r := 64) rfl rfl rfl (by omega) (by omega)).trans ((hF208).mono rfl)).trans ((hF210).mono rfl)) (r := 64) rfl rfl rfl (by omega) (by omega)) (r := 54) rfl rfl⟩
        · refine x_iconst 89 hK rfl rfl ?_
          refine x_goto 93 hK rfl rfl ?_
          have za : gi (wI (wI h210 181 ((2 * (gi h 171 22)) + 1).toNat e210) 171 22 ((gi h 171 22) + 1)) 171 18 = p210 := (gi_k (by decide) _).trans ((gi_a (by decide) _).trans (eq210))
          have zb : gi (wI (wI h210 181 ((2 * (gi h 171 22)) + 1).toNat e210) 171 22 ((gi h 171 22) + 1)) 171 22 = ((gi h 171 22) + 1) := gi_same (by omega)
          have er : (rdMess (fm h) (gi h 171 18)) = ((true, p210), e206, e210) := by unfold rdMess; rw [nm206]; show (if e206 < 0 then _ else if fm h p206 ≠ 42 then _ else if (nmF (fm h) 1 (p206 + 1)).1 < 0 then _ else _) = _; rw [if_neg (by omega), if_neg (by omega), nm210, if_neg (show ¬ e210 < 0 by omega)]
          have y0 : gi (wI (wI h210 181 ((2 * (gi h 171 22)) + 1).toNat e210) 171 22 ((gi h 171 22) + 1)) 181 (2 * (gi h 171 22)).toNat = e206 := (gi_a (by decide) _).trans ((gi_k (by omega) _).trans ((FRM_gi hF210 (r := 64) rfl rfl).trans ((FRM_gi hF208 (r := 64) rfl rfl).trans (gi_same (by omega)))))
          have y1 : gi (wI (wI h210 181 ((2 * (gi h 171 22)) + 1).toNat e210) 171 22 ((gi h 171 22) + 1)) 181 ((2 * (gi h 171 22)) + 1).toNat = e210 := (gi_a (by decide) _).trans (gi_same (by omega))
          exact x_zret hK rfl (by omega) ⟨Or.inr (Or.inr ⟨by omega, by rw [er], rfl, by rw [er]; exact za, by omega, by rw [er]; exact y0, by rw [er]; exact y1, by rw [er]; show _ < p210; omega, by rw [er]; show 0 ≤ e206 ∧ e206 ≤ 99; omega, by rw [er]; show 0 ≤ e210 ∧ e210 ≤ 9; omega, fun j h5 h6 => (gi_a (by decide) _).trans ((gi_k (by omega) _).trans ((FRM_gi hF210 (r := 64) rfl rfl).trans ((FRM_gi hF208 (r := 64) rfl rfl).trans ((gi_k (by omega) _).trans (FRM_gi hF206 (r := 64) rfl rfl)))))⟩), by omega, by omega, GD_w1 (GD_wn (hG210) (r := 64) rfl rfl) (r := 54) rfl (by omega) rfl (by omega) (by omega), FRM_w (FRM_wn 0 31 (((FRM_wn 0 31 ((hF206).mono rfl) (r := 64) rfl rfl rfl (by omega) (by omega)).trans ((hF208).mono rfl)).trans ((hF210).mono rfl)) (r := 64) rfl rfl rfl (by omega) (by omega)) (r := 54) rfl rfl⟩
      · refine x_if_ne 54 52 hK rfl rfl rfl (by omega) (fun c => by omega) (fun _ => ?_)
        refine x_iconst 53 hK rfl rfl ?_
        have za : gi h208 171 18 = p206 := eq208
        have zb : gi h208 171 22 = (gi h 171 22) := (FRM_gi hF208 (r := 54) rfl rfl).trans ((gi_a (by decide) _).trans (FRM_gi hF206 (r := 54) rfl rfl))
        have er : (rdMess (fm h) (gi h 171 18)) = ((false, p206), 0, 0) := by unfold rdMess; rw [nm206, if_neg (show ¬ e206 < 0 by omega), if_pos (show fm h p206 ≠ 42 by omega)]
        exact x_zret hK rfl (by omega) ⟨Or.inr (Or.inl ⟨by omega, by rw [er], rfl, by rw [er]; exact za, by omega⟩), by omega, by omega, hG208, (FRM_wn 0 31 ((hF206).mono rfl) (r := 64) rfl rfl rfl (by omega) (by omega)).trans ((hF208).mono rfl)⟩
  · refine x_iconst 15 hK rfl rfl ?_
    exact x_zret hK rfl (by omega) ⟨Or.inl ⟨by omega, rfl, rfl, rfl⟩, Int.le_refl _, ha, hG, (FRM.rf : FRM gRL [(0, 54, 18, 18), (0, 54, 22, 22), (0, 64, 0, 31)] h h)⟩
end
section
/-! MESSES TOLD (the reference): the whole call -/
theorem nmF_b {f : Int → Int} {n : Nat} {p : Int} (hn : n = 1 ∨ n = 2 ∨ n = 3) : -1 ≤ (nmF f n p).1 ∧ (n = 1 → (nmF f n p).1 ≤ 9) ∧ (n = 2 → (nmF f n p).1 ≤ 99) ∧ (nmF f n p).1 ≤ 999 := by
  unfold nmF
  rcases hn with rfl | rfl | rfl <;> simp only [tkv] <;> (repeat' split) <;> simp_all <;> omega
theorem rdMess_b {f : Int → Int} {p : Int} : (0 ≤ (rdMess f p).2.1 ∧ (rdMess f p).2.1 ≤ 99) ∧ 0 ≤ (rdMess f p).2.2 ∧ (rdMess f p).2.2 ≤ 9 := by
  have h1 := nmF_b (f := f) (p := p) (n := 2) (by omega)
  have h2 := nmF_b (f := f) (p := (nmF f 2 p).2 + 1) (n := 1) (by omega)
  unfold rdMess
  split
  · exact ⟨⟨Int.le_refl _, by show (0 : Int) ≤ 99; omega⟩, Int.le_refl _, by show (0 : Int) ≤ 9; omega⟩
  · split
    · exact ⟨⟨Int.le_refl _, by show (0 : Int) ≤ 99; omega⟩, Int.le_refl _, by show (0 : Int) ≤ 9; omega⟩
    · split
      · exact ⟨⟨Int.le_refl _, by show (0 : Int) ≤ 99; omega⟩, Int.le_refl _, by show (0 : Int) ≤ 9; omega⟩
      · have := h1.2.2.1 rfl
        have := h2.2.1 rfl
        show (0 ≤ (nmF f 2 p).1 ∧ (nmF f 2 p).1 ≤ 99) ∧ 0 ≤ (nmF f 1 ((nmF f 2 p).2 + 1)).1 ∧ (nmF f 1 ((nmF f 2 p).2 + 1)).1 ≤ 9
        exact ⟨⟨by omega, by omega⟩, by omega, by omega⟩
theorem rdMs_b {f : Int → Int} : ∀ (n : Nat) (p : Int), (rdMs f n p).2.length ≤ n ∧ ∀ q ∈ (rdMs f n p).2, (0 ≤ q.1 ∧ q.1 ≤ 99) ∧ 0 ≤ q.2 ∧ q.2 ≤ 9
  | 0, p => ⟨Nat.le_refl _, fun q hq => absurd hq List.not_mem_nil⟩
  | n + 1, p => by
    unfold rdMs
    split
    · split
      · obtain ⟨a, b⟩ := rdMs_b n ((rdMess f p).1.2 + 1)
        refine ⟨by simp; omega, fun q hq => ?_⟩
        rcases List.mem_cons.mp hq with rfl | hq
        · exact rdMess_b
        · exact b q hq
      · refine ⟨by simp, fun q hq => ?_⟩
        rw [List.mem_singleton.mp hq]
        exact rdMess_b
    · exact ⟨by simp, fun q hq => absurd hq List.not_mem_nil⟩
noncomputable def msR (f : Int → Int) (sz ms : Int) : (Bool × Int) × List (Int × Int) := if sz = 0 then ((true, 0), []) else rdMs f (8 - ms).toNat 0
theorem msR_b {f : Int → Int} {sz ms : Int} : (msR f sz ms).2.length ≤ (8 - ms).toNat ∧ ∀ q ∈ (msR f sz ms).2, (0 ≤ q.1 ∧ q.1 ≤ 99) ∧ 0 ≤ q.2 ∧ q.2 ≤ 9 := by
  unfold msR
  split
  · exact ⟨Nat.zero_le _, fun q hq => absurd hq List.not_mem_nil⟩
  · exact rdMs_b _ _
/-- what was read, by twos -/
noncomputable def rdL (h : aH) (n : Nat) : List (Int × Int) := (List.range n).map fun j => (gi h 181 (2 * j), gi h 181 (2 * j + 1))
theorem rdL_s (h : aH) (n : Nat) : rdL h (n + 1) = rdL h n ++ [(gi h 181 (2 * n), gi h 181 (2 * n + 1))] := by unfold rdL; rw [List.range_succ, List.map_append]; rfl
theorem rdL_congr {h h' : aH} {n : Nat} (e : ∀ j, j < 2 * n → gi h' 181 j = gi h 181 j) : rdL h' n = rdL h n := by
  unfold rdL
  refine List.map_congr_left fun j hj => ?_
  have := List.mem_range.mp hj
  rw [e _ (by omega), e (2 * j + 1) (by omega)]
theorem rdL_get {h : aH} {n : Nat} {L : List (Int × Int)} (e : rdL h n = L) {j : Nat} (hj : j < n) : gi h 181 (2 * j) = (L.getD j (0, 0)).1 ∧ gi h 181 (2 * j + 1) = (L.getD j (0, 0)).2 := by
  subst e
  unfold rdL
  rw [List.getD_eq_getElem?_getD, List.getElem?_map, List.getElem?_range hj]
  exact ⟨rfl, rfl⟩
theorem rdL_l {h : aH} {n : Nat} {L : List (Int × Int)} (e : rdL h n = L) : L.length = n := by rw [← e]; unfold rdL; rw [List.length_map, List.length_range]
theorem getD_all {L : List (Int × Int)} {P : Int × Int → Prop} (h : ∀ q ∈ L, P q) {j : Nat} (hj : j < L.length) : P (L.getD j (0, 0)) := by
  rw [List.getD_eq_getElem?_getD, List.getElem?_eq_getElem hj]
  exact h _ (List.getElem_mem hj)
/-- the state when new MESSES stand behind the others -/
noncomputable def msW (ms : Int) (L : List (Int × Int)) (w : WS) : WS := (w.1, w.2.1, w.2.2.1, w.2.2.2.1, w.2.2.2.2.1, (fun j => if ms ≤ (j : Int) ∧ (j : Int) < ms + (L.length : Nat) then (L.getD (j - ms.toNat) (0, 0)).1 else w.2.2.2.2.2.1 j), fun j => if ms ≤ (j : Int) ∧ (j : Int) < ms + (L.length : Nat) then 0 else w.2.2.2.2.2.2 j)
theorem fltF_le {n most : Int} {r : Bool × Int} (hm : 0 ≤ most) (h0 : 0 ≤ r.2) : fltF n most r ≤ 0 := by unfold fltF; split; omega; split <;> omega
theorem fltF_0 {n most : Int} {r : Bool × Int} (hm : 0 ≤ most) (h0 : 0 ≤ r.2) (e : fltF n most r = 0) : r.1 = true ∧ r.2 = min n most := by
  unfold fltF at e
  split at e
  · omega
  · split at e
    · assumption
    · omega
theorem flt_i {n m : Int} {r : Bool × Int} : (if m < n ∧ ((b2i r.1 = 1 ∧ r.2 = min n m) ∨ m ≤ r.2) then -1 - m else if b2i r.1 = 1 ∧ r.2 = min n m then 0 else -1 - r.2) = fltF n m r := by
  unfold fltF
  have e : b2i r.1 = 1 ↔ r.1 = true := by cases r.1 <;> simp [b2i]
  simp only [e]
theorem if_c {α : Type} {p q : Prop} {dp : Decidable p} {dq : Decidable q} {a b : α} (h : p ↔ q) : (if p then a else b) = if q then a else b := by
  by_cases c : p
  · rw [if_pos c, if_pos (h.mp c)]
  · rw [if_neg c, if_neg (fun z => c (h.mpr z))]
set_option maxRecDepth 4000 in
theorem ctX11_messesF {SP : CT} (hSP : MONO SP) {sh : List (Nat × Nat)} {h : aH} (hG : GD gE gRL sh h) {b : Int} (hu : 0 ≤ gi h 171 29 ∧ gi h 171 29 ≤ 15) (aw : AW b h) : CLd SP 7 mX11_messes [.ref 171] h 0 0 (fun rv h' => (((fltF (gi h 171 17) 39 (msR (txF (gi h 180) (min (gi h 171 17) 39)) (gi h 171 17) (gi h 171 7)).1) < 0 ∧ rv = some (.int (I (fltF (gi h 171 17) 39 (msR (txF (gi h 180) (min (gi h 171 17) 39)) (gi h 171 17) (gi h 171 7)).1))) ∧ RC h' 178 0 = RC h 178 0 ∧ gi h' 171 7 = gi h 171 7 ∧ (∀ j, gi h' 177 j = gi h 177 j) ∧ gi h' 171 29 = gi h 171 29 ∧ gi h' 171 8 = gi h 171 8) ∨ ((fltF (gi h 171 17) 39 (msR (txF (gi h 180) (min (gi h 171 17) 39)) (gi h 171 17) (gi h 171 7)).1) = 0 ∧ rv = some (.int (I (((msR (txF (gi h 180) (min (gi h 171 17) 39)) (gi h 171 17) (gi h 171 7)).2).length : Nat))) ∧ vw (RC h' 178 0) = msW (gi h 171 7) (msR (txF (gi h 180) (min (gi h 171 17) 39)) (gi h 171 17) (gi h 171 7)).2 (vw (RC h 178 0)) ∧ gi h' 171 7 = gi h 171 7 + (((msR (txF (gi h 180) (min (gi h 171 17) 39)) (gi h 171 17) (gi h 171 7)).2).length : Nat) ∧ (∀ j : Nat, j < 8 → gi h' 177 j = if gi h 171 7 ≤ (j : Int) ∧ (j : Int) < gi h 171 7 + (((msR (txF (gi h 180) (min (gi h 171 17) 39)) (gi h 171 17) (gi h 171 7)).2).length : Nat) then (((msR (txF (gi h 180) (min (gi h 171 17) 39)) (gi h 171 17) (gi h 171 7)).2).getD (j - (gi h 171 7).toNat) (0, 0)).2 else gi h 177 j) ∧ (((msR (txF (gi h 180) (min (gi h 171 17) 39)) (gi h 171 17) (gi h 171 7)).2).length = 0 → gi h' 171 29 = gi h 171 29 ∧ gi h' 171 8 = gi h 171 8) ∧ (0 < ((msR (txF (gi h 180) (min (gi h 171 17) 39)) (gi h 171 17) (gi h 171 7)).2).length → gi h' 171 29 = 0 ∧ gi h' 171 8 = w32 (gi h 171 8 + 1)))) ∧ GD gE gRL sh h' ∧ FRM gRL [(0, 54, 0, 0), (0, 54, 7, 8), (0, 54, 17, 20), (0, 54, 22, 22), (0, 54, 29, 29), (0, 60, 0, 7), (0, 61, 41, 56), (0, 64, 0, 31)] h h' ∧ gi h' 171 0 = 0 ∧ gi h' 171 17 = 0 ∧ (0 ≤ gi h' 171 29 ∧ gi h' 171 29 ≤ 15) ∧ AW b h') := by
  refine x_met _ rfl (Nat.le_of_ble_eq_true rfl) (fun K hK => ?_)
  have hmono := MONO_CLd hSP 6
  have gc := gri 0 8 hG (a := 171) (r := 54) (k := 7) rfl rfl
  have gsz := gri 0 80 hG (a := 171) (r := 54) (k := 17) rfl rfl
  obtain ⟨T, hT⟩ : ∃ T, (txF (gi h 180) (min (gi h 171 17) 39)) = T := ⟨_, rfl⟩
  obtain ⟨RR, hRR⟩ : ∃ RR, msR T (gi h 171 17) (gi h 171 7) = RR := ⟨_, rfl⟩
  have rb := msR_b (f := T) (sz := gi h 171 17) (ms := gi h 171 7)
  rw [hRR] at rb
  rw [hT, hRR] at hK
  obtain ⟨w0, w1, w2, w3, w4, w5⟩ := aw.1
  rw [RC_0 (by omega)] at w0 w1 w2 w3 w4
  have w6 : ∀ m, m < 8 → (0 ≤ gi h 178 (41 + m) ∧ gi h 178 (41 + m) ≤ 99) ∧ 0 ≤ gi h 178 (49 + m) ∧ gi h 178 (49 + m) ≤ b := fun m hm => by have := w5 m hm; rw [RC_0 (by omega), RC_0 (by omega)] at this; exact this
  have loop2 : ∀ (mz : Nat) (k : Int) (h5 : aH) (ls : List (Nat × Value)), (((RR.2.length : Int) - k).toNat = mz) → (0 ≤ k ∧ k ≤ (RR.2.length : Nat)) → (fltF (gi h 171 17) 39 RR.1 = 0) → (gi h5 171 0 = 0) → (gi h5 171 17 = 0) → (gi h5 171 22 = (RR.2.length : Nat)) → (gi h5 171 7 = gi h 171 7 + k) → (gi h5 171 29 = gi h 171 29) → (gi h5 171 8 = gi h 171 8) → (∀ j : Nat, j < RR.2.length → gi h5 181 (2 * j) = (RR.2.getD j (0, 0)).1 ∧ gi h5 181 (2 * j + 1) = (RR.2.getD j (0, 0)).2) → (∀ j : Nat, j < 8 → (gi h5 178 (41 + j) = if gi h 171 7 ≤ (j : Int) ∧ (j : Int) < gi h 171 7 + k then (RR.2.getD (j - (gi h 171 7).toNat) (0, 0)).1 else gi h 178 (41 + j)) ∧ (gi h5 178 (49 + j) = if gi h 171 7 ≤ (j : Int) ∧ (j : Int) < gi h 171 7 + k then 0 else gi h 178 (49 + j)) ∧ gi h5 177 j = if gi h 171 7 ≤ (j : Int) ∧ (j : Int) < gi h 171 7 + k then (RR.2.getD (j - (gi h 171 7).toNat) (0, 0)).2 else gi h 177 j) → (∀ j : Nat, j < 41 → gi h5 178 j = gi h 178 j) → lk ls 0 = some (.ref 171) → lk ls 5 = some (.int (I k)) → GD gE gRL sh h5 → FRM gRL [(0, 54, 0, 0), (0, 54, 7, 8), (0, 54, 17, 20), (0, 54, 22, 22), (0, 54, 29, 29), (0, 60, 0, 7), (0, 61, 41, 56), (0, 64, 0, 31)] h h5 → K 81 ls [] h5 0 0 := by
    intro mz
    induction mz using Nat.strongRecOn with
    | ind mz ih =>
    intro k h5 ls hm k0 f0 t5 z5 r5 m5 u5 c5 rl fl lo l0 l5 hG5 hF5
    have rlk := fun z : k < (RR.2.length : Nat) => rl k.toNat (by omega)
    have rbk := fun z : k < (RR.2.length : Nat) => getD_all rb.2 (j := k.toNat) (by omega)
    refine x_iload 83 hK rfl rfl l5 ?_
    refine x_aload_n 84 hK rfl rfl l0 ?_
    refine x_getE 87 hK rfl (Or.inl rfl) rfl (sp_171 (h := h5) hG5) (e := ((RR.2.length : Nat) : Int)) (r5) ?_
    refine x_if_icmp_ge 160 90 hK rfl rfl rfl (by omega) (by omega) (fun c4 => ?_) (fun c4 => ?_)
    · refine x_aload_n 161 hK rfl rfl l0 ?_
      refine x_getE 164 hK rfl (Or.inl rfl) rfl (sp_171 (h := h5) hG5) (e := ((RR.2.length : Nat) : Int)) (r5) ?_
      refine x_if_le 182 167 hK rfl rfl rfl (by omega) (fun c7 => ?_) (fun c7 => ?_)
      · refine x_aload_n 183 hK rfl rfl l0 ?_
        refine x_getE 186 hK rfl (Or.inl rfl) rfl (sp_171 (h := h5) hG5) (e := ((RR.2.length : Nat) : Int)) (r5) ?_
        obtain rfl : k = (RR.2.length : Nat) := by omega
        have n3 : gi h5 178 3 = gi h 178 3 := lo 3 (by omega)
        have ew : wl (RC h5 178 0) = wl (RC h 178 0) := by rw [wl_RC (by rw [n3]; omega), wl_RC (by omega), n3]; exact wlK_congr fun j z1 z2 => lo j (by omega)
        have ev : vw (RC h5 178 0) = msW (gi h 171 7) RR.2 (vw (RC h 178 0)) := by
          refine WS_ext ?_ ?_ ?_ ?_ ew (fun j => ?_) (fun j => ?_)
          · show RC h5 178 0 0 = RC h 178 0 0; rw [RC_0 (by omega), RC_0 (by omega)]; exact lo 0 (by omega)
          · show RC h5 178 0 1 = RC h 178 0 1; rw [RC_0 (by omega), RC_0 (by omega)]; exact lo 1 (by omega)
          · show RC h5 178 0 2 = RC h 178 0 2; rw [RC_0 (by omega), RC_0 (by omega)]; exact lo 2 (by omega)
          · show RC h5 178 0 4 = RC h 178 0 4; rw [RC_0 (by omega), RC_0 (by omega)]; exact lo 4 (by omega)
          · show (if j < 8 then RC h5 178 0 (41 + j) else 0) = if gi h 171 7 ≤ (j : Int) ∧ (j : Int) < gi h 171 7 + (RR.2.length : Nat) then (RR.2.getD (j - (gi h 171 7).toNat) (0, 0)).1 else (if j < 8 then RC h 178 0 (41 + j) else 0)
            by_cases c : j < 8
            · rw [if_pos c, if_pos c, RC_0 (by omega), RC_0 (by omega)]; exact (fl j c).1
            · rw [if_neg c, if_neg c, if_neg (by omega)]
          · show (if j < 8 then RC h5 178 0 (49 + j) else 0) = if gi h 171 7 ≤ (j : Int) ∧ (j : Int) < gi h 171 7 + (RR.2.length : Nat) then 0 else (if j < 8 then RC h 178 0 (49 + j) else 0)
            by_cases c : j < 8
            · rw [if_pos c, if_pos c, RC_0 (by omega), RC_0 (by omega)]; exact (fl j c).2.1
            · rw [if_neg c, if_neg c, if_neg (by omega)]
        have ewb : WB b (RC h5 178 0) := by
          refine ⟨?_, ?_, ?_, ?_, ?_, fun j hj => ?_⟩
          · rw [RC_0 (by omega), lo 0 (by omega)]; exact w0
          · rw [RC_0 (by omega), lo 1 (by omega)]; exact w1
          · rw [RC_0 (by omega), lo 2 (by omega)]; exact w2
          · rw [RC_0 (by omega), lo 3 (by omega)]; exact w3
          · rw [RC_0 (by omega), lo 4 (by omega)]; exact w4
          · rw [RC_0 (by omega), RC_0 (by omega), (fl j hj).1, (fl j hj).2.1]
            have z := w6 j hj
            have z2 := fun q : gi h 171 7 ≤ (j : Int) ∧ (j : Int) < gi h 171 7 + (RR.2.length : Nat) => getD_all rb.2 (j := j - (gi h 171 7).toNat) (by omega)
            (repeat' split) <;> omega
        have x1 : RC h5 178 0 = RC h5 178 0 := rfl
        have x2 : ∀ j, gi h5 177 j = gi h5 177 j := fun j => rfl
        have x3 : AW b h5 := by
          refine ⟨by rw [x1]; exact ewb, fun v hv => ?_, fun v hv => ?_⟩
          · rw [RC_F hF5 (r := 69) rfl rfl]; exact aw.2.1 v hv
          · rw [RC_F hF5 (r := 83) rfl rfl]; exact aw.2.2 v hv
        exact x_iret hK rfl ⟨Or.inr ⟨f0, rfl, by rw [x1]; exact ev, (m5), fun j hj => (x2 j).trans (fl j hj).2.2, fun _ => ⟨u5, c5⟩, fun z => by omega⟩, hG5, hF5, t5, z5, by rw [u5]; exact hu, x3⟩
      · refine x_aload_n 168 hK rfl rfl l0 ?_
        refine x_iconst 169 hK rfl rfl ?_
        refine x_putI 172 hK rfl rfl (sp_171 (h := h5) hG5) ?_
        refine x_aload_n 173 hK rfl rfl l0 ?_
        refine x_dup 174 hK rfl rfl rfl ?_
        have g211 := gi_r h 171 8
        refine x_getE 177 hK rfl (Or.inl rfl) rfl (sp_171 (h := h5) hG5) (e := (gi h 171 8)) ((gi_k (by decide) _).trans (c5)) ?_
        refine x_iconst 178 hK rfl rfl ?_
        refine x_iadd 179 hK rfl rfl ?_
        refine x_putI 182 hK rfl rfl (sp_171 (h := h5) hG5) ?_
        refine x_aload_n 183 hK rfl rfl l0 ?_
        refine x_getE 186 hK rfl (Or.inl rfl) rfl (sp_171 (h := h5) hG5) (e := ((RR.2.length : Nat) : Int)) ((gi_k (by decide) _).trans ((gi_k (by decide) _).trans (r5))) ?_
        obtain rfl : k = (RR.2.length : Nat) := by omega
        have n3 : gi h5 178 3 = gi h 178 3 := lo 3 (by omega)
        have ew : wl (RC h5 178 0) = wl (RC h 178 0) := by rw [wl_RC (by rw [n3]; omega), wl_RC (by omega), n3]; exact wlK_congr fun j z1 z2 => lo j (by omega)
        have ev : vw (RC h5 178 0) = msW (gi h 171 7) RR.2 (vw (RC h 178 0)) := by
          refine WS_ext ?_ ?_ ?_ ?_ ew (fun j => ?_) (fun j => ?_)
          · show RC h5 178 0 0 = RC h 178 0 0; rw [RC_0 (by omega), RC_0 (by omega)]; exact lo 0 (by omega)
          · show RC h5 178 0 1 = RC h 178 0 1; rw [RC_0 (by omega), RC_0 (by omega)]; exact lo 1 (by omega)
          · show RC h5 178 0 2 = RC h 178 0 2; rw [RC_0 (by omega), RC_0 (by omega)]; exact lo 2 (by omega)
          · show RC h5 178 0 4 = RC h 178 0 4; rw [RC_0 (by omega), RC_0 (by omega)]; exact lo 4 (by omega)
          · show (if j < 8 then RC h5 178 0 (41 + j) else 0) = if gi h 171 7 ≤ (j : Int) ∧ (j : Int) < gi h 171 7 + (RR.2.length : Nat) then (RR.2.getD (j - (gi h 171 7).toNat) (0, 0)).1 else (if j < 8 then RC h 178 0 (41 + j) else 0)
            by_cases c : j < 8
            · rw [if_pos c, if_pos c, RC_0 (by omega), RC_0 (by omega)]; exact (fl j c).1
            · rw [if_neg c, if_neg c, if_neg (by omega)]
          · show (if j < 8 then RC h5 178 0 (49 + j) else 0) = if gi h 171 7 ≤ (j : Int) ∧ (j : Int) < gi h 171 7 + (RR.2.length : Nat) then 0 else (if j < 8 then RC h 178 0 (49 + j) else 0)
            by_cases c : j < 8
            · rw [if_pos c, if_pos c, RC_0 (by omega), RC_0 (by omega)]; exact (fl j c).2.1
            · rw [if_neg c, if_neg c, if_neg (by omega)]
        have ewb : WB b (RC h5 178 0) := by
          refine ⟨?_, ?_, ?_, ?_, ?_, fun j hj => ?_⟩
          · rw [RC_0 (by omega), lo 0 (by omega)]; exact w0
          · rw [RC_0 (by omega), lo 1 (by omega)]; exact w1
          · rw [RC_0 (by omega), lo 2 (by omega)]; exact w2
          · rw [RC_0 (by omega), lo 3 (by omega)]; exact w3
          · rw [RC_0 (by omega), lo 4 (by omega)]; exact w4
          · rw [RC_0 (by omega), RC_0 (by omega), (fl j hj).1, (fl j hj).2.1]
            have z := w6 j hj
            have z2 := fun q : gi h 171 7 ≤ (j : Int) ∧ (j : Int) < gi h 171 7 + (RR.2.length : Nat) => getD_all rb.2 (j := j - (gi h 171 7).toNat) (by omega)
            (repeat' split) <;> omega
        have x1 : RC (wI (wI h5 171 29 0) 171 8 ((gi h 171 8) + 1)) 178 0 = RC h5 178 0 := (RC_w (by decide)).trans (RC_w (by decide))
        have x2 : ∀ j, gi (wI (wI h5 171 29 0) 171 8 ((gi h 171 8) + 1)) 177 j = gi h5 177 j := fun j => (gi_a (by decide) _).trans (gi_a (by decide) _)
        have x3 : AW b (wI (wI h5 171 29 0) 171 8 ((gi h 171 8) + 1)) := by
          refine ⟨by rw [x1]; exact ewb, fun v hv => ?_, fun v hv => ?_⟩
          · rw [show RC (wI (wI h5 171 29 0) 171 8 ((gi h 171 8) + 1)) 186 (57 * v) = RC h 186 (57 * v) from ((RC_w (by decide)).trans (RC_w (by decide))).trans (RC_F hF5 (r := 69) rfl rfl _)]; exact aw.2.1 v hv
          · rw [show RC (wI (wI h5 171 29 0) 171 8 ((gi h 171 8) + 1)) 200 (57 * v) = RC h 200 (57 * v) from ((RC_w (by decide)).trans (RC_w (by decide))).trans (RC_F hF5 (r := 83) rfl rfl _)]; exact aw.2.2 v hv
        have y8 : gi (wI (wI h5 171 29 0) 171 8 ((gi h 171 8) + 1)) 171 8 = w32 (gi h 171 8 + 1) := gi_w
        have y29 : gi (wI (wI h5 171 29 0) 171 8 ((gi h 171 8) + 1)) 171 29 = 0 := (gi_k (by decide) _).trans (gi_same (by omega))
        exact x_iret hK rfl ⟨Or.inr ⟨f0, rfl, by rw [x1]; exact ev, ((gi_k (by decide) _).trans ((gi_k (by decide) _).trans (m5))), fun j hj => (x2 j).trans (fl j hj).2.2, fun z => by omega, fun _ => ⟨y29, y8⟩⟩, GD_w0 (GD_w1 (hG5) (r := 54) rfl (by omega) rfl (by omega) (by omega)) (r := 54) rfl rfl, FRM_w (FRM_w (hF5) (r := 54) rfl rfl) (r := 54) rfl rfl, (gi_k (by decide) _).trans ((gi_k (by decide) _).trans (t5)), (gi_k (by decide) _).trans ((gi_k (by decide) _).trans (z5)), by rw [y29]; omega, x3⟩
    · refine x_aload_n 91 hK rfl rfl l0 ?_
      refine x_getR 94 hK rfl rfl (sp_171 (h := h5) hG5) (rf_171_14 (h := h5) hG5) ?_
      refine x_bipush 96 hK rfl rfl rfl ?_
      refine x_aload_n 97 hK rfl rfl l0 ?_
      refine x_getE 100 hK rfl (Or.inl rfl) rfl (sp_171 (h := h5) hG5) (e := (gi h 171 7 + k)) (m5) ?_
      refine x_iadd 101 hK rfl rfl ?_
      refine x_aload_n 102 hK rfl rfl l0 ?_
      refine x_getR 105 hK rfl rfl (sp_171 (h := h5) hG5) (rf_171_21 (h := h5) hG5) ?_
      refine x_iconst 106 hK rfl rfl ?_
      refine x_iload 108 hK rfl rfl l5 ?_
      refine x_imul 109 hK rfl rfl ?_
      refine x_ialoadE 110 hK rfl rfl (sp_181 (h := h5) hG5) (by omega) (by omega) (by omega) (e' := (RR.2.getD k.toNat (0, 0)).1) (((gi_to (by omega)).trans (rlk (by omega)).1)) ?_
      refine x_iastore 111 hK rfl rfl (sp_178 (h := h5) hG5) (by omega) (by omega) (by omega) ?_
      refine x_aload_n 112 hK rfl rfl l0 ?_
      refine x_getR 115 hK rfl rfl (sp_171 (h := h5) hG5) (rf_171_14 (h := h5) hG5) ?_
      refine x_bipush 117 hK rfl rfl rfl ?_
      refine x_aload_n 118 hK rfl rfl l0 ?_
      refine x_getE 121 hK rfl (Or.inl rfl) rfl (sp_171 (h := h5) hG5) (e := (gi h 171 7 + k)) ((gi_a (by decide) _).trans (m5)) ?_
      refine x_iadd 122 hK rfl rfl ?_
      refine x_iconst 123 hK rfl rfl ?_
      refine x_iastore 124 hK rfl rfl (sp_178 (h := h5) hG5) (by omega) (by omega) (by omega) ?_
      refine x_aload_n 125 hK rfl rfl l0 ?_
      refine x_getR 128 hK rfl rfl (sp_171 (h := h5) hG5) (rf_171_13 (h := h5) hG5) ?_
      refine x_aload_n 129 hK rfl rfl l0 ?_
      refine x_getE 132 hK rfl (Or.inl rfl) rfl (sp_171 (h := h5) hG5) (e := (gi h 171 7 + k)) ((gi_a (by decide) _).trans ((gi_a (by decide) _).trans (m5))) ?_
      refine x_aload_n 133 hK rfl rfl l0 ?_
      refine x_getR 136 hK rfl rfl (sp_171 (h := h5) hG5) (rf_171_21 (h := h5) hG5) ?_
      refine x_iconst 137 hK rfl rfl ?_
      refine x_iload 139 hK rfl rfl l5 ?_
      refine x_imul 140 hK rfl rfl ?_
      refine x_iconst 141 hK rfl rfl ?_
      refine x_iadd 142 hK rfl rfl ?_
      refine x_ialoadE 143 hK rfl rfl (sp_181 (h := h5) hG5) (by omega) (by omega) (by omega) (e' := (RR.2.getD k.toNat (0, 0)).2) ((gi_a (by decide) _).trans ((gi_a (by decide) _).trans (((gi_to (by omega)).trans (rlk (by omega)).2)))) ?_
      refine x_iastore 144 hK rfl rfl (sp_177 (h := h5) hG5) (by omega) (by omega) (by omega) ?_
      refine x_aload_n 145 hK rfl rfl l0 ?_
      refine x_dup 146 hK rfl rfl rfl ?_
      refine x_getE 149 hK rfl (Or.inl rfl) rfl (sp_171 (h := h5) hG5) (e := (gi h 171 7 + k)) ((gi_a (by decide) _).trans ((gi_a (by decide) _).trans ((gi_a (by decide) _).trans (m5)))) ?_
      refine x_iconst 150 hK rfl rfl ?_
      refine x_iadd 151 hK rfl rfl ?_
      refine x_putI 154 hK rfl rfl (sp_171 (h := h5) hG5) ?_
      refine x_iinc 157 hK rfl rfl l5 _ rfl ?_
      refine x_goto 81 hK rfl rfl ?_
      have rbq := rbk (by omega)
      have y1 : gi (wI (wI (wI (wI h5 178 (41 + (gi h 171 7 + k)).toNat ((RR.2.getD k.toNat (0, 0)).1)) 178 (49 + (gi h 171 7 + k)).toNat 0) 177 (gi h 171 7 + k).toNat ((RR.2.getD k.toNat (0, 0)).2)) 171 7 ((gi h 171 7 + k) + 1)) 178 (41 + (gi h 171 7 + k)).toNat = ((RR.2.getD k.toNat (0, 0)).1) := (gi_a (by decide) _).trans ((gi_a (by decide) _).trans ((gi_k (by omega) _).trans (gi_same (by omega))))
      have y2 : gi (wI (wI (wI (wI h5 178 (41 + (gi h 171 7 + k)).toNat ((RR.2.getD k.toNat (0, 0)).1)) 178 (49 + (gi h 171 7 + k)).toNat 0) 177 (gi h 171 7 + k).toNat ((RR.2.getD k.toNat (0, 0)).2)) 171 7 ((gi h 171 7 + k) + 1)) 178 (49 + (gi h 171 7 + k)).toNat = 0 := (gi_a (by decide) _).trans ((gi_a (by decide) _).trans (gi_same (by omega)))
      have y3 : gi (wI (wI (wI (wI h5 178 (41 + (gi h 171 7 + k)).toNat ((RR.2.getD k.toNat (0, 0)).1)) 178 (49 + (gi h 171 7 + k)).toNat 0) 177 (gi h 171 7 + k).toNat ((RR.2.getD k.toNat (0, 0)).2)) 171 7 ((gi h 171 7 + k) + 1)) 177 (gi h 171 7 + k).toNat = ((RR.2.getD k.toNat (0, 0)).2) := (gi_a (by decide) _).trans (gi_same (by omega))
      have fn : ∀ j : Nat, j < 8 → (gi (wI (wI (wI (wI h5 178 (41 + (gi h 171 7 + k)).toNat ((RR.2.getD k.toNat (0, 0)).1)) 178 (49 + (gi h 171 7 + k)).toNat 0) 177 (gi h 171 7 + k).toNat ((RR.2.getD k.toNat (0, 0)).2)) 171 7 ((gi h 171 7 + k) + 1)) 178 (41 + j) = if gi h 171 7 ≤ (j : Int) ∧ (j : Int) < gi h 171 7 + (k + 1) then (RR.2.getD (j - (gi h 171 7).toNat) (0, 0)).1 else gi h 178 (41 + j)) ∧ (gi (wI (wI (wI (wI h5 178 (41 + (gi h 171 7 + k)).toNat ((RR.2.getD k.toNat (0, 0)).1)) 178 (49 + (gi h 171 7 + k)).toNat 0) 177 (gi h 171 7 + k).toNat ((RR.2.getD k.toNat (0, 0)).2)) 171 7 ((gi h 171 7 + k) + 1)) 178 (49 + j) = if gi h 171 7 ≤ (j : Int) ∧ (j : Int) < gi h 171 7 + (k + 1) then 0 else gi h 178 (49 + j)) ∧ gi (wI (wI (wI (wI h5 178 (41 + (gi h 171 7 + k)).toNat ((RR.2.getD k.toNat (0, 0)).1)) 178 (49 + (gi h 171 7 + k)).toNat 0) 177 (gi h 171 7 + k).toNat ((RR.2.getD k.toNat (0, 0)).2)) 171 7 ((gi h 171 7 + k) + 1)) 177 j = if gi h 171 7 ≤ (j : Int) ∧ (j : Int) < gi h 171 7 + (k + 1) then (RR.2.getD (j - (gi h 171 7).toNat) (0, 0)).2 else gi h 177 j := by
        intro j hj
        by_cases c : (j : Int) = (gi h 171 7 + k)
        · rw [if_pos (by omega), if_pos (by omega), if_pos (by omega), show j - (gi h 171 7).toNat = k.toNat by omega, (gi_to (show 41 + j = (41 + (gi h 171 7 + k)).toNat by omega)).trans y1, (gi_to (show 49 + j = (49 + (gi h 171 7 + k)).toNat by omega)).trans y2, (gi_to (show j = (gi h 171 7 + k).toNat by omega)).trans y3]
          exact ⟨rfl, rfl, rfl⟩
        · have z := fl j hj
          rw [show gi (wI (wI (wI (wI h5 178 (41 + (gi h 171 7 + k)).toNat ((RR.2.getD k.toNat (0, 0)).1)) 178 (49 + (gi h 171 7 + k)).toNat 0) 177 (gi h 171 7 + k).toNat ((RR.2.getD k.toNat (0, 0)).2)) 171 7 ((gi h 171 7 + k) + 1)) 178 (41 + j) = gi h5 178 (41 + j) from (gi_a (by decide) _).trans ((gi_a (by decide) _).trans ((gi_k (by omega) _).trans (gi_k (by omega) _))), show gi (wI (wI (wI (wI h5 178 (41 + (gi h 171 7 + k)).toNat ((RR.2.getD k.toNat (0, 0)).1)) 178 (49 + (gi h 171 7 + k)).toNat 0) 177 (gi h 171 7 + k).toNat ((RR.2.getD k.toNat (0, 0)).2)) 171 7 ((gi h 171 7 + k) + 1)) 178 (49 + j) = gi h5 178 (49 + j) from (gi_a (by decide) _).trans ((gi_a (by decide) _).trans ((gi_k (by omega) _).trans (gi_k (by omega) _))), show gi (wI (wI (wI (wI h5 178 (41 + (gi h 171 7 + k)).toNat ((RR.2.getD k.toNat (0, 0)).1)) 178 (49 + (gi h 171 7 + k)).toNat 0) 177 (gi h 171 7 + k).toNat ((RR.2.getD k.toNat (0, 0)).2)) 171 7 ((gi h 171 7 + k) + 1)) 177 j = gi h5 177 j from (gi_a (by decide) _).trans ((gi_k (by omega) _).trans ((gi_a (by decide) _).trans (gi_a (by decide) _))), z.1, z.2.1, z.2.2]
          refine ⟨if_c (by omega), if_c (by omega), if_c (by omega)⟩
      exact ih _ (by omega) (k + 1) _ _ rfl (by omega) (f0) ((gi_k (by decide) _).trans ((gi_a (by decide) _).trans ((gi_a (by decide) _).trans ((gi_a (by decide) _).trans (t5))))) ((gi_k (by decide) _).trans ((gi_a (by decide) _).trans ((gi_a (by decide) _).trans ((gi_a (by decide) _).trans (z5))))) ((gi_k (by decide) _).trans ((gi_a (by decide) _).trans ((gi_a (by decide) _).trans ((gi_a (by decide) _).trans (r5))))) (((gi_same (by omega)).trans (by omega))) ((gi_k (by decide) _).trans ((gi_a (by decide) _).trans ((gi_a (by decide) _).trans ((gi_a (by decide) _).trans (u5))))) ((gi_k (by decide) _).trans ((gi_a (by decide) _).trans ((gi_a (by decide) _).trans ((gi_a (by decide) _).trans (c5))))) ((fun j hj => by rw [show gi (wI (wI (wI (wI h5 178 (41 + (gi h 171 7 + k)).toNat ((RR.2.getD k.toNat (0, 0)).1)) 178 (49 + (gi h 171 7 + k)).toNat 0) 177 (gi h 171 7 + k).toNat ((RR.2.getD k.toNat (0, 0)).2)) 171 7 ((gi h 171 7 + k) + 1)) 181 (2 * j) = gi h5 181 (2 * j) from (gi_a (by decide) _).trans ((gi_a (by decide) _).trans ((gi_a (by decide) _).trans (gi_a (by decide) _))), show gi (wI (wI (wI (wI h5 178 (41 + (gi h 171 7 + k)).toNat ((RR.2.getD k.toNat (0, 0)).1)) 178 (49 + (gi h 171 7 + k)).toNat 0) 177 (gi h 171 7 + k).toNat ((RR.2.getD k.toNat (0, 0)).2)) 171 7 ((gi h 171 7 + k) + 1)) 181 (2 * j + 1) = gi h5 181 (2 * j + 1) from (gi_a (by decide) _).trans ((gi_a (by decide) _).trans ((gi_a (by decide) _).trans (gi_a (by decide) _)))]; exact rl j hj)) (fn) ((fun j hj => (by rw [show gi (wI (wI (wI (wI h5 178 (41 + (gi h 171 7 + k)).toNat ((RR.2.getD k.toNat (0, 0)).1)) 178 (49 + (gi h 171 7 + k)).toNat 0) 177 (gi h 171 7 + k).toNat ((RR.2.getD k.toNat (0, 0)).2)) 171 7 ((gi h 171 7 + k) + 1)) 178 j = gi h5 178 j from (gi_a (by decide) _).trans ((gi_a (by decide) _).trans ((gi_k (by omega) _).trans (gi_k (by omega) _)))]; exact lo j hj))) (lk1_n l0 (by decide) (Or.inl rfl)) lk1_s (GD_w1 (GD_wu (GD_st (GD_st (hG5) (r := 61) rfl rfl (fun z => by omega) (fun z => by omega) (fun j hj z => by omega)) (r := 61) rfl rfl (fun z => by omega) (fun z => by omega) (fun j hj z => by omega)) (r := 60) rfl (by omega) rfl (by omega) (by omega)) (r := 54) rfl (by omega) rfl (by omega) (by omega)) (FRM_w (FRM_wn 0 7 (FRM_wn 41 56 (FRM_wn 41 56 (hF5) (r := 61) rfl rfl rfl (by omega) (by omega)) (r := 61) rfl rfl rfl (by omega) (by omega)) (r := 60) rfl rfl rfl (by omega) (by omega)) (r := 54) rfl rfl)
  have end1 : ∀ (is : Int) (h4 : aH) (ls : List (Nat × Value)), (is = b2i RR.1.1) → (gi h4 171 18 = RR.1.2) → (0 ≤ RR.1.2 ∧ RR.1.2 ≤ 80) → (gi h4 171 19 = min (gi h 171 17) 39) → (gi h4 171 0 = 0) → (gi h4 171 17 = 0) → (RR.1.1 = true → rdL h4 (gi h4 171 22).toNat = RR.2) → lk ls 0 = some (.ref 171) → lk ls 1 = some (.int (I (gi h 171 17))) → lk ls 2 = some (.int (I is)) → GD gE gRL sh h4 → FRM gRL [(0, 54, 0, 0), (0, 54, 17, 20), (0, 54, 22, 22), (0, 64, 0, 31)] h h4 → K 60 ls [] h4 0 0 := by
    intro is h4 ls ib a4 a0 to4 t4 z4 rl l0 l1 l2 hG4 hF4
    have g22 := gri 0 16 hG4 (a := 171) (r := 54) (k := 22) rfl rfl
    have is01 := b2i_r RR.1.1
    have fb := fltF_le (n := gi h 171 17) (most := 39) (r := RR.1) (by omega) a0.1
    refine x_aload_n 61 hK rfl rfl l0 ?_
    refine x_iload_n 62 hK rfl rfl l1 ?_
    refine x_bipush 64 hK rfl rfl rfl ?_
    refine x_iload_n 65 hK rfl rfl l2 ?_
    refine x_callV 68 hK hmono rfl rfl [.ref 171, .int (I (gi h 171 17)), .int (I 39), .int (I is)] [] rfl rfl (Nat.le_of_ble_eq_true rfl) (Nat.le_of_ble_eq_true rfl) rfl (sp_171 (h := h4) hG4) (CLd_le (Nat.le_of_ble_eq_true rfl) (ctX11_faultOf hSP hG4 (by omega) (by omega) (by omega))) ?_
    rintro v9 h9 ⟨e9, rfl⟩
    rw [e9, a4, to4]
    clear e9
    rw [show (if 39 < gi h 171 17 ∧ ((is = 1 ∧ RR.1.2 = min (gi h 171 17) 39) ∨ 39 ≤ RR.1.2) then -1 - 39 else if is = 1 ∧ RR.1.2 = min (gi h 171 17) 39 then 0 else -1 - RR.1.2) = fltF (gi h 171 17) 39 RR.1 from by rw [ib]; exact flt_i]
    have fr : r32 (fltF (gi h 171 17) 39 RR.1) := by unfold fltF at fb ⊢; (repeat' split) <;> omega
    refine x_istore 70 hK rfl rfl _ rfl ?_
    refine x_iload 72 hK rfl rfl lk1_s ?_
    refine x_if_ge 78 75 hK rfl rfl rfl (by omega) (fun c8 => ?_) (fun c8 => ?_)
    · refine x_iconst 79 hK rfl rfl ?_
      refine x_istore 81 hK rfl rfl _ rfl ?_
      have rl4 := rl (fltF_0 (n := gi h 171 17) (most := 39) (by omega) a0.1 (by omega)).1
      have len4 := rdL_l rl4
      have lb := rb.1
      exact loop2 _ 0 _ _ rfl (⟨by omega, by omega⟩) (by omega) (t4) (z4) (by omega) (((FRM_gi hF4 (r := 54) rfl rfl).trans (by omega))) (FRM_gi hF4 (r := 54) rfl rfl) (FRM_gi hF4 (r := 54) rfl rfl) ((fun j hj => rdL_get rl4 (by omega))) ((fun j hj => by rw [if_neg (by omega), if_neg (by omega), if_neg (by omega)]; exact ⟨FRM_gi hF4 (r := 61) rfl rfl, FRM_gi hF4 (r := 61) rfl rfl, FRM_gi hF4 (r := 60) rfl rfl⟩)) ((fun j _ => FRM_gi hF4 (r := 61) rfl rfl)) (lk1_n (lk1_n l0 (by decide) (Or.inl rfl)) (by decide) (Or.inl rfl)) lk1_s (hG4) ((hF4).mono rfl)
    · refine x_iload 77 hK rfl rfl lk1_s ?_
      exact x_iret hK rfl ⟨Or.inl ⟨by omega, rfl, RC_F hF4 (r := 61) rfl rfl 0, FRM_gi hF4 (r := 54) rfl rfl, fun j => FRM_gi hF4 (r := 60) rfl rfl, FRM_gi hF4 (r := 54) rfl rfl, FRM_gi hF4 (r := 54) rfl rfl⟩, hG4, (hF4).mono rfl, t4, z4, by rw [show gi h4 171 29 = gi h 171 29 from FRM_gi hF4 (r := 54) rfl rfl]; exact hu, AW_F hF4 rfl aw⟩
  have loop1 : ∀ (mz : Nat) (h6 : aH) (ls : List (Nat × Value)), ((9 - gi h6 171 22).toNat = mz) → (gi h 171 17 ≠ 0) → (gi h 171 7 + gi h6 171 22 ≤ 8) → (gi h6 171 18 ≤ min (gi h 171 17) 39) → (gi h6 171 19 = min (gi h 171 17) 39) → (gi h6 171 0 = 0) → (gi h6 171 17 = 0) → (RR.1 = (rdMs T (8 - gi h 171 7 - gi h6 171 22).toNat (gi h6 171 18)).1) → (RR.2 = rdL h6 (gi h6 171 22).toNat ++ (rdMs T (8 - gi h 171 7 - gi h6 171 22).toNat (gi h6 171 18)).2) → lk ls 0 = some (.ref 171) → lk ls 1 = some (.int (I (gi h 171 17))) → GD gE gRL sh h6 → FRM gRL [(0, 54, 0, 0), (0, 54, 17, 20), (0, 54, 22, 22), (0, 64, 0, 31)] h h6 → K 33 ls [] h6 0 0 := by
    intro mz
    induction mz using Nat.strongRecOn with
    | ind mz ih =>
    intro  h6 ls hm n0 c8 a6 to6 t6 z6 e1 e2 l0 l1 hG6 hF6
    have g22 := gri 0 16 hG6 (a := 171) (r := 54) (k := 22) rfl rfl
    have g18 := gri 0 81 hG6 (a := 171) (r := 54) (k := 18) rfl rfl
    have ft6 : fm h6 = T := by rw [fm_tx, to6, ← hT, show gi h6 180 = gi h 180 from funext fun k => FRM_gi hF6 (r := 63) rfl rfl]
    have ms6 : gi h6 171 7 = gi h 171 7 := FRM_gi hF6 (r := 54) rfl rfl
    refine x_aload_n 34 hK rfl rfl l0 ?_
    refine x_callV 37 hK hmono rfl rfl [.ref 171] [] rfl rfl (Nat.le_of_ble_eq_true rfl) (Nat.le_of_ble_eq_true rfl) rfl (sp_171 (h := h6) hG6) (CLd_le (Nat.le_of_ble_eq_true rfl) (ctX11_readsMessF hSP hG6 (by omega) (by omega))) ?_
    rw [ft6, ms6, to6]
    rintro v7 h7 ⟨⟨y1, rfl, y2, y3⟩ | ⟨y1, y2, rfl, y3, y4⟩ | ⟨y1, y2, rfl, y3, y4, y5, y6, y7, y8, y9, y10⟩, ya, yb, hG7, hF7⟩
    · have q0 : (8 - gi h 171 7 - gi h6 171 22).toNat = 0 := by omega
      rw [q0] at e1 e2
      refine x_istore_n 38 hK rfl rfl _ rfl ?_
      refine x_iload_n 39 hK rfl rfl lk1_s ?_
      refine x_if_eq 55 42 hK rfl rfl rfl (by omega) (fun _ => ?_) (fun c => by omega)
      refine x_iconst 56 hK rfl rfl ?_
      refine x_istore_n 57 hK rfl rfl _ rfl ?_
      refine x_goto 29 hK rfl rfl ?_
      refine x_iload_n 30 hK rfl rfl lk1_s ?_
      refine x_if_eq 60 33 hK rfl rfl rfl (by omega) (fun _ => ?_) (fun c => by omega)
      exact end1 0 _ _ ((by rw [e1]; rfl)) ((by rw [e1]; exact y2)) ((by rw [e1]; show 0 ≤ gi h6 171 18 ∧ gi h6 171 18 ≤ 80; omega)) ((FRM_gi hF7 (r := 54) rfl rfl).trans (to6)) ((FRM_gi hF7 (r := 54) rfl rfl).trans (t6)) ((FRM_gi hF7 (r := 54) rfl rfl).trans (z6)) ((fun z => by rw [e1] at z; cases z)) (lk1_n (lk1_n l0 (by decide) (Or.inl rfl)) (by decide) (Or.inl rfl)) (lk1_n (lk1_n l1 (by decide) (Or.inl rfl)) (by decide) (Or.inl rfl)) (lk1_n lk1_s (by decide) (Or.inl rfl)) (hG7) ((hF6).trans ((hF7).mono rfl))
    · obtain ⟨n, hn⟩ : ∃ n : Nat, (8 - gi h 171 7 - gi h6 171 22).toNat = n + 1 := ⟨(8 - gi h 171 7 - gi h6 171 22).toNat - 1, by omega⟩
      rw [hn] at e1 e2
      unfold rdMs at e1 e2
      rw [if_neg (by rw [y2]; exact Bool.noConfusion)] at e1 e2
      refine x_istore_n 38 hK rfl rfl _ rfl ?_
      refine x_iload_n 39 hK rfl rfl lk1_s ?_
      refine x_if_eq 55 42 hK rfl rfl rfl (by omega) (fun _ => ?_) (fun c => by omega)
      refine x_iconst 56 hK rfl rfl ?_
      refine x_istore_n 57 hK rfl rfl _ rfl ?_
      refine x_goto 29 hK rfl rfl ?_
      refine x_iload_n 30 hK rfl rfl lk1_s ?_
      refine x_if_eq 60 33 hK rfl rfl rfl (by omega) (fun _ => ?_) (fun c => by omega)
      exact end1 0 _ _ ((by rw [e1]; rfl)) ((by rw [e1]; exact y3)) ((by rw [e1]; show 0 ≤ (rdMess T (gi h6 171 18)).1.2 ∧ (rdMess T (gi h6 171 18)).1.2 ≤ 80; omega)) ((FRM_gi hF7 (r := 54) rfl rfl).trans (to6)) ((FRM_gi hF7 (r := 54) rfl rfl).trans (t6)) ((FRM_gi hF7 (r := 54) rfl rfl).trans (z6)) ((fun z => by rw [e1] at z; cases z)) (lk1_n (lk1_n l0 (by decide) (Or.inl rfl)) (by decide) (Or.inl rfl)) (lk1_n (lk1_n l1 (by decide) (Or.inl rfl)) (by decide) (Or.inl rfl)) (lk1_n lk1_s (by decide) (Or.inl rfl)) (hG7) ((hF6).trans ((hF7).mono rfl))
    · obtain ⟨n, hn⟩ : ∃ n : Nat, (8 - gi h 171 7 - gi h6 171 22).toNat = n + 1 := ⟨(8 - gi h 171 7 - gi h6 171 22).toNat - 1, by omega⟩
      rw [hn] at e1 e2
      unfold rdMs at e1 e2
      rw [if_pos y2] at e1 e2
      have rq : rdL h7 (gi h7 171 22).toNat = rdL h6 (gi h6 171 22).toNat ++ [(rdMess T (gi h6 171 18)).2] := by
        rw [show (gi h7 171 22).toNat = (gi h6 171 22).toNat + 1 by omega, rdL_s]
        congr 1
        · exact rdL_congr fun j hj => y10 j (by omega) (by omega)
        · rw [(gi_to (show 2 * (gi h6 171 22).toNat = (2 * gi h6 171 22).toNat by omega)).trans y5, (gi_to (show 2 * (gi h6 171 22).toNat + 1 = (2 * gi h6 171 22 + 1).toNat by omega)).trans y6]
      refine x_istore_n 38 hK rfl rfl _ rfl ?_
      refine x_iload_n 39 hK rfl rfl lk1_s ?_
      refine x_if_eq 55 42 hK rfl rfl rfl (by omega) (fun c => by omega) (fun _ => ?_)
      refine x_aload_n 43 hK rfl rfl (lk1_n l0 (by decide) (Or.inl rfl)) ?_
      refine x_bipush 45 hK rfl rfl rfl ?_
      have ft7 : fm h7 = T := (fm_F hF7 rfl rfl).trans ft6
      have to7 : gi h7 171 19 = min (gi h 171 17) 39 := (FRM_gi hF7 (r := 54) rfl rfl).trans (to6)
      refine x_callV 48 hK hmono rfl rfl [.ref 171, .int (I 59)] [] rfl rfl (Nat.le_of_ble_eq_true rfl) (Nat.le_of_ble_eq_true rfl) rfl (sp_171 (h := h7) hG7) (CLd_le (Nat.le_of_ble_eq_true rfl) (ctX11_takes hSP hG7 (s := 59) (by omega))) ?_
      rw [ft7, to7, y3]
      rintro v8 h8 ⟨hG8, hF8, ⟨rfl, k1, k2, k3⟩ | ⟨rfl, k1, k3⟩⟩
      · have r8 : rdL h8 (gi h8 171 22).toNat = rdL h7 (gi h7 171 22).toNat := by rw [show gi h8 171 22 = gi h7 171 22 from FRM_gi hF8 (r := 54) rfl rfl]; exact rdL_congr fun j _ => FRM_gi hF8 (r := 64) rfl rfl
        have k22 : gi h8 171 22 = gi h7 171 22 := FRM_gi hF8 (r := 54) rfl rfl
        rw [if_pos k1] at e1 e2
        refine x_if_eq 55 51 hK rfl rfl rfl (by omega) (fun c => by omega) (fun _ => ?_)
        refine x_iconst 52 hK rfl rfl ?_
        refine x_goto 56 hK rfl rfl ?_
        refine x_istore_n 57 hK rfl rfl _ rfl ?_
        refine x_goto 29 hK rfl rfl ?_
        refine x_iload_n 30 hK rfl rfl lk1_s ?_
        refine x_if_eq 60 33 hK rfl rfl rfl (by omega) (fun c => by omega) (fun _ => ?_)
        exact ih _ (by omega)  _ _ rfl (n0) (by omega) (by rw [k3]; omega) ((FRM_gi hF8 (r := 54) rfl rfl).trans ((FRM_gi hF7 (r := 54) rfl rfl).trans (to6))) ((FRM_gi hF8 (r := 54) rfl rfl).trans ((FRM_gi hF7 (r := 54) rfl rfl).trans (t6))) ((FRM_gi hF8 (r := 54) rfl rfl).trans ((FRM_gi hF7 (r := 54) rfl rfl).trans (z6))) ((by rw [e1, k3, show (8 - gi h 171 7 - gi h8 171 22).toNat = n by omega])) ((by rw [e2, r8, rq, k3, show (8 - gi h 171 7 - gi h8 171 22).toNat = n by omega, List.append_assoc]; rfl)) (lk1_n (lk1_n l0 (by decide) (Or.inl rfl)) (by decide) (Or.inl rfl)) (lk1_n (lk1_n l1 (by decide) (Or.inl rfl)) (by decide) (Or.inl rfl)) (hG8) (((hF6).trans ((hF7).mono rfl)).trans ((hF8).mono rfl))
      · have r8 : rdL h8 (gi h8 171 22).toNat = rdL h7 (gi h7 171 22).toNat := by rw [show gi h8 171 22 = gi h7 171 22 from FRM_gi hF8 (r := 54) rfl rfl]; exact rdL_congr fun j _ => FRM_gi hF8 (r := 64) rfl rfl
        have k22 : gi h8 171 22 = gi h7 171 22 := FRM_gi hF8 (r := 54) rfl rfl
        rw [if_neg k1] at e1 e2
        refine x_if_eq 55 51 hK rfl rfl rfl (by omega) (fun _ => ?_) (fun c => by omega)
        refine x_iconst 56 hK rfl rfl ?_
        refine x_istore_n 57 hK rfl rfl _ rfl ?_
        refine x_goto 29 hK rfl rfl ?_
        refine x_iload_n 30 hK rfl rfl lk1_s ?_
        refine x_if_eq 60 33 hK rfl rfl rfl (by omega) (fun _ => ?_) (fun c => by omega)
        exact end1 1 _ _ ((by rw [e1]; rfl)) ((by rw [e1]; exact k3)) ((by rw [e1]; show 0 ≤ (rdMess T (gi h6 171 18)).1.2 ∧ (rdMess T (gi h6 171 18)).1.2 ≤ 80; omega)) ((FRM_gi hF8 (r := 54) rfl rfl).trans ((FRM_gi hF7 (r := 54) rfl rfl).trans (to6))) ((FRM_gi hF8 (r := 54) rfl rfl).trans ((FRM_gi hF7 (r := 54) rfl rfl).trans (t6))) ((FRM_gi hF8 (r := 54) rfl rfl).trans ((FRM_gi hF7 (r := 54) rfl rfl).trans (z6))) ((fun z => by rw [r8, rq, e2])) (lk1_n (lk1_n l0 (by decide) (Or.inl rfl)) (by decide) (Or.inl rfl)) (lk1_n (lk1_n l1 (by decide) (Or.inl rfl)) (by decide) (Or.inl rfl)) (lk1_n lk1_s (by decide) (Or.inl rfl)) (hG8) (((hF6).trans ((hF7).mono rfl)).trans ((hF8).mono rfl))
  refine x_aload_n 1 hK rfl rfl rfl ?_
  refine x_iconst 2 hK rfl rfl ?_
  refine x_putI 5 hK rfl rfl (sp_171 (h := h) hG) ?_
  refine x_aload_n 6 hK rfl rfl rfl ?_
  refine x_bipush 8 hK rfl rfl rfl ?_
  have hGp212 : GD gE gRL sh (wI h 171 0 0) := GD_w1 (hG) (r := 54) rfl (by omega) rfl (by omega) (by omega)
  have sz0 : gi (wI h 171 0 0) 171 17 = gi h 171 17 := gi_k (by decide) _
  refine x_callV 11 hK hmono rfl rfl [.ref 171, .int (I 39)] [] rfl rfl (Nat.le_of_ble_eq_true rfl) (Nat.le_of_ble_eq_true rfl) rfl (sp_171 (h := h) hG) (CLd_le (Nat.le_of_ble_eq_true rfl) (ctX11_begins hSP hGp212 (by omega))) ?_
  rintro v1 h1 ⟨rfl, hG1, hF1, b17, b18, b20, b19⟩
  rw [sz0] at b19 ⊢
  have f1 : fm h1 = txF (gi h 180) (min (gi h 171 17) 39) := by rw [fm_tx, b19, show gi h1 180 = gi h 180 from funext fun k => (FRM_gi hF1 (r := 63) rfl rfl).trans (gi_a (by decide) _)]
  refine x_istore_n 12 hK rfl rfl [(1, .int (I (gi h 171 17))), (0, .ref 171)] rfl ?_
  refine x_aload_n 13 hK rfl rfl rfl ?_
  refine x_iconst 14 hK rfl rfl ?_
  refine x_putI 17 hK rfl rfl (sp_171 (h := h1) hG1) ?_
  refine x_iconst 18 hK rfl rfl ?_
  refine x_istore_n 19 hK rfl rfl [(2, .int (I 1)), (1, .int (I (gi h 171 17))), (0, .ref 171)] rfl ?_
  refine x_iload_n 20 hK rfl rfl rfl ?_
  refine x_if_le 27 23 hK rfl rfl rfl (by omega) (fun c14 => ?_) (fun c14 => ?_)
  · refine x_iconst 28 hK rfl rfl ?_
    refine x_istore_n 29 hK rfl rfl [(3, .int (I 0)), (2, .int (I 1)), (1, .int (I (gi h 171 17))), (0, .ref 171)] rfl ?_
    refine x_iload_n 30 hK rfl rfl rfl ?_
    refine x_if_eq 60 33 hK rfl rfl rfl (by omega) (fun _ => ?_) (fun c => by omega)
    have r0 : RR = ((true, 0), []) := by rw [← hRR]; unfold msR; rw [if_pos (by omega)]
    exact end1 1 _ _ (by rw [r0]; rfl) (by rw [r0]; exact (gi_k (by decide) _).trans (b18)) (by rw [r0]; show (0 : Int) ≤ 0 ∧ (0 : Int) ≤ 80; omega) ((gi_k (by decide) _).trans (b19)) ((gi_k (by decide) _).trans ((FRM_gi hF1 (r := 54) rfl rfl).trans (gi_same (by omega)))) ((gi_k (by decide) _).trans (b17)) ((fun _ => by rw [r0, show gi (wI h1 171 22 0) 171 22 = 0 from gi_same (by omega)]; rfl)) rfl rfl rfl (GD_w1 (hG1) (r := 54) rfl (by omega) rfl (by omega) (by omega)) (FRM_w ((FRM_w ((FRM.rf : FRM gRL [(0, 54, 0, 0), (0, 54, 17, 20), (0, 54, 22, 22), (0, 64, 0, 31)] h h)) (r := 54) rfl rfl).trans ((hF1).mono rfl)) (r := 54) rfl rfl)
  · refine x_iconst 24 hK rfl rfl ?_
    refine x_goto 28 hK rfl rfl ?_
    refine x_istore_n 29 hK rfl rfl [(3, .int (I 1)), (2, .int (I 1)), (1, .int (I (gi h 171 17))), (0, .ref 171)] rfl ?_
    refine x_iload_n 30 hK rfl rfl rfl ?_
    refine x_if_eq 60 33 hK rfl rfl rfl (by omega) (fun c => by omega) (fun _ => ?_)
    exact loop1 _  _ _ rfl (by omega) ((by rw [show gi (wI h1 171 22 0) 171 22 = 0 from gi_same (by omega)]; omega)) ((by rw [show gi (wI h1 171 22 0) 171 18 = 0 from (gi_k (by decide) _).trans (b18)]; omega)) ((gi_k (by decide) _).trans (b19)) ((gi_k (by decide) _).trans ((FRM_gi hF1 (r := 54) rfl rfl).trans (gi_same (by omega)))) ((gi_k (by decide) _).trans (b17)) ((by rw [show gi (wI h1 171 22 0) 171 22 = 0 from gi_same (by omega), show gi (wI h1 171 22 0) 171 18 = 0 from (gi_k (by decide) _).trans (b18), Int.sub_zero, ← hRR]; unfold msR; rw [if_neg (by omega)])) ((by rw [show gi (wI h1 171 22 0) 171 22 = 0 from gi_same (by omega), show gi (wI h1 171 22 0) 171 18 = 0 from (gi_k (by decide) _).trans (b18), Int.sub_zero, ← hRR]; unfold msR; rw [if_neg (by omega)]; rfl)) rfl rfl (GD_w1 (hG1) (r := 54) rfl (by omega) rfl (by omega) (by omega)) (FRM_w ((FRM_w ((FRM.rf : FRM gRL [(0, 54, 0, 0), (0, 54, 17, 20), (0, 54, 22, 22), (0, 64, 0, 31)] h h)) (r := 54) rfl rfl).trans ((hF1).mono rfl)) (r := 54) rfl rfl)
end
section
/-! VOYAGES TOLD (the reference) -/
noncomputable def actJ : List Int32 := byJ.getD 5 []
noncomputable def rdAct (f : Int → Int) (p : Int) : (Bool × Int) × Int × Int :=
  if fidx (f p) actJ 0 < 0 then ((false, p), 0, 0) else if fidx (f p) actJ 0 < 3 then ((true, p + 1), 0, fidx (f p) actJ 0 - 1)
  else if fidx (f p) actJ 0 = 3 then ((decide (0 ≤ (nmF f 1 (p + 1)).1), (nmF f 1 (p + 1)).2), 1, (nmF f 1 (p + 1)).1) else ((true, p + 1), 2, fidx (f p) actJ 0 - 3)
/-- the signs of a voyage -/
noncomputable def rdAs (f : Int → Int) (stop : Int) : Nat → Int → (Bool × Int) × List (Int × Int)
  | 0, p => ((true, p), [])
  | n + 1, p => if stop ≤ p then ((true, p), []) else if (rdAct f p).1.1 = true then ((rdAs f stop n (rdAct f p).1.2).1, (rdAct f p).2 :: (rdAs f stop n (rdAct f p).1.2).2) else ((false, (rdAct f p).1.2), [])
/-- one sign of a voyage: can it be done, the state behind it, HITS -/
noncomputable def doR (ms : Int) (q : Int × Int) (w : WS) : Bool := if q.1 = 0 then decide (gvR q.2 w = 0) else if q.1 = 1 then decide (psR ms w.2.2.2.2.2.1 q.2 1 1 = 0) else true
noncomputable def doW (dl : Int → Int) (l : Int) (ml ln : Nat → Int) (nr : Nat) (ms : Int) (ea : Nat → Int) (q : Int × Int) (w : WS) : WS := if q.1 = 0 then gvW (dl w.1) (tvF l q.2) w else if q.1 = 1 then psW q.2 1 1 w else stI ml ln nr ms ea q.2.toNat w
noncomputable def doH (ml ln : Nat → Int) (nr : Nat) (ms : Int) (ea : Nat → Int) (q : Int × Int) (w : WS) : Int := if q.1 = 0 then 0 else if q.1 = 1 then 0 else sHs ml ln nr ms ea q.2.toNat w
/-- how many are done, the state behind them, HITS -/
noncomputable def vyI (dl : Int → Int) (l : Int) (ml ln : Nat → Int) (nr : Nat) (ms : Int) (ea : Nat → Int) : List (Int × Int) → WS → Nat × WS × Int
  | [], w => (0, w, 0)
  | q :: r, w => if doR ms q w = true then ((vyI dl l ml ln nr ms ea r (doW dl l ml ln nr ms ea q w)).1 + 1, (vyI dl l ml ln nr ms ea r (doW dl l ml ln nr ms ea q w)).2.1, doH ml ln nr ms ea q w + (vyI dl l ml ln nr ms ea r (doW dl l ml ln nr ms ea q w)).2.2) else (0, w, 0)
theorem vyI_l (dl : Int → Int) (l : Int) (ml ln : Nat → Int) (nr : Nat) (ms : Int) (ea : Nat → Int) : ∀ (L : List (Int × Int)) (w : WS), (vyI dl l ml ln nr ms ea L w).1 ≤ L.length
  | [], _ => Nat.le_refl _
  | q :: r, w => by
    have := vyI_l dl l ml ln nr ms ea r (doW dl l ml ln nr ms ea q w)
    unfold vyI
    split
    · show _ + 1 ≤ r.length + 1; omega
    · exact Nat.zero_le _
/-- what was read of a voyage -/
noncomputable def acL (h : aH) (n : Nat) : List (Int × Int) := (List.range n).map fun j => (gi h 187 j, gi h 188 j)
theorem acL_s (h : aH) (n : Nat) : acL h (n + 1) = acL h n ++ [(gi h 187 n, gi h 188 n)] := by unfold acL; rw [List.range_succ, List.map_append]; rfl
theorem acL_l (h : aH) (n : Nat) : (acL h n).length = n := by unfold acL; rw [List.length_map, List.length_range]
theorem acL_congr {h h' : aH} {n : Nat} (e : ∀ j, j < n → gi h' 187 j = gi h 187 j ∧ gi h' 188 j = gi h 188 j) : acL h' n = acL h n := by
  unfold acL
  refine List.map_congr_left fun j hj => ?_
  have := e j (List.mem_range.mp hj)
  rw [this.1, this.2]
theorem acL_drop {h : aH} {n k : Nat} (hk : k < n) : (acL h n).drop k = (gi h 187 k, gi h 188 k) :: (acL h n).drop (k + 1) := by
  rw [List.drop_eq_getElem_cons (by rw [acL_l]; exact hk)]
  congr 1
  unfold acL
  simp
set_option maxRecDepth 4000 in
theorem ctX11_readsActF (hSP : MONO SPt) {sh : List (Nat × Nat)} {h : aH} (hG : GD gE gRL sh h) (hk : gi h 171 35 < 60) (ha : gi h 171 18 ≤ gi h 171 19) : CLd SPt 5 mX11_readsAct [.ref 171] h 0 0 (fun rv h' => rv = some (.int (I (b2i (rdAct (fm h) (gi h 171 18)).1.1))) ∧ gi h' 171 18 = (rdAct (fm h) (gi h 171 18)).1.2 ∧ ((rdAct (fm h) (gi h 171 18)).1.1 = true → gi h' 171 35 = gi h 171 35 + 1 ∧ gi h' 187 (gi h 171 35).toNat = (rdAct (fm h) (gi h 171 18)).2.1 ∧ gi h' 188 (gi h 171 35).toNat = (rdAct (fm h) (gi h 171 18)).2.2 ∧ (gi h 171 18) < (rdAct (fm h) (gi h 171 18)).1.2 ∧ ∀ j, j ≠ (gi h 171 35).toNat → gi h' 187 j = gi h 187 j ∧ gi h' 188 j = gi h 188 j) ∧ (gi h 171 18) ≤ gi h' 171 18 ∧ gi h' 171 18 ≤ gi h 171 19 ∧ gi h' 171 35 ≤ gi h 171 35 + 1 ∧ GD gE gRL sh h' ∧ FRM gRL [(0, 54, 18, 18), (0, 54, 35, 35), (0, 70, 0, 59), (0, 71, 0, 59)] h h') := by
  refine x_met _ rfl (Nat.le_of_ble_eq_true rfl) (fun K hK => ?_)
  have hmono := MONO_CLd hSP 4
  have g35 := gri 0 60 hG (a := 171) (r := 54) (k := 35) rfl rfl
  have g18 := gri 0 81 hG (a := 171) (r := 54) (k := 18) rfl rfl
  refine x_aload_n 1 hK rfl rfl rfl ?_
  have g213 := gri (0) (60) hG (a := 171) (r := 54) (k := 35) rfl rfl
  refine x_getE 4 hK rfl (Or.inl rfl) rfl (sp_171 (h := h) hG) (e := (gi h 171 35)) (rfl) ?_
  refine x_istore_n 5 hK rfl rfl [(1, .int (I (gi h 171 35))), (0, .ref 171)] rfl ?_
  refine x_aload_n 6 hK rfl rfl rfl ?_
  refine x_ldc_wS 9 hK rfl rfl ?_
  refine x_callV 12 hK hmono rfl rfl [.ref 171, .ref 1000005] [] rfl rfl (Nat.le_of_ble_eq_true rfl) (Nat.le_of_ble_eq_true rfl) rfl (sp_171 (h := h) hG) (CLd_le (Nat.le_of_ble_eq_true rfl) (ctX11_takesOf hSP hG (b := 5) (by decide))) ?_
  rintro v1 h1 ⟨⟨e, rfl, ee, l1, u1, a1, t1⟩, hG1, hF1⟩
  change e = fidx (fm h (gi h 171 18)) actJ 0 at ee
  refine x_istore_n 13 hK rfl rfl [(2, .int (I e)), (1, .int (I (gi h 171 35))), (0, .ref 171)] rfl ?_
  refine x_iload_n 14 hK rfl rfl rfl ?_
  refine x_if_ge 19 17 hK rfl rfl rfl (by omega) (fun c9 => ?_) (fun c9 => ?_)
  · refine x_aload_n 20 hK rfl rfl rfl ?_
    refine x_dup 21 hK rfl rfl rfl ?_
    refine x_getE 24 hK rfl (Or.inl rfl) rfl (sp_171 (h := h1) hG1) (e := (gi h 171 35)) (FRM_gi hF1 (r := 54) rfl rfl) ?_
    refine x_iconst 25 hK rfl rfl ?_
    refine x_iadd 26 hK rfl rfl ?_
    refine x_putI 29 hK rfl rfl (sp_171 (h := h1) hG1) ?_
    refine x_aload_n 30 hK rfl rfl rfl ?_
    refine x_getR 33 hK rfl rfl (sp_171 (h := h1) hG1) (rf_171_33 (h := h1) hG1) ?_
    refine x_iload_n 34 hK rfl rfl rfl ?_
    refine x_iload_n 35 hK rfl rfl rfl ?_
    refine x_iconst 36 hK rfl rfl ?_
    refine x_if_icmp_ge 43 39 hK rfl rfl rfl (by omega) (by omega) (fun c21 => ?_) (fun c21 => ?_)
    · refine x_iload_n 44 hK rfl rfl rfl ?_
      refine x_iconst 45 hK rfl rfl ?_
      refine x_if_icmp_ne 52 48 hK rfl rfl rfl (by omega) (by omega) (fun c24 => ?_) (fun c24 => ?_)
      · refine x_iconst 53 hK rfl rfl ?_
        refine x_iastore 54 hK rfl rfl (sp_187 (h := h1) hG1) (by omega) (by omega) (by omega) ?_
        refine x_aload_n 55 hK rfl rfl rfl ?_
        refine x_getR 58 hK rfl rfl (sp_171 (h := h1) hG1) (rf_171_34 (h := h1) hG1) ?_
        refine x_iload_n 59 hK rfl rfl rfl ?_
        refine x_iload_n 60 hK rfl rfl rfl ?_
        refine x_iconst 61 hK rfl rfl ?_
        refine x_if_icmp_ge 70 64 hK rfl rfl rfl (by omega) (by omega) (fun _ => ?_) (fun c => by omega)
        refine x_iload_n 71 hK rfl rfl rfl ?_
        refine x_iconst 72 hK rfl rfl ?_
        refine x_if_icmp_ne 83 75 hK rfl rfl rfl (by omega) (by omega) (fun _ => ?_) (fun c => by omega)
        refine x_iload_n 84 hK rfl rfl rfl ?_
        refine x_iconst 85 hK rfl rfl ?_
        refine x_isub 86 hK rfl rfl ?_
        refine x_iastore 87 hK rfl rfl (sp_188 (h := h1) hG1) (by omega) (by omega) (by omega) ?_
        refine x_iload_n 88 hK rfl rfl rfl ?_
        refine x_iconst 89 hK rfl rfl ?_
        refine x_if_icmp_ne 101 92 hK rfl rfl rfl (by omega) (by omega) (fun _ => ?_) (fun c => by omega)
        refine x_iconst 102 hK rfl rfl ?_
        refine x_goto 106 hK rfl rfl ?_
        have za : gi (wI (wI (wI h1 171 35 ((gi h 171 35) + 1)) 187 (gi h 171 35).toNat 2) 188 (gi h 171 35).toNat (e - 3)) 171 18 = (gi h1 171 18) := (gi_a (by decide) _).trans ((gi_a (by decide) _).trans (gi_k (by decide) _))
        have zb : gi (wI (wI (wI h1 171 35 ((gi h 171 35) + 1)) 187 (gi h 171 35).toNat 2) 188 (gi h 171 35).toNat (e - 3)) 171 35 = ((gi h 171 35) + 1) := (gi_a (by decide) _).trans ((gi_a (by decide) _).trans (gi_same (by omega)))
        have a2 : gi h1 171 18 = gi h 171 18 + 1 := by rw [a1, if_neg (by omega)]
        have t2 := t1 (by omega)
        have er : (rdAct (fm h) (gi h 171 18)) = ((true, (gi h 171 18) + 1), 2, e - 3) := by unfold rdAct; rw [← ee, if_neg (by omega), if_neg (by omega), if_neg (by omega)]
        have y1 : gi (wI (wI (wI h1 171 35 ((gi h 171 35) + 1)) 187 (gi h 171 35).toNat 2) 188 (gi h 171 35).toNat (e - 3)) 187 (gi h 171 35).toNat = 2 := (gi_a (by decide) _).trans (gi_same (by omega))
        have y2 : gi (wI (wI (wI h1 171 35 ((gi h 171 35) + 1)) 187 (gi h 171 35).toNat 2) 188 (gi h 171 35).toNat (e - 3)) 188 (gi h 171 35).toNat = e - 3 := gi_same (by omega)
        exact x_zret hK rfl (by omega) ⟨by rw [er]; rfl, by rw [er]; show _ = (gi h 171 18) + 1; omega, fun z => ⟨by omega, by rw [er]; exact y1, by rw [er]; exact y2, by rw [er]; show _ < (gi h 171 18) + 1; omega, fun j hj => ⟨(gi_a (by decide) _).trans ((gi_k (by omega) _).trans ((gi_a (by decide) _).trans (FRM_gi hF1 (r := 70) rfl rfl))), (gi_k (by omega) _).trans ((gi_a (by decide) _).trans ((gi_a (by decide) _).trans (FRM_gi hF1 (r := 71) rfl rfl)))⟩⟩, by omega, by omega, by omega, GD_wu (GD_wu (GD_w1 (hG1) (r := 54) rfl (by omega) rfl (by omega) (by omega)) (r := 70) rfl (by omega) rfl (by omega) (by omega)) (r := 71) rfl (by omega) rfl (by omega) (by omega), FRM_wn 0 59 (FRM_wn 0 59 (FRM_w ((hF1).mono rfl) (r := 54) rfl rfl) (r := 70) rfl rfl rfl (by omega) (by omega)) (r := 71) rfl rfl rfl (by omega) (by omega)⟩
      · refine x_iconst 49 hK rfl rfl ?_
        refine x_goto 53 hK rfl rfl ?_
        refine x_iastore 54 hK rfl rfl (sp_187 (h := h1) hG1) (by omega) (by omega) (by omega) ?_
        refine x_aload_n 55 hK rfl rfl rfl ?_
        refine x_getR 58 hK rfl rfl (sp_171 (h := h1) hG1) (rf_171_34 (h := h1) hG1) ?_
        refine x_iload_n 59 hK rfl rfl rfl ?_
        refine x_iload_n 60 hK rfl rfl rfl ?_
        refine x_iconst 61 hK rfl rfl ?_
        refine x_if_icmp_ge 70 64 hK rfl rfl rfl (by omega) (by omega) (fun _ => ?_) (fun c => by omega)
        refine x_iload_n 71 hK rfl rfl rfl ?_
        refine x_iconst 72 hK rfl rfl ?_
        refine x_if_icmp_ne 83 75 hK rfl rfl rfl (by omega) (by omega) (fun c => by omega) (fun _ => ?_)
        refine x_aload_n 76 hK rfl rfl rfl ?_
        refine x_iconst 77 hK rfl rfl ?_
        have g215 := gri (0) (81) hG1 (a := 171) (r := 54) (k := 18) rfl rfl
        have hGp216 : GD gE gRL sh (wI (wI h1 171 35 ((gi h 171 35) + 1)) 187 (gi h 171 35).toNat 1) := GD_wu (GD_w1 (hG1) (r := 54) rfl (by omega) rfl (by omega) (by omega)) (r := 70) rfl (by omega) rfl (by omega) (by omega)
        have at214 : gi (wI (wI h1 171 35 ((gi h 171 35) + 1)) 187 (gi h 171 35).toNat 1) 171 18 = (gi h1 171 18) := (gi_a (by decide) _).trans (gi_k (by decide) _)
        have fe214 : fm (wI (wI h1 171 35 ((gi h 171 35) + 1)) 187 (gi h 171 35).toNat 1) = (fm h) := (fm_wI (by decide) (Or.inl (by decide))).trans ((fm_wI (by decide) (Or.inr (by decide))).trans (fm_F hF1 rfl rfl))
        have to214 : gi (wI (wI h1 171 35 ((gi h 171 35) + 1)) 187 (gi h 171 35).toNat 1) 171 19 = gi h 171 19 := (gi_a (by decide) _).trans ((gi_k (by decide) _).trans (FRM_gi hF1 (r := 54) rfl rfl))
        refine x_callV 80 hK hmono rfl rfl [.ref 171, .int (I 1)] [.int (I (gi h 171 35)), .ref 188] rfl rfl (Nat.le_of_ble_eq_true rfl) (Nat.le_of_ble_eq_true rfl) rfl (sp_171 (h := h1) hG1) (CLd_le (Nat.le_of_ble_eq_true rfl) (ctX11_number hSP hGp216 (n := 1) (by omega))) ?_
        rw [fe214, at214, to214]
        rintro v214 h214 ⟨⟨e214, rfl, nu214, ne214, nf214, ng214⟩, hG214, hF214, np214, nq214, nr214⟩
        have nm214 : nmF (fm h) 1 (gi h1 171 18) = (e214, gi h214 171 18) := by rw [nu214, np214]; rfl
        clear nu214 np214
        generalize eq214 : gi h214 171 18 = p214 at *
        refine x_goto 86 hK rfl rfl ?_
        refine x_iastore 87 hK rfl rfl (sp_188 (h := h214) hG214) (by omega) (by omega) (by omega) ?_
        refine x_iload_n 88 hK rfl rfl rfl ?_
        refine x_iconst 89 hK rfl rfl ?_
        refine x_if_icmp_ne 101 92 hK rfl rfl rfl (by omega) (by omega) (fun c => by omega) (fun _ => ?_)
        refine x_aload_n 93 hK rfl rfl rfl ?_
        refine x_getR 96 hK rfl rfl (sp_171 (h := h214) hG214) (rf_171_34 (h := h214) hG214) ?_
        refine x_iload_n 97 hK rfl rfl rfl ?_
        refine x_ialoadE 98 hK rfl rfl (sp_188 (h := h214) hG214) (by omega) (by omega) (by omega) (e' := e214) (gi_same (by omega)) ?_
        refine x_if_lt 105 101 hK rfl rfl rfl (by omega) (fun c70 => ?_) (fun c70 => ?_)
        · refine x_iconst 106 hK rfl rfl ?_
          have za : gi (wI h214 188 (gi h 171 35).toNat e214) 171 18 = p214 := (gi_a (by decide) _).trans (eq214)
          have zb : gi (wI h214 188 (gi h 171 35).toNat e214) 171 35 = ((gi h 171 35) + 1) := (gi_a (by decide) _).trans ((FRM_gi hF214 (r := 54) rfl rfl).trans ((gi_a (by decide) _).trans (gi_same (by omega))))
          have a2 : gi h1 171 18 = gi h 171 18 + 1 := by rw [a1, if_neg (by omega)]
          have t2 := t1 (by omega)
          rw [a2] at nm214
          have er : (rdAct (fm h) (gi h 171 18)) = ((false, p214), 1, e214) := by unfold rdAct; rw [← ee, if_neg (by omega), if_neg (by omega), if_pos (by omega), nm214]; rw [show decide (0 ≤ (e214, p214).1) = false from decide_eq_false (show ¬ 0 ≤ e214 by omega)]
          have y1 : gi (wI h214 188 (gi h 171 35).toNat e214) 187 (gi h 171 35).toNat = 1 := (gi_a (by decide) _).trans ((FRM_gi hF214 (r := 70) rfl rfl).trans (gi_same (by omega)))
          have y2 : gi (wI h214 188 (gi h 171 35).toNat e214) 188 (gi h 171 35).toNat = e214 := gi_same (by omega)
          exact x_zret hK rfl (by omega) ⟨by rw [er]; rfl, by rw [er]; show _ = p214; omega, fun z => ⟨by omega, by rw [er]; exact y1, by rw [er]; exact y2, by rw [er]; show _ < p214; omega, fun j hj => ⟨(gi_a (by decide) _).trans ((FRM_gi hF214 (r := 70) rfl rfl).trans ((gi_k (by omega) _).trans ((gi_a (by decide) _).trans (FRM_gi hF1 (r := 70) rfl rfl)))), (gi_k (by omega) _).trans ((FRM_gi hF214 (r := 71) rfl rfl).trans ((gi_a (by decide) _).trans ((gi_a (by decide) _).trans (FRM_gi hF1 (r := 71) rfl rfl))))⟩⟩, by omega, by omega, by omega, GD_wu (hG214) (r := 71) rfl (by omega) rfl (by omega) (by omega), FRM_wn 0 59 ((FRM_wn 0 59 (FRM_w ((hF1).mono rfl) (r := 54) rfl rfl) (r := 70) rfl rfl rfl (by omega) (by omega)).trans ((hF214).mono rfl)) (r := 71) rfl rfl rfl (by omega) (by omega)⟩
        · refine x_iconst 102 hK rfl rfl ?_
          refine x_goto 106 hK rfl rfl ?_
          have za : gi (wI h214 188 (gi h 171 35).toNat e214) 171 18 = p214 := (gi_a (by decide) _).trans (eq214)
          have zb : gi (wI h214 188 (gi h 171 35).toNat e214) 171 35 = ((gi h 171 35) + 1) := (gi_a (by decide) _).trans ((FRM_gi hF214 (r := 54) rfl rfl).trans ((gi_a (by decide) _).trans (gi_same (by omega))))
          have a2 : gi h1 171 18 = gi h 171 18 + 1 := by rw [a1, if_neg (by omega)]
          have t2 := t1 (by omega)
          rw [a2] at nm214
          have er : (rdAct (fm h) (gi h 171 18)) = ((true, p214), 1, e214) := by unfold rdAct; rw [← ee, if_neg (by omega), if_neg (by omega), if_pos (by omega), nm214]; rw [show decide (0 ≤ (e214, p214).1) = true from decide_eq_true (show 0 ≤ e214 by omega)]
          have y1 : gi (wI h214 188 (gi h 171 35).toNat e214) 187 (gi h 171 35).toNat = 1 := (gi_a (by decide) _).trans ((FRM_gi hF214 (r := 70) rfl rfl).trans (gi_same (by omega)))
          have y2 : gi (wI h214 188 (gi h 171 35).toNat e214) 188 (gi h 171 35).toNat = e214 := gi_same (by omega)
          exact x_zret hK rfl (by omega) ⟨by rw [er]; rfl, by rw [er]; show _ = p214; omega, fun z => ⟨by omega, by rw [er]; exact y1, by rw [er]; exact y2, by rw [er]; show _ < p214; omega, fun j hj => ⟨(gi_a (by decide) _).trans ((FRM_gi hF214 (r := 70) rfl rfl).trans ((gi_k (by omega) _).trans ((gi_a (by decide) _).trans (FRM_gi hF1 (r := 70) rfl rfl)))), (gi_k (by omega) _).trans ((FRM_gi hF214 (r := 71) rfl rfl).trans ((gi_a (by decide) _).trans ((gi_a (by decide) _).trans (FRM_gi hF1 (r := 71) rfl rfl))))⟩⟩, by omega, by omega, by omega, GD_wu (hG214) (r := 71) rfl (by omega) rfl (by omega) (by omega), FRM_wn 0 59 ((FRM_wn 0 59 (FRM_w ((hF1).mono rfl) (r := 54) rfl rfl) (r := 70) rfl rfl rfl (by omega) (by omega)).trans ((hF214).mono rfl)) (r := 71) rfl rfl rfl (by omega) (by omega)⟩
    · refine x_iconst 40 hK rfl rfl ?_
      refine x_goto 53 hK rfl rfl ?_
      refine x_iastore 54 hK rfl rfl (sp_187 (h := h1) hG1) (by omega) (by omega) (by omega) ?_
      refine x_aload_n 55 hK rfl rfl rfl ?_
      refine x_getR 58 hK rfl rfl (sp_171 (h := h1) hG1) (rf_171_34 (h := h1) hG1) ?_
      refine x_iload_n 59 hK rfl rfl rfl ?_
      refine x_iload_n 60 hK rfl rfl rfl ?_
      refine x_iconst 61 hK rfl rfl ?_
      refine x_if_icmp_ge 70 64 hK rfl rfl rfl (by omega) (by omega) (fun c => by omega) (fun _ => ?_)
      refine x_iload_n 65 hK rfl rfl rfl ?_
      refine x_iconst 66 hK rfl rfl ?_
      refine x_isub 67 hK rfl rfl ?_
      refine x_goto 86 hK rfl rfl ?_
      refine x_iastore 87 hK rfl rfl (sp_188 (h := h1) hG1) (by omega) (by omega) (by omega) ?_
      refine x_iload_n 88 hK rfl rfl rfl ?_
      refine x_iconst 89 hK rfl rfl ?_
      refine x_if_icmp_ne 101 92 hK rfl rfl rfl (by omega) (by omega) (fun _ => ?_) (fun c => by omega)
      refine x_iconst 102 hK rfl rfl ?_
      refine x_goto 106 hK rfl rfl ?_
      have za : gi (wI (wI (wI h1 171 35 ((gi h 171 35) + 1)) 187 (gi h 171 35).toNat 0) 188 (gi h 171 35).toNat (e - 1)) 171 18 = (gi h1 171 18) := (gi_a (by decide) _).trans ((gi_a (by decide) _).trans (gi_k (by decide) _))
      have zb : gi (wI (wI (wI h1 171 35 ((gi h 171 35) + 1)) 187 (gi h 171 35).toNat 0) 188 (gi h 171 35).toNat (e - 1)) 171 35 = ((gi h 171 35) + 1) := (gi_a (by decide) _).trans ((gi_a (by decide) _).trans (gi_same (by omega)))
      have a2 : gi h1 171 18 = gi h 171 18 + 1 := by rw [a1, if_neg (by omega)]
      have t2 := t1 (by omega)
      have er : (rdAct (fm h) (gi h 171 18)) = ((true, (gi h 171 18) + 1), 0, e - 1) := by unfold rdAct; rw [← ee, if_neg (by omega), if_pos (by omega)]
      have y1 : gi (wI (wI (wI h1 171 35 ((gi h 171 35) + 1)) 187 (gi h 171 35).toNat 0) 188 (gi h 171 35).toNat (e - 1)) 187 (gi h 171 35).toNat = 0 := (gi_a (by decide) _).trans (gi_same (by omega))
      have y2 : gi (wI (wI (wI h1 171 35 ((gi h 171 35) + 1)) 187 (gi h 171 35).toNat 0) 188 (gi h 171 35).toNat (e - 1)) 188 (gi h 171 35).toNat = e - 1 := gi_same (by omega)
      exact x_zret hK rfl (by omega) ⟨by rw [er]; rfl, by rw [er]; show _ = (gi h 171 18) + 1; omega, fun z => ⟨by omega, by rw [er]; exact y1, by rw [er]; exact y2, by rw [er]; show _ < (gi h 171 18) + 1; omega, fun j hj => ⟨(gi_a (by decide) _).trans ((gi_k (by omega) _).trans ((gi_a (by decide) _).trans (FRM_gi hF1 (r := 70) rfl rfl))), (gi_k (by omega) _).trans ((gi_a (by decide) _).trans ((gi_a (by decide) _).trans (FRM_gi hF1 (r := 71) rfl rfl)))⟩⟩, by omega, by omega, by omega, GD_wu (GD_wu (GD_w1 (hG1) (r := 54) rfl (by omega) rfl (by omega) (by omega)) (r := 70) rfl (by omega) rfl (by omega) (by omega)) (r := 71) rfl (by omega) rfl (by omega) (by omega), FRM_wn 0 59 (FRM_wn 0 59 (FRM_w ((hF1).mono rfl) (r := 54) rfl rfl) (r := 70) rfl rfl rfl (by omega) (by omega)) (r := 71) rfl rfl rfl (by omega) (by omega)⟩
  · refine x_iconst 18 hK rfl rfl ?_
    have za : gi h1 171 18 = (gi h1 171 18) := rfl
    have zb : gi h1 171 35 = (gi h 171 35) := FRM_gi hF1 (r := 54) rfl rfl
    have er : (rdAct (fm h) (gi h 171 18)) = ((false, (gi h 171 18)), 0, 0) := by unfold rdAct; rw [← ee, if_pos (by omega)]
    have a2 : gi h1 171 18 = gi h 171 18 := by rw [a1, if_pos (by omega)]; omega
    exact x_zret hK rfl (by omega) ⟨by rw [er]; rfl, by rw [er]; exact a2, fun z => (by rw [er] at z; cases z), by omega, by omega, by omega, hG1, (hF1).mono rfl⟩
set_option maxRecDepth 4000 in
theorem ctX11_doesF {SP : CT} (hSP : MONO SP) {sh : List (Nat × Nat)} {h : aH} (hG : GD gE gRL sh h) {k b : Int} (hX : XI h) (hk : 0 ≤ k ∧ k < 60) (wb : WB b (RC h 178 0)) (hb : b ≤ 900000) (h31 : 0 ≤ gi h 171 31 ∧ gi h 171 31 ≤ 1000000) (h32 : 0 ≤ gi h 171 32 ∧ gi h 171 32 ≤ 1000000) : CLd SP 9 mX11_does [.ref 171, .int (I k)] h 0 0 (fun rv h' => (((doR (gi h 171 7) (gi h 187 k.toNat, gi h 188 k.toNat) (vw (RC h 178 0))) = true ∧ rv = some (.int (I 1)) ∧ vw (RC h' 178 0) = doW (dlA h) (gi h 171 5) (gi h 175) (gi h 176) (gi h 171 6).toNat (gi h 171 7) (gi h 177) (gi h 187 k.toNat, gi h 188 k.toNat) (vw (RC h 178 0)) ∧ gi h' 171 31 = gi h 171 31 + doH (gi h 175) (gi h 176) (gi h 171 6).toNat (gi h 171 7) (gi h 177) (gi h 187 k.toNat, gi h 188 k.toNat) (vw (RC h 178 0))) ∨ ((doR (gi h 171 7) (gi h 187 k.toNat, gi h 188 k.toNat) (vw (RC h 178 0))) = false ∧ rv = some (.int (I 0)) ∧ RC h' 178 0 = RC h 178 0 ∧ gi h' 171 31 = gi h 171 31)) ∧ GD gE gRL sh h' ∧ FRM gRL [(0, 54, 31, 32), (0, 61, 0, 56), (0, 67, 0, 79), (0, 68, 0, 3)] h h' ∧ WB (b + 9) (RC h' 178 0) ∧ (gi h 171 31 ≤ gi h' 171 31 ∧ gi h' 171 31 ≤ gi h 171 31 + 144) ∧ (gi h 171 32 ≤ gi h' 171 32 ∧ gi h' 171 32 ≤ gi h 171 32 + 72)) := by
  refine x_met _ rfl (Nat.le_of_ble_eq_true rfl) (fun K hK => ?_)
  have hmono := MONO_CLd hSP 8
  have go := grn (-1) 9 hG (a := 188) (r := 71) (k := k.toNat) rfl rfl (by omega)
  have gs := grn 0 2 hG (a := 187) (r := 70) (k := k.toNat) rfl rfl (by omega)
  have g6 := gri 0 16 hG (a := 171) (r := 54) (k := 6) rfl rfl
  have g7 := gri 0 8 hG (a := 171) (r := 54) (k := 7) rfl rfl
  have sb := sHs_b (ml := gi h 175) (ln := gi h 176) (ms := gi h 171 7) (ea := gi h 177) (show (gi h 171 6).toNat ≤ 16 by omega) (vw (RC h 178 0))
  have ub := sUs_b (ml := gi h 175) (ln := gi h 176) (nr := (gi h 171 6).toNat) (ea := gi h 177) g7.2 (vw (RC h 178 0))
  have dr : (doR (gi h 171 7) (gi h 187 k.toNat, gi h 188 k.toNat) (vw (RC h 178 0))) = if gi h 187 k.toNat = 0 then decide (gvR (gi h 188 k.toNat) (vw (RC h 178 0)) = 0) else if gi h 187 k.toNat = 1 then decide (psR (gi h 171 7) (vw (RC h 178 0)).2.2.2.2.2.1 (gi h 188 k.toNat) 1 1 = 0) else true := rfl
  have dw : doW (dlA h) (gi h 171 5) (gi h 175) (gi h 176) (gi h 171 6).toNat (gi h 171 7) (gi h 177) (gi h 187 k.toNat, gi h 188 k.toNat) (vw (RC h 178 0)) = if gi h 187 k.toNat = 0 then gvW (dlA h (vw (RC h 178 0)).1) (tvF (gi h 171 5) (gi h 188 k.toNat)) (vw (RC h 178 0)) else if gi h 187 k.toNat = 1 then psW (gi h 188 k.toNat) 1 1 (vw (RC h 178 0)) else stI (gi h 175) (gi h 176) (gi h 171 6).toNat (gi h 171 7) (gi h 177) (gi h 188 k.toNat).toNat (vw (RC h 178 0)) := rfl
  have dh : doH (gi h 175) (gi h 176) (gi h 171 6).toNat (gi h 171 7) (gi h 177) (gi h 187 k.toNat, gi h 188 k.toNat) (vw (RC h 178 0)) = if gi h 187 k.toNat = 0 then 0 else if gi h 187 k.toNat = 1 then 0 else sHs (gi h 175) (gi h 176) (gi h 171 6).toNat (gi h 171 7) (gi h 177) (gi h 188 k.toNat).toNat (vw (RC h 178 0)) := rfl
  have w1 : (vw (RC h 178 0)).1 = gi h 178 0 := by show RC h 178 0 0 = _; exact RC_0 (by omega)
  rw [w1] at dw
  have loop : ∀ (mz : Nat) (i : Int) (h4 : aH) (ls : List (Nat × Value)), ((9 - i).toNat = mz) → (gi h 187 k.toNat = 2) → (0 ≤ i ∧ (i ≤ gi h 188 k.toNat ∨ i = 0)) → (vw (RC h4 178 0) = stI (gi h 175) (gi h 176) (gi h 171 6).toNat (gi h 171 7) (gi h 177) i.toNat (vw (RC h 178 0))) → (gi h4 171 31 = gi h 171 31 + sHs (gi h 175) (gi h 176) (gi h 171 6).toNat (gi h 171 7) (gi h 177) i.toNat (vw (RC h 178 0))) → (gi h4 171 32 = gi h 171 32 + sUs (gi h 175) (gi h 176) (gi h 171 6).toNat (gi h 171 7) (gi h 177) i.toNat (vw (RC h 178 0))) → (WB (b + i) (RC h4 178 0)) → lk ls 0 = some (.ref 171) → lk ls 1 = some (.int (I k)) → lk ls 2 = some (.int (I i)) → GD gE gRL sh h4 → FRM gRL [(0, 54, 31, 32), (0, 61, 0, 56)] h h4 → K 65 ls [] h4 0 0 := by
    intro mz
    induction mz using Nat.strongRecOn with
    | ind mz ih =>
    intro i h4 ls hm s2 i0 sv s31 s32 wb4 l0 l1 l2 hG4 hF4
    have sbk := sb i.toNat
    have ubk := ub i.toNat
    refine x_iload_n 66 hK rfl rfl l2 ?_
    refine x_aload_n 67 hK rfl rfl l0 ?_
    refine x_getR 70 hK rfl rfl (sp_171 (h := h4) hG4) (rf_171_34 (h := h4) hG4) ?_
    refine x_iload_n 71 hK rfl rfl l1 ?_
    have g217 := grn (-1) (9) hG (a := 188) (r := 71) (k := k.toNat) rfl rfl (by omega)
    refine x_ialoadE 72 hK rfl rfl (sp_188 (h := h4) hG4) (by omega) (by omega) (by omega) (e' := (gi h 188 k.toNat)) (FRM_gi hF4 (r := 71) rfl rfl) ?_
    refine x_if_icmp_ge 89 75 hK rfl rfl rfl (by omega) (by omega) (fun c6 => ?_) (fun c6 => ?_)
    · refine x_iconst 90 hK rfl rfl ?_
      have ie : (gi h 188 k.toNat).toNat = i.toNat := by omega
      rw [ie] at dw dh
      rw [if_neg (by omega), if_neg (by omega)] at dr dw dh
      exact x_zret hK rfl (by omega) ⟨Or.inl ⟨dr, rfl, by rw [dw]; exact sv, by rw [dh]; exact s31⟩, hG4, (hF4).mono rfl, wb4.mono (by omega), by omega, by omega⟩
    · refine x_aload_n 76 hK rfl rfl l0 ?_
      refine x_aload_n 77 hK rfl rfl l0 ?_
      refine x_getR 80 hK rfl rfl (sp_171 (h := h4) hG4) (rf_171_14 (h := h4) hG4) ?_
      refine x_callV 83 hK hmono rfl rfl [.ref 171, .ref 178] [] rfl rfl (Nat.le_of_ble_eq_true rfl) (Nat.le_of_ble_eq_true rfl) rfl (sp_171 (h := h4) hG4) (CLd_le (Nat.le_of_ble_eq_true rfl) (ctX11_stepGoesNF hSP hG4 wb4 (by omega) (by omega) (by omega))) ?_
      rw [sv, show gi h4 175 = gi h 175 from funext fun j => FRM_gi hF4 (r := 58) rfl rfl, show gi h4 176 = gi h 176 from funext fun j => FRM_gi hF4 (r := 59) rfl rfl, show gi h4 171 6 = gi h 171 6 from FRM_gi hF4 (r := 54) rfl rfl, show gi h4 171 7 = gi h 171 7 from FRM_gi hF4 (r := 54) rfl rfl, show gi h4 177 = gi h 177 from funext fun j => FRM_gi hF4 (r := 60) rfl rfl]
      rintro v218 h218 ⟨rfl, hG218, hF218, sv218, x31218, x32218, wb218⟩
      refine x_iinc 86 hK rfl rfl l2 _ rfl ?_
      refine x_goto 65 hK rfl rfl ?_
      exact ih _ (by omega) (i + 1) _ _ rfl (s2) (by omega) ((by rw [tn_s i0.1]; exact sv218)) ((by rw [tn_s i0.1, x31218, s31]; show _ = _ + (_ + _); omega)) ((by rw [tn_s i0.1, x32218, s32]; show _ = _ + (_ + _); omega)) ((by rw [show b + (i + 1) = b + i + 1 by omega]; exact wb218)) (lk1_n l0 (by decide) (Or.inl rfl)) (lk1_n l1 (by decide) (Or.inl rfl)) lk1_s (hG218) ((hF4).trans ((hF218).mono rfl))
  refine x_aload_n 1 hK rfl rfl rfl ?_
  refine x_getR 4 hK rfl rfl (sp_171 (h := h) hG) (rf_171_33 (h := h) hG) ?_
  refine x_iload_n 5 hK rfl rfl rfl ?_
  have g219 := grn (0) (2) hG (a := 187) (r := 70) (k := k.toNat) rfl rfl (by omega)
  refine x_ialoadE 6 hK rfl rfl (sp_187 (h := h) hG) (by omega) (by omega) (by omega) (e' := (gi h 187 k.toNat)) (rfl) ?_
  refine x_if_ne 32 9 hK rfl rfl rfl (by omega) (fun c5 => ?_) (fun c5 => ?_)
  · refine x_aload_n 33 hK rfl rfl rfl ?_
    refine x_getR 36 hK rfl rfl (sp_171 (h := h) hG) (rf_171_33 (h := h) hG) ?_
    refine x_iload_n 37 hK rfl rfl rfl ?_
    refine x_ialoadE 38 hK rfl rfl (sp_187 (h := h) hG) (by omega) (by omega) (by omega) (e' := (gi h 187 k.toNat)) (rfl) ?_
    refine x_iconst 39 hK rfl rfl ?_
    refine x_if_icmp_ne 63 42 hK rfl rfl rfl (by omega) (by omega) (fun c11 => ?_) (fun c11 => ?_)
    · refine x_iconst 64 hK rfl rfl ?_
      refine x_istore_n 65 hK rfl rfl [(2, .int (I 0)), (0, .ref 171), (1, .int (I k))] rfl ?_
      exact loop _ 0 _ _ rfl (by omega) (by omega) (rfl) ((Int.add_zero _).symm) ((Int.add_zero _).symm) ((by rw [Int.add_zero]; exact wb)) rfl rfl rfl (hG) ((FRM.rf : FRM gRL [(0, 54, 31, 32), (0, 61, 0, 56)] h h))
    · refine x_aload_n 43 hK rfl rfl rfl ?_
      refine x_aload_n 44 hK rfl rfl rfl ?_
      refine x_getR 47 hK rfl rfl (sp_171 (h := h) hG) (rf_171_34 (h := h) hG) ?_
      refine x_iload_n 48 hK rfl rfl rfl ?_
      have g220 := grn (-1) (9) hG (a := 188) (r := 71) (k := k.toNat) rfl rfl (by omega)
      refine x_ialoadE 49 hK rfl rfl (sp_188 (h := h) hG) (by omega) (by omega) (by omega) (e' := (gi h 188 k.toNat)) (rfl) ?_
      refine x_iconst 50 hK rfl rfl ?_
      refine x_iconst 51 hK rfl rfl ?_
      refine x_callV 54 hK hmono rfl rfl [.ref 171, .int (I (gi h 188 k.toNat)), .int (I 1), .int (I 1)] [] rfl rfl (Nat.le_of_ble_eq_true rfl) (Nat.le_of_ble_eq_true rfl) rfl (sp_171 (h := h) hG) (CLd_le (Nat.le_of_ble_eq_true rfl) (ctX11_passesF hSP hG (m := gi h 188 k.toNat) (n := 1) (a := 1) (by omega) (by omega) (by omega) wb)) ?_
      rintro v2 h2 ⟨⟨e2, rfl, s2⟩ | ⟨e2, rfl, s2⟩, hG2, hF2, wb2⟩
      · have an : psR (gi h 171 7) (vw (RC h 178 0)).2.2.2.2.2.1 (gi h 188 k.toNat) 1 1 < 0 := by unfold psR at e2 ⊢; revert e2; (repeat' split) <;> intro e2 <;> omega
        have ar : r32 (psR (gi h 171 7) (vw (RC h 178 0)).2.2.2.2.2.1 (gi h 188 k.toNat) 1 1) := by unfold psR at an ⊢; (repeat' split) <;> omega
        refine x_if_lt 61 57 hK rfl rfl rfl (by omega) (fun c23 => ?_) (fun c23 => ?_)
        · refine x_iconst 62 hK rfl rfl ?_
          have y1 : gi h2 171 31 = gi h 171 31 := FRM_gi hF2 (r := 54) rfl rfl
          have y2 : gi h2 171 32 = gi h 171 32 := FRM_gi hF2 (r := 54) rfl rfl
          rw [if_neg (by omega), if_pos (by omega)] at dr dw dh
          exact x_zret hK rfl (by omega) ⟨Or.inr ⟨dr.trans (decide_eq_false e2), rfl, s2, y1⟩, hG2, (hF2).mono rfl, wb2.mono (by omega), by omega, by omega⟩
        · refine x_iconst 58 hK rfl rfl ?_
          refine x_goto 62 hK rfl rfl ?_
          exfalso
          omega
      · have an := ps_ge wb e2
        refine x_if_lt 61 57 hK rfl rfl rfl (by omega) (fun c29 => ?_) (fun c29 => ?_)
        · refine x_iconst 62 hK rfl rfl ?_
          exfalso
          omega
        · refine x_iconst 58 hK rfl rfl ?_
          refine x_goto 62 hK rfl rfl ?_
          have y1 : gi h2 171 31 = gi h 171 31 := FRM_gi hF2 (r := 54) rfl rfl
          have y2 : gi h2 171 32 = gi h 171 32 := FRM_gi hF2 (r := 54) rfl rfl
          rw [if_neg (by omega), if_pos (by omega)] at dr dw dh
          exact x_zret hK rfl (by omega) ⟨Or.inl ⟨dr.trans (decide_eq_true e2), rfl, by rw [dw]; exact s2, by rw [dh, y1]; omega⟩, hG2, (hF2).mono rfl, wb2.mono (by omega), by omega, by omega⟩
  · refine x_aload_n 10 hK rfl rfl rfl ?_
    refine x_aload_n 11 hK rfl rfl rfl ?_
    refine x_getR 14 hK rfl rfl (sp_171 (h := h) hG) (rf_171_14 (h := h) hG) ?_
    refine x_aload_n 15 hK rfl rfl rfl ?_
    refine x_getR 18 hK rfl rfl (sp_171 (h := h) hG) (rf_171_34 (h := h) hG) ?_
    refine x_iload_n 19 hK rfl rfl rfl ?_
    have g221 := grn (-1) (9) hG (a := 188) (r := 71) (k := k.toNat) rfl rfl (by omega)
    refine x_ialoadE 20 hK rfl rfl (sp_188 (h := h) hG) (by omega) (by omega) (by omega) (e' := (gi h 188 k.toNat)) (rfl) ?_
    refine x_callV 23 hK hmono rfl rfl [.ref 171, .ref 178, .int (I (gi h 188 k.toNat))] [] rfl rfl (Nat.le_of_ble_eq_true rfl) (Nat.le_of_ble_eq_true rfl) rfl (sp_171 (h := h) hG) (CLd_le (Nat.le_of_ble_eq_true rfl) (ctX11_givesNF hSP hG hX (v := gi h 188 k.toNat) (by omega) wb (by omega))) ?_
    rintro v2 h2 ⟨⟨e2, rfl, s2⟩ | ⟨e2, rfl, s2⟩, hG2, hF2, wb2⟩
    · have an : gvR (gi h 188 k.toNat) (vw (RC h 178 0)) < 0 := by unfold gvR at e2 ⊢; revert e2; (repeat' split) <;> intro e2 <;> omega
      have ar : r32 (gvR (gi h 188 k.toNat) (vw (RC h 178 0))) := by unfold gvR at an ⊢; (repeat' split) <;> omega
      refine x_if_lt 30 26 hK rfl rfl rfl (by omega) (fun c43 => ?_) (fun c43 => ?_)
      · refine x_iconst 31 hK rfl rfl ?_
        have y1 : gi h2 171 31 = gi h 171 31 := FRM_gi hF2 (r := 54) rfl rfl
        have y2 : gi h2 171 32 = gi h 171 32 := FRM_gi hF2 (r := 54) rfl rfl
        rw [if_pos (by omega)] at dr dw dh
        exact x_zret hK rfl (by omega) ⟨Or.inr ⟨dr.trans (decide_eq_false e2), rfl, s2, y1⟩, hG2, (hF2).mono rfl, wb2.mono (by omega), by omega, by omega⟩
      · refine x_iconst 27 hK rfl rfl ?_
        refine x_goto 31 hK rfl rfl ?_
        exfalso
        omega
    · have an := dlA_b h (gi h 178 0)
      refine x_if_lt 30 26 hK rfl rfl rfl (by omega) (fun c49 => ?_) (fun c49 => ?_)
      · refine x_iconst 31 hK rfl rfl ?_
        exfalso
        omega
      · refine x_iconst 27 hK rfl rfl ?_
        refine x_goto 31 hK rfl rfl ?_
        have y1 : gi h2 171 31 = gi h 171 31 := FRM_gi hF2 (r := 54) rfl rfl
        have y2 : gi h2 171 32 = gi h 171 32 := FRM_gi hF2 (r := 54) rfl rfl
        rw [if_pos (by omega)] at dr dw dh
        exact x_zret hK rfl (by omega) ⟨Or.inl ⟨dr.trans (decide_eq_true e2), rfl, by rw [dw]; exact s2, by rw [dh, y1]; omega⟩, hG2, (hF2).mono rfl, wb2.mono (by omega), by omega, by omega⟩
theorem aw_at {b : Int} {h h1 : aH} (w : AW b h) (f0 : RC h1 186 (57 * (gi h 171 29).toNat) = RC h 178 0) (f1 : ∀ v, v ≠ (gi h 171 29).toNat → RC h1 186 (57 * v) = RC h 186 (57 * v)) (v : Nat) (hv : v < 16) : WB b (RC h1 186 (57 * v)) := by
  by_cases c : v = (gi h 171 29).toNat
  · rw [c, f0]; exact w.1
  · rw [f1 v c]; exact w.2.1 v hv
set_option maxRecDepth 4000 in
theorem ctX11_voyageF (hSP : MONO SPt) {sh : List (Nat × Nat)} {h : aH} (hG : GD gE gRL sh h) {b : Int} (hX : XI h) (hu : 0 ≤ gi h 171 29 ∧ gi h 171 29 ≤ 15) (aw : AW b h) (hb : b ≤ 400000) : CLd SPt 10 mX11_voyage [.ref 171] h 0 0 (fun rv h' => (((fltF (gi h 171 17) 60 (rdAs (txF (gi h 180) (min (gi h 171 17) 60)) (min (gi h 171 17) 60) 60 0).1) < 0 ∧ rv = some (.int (I (fltF (gi h 171 17) 60 (rdAs (txF (gi h 180) (min (gi h 171 17) 60)) (min (gi h 171 17) 60) 60 0).1))) ∧ RC h' 178 0 = RC h 178 0 ∧ UL h' = UL h ∧ mrow h' = mrow h) ∨ ((fltF (gi h 171 17) 60 (rdAs (txF (gi h 180) (min (gi h 171 17) 60)) (min (gi h 171 17) 60) 60 0).1) = 0 ∧ rv = some (.int (I (((vyI (dlA h) (gi h 171 5) (gi h 175) (gi h 176) (gi h 171 6).toNat (gi h 171 7) (gi h 177) (rdAs (txF (gi h 180) (min (gi h 171 17) 60)) (min (gi h 171 17) 60) 60 0).2 (vw (RC h 178 0))).1 : Nat) : Int))) ∧ vw (RC h' 178 0) = (vyI (dlA h) (gi h 171 5) (gi h 175) (gi h 176) (gi h 171 6).toNat (gi h 171 7) (gi h 177) (rdAs (txF (gi h 180) (min (gi h 171 17) 60)) (min (gi h 171 17) 60) 60 0).2 (vw (RC h 178 0))).2.1 ∧ UL h' = (if 0 < (vyI (dlA h) (gi h 171 5) (gi h 175) (gi h 176) (gi h 171 6).toNat (gi h 171 7) (gi h 177) (rdAs (txF (gi h 180) (min (gi h 171 17) 60)) (min (gi h 171 17) 60) 60 0).2 (vw (RC h 178 0))).1 then pushU (UL h) (RC h 178 0) else UL h) ∧ mrow h' = [if (vyI (dlA h) (gi h 171 5) (gi h 175) (gi h 176) (gi h 171 6).toNat (gi h 171 7) (gi h 177) (rdAs (txF (gi h 180) (min (gi h 171 17) 60)) (min (gi h 171 17) 60) 60 0).2 (vw (RC h 178 0))).1 < (rdAs (txF (gi h 180) (min (gi h 171 17) 60)) (min (gi h 171 17) 60) 60 0).2.length then 1 else 0, (vyI (dlA h) (gi h 171 5) (gi h 175) (gi h 176) (gi h 171 6).toNat (gi h 171 7) (gi h 177) (rdAs (txF (gi h 180) (min (gi h 171 17) 60)) (min (gi h 171 17) 60) 60 0).2 (vw (RC h 178 0))).2.2])) ∧ GD gE gRL sh h' ∧ FRM gRL [(0, 54, 0, 0), (0, 54, 1, 1), (0, 54, 17, 20), (0, 54, 29, 29), (0, 54, 31, 32), (0, 54, 35, 35), (0, 61, 0, 56), (0, 67, 0, 79), (0, 68, 0, 3), (0, 69, 0, 911), (0, 70, 0, 59), (0, 71, 0, 59), (1, 55, 0, 39)] h h' ∧ gi h' 171 0 = 0 ∧ gi h' 171 17 = 0 ∧ (0 ≤ gi h' 171 29 ∧ gi h' 171 29 ≤ 15) ∧ AW (b + 540) h') := by
  refine x_met _ rfl (Nat.le_of_ble_eq_true rfl) (fun K hK => ?_)
  have hmono := MONO_CLd hSP 9
  have gsz := gri 0 80 hG (a := 171) (r := 54) (k := 17) rfl rfl
  obtain ⟨T, hT⟩ : ∃ T, (txF (gi h 180) (min (gi h 171 17) 60)) = T := ⟨_, rfl⟩
  obtain ⟨RR, hRR⟩ : ∃ RR, rdAs T (min (gi h 171 17) 60) 60 0 = RR := ⟨_, rfl⟩
  obtain ⟨V, hV⟩ : ∃ V, vyI (dlA h) (gi h 171 5) (gi h 175) (gi h 176) (gi h 171 6).toNat (gi h 171 7) (gi h 177) RR.2 (vw (RC h 178 0)) = V := ⟨_, rfl⟩
  rw [hT, hRR, hV] at hK
  have vl := vyI_l (dlA h) (gi h 171 5) (gi h 175) (gi h 176) (gi h 171 6).toNat (gi h 171 7) (gi h 177) RR.2 (vw (RC h 178 0))
  rw [hV] at vl
  have end1 : ∀ (k : Int) (h5 : aH) (ls : List (Nat × Value)), (0 ≤ k ∧ k ≤ (RR.2.length : Nat)) → ((V.1 : Int) = k) → (vw (RC h5 178 0) = V.2.1) → (gi h5 171 31 = V.2.2 ∧ 0 ≤ V.2.2 ∧ V.2.2 ≤ 100000) → (WB (b + 540) (RC h5 178 0)) → (gi h5 171 0 = 0) → (gi h5 171 17 = 0) → (gi h5 171 29 = gi h 171 29) → (RC h5 186 (57 * (gi h 171 29).toNat) = RC h 178 0) → (∀ v, v ≠ (gi h 171 29).toNat → RC h5 186 (57 * v) = RC h 186 (57 * v)) → (∀ v, RC h5 200 v = RC h 200 v) → (gi h5 171 35 = (RR.2.length : Nat)) → (fltF (gi h 171 17) 60 RR.1 = 0) → (RR.2.length ≤ 60) → lk ls 0 = some (.ref 171) → lk ls 4 = some (.int (I k)) → GD gE gRL sh h5 → FRM gRL [(0, 54, 0, 0), (0, 54, 1, 1), (0, 54, 17, 20), (0, 54, 29, 29), (0, 54, 31, 32), (0, 54, 35, 35), (0, 61, 0, 56), (0, 67, 0, 79), (0, 68, 0, 3), (0, 69, 0, 911), (0, 70, 0, 59), (0, 71, 0, 59), (1, 55, 0, 39)] h h5 → K 92 ls [] h5 0 0 := by
    intro k h5 ls k0 v1 v2 v3 wb5 t5 z5 u5 q0 q1 q2 n5 f0 l60 l0 l4 hG5 hF5
    refine x_aload_n 93 hK rfl rfl l0 ?_
    refine x_iconst 94 hK rfl rfl ?_
    refine x_putI 97 hK rfl rfl (sp_171 (h := h5) hG5) ?_
    refine x_aload_n 98 hK rfl rfl l0 ?_
    refine x_iload 100 hK rfl rfl l4 ?_
    refine x_aload_n 101 hK rfl rfl l0 ?_
    refine x_getE 104 hK rfl (Or.inl rfl) rfl (sp_171 (h := h5) hG5) (e := ((RR.2.length : Nat) : Int)) ((gi_k (by decide) _).trans (n5)) ?_
    refine x_if_icmp_ge 111 107 hK rfl rfl rfl (by omega) (by omega) (fun c8 => ?_) (fun c8 => ?_)
    · refine x_iconst 112 hK rfl rfl ?_
      have hGp222 : GD gE gRL sh (wI h5 171 1 0) := GD_w1 (hG5) (r := 54) rfl (by omega) rfl (by omega) (by omega)
      refine x_callS 115 hK hmono rfl (Or.inl rfl) rfl [.int (I 0)] [.ref 171] rfl rfl (Nat.le_of_ble_eq_true rfl) (Nat.le_of_ble_eq_true rfl) (CLd_le (Nat.le_of_ble_eq_true rfl) (ctX11_flag (by omega))) ?_
      rintro v9 h9 ⟨e9, rfl⟩
      rw [e9]
      clear e9
      refine x_i2l 116 hK rfl rfl (by omega) ?_
      have hGp224 : GD gE gRL sh (wI h5 171 1 0) := GD_w1 (hG5) (r := 54) rfl (by omega) rfl (by omega) (by omega)
      have z226 : gi (wI h5 171 1 0) 171 1 = 0 := gi_same (by omega)
      have z226r : mrow (wI h5 171 1 0) = [] := mrow_0 (gi_same (by omega))
      refine x_callV 119 hK hmono rfl rfl [.ref 171, .long (J 0)] [] rfl rfl (Nat.le_of_ble_eq_true rfl) (Nat.le_of_ble_eq_true rfl) rfl (sp_171 (h := h5) hG5) (CLd_le (Nat.le_of_ble_eq_true rfl) (ctX11_entersF hSP hGp224 (by omega) (by omega))) ?_
      rintro v225 h225 ⟨rfl, hG225, hF225, t225, s225⟩
      rw [z226] at t225
      rw [z226r] at s225
      replace t225 : gi h225 171 1 = 1 := t225
      change mrow h225 = [0] at s225
      refine x_aload_n 120 hK rfl rfl l0 ?_
      refine x_aload_n 121 hK rfl rfl l0 ?_
      refine x_getE 124 hK rfl (Or.inl rfl) rfl (sp_171 (h := h225) hG225) (e := V.2.2) ((FRM_gi hF225 (r := 54) rfl rfl).trans ((gi_k (by decide) _).trans (v3.1))) ?_
      refine x_i2l 125 hK rfl rfl (by omega) ?_
      have z228 : gi h225 171 1 = 1 := t225
      have z228r : mrow h225 = [0] := s225
      refine x_callV 128 hK hmono rfl rfl [.ref 171, .long (J V.2.2)] [] rfl rfl (Nat.le_of_ble_eq_true rfl) (Nat.le_of_ble_eq_true rfl) rfl (sp_171 (h := h225) hG225) (CLd_le (Nat.le_of_ble_eq_true rfl) (ctX11_entersF hSP hG225 (by omega) (by omega))) ?_
      rintro v227 h227 ⟨rfl, hG227, hF227, t227, s227⟩
      rw [z228] at t227
      rw [z228r] at s227
      replace t227 : gi h227 171 1 = 2 := t227
      change mrow h227 = [0, V.2.2] at s227
      refine x_iload 130 hK rfl rfl l4 ?_
      refine x_if_le 142 133 hK rfl rfl rfl (by omega) (fun c19 => ?_) (fun c19 => ?_)
      · refine x_iconst 143 hK rfl rfl ?_
        have y1 : RC h227 178 0 = RC h5 178 0 := (((RC_F hF227 (r := 61) rfl rfl 0)).trans (RC_F hF225 (r := 61) rfl rfl 0)).trans (RC_w (by decide))
        have y2 : ∀ v, RC h227 186 v = RC h5 186 v := fun v => (((RC_F hF227 (r := 69) rfl rfl v)).trans (RC_F hF225 (r := 69) rfl rfl v)).trans (RC_w (by decide))
        have y3 : ∀ v, RC h227 200 v = RC h5 200 v := fun v => (((RC_F hF227 (r := 83) rfl rfl v)).trans (RC_F hF225 (r := 83) rfl rfl v)).trans (RC_w (by decide))
        have q0b : RC h227 186 (57 * (gi h 171 29).toNat) = RC h 178 0 := (y2 _).trans q0
        have q1b : ∀ v, v ≠ (gi h 171 29).toNat → RC h227 186 (57 * v) = RC h 186 (57 * v) := fun v hv => (y2 _).trans (q1 v hv)
        have fl : (if V.1 < RR.2.length then (1 : Int) else 0) = 0 := by first | rw [if_pos (by omega)] | rw [if_neg (by omega)]
        have ua : gi h227 171 29 = gi h 171 29 := (FRM_gi hF227 (r := 54) rfl rfl).trans ((FRM_gi hF225 (r := 54) rfl rfl).trans ((gi_k (by decide) _).trans (u5)))
        have mr : mrow h227 = [0, V.2.2] := s227
        exact x_iret hK rfl ⟨Or.inr ⟨f0, by rw [v1, show k = 0 by omega], by rw [y1]; exact v2, by rw [if_neg (by omega)]; exact UL_eq ua fun v hv => q1b v (by omega), by rw [fl]; exact mr⟩, hG227, ((FRM_w (hF5) (r := 54) rfl rfl).trans ((hF225).mono rfl)).trans ((hF227).mono rfl), (FRM_gi hF227 (r := 54) rfl rfl).trans ((FRM_gi hF225 (r := 54) rfl rfl).trans ((gi_k (by decide) _).trans (t5))), (FRM_gi hF227 (r := 54) rfl rfl).trans ((FRM_gi hF225 (r := 54) rfl rfl).trans ((gi_k (by decide) _).trans (z5))), by rw [ua]; exact hu, ⟨by rw [y1]; exact wb5, fun v hv => aw_at (aw.mono (by omega)) q0b q1b v hv, fun v hv => by rw [y3, q2]; exact (aw.2.2 v hv).mono (by omega)⟩⟩
      · refine x_aload_n 134 hK rfl rfl l0 ?_
        refine x_iload 136 hK rfl rfl l4 ?_
        have ua : gi h227 171 29 = gi h 171 29 := (FRM_gi hF227 (r := 54) rfl rfl).trans ((FRM_gi hF225 (r := 54) rfl rfl).trans ((gi_k (by decide) _).trans (u5)))
        have ra : mrow h227 = [0, V.2.2] := s227
        have ta : gi h227 171 0 = 0 := (FRM_gi hF227 (r := 54) rfl rfl).trans ((FRM_gi hF225 (r := 54) rfl rfl).trans ((gi_k (by decide) _).trans (t5)))
        have zz : gi h227 171 17 = 0 := (FRM_gi hF227 (r := 54) rfl rfl).trans ((FRM_gi hF225 (r := 54) rfl rfl).trans ((gi_k (by decide) _).trans (z5)))
        have fa : FRM gRL [(0, 54, 0, 0), (0, 54, 1, 1), (0, 54, 17, 20), (0, 54, 29, 29), (0, 54, 31, 32), (0, 54, 35, 35), (0, 61, 0, 56), (0, 67, 0, 79), (0, 68, 0, 3), (0, 69, 0, 911), (0, 70, 0, 59), (0, 71, 0, 59), (1, 55, 0, 39)] h h227 := ((FRM_w (hF5) (r := 54) rfl rfl).trans ((hF225).mono rfl)).trans ((hF227).mono rfl)
        refine x_callV 139 hK hmono rfl rfl [.ref 171, .int (I k)] [] rfl rfl (Nat.le_of_ble_eq_true rfl) (Nat.le_of_ble_eq_true rfl) rfl (sp_171 (h := h227) hG227) (CLd_le (Nat.le_of_ble_eq_true rfl) (ctX11_addsF hSP hG227 (by rw [ua]; exact hu))) ?_
        rintro v9 h9 ⟨rfl, hG9, hF9, a4, a5, a6⟩
        refine x_goto 143 hK rfl rfl ?_
        have y1 : RC h227 178 0 = RC h5 178 0 := (((RC_F hF227 (r := 61) rfl rfl 0)).trans (RC_F hF225 (r := 61) rfl rfl 0)).trans (RC_w (by decide))
        have y2 : ∀ v, RC h227 186 v = RC h5 186 v := fun v => (((RC_F hF227 (r := 69) rfl rfl v)).trans (RC_F hF225 (r := 69) rfl rfl v)).trans (RC_w (by decide))
        have y3 : ∀ v, RC h227 200 v = RC h5 200 v := fun v => (((RC_F hF227 (r := 83) rfl rfl v)).trans (RC_F hF225 (r := 83) rfl rfl v)).trans (RC_w (by decide))
        have q0b : RC h227 186 (57 * (gi h 171 29).toNat) = RC h 178 0 := (y2 _).trans q0
        have q1b : ∀ v, v ≠ (gi h 171 29).toNat → RC h227 186 (57 * v) = RC h 186 (57 * v) := fun v hv => (y2 _).trans (q1 v hv)
        have fl : (if V.1 < RR.2.length then (1 : Int) else 0) = 0 := by first | rw [if_pos (by omega)] | rw [if_neg (by omega)]
        have x1 : RC h9 178 0 = RC h5 178 0 := (RC_F hF9 (r := 61) rfl rfl 0).trans y1
        have mr : mrow h9 = _ := (mrow_F hF9 rfl rfl).trans ra
        exact x_iret hK rfl ⟨Or.inr ⟨f0, by rw [v1], by rw [x1]; exact v2, by rw [if_pos (by omega)]; exact UL_push hu ua q0b q1b a4 a5 a6, by rw [fl]; exact mr⟩, hG9, fa.trans (hF9.mono rfl), (FRM_gi hF9 (r := 54) rfl rfl).trans ta, (FRM_gi hF9 (r := 54) rfl rfl).trans zz, by rw [a4, ua]; omega, AW_push (aw.mono (by omega)) hu (by rw [x1]; exact wb5) ua q0b q1b (fun v _ => (RC_F hF9 (r := 83) rfl rfl _).trans ((y3 _).trans (q2 _))) a5 a6⟩
    · refine x_iconst 108 hK rfl rfl ?_
      refine x_goto 112 hK rfl rfl ?_
      have hGp229 : GD gE gRL sh (wI h5 171 1 0) := GD_w1 (hG5) (r := 54) rfl (by omega) rfl (by omega) (by omega)
      refine x_callS 115 hK hmono rfl (Or.inl rfl) rfl [.int (I 1)] [.ref 171] rfl rfl (Nat.le_of_ble_eq_true rfl) (Nat.le_of_ble_eq_true rfl) (CLd_le (Nat.le_of_ble_eq_true rfl) (ctX11_flag (by omega))) ?_
      rintro v9 h9 ⟨e9, rfl⟩
      rw [e9]
      clear e9
      refine x_i2l 116 hK rfl rfl (by omega) ?_
      have hGp231 : GD gE gRL sh (wI h5 171 1 0) := GD_w1 (hG5) (r := 54) rfl (by omega) rfl (by omega) (by omega)
      have z233 : gi (wI h5 171 1 0) 171 1 = 0 := gi_same (by omega)
      have z233r : mrow (wI h5 171 1 0) = [] := mrow_0 (gi_same (by omega))
      refine x_callV 119 hK hmono rfl rfl [.ref 171, .long (J 1)] [] rfl rfl (Nat.le_of_ble_eq_true rfl) (Nat.le_of_ble_eq_true rfl) rfl (sp_171 (h := h5) hG5) (CLd_le (Nat.le_of_ble_eq_true rfl) (ctX11_entersF hSP hGp231 (by omega) (by omega))) ?_
      rintro v232 h232 ⟨rfl, hG232, hF232, t232, s232⟩
      rw [z233] at t232
      rw [z233r] at s232
      replace t232 : gi h232 171 1 = 1 := t232
      change mrow h232 = [1] at s232
      refine x_aload_n 120 hK rfl rfl l0 ?_
      refine x_aload_n 121 hK rfl rfl l0 ?_
      refine x_getE 124 hK rfl (Or.inl rfl) rfl (sp_171 (h := h232) hG232) (e := V.2.2) ((FRM_gi hF232 (r := 54) rfl rfl).trans ((gi_k (by decide) _).trans (v3.1))) ?_
      refine x_i2l 125 hK rfl rfl (by omega) ?_
      have z235 : gi h232 171 1 = 1 := t232
      have z235r : mrow h232 = [1] := s232
      refine x_callV 128 hK hmono rfl rfl [.ref 171, .long (J V.2.2)] [] rfl rfl (Nat.le_of_ble_eq_true rfl) (Nat.le_of_ble_eq_true rfl) rfl (sp_171 (h := h232) hG232) (CLd_le (Nat.le_of_ble_eq_true rfl) (ctX11_entersF hSP hG232 (by omega) (by omega))) ?_
      rintro v234 h234 ⟨rfl, hG234, hF234, t234, s234⟩
      rw [z235] at t234
      rw [z235r] at s234
      replace t234 : gi h234 171 1 = 2 := t234
      change mrow h234 = [1, V.2.2] at s234
      refine x_iload 130 hK rfl rfl l4 ?_
      refine x_if_le 142 133 hK rfl rfl rfl (by omega) (fun c38 => ?_) (fun c38 => ?_)
      · refine x_iconst 143 hK rfl rfl ?_
        have y1 : RC h234 178 0 = RC h5 178 0 := (((RC_F hF234 (r := 61) rfl rfl 0)).trans (RC_F hF232 (r := 61) rfl rfl 0)).trans (RC_w (by decide))
        have y2 : ∀ v, RC h234 186 v = RC h5 186 v := fun v => (((RC_F hF234 (r := 69) rfl rfl v)).trans (RC_F hF232 (r := 69) rfl rfl v)).trans (RC_w (by decide))
        have y3 : ∀ v, RC h234 200 v = RC h5 200 v := fun v => (((RC_F hF234 (r := 83) rfl rfl v)).trans (RC_F hF232 (r := 83) rfl rfl v)).trans (RC_w (by decide))
        have q0b : RC h234 186 (57 * (gi h 171 29).toNat) = RC h 178 0 := (y2 _).trans q0
        have q1b : ∀ v, v ≠ (gi h 171 29).toNat → RC h234 186 (57 * v) = RC h 186 (57 * v) := fun v hv => (y2 _).trans (q1 v hv)
        have fl : (if V.1 < RR.2.length then (1 : Int) else 0) = 1 := by first | rw [if_pos (by omega)] | rw [if_neg (by omega)]
        have ua : gi h234 171 29 = gi h 171 29 := (FRM_gi hF234 (r := 54) rfl rfl).trans ((FRM_gi hF232 (r := 54) rfl rfl).trans ((gi_k (by decide) _).trans (u5)))
        have mr : mrow h234 = [1, V.2.2] := s234
        exact x_iret hK rfl ⟨Or.inr ⟨f0, by rw [v1, show k = 0 by omega], by rw [y1]; exact v2, by rw [if_neg (by omega)]; exact UL_eq ua fun v hv => q1b v (by omega), by rw [fl]; exact mr⟩, hG234, ((FRM_w (hF5) (r := 54) rfl rfl).trans ((hF232).mono rfl)).trans ((hF234).mono rfl), (FRM_gi hF234 (r := 54) rfl rfl).trans ((FRM_gi hF232 (r := 54) rfl rfl).trans ((gi_k (by decide) _).trans (t5))), (FRM_gi hF234 (r := 54) rfl rfl).trans ((FRM_gi hF232 (r := 54) rfl rfl).trans ((gi_k (by decide) _).trans (z5))), by rw [ua]; exact hu, ⟨by rw [y1]; exact wb5, fun v hv => aw_at (aw.mono (by omega)) q0b q1b v hv, fun v hv => by rw [y3, q2]; exact (aw.2.2 v hv).mono (by omega)⟩⟩
      · refine x_aload_n 134 hK rfl rfl l0 ?_
        refine x_iload 136 hK rfl rfl l4 ?_
        have ua : gi h234 171 29 = gi h 171 29 := (FRM_gi hF234 (r := 54) rfl rfl).trans ((FRM_gi hF232 (r := 54) rfl rfl).trans ((gi_k (by decide) _).trans (u5)))
        have ra : mrow h234 = [1, V.2.2] := s234
        have ta : gi h234 171 0 = 0 := (FRM_gi hF234 (r := 54) rfl rfl).trans ((FRM_gi hF232 (r := 54) rfl rfl).trans ((gi_k (by decide) _).trans (t5)))
        have zz : gi h234 171 17 = 0 := (FRM_gi hF234 (r := 54) rfl rfl).trans ((FRM_gi hF232 (r := 54) rfl rfl).trans ((gi_k (by decide) _).trans (z5)))
        have fa : FRM gRL [(0, 54, 0, 0), (0, 54, 1, 1), (0, 54, 17, 20), (0, 54, 29, 29), (0, 54, 31, 32), (0, 54, 35, 35), (0, 61, 0, 56), (0, 67, 0, 79), (0, 68, 0, 3), (0, 69, 0, 911), (0, 70, 0, 59), (0, 71, 0, 59), (1, 55, 0, 39)] h h234 := ((FRM_w (hF5) (r := 54) rfl rfl).trans ((hF232).mono rfl)).trans ((hF234).mono rfl)
        refine x_callV 139 hK hmono rfl rfl [.ref 171, .int (I k)] [] rfl rfl (Nat.le_of_ble_eq_true rfl) (Nat.le_of_ble_eq_true rfl) rfl (sp_171 (h := h234) hG234) (CLd_le (Nat.le_of_ble_eq_true rfl) (ctX11_addsF hSP hG234 (by rw [ua]; exact hu))) ?_
        rintro v9 h9 ⟨rfl, hG9, hF9, a4, a5, a6⟩
        refine x_goto 143 hK rfl rfl ?_
        have y1 : RC h234 178 0 = RC h5 178 0 := (((RC_F hF234 (r := 61) rfl rfl 0)).trans (RC_F hF232 (r := 61) rfl rfl 0)).trans (RC_w (by decide))
        have y2 : ∀ v, RC h234 186 v = RC h5 186 v := fun v => (((RC_F hF234 (r := 69) rfl rfl v)).trans (RC_F hF232 (r := 69) rfl rfl v)).trans (RC_w (by decide))
        have y3 : ∀ v, RC h234 200 v = RC h5 200 v := fun v => (((RC_F hF234 (r := 83) rfl rfl v)).trans (RC_F hF232 (r := 83) rfl rfl v)).trans (RC_w (by decide))
        have q0b : RC h234 186 (57 * (gi h 171 29).toNat) = RC h 178 0 := (y2 _).trans q0
        have q1b : ∀ v, v ≠ (gi h 171 29).toNat → RC h234 186 (57 * v) = RC h 186 (57 * v) := fun v hv => (y2 _).trans (q1 v hv)
        have fl : (if V.1 < RR.2.length then (1 : Int) else 0) = 1 := by first | rw [if_pos (by omega)] | rw [if_neg (by omega)]
        have x1 : RC h9 178 0 = RC h5 178 0 := (RC_F hF9 (r := 61) rfl rfl 0).trans y1
        have mr : mrow h9 = _ := (mrow_F hF9 rfl rfl).trans ra
        exact x_iret hK rfl ⟨Or.inr ⟨f0, by rw [v1], by rw [x1]; exact v2, by rw [if_pos (by omega)]; exact UL_push hu ua q0b q1b a4 a5 a6, by rw [fl]; exact mr⟩, hG9, fa.trans (hF9.mono rfl), (FRM_gi hF9 (r := 54) rfl rfl).trans ta, (FRM_gi hF9 (r := 54) rfl rfl).trans zz, by rw [a4, ua]; omega, AW_push (aw.mono (by omega)) hu (by rw [x1]; exact wb5) ua q0b q1b (fun v _ => (RC_F hF9 (r := 83) rfl rfl _).trans ((y3 _).trans (q2 _))) a5 a6⟩
  have loop2 : ∀ (mz : Nat) (k : Int) (h4 : aH) (ls : List (Nat × Value)), (((RR.2.length : Int) - k).toNat = mz) → (0 ≤ k ∧ k ≤ (RR.2.length : Nat)) → ((V.1 : Int) = k + ((vyI (dlA h) (gi h 171 5) (gi h 175) (gi h 176) (gi h 171 6).toNat (gi h 171 7) (gi h 177) (RR.2.drop k.toNat) (vw (RC h4 178 0))).1 : Nat)) → (V.2.1 = (vyI (dlA h) (gi h 171 5) (gi h 175) (gi h 176) (gi h 171 6).toNat (gi h 171 7) (gi h 177) (RR.2.drop k.toNat) (vw (RC h4 178 0))).2.1) → (V.2.2 = gi h4 171 31 + (vyI (dlA h) (gi h 171 5) (gi h 175) (gi h 176) (gi h 171 6).toNat (gi h 171 7) (gi h 177) (RR.2.drop k.toNat) (vw (RC h4 178 0))).2.2) → (WB (b + 9 * k) (RC h4 178 0)) → (0 ≤ gi h4 171 31 ∧ gi h4 171 31 ≤ 144 * k) → (0 ≤ gi h4 171 32 ∧ gi h4 171 32 ≤ 72 * k) → (acL h4 RR.2.length = RR.2) → (gi h4 171 0 = 0) → (gi h4 171 17 = 0) → (gi h4 171 29 = gi h 171 29) → (RC h4 186 (57 * (gi h 171 29).toNat) = RC h 178 0) → (∀ v, v ≠ (gi h 171 29).toNat → RC h4 186 (57 * v) = RC h 186 (57 * v)) → (∀ v, RC h4 200 v = RC h 200 v) → (gi h4 171 35 = (RR.2.length : Nat)) → (fltF (gi h 171 17) 60 RR.1 = 0) → (RR.2.length ≤ 60) → lk ls 0 = some (.ref 171) → lk ls 4 = some (.int (I k)) → GD gE gRL sh h4 → FRM gRL [(0, 54, 0, 0), (0, 54, 1, 1), (0, 54, 17, 20), (0, 54, 29, 29), (0, 54, 31, 32), (0, 54, 35, 35), (0, 61, 0, 56), (0, 67, 0, 79), (0, 68, 0, 3), (0, 69, 0, 911), (0, 70, 0, 59), (0, 71, 0, 59), (1, 55, 0, 39)] h h4 → K 68 ls [] h4 0 0 := by
    intro mz
    induction mz using Nat.strongRecOn with
    | ind mz ih =>
    intro k h4 ls hm k0 v1 v2 v3 wb4 s31 s32 al t4 z4 u4 q0 q1 q2 n4 f0 l60 l0 l4 hG4 hF4
    have hX4 : XI h4 := xOk_ok rfl h h4 hF4 hX
    refine x_iload 70 hK rfl rfl l4 ?_
    refine x_aload_n 71 hK rfl rfl l0 ?_
    refine x_getE 74 hK rfl (Or.inl rfl) rfl (sp_171 (h := h4) hG4) (e := ((RR.2.length : Nat) : Int)) (n4) ?_
    refine x_if_icmp_ge 92 77 hK rfl rfl rfl (by omega) (by omega) (fun c4 => ?_) (fun c4 => ?_)
    · have kn : k.toNat = RR.2.length := by omega
      rw [kn, List.drop_length] at v1 v2 v3
      unfold vyI at v1 v2 v3
      have v1b : (V.1 : Int) = k + ((0 : Nat) : Int) := v1
      have v3b : V.2.2 = gi h4 171 31 + 0 := v3
      exact end1 k _ _ (by omega) ((by omega)) (v2.symm) (⟨by omega, by omega, by omega⟩) ((wb4.mono (by omega))) (t4) (z4) (u4) (q0) (q1) (q2) (n4) (f0) (l60) l0 l4 (hG4) (hF4)
    · refine x_aload_n 78 hK rfl rfl l0 ?_
      refine x_iload 80 hK rfl rfl l4 ?_
      have ad : RR.2.drop k.toNat = (gi h4 187 k.toNat, gi h4 188 k.toNat) :: RR.2.drop (k.toNat + 1) := by
        have z := acL_drop (h := h4) (n := RR.2.length) (k := k.toNat) (by omega)
        rw [al] at z
        exact z
      rw [ad] at v1 v2 v3
      unfold vyI at v1 v2 v3
      refine x_callV 83 hK hmono rfl rfl [.ref 171, .int (I k)] [] rfl rfl (Nat.le_of_ble_eq_true rfl) (Nat.le_of_ble_eq_true rfl) rfl (sp_171 (h := h4) hG4) (CLd_le (Nat.le_of_ble_eq_true rfl) (ctX11_doesF hSP hG4 hX4 (k := k) (by omega) wb4 (by omega) (by omega) (by omega))) ?_
      rw [show gi h4 175 = gi h 175 from funext fun j => FRM_gi hF4 (r := 58) rfl rfl, show gi h4 176 = gi h 176 from funext fun j => FRM_gi hF4 (r := 59) rfl rfl, show gi h4 171 6 = gi h 171 6 from FRM_gi hF4 (r := 54) rfl rfl, show gi h4 171 7 = gi h 171 7 from FRM_gi hF4 (r := 54) rfl rfl, show gi h4 177 = gi h 177 from funext fun j => FRM_gi hF4 (r := 60) rfl rfl, show gi h4 171 5 = gi h 171 5 from FRM_gi hF4 (r := 54) rfl rfl, show dlA h4 = dlA h from funext fun s => dlA_F hF4 rfl s]
      rintro v6 h6 ⟨⟨d1, rfl, d2, d3⟩ | ⟨d1, rfl, d2, d3⟩, hG6, hF6, wb6, y31, y32⟩
      · rw [if_pos d1] at v1 v2 v3
        rw [← d2] at v1 v2 v3
        refine x_if_eq 92 86 hK rfl rfl rfl (by omega) (fun c => by omega) (fun _ => ?_)
        refine x_iinc 89 hK rfl rfl l4 _ rfl ?_
        refine x_goto 68 hK rfl rfl ?_
        exact ih _ (by omega) (k + 1) _ _ rfl (by omega) ((by rw [tn_s k0.1]; omega)) ((by rw [tn_s k0.1]; exact v2)) ((v3.trans (by rw [tn_s k0.1]; show gi h4 171 31 + (_ + _) = gi h6 171 31 + _; rw [d3]; omega))) ((by rw [show b + 9 * (k + 1) = b + 9 * k + 9 by omega]; exact wb6)) (by omega) (by omega) (((acL_congr fun j _ => ⟨FRM_gi hF6 (r := 70) rfl rfl, FRM_gi hF6 (r := 71) rfl rfl⟩).trans al)) ((FRM_gi hF6 (r := 54) rfl rfl).trans (t4)) ((FRM_gi hF6 (r := 54) rfl rfl).trans (z4)) ((FRM_gi hF6 (r := 54) rfl rfl).trans (u4)) (((RC_F hF6 (r := 69) rfl rfl _).trans q0)) ((fun v hv => (RC_F hF6 (r := 69) rfl rfl _).trans (q1 v hv))) ((fun v => (RC_F hF6 (r := 83) rfl rfl v).trans (q2 v))) ((FRM_gi hF6 (r := 54) rfl rfl).trans (n4)) (f0) (l60) (lk1_n l0 (by decide) (Or.inl rfl)) lk1_s (hG6) ((hF4).trans ((hF6).mono rfl))
      · rw [if_neg (by rw [d1]; exact Bool.noConfusion)] at v1 v2 v3
        refine x_if_eq 92 86 hK rfl rfl rfl (by omega) (fun _ => ?_) (fun c => by omega)
        have v1b : (V.1 : Int) = k + ((0 : Nat) : Int) := v1
        have v3b : V.2.2 = gi h4 171 31 + 0 := v3
        exact end1 k _ _ (by omega) ((by omega)) ((by rw [d2]; exact v2.symm)) (⟨by omega, by omega, by omega⟩) ((by rw [d2]; exact wb4.mono (by omega))) ((FRM_gi hF6 (r := 54) rfl rfl).trans (t4)) ((FRM_gi hF6 (r := 54) rfl rfl).trans (z4)) ((FRM_gi hF6 (r := 54) rfl rfl).trans (u4)) (((RC_F hF6 (r := 69) rfl rfl _).trans q0)) ((fun v hv => (RC_F hF6 (r := 69) rfl rfl _).trans (q1 v hv))) ((fun v => (RC_F hF6 (r := 83) rfl rfl v).trans (q2 v))) ((FRM_gi hF6 (r := 54) rfl rfl).trans (n4)) (f0) (l60) l0 l4 (hG6) ((hF4).trans ((hF6).mono rfl))
  have end0 : ∀ (is : Int) (h7 : aH) (ls : List (Nat × Value)), (is = b2i RR.1.1) → (gi h7 171 18 = RR.1.2) → (0 ≤ RR.1.2 ∧ RR.1.2 ≤ 80) → (gi h7 171 19 = min (gi h 171 17) 60) → (gi h7 171 0 = 0) → (gi h7 171 17 = 0) → (RR.1.1 = true → acL h7 (gi h7 171 35).toNat = RR.2) → lk ls 0 = some (.ref 171) → lk ls 1 = some (.int (I (gi h 171 17))) → lk ls 2 = some (.int (I is)) → GD gE gRL sh h7 → FRM gRL [(0, 54, 0, 0), (0, 54, 17, 20), (0, 54, 35, 35), (0, 70, 0, 59), (0, 71, 0, 59)] h h7 → K 42 ls [] h7 0 0 := by
    intro is h7 ls ib a7 a0 to7 t7 z7 n7 l0 l1 l2 hG7 hF7
    have g35 := gri 0 60 hG7 (a := 171) (r := 54) (k := 35) rfl rfl
    have is01 := b2i_r RR.1.1
    have fb := fltF_le (n := gi h 171 17) (most := 60) (r := RR.1) (by omega) a0.1
    refine x_aload_n 43 hK rfl rfl l0 ?_
    refine x_iload_n 44 hK rfl rfl l1 ?_
    refine x_bipush 46 hK rfl rfl rfl ?_
    refine x_iload_n 47 hK rfl rfl l2 ?_
    refine x_callV 50 hK hmono rfl rfl [.ref 171, .int (I (gi h 171 17)), .int (I 60), .int (I is)] [] rfl rfl (Nat.le_of_ble_eq_true rfl) (Nat.le_of_ble_eq_true rfl) rfl (sp_171 (h := h7) hG7) (CLd_le (Nat.le_of_ble_eq_true rfl) (ctX11_faultOf hSP hG7 (by omega) (by omega) (by omega))) ?_
    rintro v9 h9 ⟨e9, rfl⟩
    rw [e9, a7, to7]
    clear e9
    rw [show (if 60 < gi h 171 17 ∧ ((is = 1 ∧ RR.1.2 = min (gi h 171 17) 60) ∨ 60 ≤ RR.1.2) then -1 - 60 else if is = 1 ∧ RR.1.2 = min (gi h 171 17) 60 then 0 else -1 - RR.1.2) = fltF (gi h 171 17) 60 RR.1 from by rw [ib]; exact flt_i]
    have fr : r32 (fltF (gi h 171 17) 60 RR.1) := by unfold fltF at fb ⊢; (repeat' split) <;> omega
    refine x_istore_n 51 hK rfl rfl _ rfl ?_
    refine x_iload_n 52 hK rfl rfl lk1_s ?_
    refine x_if_ge 57 55 hK rfl rfl rfl (by omega) (fun c8 => ?_) (fun c8 => ?_)
    · refine x_aload_n 58 hK rfl rfl (lk1_n l0 (by decide) (Or.inl rfl)) ?_
      have f0 : fltF (gi h 171 17) 60 RR.1 = 0 := by omega
      have al7 := n7 (fltF_0 (n := gi h 171 17) (most := 60) (by omega) a0.1 f0).1
      have ln : RR.2.length = (gi h7 171 35).toNat := by rw [← al7, acL_l]
      have u7 : gi h7 171 29 = gi h 171 29 := FRM_gi hF7 (r := 54) rfl rfl
      refine x_callV 61 hK hmono rfl rfl [.ref 171] [] rfl rfl (Nat.le_of_ble_eq_true rfl) (Nat.le_of_ble_eq_true rfl) rfl (sp_171 (h := h7) hG7) (CLd_le (Nat.le_of_ble_eq_true rfl) (ctX11_putsByF hSP hG7 (by rw [u7]; exact hu))) ?_
      rintro v2 h2 ⟨rfl, hG2, hF2, p0, p1⟩
      rw [u7, show RC h7 178 0 = RC h 178 0 from RC_F hF7 (r := 61) rfl rfl 0] at p0
      rw [u7] at p1
      refine x_aload_n 62 hK rfl rfl (lk1_n l0 (by decide) (Or.inl rfl)) ?_
      refine x_callV 65 hK hmono rfl rfl [.ref 171] [] rfl rfl (Nat.le_of_ble_eq_true rfl) (Nat.le_of_ble_eq_true rfl) rfl (sp_171 (h := h2) hG2) (CLd_le (Nat.le_of_ble_eq_true rfl) (ctX11_startsCountingF hSP hG2)) ?_
      rintro v3 h3 ⟨rfl, hG3, hF3, z31, z32⟩
      refine x_iconst 66 hK rfl rfl ?_
      refine x_istore 68 hK rfl rfl _ rfl ?_
      have c178 : RC h3 178 0 = RC h 178 0 := (RC_F hF3 (r := 61) rfl rfl 0).trans ((RC_F hF2 (r := 61) rfl rfl 0).trans (RC_F hF7 (r := 61) rfl rfl 0))
      exact loop2 _ 0 _ _ rfl (⟨by omega, by omega⟩) ((by rw [c178, ← hV]; show _ = (0 : Int) + _; rw [Int.zero_add]; rfl)) ((by rw [c178, ← hV]; rfl)) ((by rw [c178, ← hV, z31, Int.zero_add]; rfl)) ((by rw [c178]; exact aw.1.mono (by omega))) ((by rw [z31]; omega)) ((by rw [z32]; omega)) ((by rw [ln]; exact (acL_congr fun j _ => ⟨(FRM_gi hF3 (r := 70) rfl rfl).trans (FRM_gi hF2 (r := 70) rfl rfl), (FRM_gi hF3 (r := 71) rfl rfl).trans (FRM_gi hF2 (r := 71) rfl rfl)⟩).trans al7)) ((FRM_gi hF3 (r := 54) rfl rfl).trans ((FRM_gi hF2 (r := 54) rfl rfl).trans (t7))) ((FRM_gi hF3 (r := 54) rfl rfl).trans ((FRM_gi hF2 (r := 54) rfl rfl).trans (z7))) ((FRM_gi hF3 (r := 54) rfl rfl).trans ((FRM_gi hF2 (r := 54) rfl rfl).trans (FRM_gi hF7 (r := 54) rfl rfl))) (((RC_F hF3 (r := 69) rfl rfl _).trans p0)) ((fun v hv => (RC_F hF3 (r := 69) rfl rfl _).trans ((p1 v hv).trans (RC_F hF7 (r := 69) rfl rfl _)))) ((fun v => (RC_F hF3 (r := 83) rfl rfl v).trans ((RC_F hF2 (r := 83) rfl rfl v).trans (RC_F hF7 (r := 83) rfl rfl v)))) ((((FRM_gi hF3 (r := 54) rfl rfl).trans (FRM_gi hF2 (r := 54) rfl rfl)).trans (by omega))) (f0) (by omega) (lk1_n (lk1_n l0 (by decide) (Or.inl rfl)) (by decide) (Or.inl rfl)) lk1_s (hG3) ((((hF7).mono rfl).trans ((hF2).mono rfl)).trans ((hF3).mono rfl))
    · refine x_iload_n 56 hK rfl rfl lk1_s ?_
      exact x_iret hK rfl ⟨Or.inl ⟨by omega, rfl, RC_F hF7 (r := 61) rfl rfl 0, UL_eq (FRM_gi hF7 (r := 54) rfl rfl) fun v _ => RC_F hF7 (r := 69) rfl rfl _, mrow_F hF7 rfl rfl⟩, hG7, (hF7).mono rfl, t7, z7, by rw [show gi h7 171 29 = gi h 171 29 from FRM_gi hF7 (r := 54) rfl rfl]; exact hu, (AW_F hF7 rfl aw).mono (by omega)⟩
  have loop1 : ∀ (mz : Nat) (h8 : aH) (ls : List (Nat × Value)), ((61 - gi h8 171 35).toNat = mz) → ((gi h8 171 18) ≤ min (gi h 171 17) 60) → (gi h8 171 35 ≤ gi h8 171 18) → (gi h8 171 19 = min (gi h 171 17) 60) → (gi h8 171 0 = 0) → (gi h8 171 17 = 0) → (RR.1 = (rdAs T (min (gi h 171 17) 60) (60 - gi h8 171 35).toNat (gi h8 171 18)).1) → (RR.2 = acL h8 (gi h8 171 35).toNat ++ (rdAs T (min (gi h 171 17) 60) (60 - gi h8 171 35).toNat (gi h8 171 18)).2) → lk ls 0 = some (.ref 171) → lk ls 1 = some (.int (I (gi h 171 17))) → lk ls 2 = some (.int (I 1)) → GD gE gRL sh h8 → FRM gRL [(0, 54, 0, 0), (0, 54, 17, 20), (0, 54, 35, 35), (0, 70, 0, 59), (0, 71, 0, 59)] h h8 → K 23 ls [] h8 0 0 := by
    intro mz
    induction mz using Nat.strongRecOn with
    | ind mz ih =>
    intro  h8 ls hm a8 c8 to8 t8 z8 e1 e2 l0 l1 l2 hG8 hF8
    have g35 := gri 0 60 hG8 (a := 171) (r := 54) (k := 35) rfl rfl
    have g18 := gri 0 81 hG8 (a := 171) (r := 54) (k := 18) rfl rfl
    have ft8 : fm h8 = T := by rw [fm_tx, to8, ← hT, show gi h8 180 = gi h 180 from funext fun k => FRM_gi hF8 (r := 63) rfl rfl]
    refine x_aload_n 24 hK rfl rfl l0 ?_
    have g236 := gri (0) (81) hG8 (a := 171) (r := 54) (k := 18) rfl rfl
    refine x_getE 27 hK rfl (Or.inl rfl) rfl (sp_171 (h := h8) hG8) (e := (gi h8 171 18)) (rfl) ?_
    refine x_aload_n 28 hK rfl rfl l0 ?_
    refine x_getE 31 hK rfl (Or.inl rfl) rfl (sp_171 (h := h8) hG8) (e := (min (gi h 171 17) 60)) (to8) ?_
    refine x_if_icmp_ge 42 34 hK rfl rfl rfl (by omega) (by omega) (fun c5 => ?_) (fun c5 => ?_)
    · have st : ∀ n, rdAs T (min (gi h 171 17) 60) n (gi h8 171 18) = ((true, (gi h8 171 18)), []) := fun n => by cases n with
        | zero => rfl
        | succ n => unfold rdAs; rw [if_pos (by omega)]
      rw [st] at e1 e2
      rw [List.append_nil] at e2
      exact end0 1 _ _ ((by rw [e1]; rfl)) ((by rw [e1])) ((by rw [e1]; show 0 ≤ (gi h8 171 18) ∧ (gi h8 171 18) ≤ 80; omega)) (to8) (t8) (z8) ((fun _ => e2.symm)) l0 l1 l2 (hG8) (hF8)
    · refine x_aload_n 35 hK rfl rfl l0 ?_
      obtain ⟨n, hn⟩ : ∃ n : Nat, (60 - gi h8 171 35).toNat = n + 1 := ⟨(60 - gi h8 171 35).toNat - 1, by omega⟩
      rw [hn] at e1 e2
      unfold rdAs at e1 e2
      rw [if_neg (by omega)] at e1 e2
      refine x_callV 38 hK hmono rfl rfl [.ref 171] [] rfl rfl (Nat.le_of_ble_eq_true rfl) (Nat.le_of_ble_eq_true rfl) rfl (sp_171 (h := h8) hG8) (CLd_le (Nat.le_of_ble_eq_true rfl) (ctX11_readsActF hSP hG8 (by omega) (by omega))) ?_
      rw [ft8, to8]
      rintro v9 h9 ⟨rfl, y1, y2, ya, yb, yc, hG9, hF9⟩
      cases hb : (rdAct T (gi h8 171 18)).1.1
      · rw [show b2i false = 0 from rfl]
        rw [if_neg (by rw [hb]; exact Bool.noConfusion)] at e1 e2
        refine x_istore_n 39 hK rfl rfl _ rfl ?_
        refine x_goto 19 hK rfl rfl ?_
        refine x_iload_n 20 hK rfl rfl lk1_s ?_
        refine x_if_eq 42 23 hK rfl rfl rfl (by omega) (fun _ => ?_) (fun c => by omega)
        have g18b := gri 0 81 hG9 (a := 171) (r := 54) (k := 18) rfl rfl
        exact end0 0 _ _ ((by rw [e1]; rfl)) ((by rw [e1]; exact y1)) ((by rw [e1]; show 0 ≤ (rdAct T (gi h8 171 18)).1.2 ∧ (rdAct T (gi h8 171 18)).1.2 ≤ 80; omega)) ((FRM_gi hF9 (r := 54) rfl rfl).trans (to8)) ((FRM_gi hF9 (r := 54) rfl rfl).trans (t8)) ((FRM_gi hF9 (r := 54) rfl rfl).trans (z8)) ((fun z => by rw [e1] at z; cases z)) (lk1_n l0 (by decide) (Or.inl rfl)) (lk1_n l1 (by decide) (Or.inl rfl)) lk1_s (hG9) ((hF8).trans ((hF9).mono rfl))
      · rw [show b2i true = 1 from rfl]
        obtain ⟨k1, k2, k3, k4, k5⟩ := y2 hb
        rw [if_pos hb] at e1 e2
        have rq : acL h9 (gi h9 171 35).toNat = acL h8 (gi h8 171 35).toNat ++ [(rdAct T (gi h8 171 18)).2] := by
          rw [show (gi h9 171 35).toNat = (gi h8 171 35).toNat + 1 by omega, acL_s, k2, k3]
          congr 1
          exact acL_congr fun j hj => k5 j (by omega)
        refine x_istore_n 39 hK rfl rfl _ rfl ?_
        refine x_goto 19 hK rfl rfl ?_
        refine x_iload_n 20 hK rfl rfl lk1_s ?_
        refine x_if_eq 42 23 hK rfl rfl rfl (by omega) (fun c => by omega) (fun _ => ?_)
        exact ih _ (by omega)  _ _ rfl (by omega) (by omega) ((FRM_gi hF9 (r := 54) rfl rfl).trans (to8)) ((FRM_gi hF9 (r := 54) rfl rfl).trans (t8)) ((FRM_gi hF9 (r := 54) rfl rfl).trans (z8)) ((by rw [e1, y1, show (60 - gi h9 171 35).toNat = n by omega])) ((by rw [e2, rq, y1, show (60 - gi h9 171 35).toNat = n by omega, List.append_assoc]; rfl)) (lk1_n l0 (by decide) (Or.inl rfl)) (lk1_n l1 (by decide) (Or.inl rfl)) lk1_s (hG9) ((hF8).trans ((hF9).mono rfl))
  refine x_aload_n 1 hK rfl rfl rfl ?_
  refine x_iconst 2 hK rfl rfl ?_
  refine x_putI 5 hK rfl rfl (sp_171 (h := h) hG) ?_
  refine x_aload_n 6 hK rfl rfl rfl ?_
  refine x_bipush 8 hK rfl rfl rfl ?_
  have hGp237 : GD gE gRL sh (wI h 171 0 0) := GD_w1 (hG) (r := 54) rfl (by omega) rfl (by omega) (by omega)
  have sz0 : gi (wI h 171 0 0) 171 17 = gi h 171 17 := gi_k (by decide) _
  refine x_callV 11 hK hmono rfl rfl [.ref 171, .int (I 60)] [] rfl rfl (Nat.le_of_ble_eq_true rfl) (Nat.le_of_ble_eq_true rfl) rfl (sp_171 (h := h) hG) (CLd_le (Nat.le_of_ble_eq_true rfl) (ctX11_begins hSP hGp237 (by omega))) ?_
  rintro v1 h1 ⟨rfl, hG1, hF1, b17, b18, b20, b19⟩
  rw [sz0] at b19 ⊢
  have f1 : fm h1 = txF (gi h 180) (min (gi h 171 17) 60) := by rw [fm_tx, b19, show gi h1 180 = gi h 180 from funext fun k => (FRM_gi hF1 (r := 63) rfl rfl).trans (gi_a (by decide) _)]
  refine x_istore_n 12 hK rfl rfl [(1, .int (I (gi h 171 17))), (0, .ref 171)] rfl ?_
  refine x_aload_n 13 hK rfl rfl rfl ?_
  refine x_iconst 14 hK rfl rfl ?_
  refine x_putI 17 hK rfl rfl (sp_171 (h := h1) hG1) ?_
  refine x_iconst 18 hK rfl rfl ?_
  refine x_istore_n 19 hK rfl rfl [(2, .int (I 1)), (1, .int (I (gi h 171 17))), (0, .ref 171)] rfl ?_
  refine x_iload_n 20 hK rfl rfl rfl ?_
  refine x_if_eq 42 23 hK rfl rfl rfl (by omega) (fun c => by omega) (fun _ => ?_)
  exact loop1 _  _ _ rfl ((by rw [show gi (wI h1 171 35 0) 171 18 = 0 from (gi_k (by decide) _).trans (b18)]; omega)) ((by rw [show gi (wI h1 171 35 0) 171 18 = 0 from (gi_k (by decide) _).trans (b18), show gi (wI h1 171 35 0) 171 35 = 0 from gi_same (by omega)]; omega)) ((gi_k (by decide) _).trans (b19)) ((gi_k (by decide) _).trans ((FRM_gi hF1 (r := 54) rfl rfl).trans (gi_same (by omega)))) ((gi_k (by decide) _).trans (b17)) ((by rw [show gi (wI h1 171 35 0) 171 35 = 0 from gi_same (by omega), show gi (wI h1 171 35 0) 171 18 = 0 from (gi_k (by decide) _).trans (b18), ← hRR]; rfl)) ((by rw [show gi (wI h1 171 35 0) 171 35 = 0 from gi_same (by omega), show gi (wI h1 171 35 0) 171 18 = 0 from (gi_k (by decide) _).trans (b18), ← hRR]; rfl)) rfl rfl rfl (GD_w1 (hG1) (r := 54) rfl (by omega) rfl (by omega) (by omega)) (FRM_w ((FRM_w ((FRM.rf : FRM gRL [(0, 54, 0, 0), (0, 54, 17, 20), (0, 54, 35, 35), (0, 70, 0, 59), (0, 71, 0, 59)] h h)) (r := 54) rfl rfl).trans ((hF1).mono rfl)) (r := 54) rfl rfl)
end
section
/-! FOOD THAT IS PASSED (the reference) -/
noncomputable def abZ (y : Int) : Int := if 0 ≤ y then y else -y
theorem abZ_b {y : Int} (h : -800 ≤ y ∧ y ≤ 800) : 0 ≤ abZ y ∧ abZ y ≤ 800 := by unfold abZ; split <;> omega
/-- FOOD of a MESS beyond what it EATS in n STEPS -/
noncomputable def spF (h : aH) (n : Int) (m : Nat) : Int := gi h 178 (41 + m) - n * gi h 177 m
theorem mul_b {n e a b : Int} (hn : 0 ≤ n ∧ n ≤ a) (he : 0 ≤ e ∧ e ≤ b) : 0 ≤ n * e ∧ n * e ≤ a * b := ⟨Int.mul_nonneg hn.1 he.1, Int.mul_le_mul hn.2 he.2 he.1 (by omega)⟩
noncomputable def mnR (g : Int → Int) : Nat → Int
  | 0 => 1000000
  | k + 1 => min (mnR g k) (g (-800 + k))
theorem mnR_s {g : Int → Int} {y : Int} (h : -800 ≤ y) : mnR g (y + 1 + 800).toNat = min (mnR g (y + 800).toNat) (g y) := by
  rw [show (y + 1 + 800).toNat = (y + 800).toNat + 1 by omega]
  show min _ (g (-800 + ((y + 800).toNat : Int))) = _
  rw [show -800 + ((y + 800).toNat : Int) = y by omega]
theorem mnR_le {g : Int → Int} : ∀ (n k : Nat), k < n → mnR g n ≤ g (-800 + k)
  | 0, k, h => absurd h (Nat.not_lt_zero _)
  | n + 1, k, h => by
    show min (mnR g n) (g (-800 + n)) ≤ _
    by_cases c : k = n
    · rw [c]; omega
    · have := mnR_le (g := g) n k (by omega); omega
theorem mnR_b {g : Int → Int} (hg : ∀ k : Nat, 0 ≤ g (-800 + k)) : ∀ n : Nat, 0 ≤ mnR g n ∧ mnR g n ≤ 1000000
  | 0 => by show (0 : Int) ≤ 1000000 ∧ (1000000 : Int) ≤ 1000000; omega
  | n + 1 => by
    have := mnR_b hg n
    have := hg n
    show 0 ≤ min (mnR g n) (g (-800 + n)) ∧ min (mnR g n) (g (-800 + n)) ≤ 1000000
    omega
theorem mnR_ex {g : Int → Int} : ∀ n : Nat, mnR g n < 1000000 → ∃ k : Nat, k < n ∧ g (-800 + k) = mnR g n
  | 0, h => absurd h (by show ¬ (1000000 : Int) < 1000000; omega)
  | n + 1, h => by
    show ∃ k : Nat, k < n + 1 ∧ g (-800 + k) = min (mnR g n) (g (-800 + n))
    by_cases c : mnR g n ≤ g (-800 + n)
    · have e : min (mnR g n) (g (-800 + n)) = mnR g n := by omega
      have h2 : mnR g n < 1000000 := by have h3 : min (mnR g n) (g (-800 + n)) < 1000000 := h; omega
      obtain ⟨k, h4, h5⟩ := mnR_ex n h2
      exact ⟨k, by omega, by rw [e]; exact h5⟩
    · exact ⟨n, by omega, by omega⟩
/-- the least that must be passed, from d MESSES ahead of the last on, when x comes to them -/
noncomputable def yF (sp : Nat → Int) (q : Nat) : Nat → Int → Int
  | 0, x => if 0 ≤ x + sp q then 0 else 1000000
  | d + 1, x => mnR (fun y => abZ y + yF sp q d y) (min 800 (x + sp (q - (d + 1))) + 801).toNat
theorem yF_nn (sp : Nat → Int) (q : Nat) : ∀ (d : Nat) (x : Int), 0 ≤ yF sp q d x ∧ yF sp q d x ≤ 1000000
  | 0, x => by show 0 ≤ (if 0 ≤ x + sp q then (0 : Int) else 1000000) ∧ (if 0 ≤ x + sp q then (0 : Int) else 1000000) ≤ 1000000; split <;> omega
  | d + 1, x => mnR_b (fun k => by
      have := (yF_nn sp q d (-800 + k)).1
      have : 0 ≤ abZ (-800 + k) := by unfold abZ; split <;> omega
      show 0 ≤ abZ (-800 + k) + yF sp q d (-800 + k)
      omega) _
theorem yF_s {sp : Nat → Int} {q : Nat} {m x : Int} (h0 : 0 ≤ m) (h1 : m < q) : yF sp q (q - m.toNat) x = mnR (fun y => abZ y + yF sp q (q - (m + 1).toNat) y) (min 800 (x + sp m.toNat) + 801).toNat := by
  obtain ⟨d, hd⟩ : ∃ d : Nat, q - m.toNat = d + 1 := ⟨q - m.toNat - 1, by omega⟩
  rw [hd, show q - (m + 1).toNat = d by omega]
  show mnR _ (min 800 (x + sp (q - (d + 1))) + 801).toNat = _
  rw [show q - (d + 1) = m.toNat by omega]
theorem fl_nn (sp : Nat → Int) (q d : Nat) (y : Int) : 0 ≤ abZ y + yF sp q d y := by
  have := (yF_nn sp q d y).1
  have : 0 ≤ abZ y := by unfold abZ; split <;> omega
  omega
noncomputable def sufF (sp : Nat → Int) (q : Nat) : Nat → Int
  | 0 => sp q
  | d + 1 => sp (q - (d + 1)) + sufF sp q d
noncomputable def totF (sp : Nat → Int) : Nat → Int
  | 0 => 0
  | m + 1 => totF sp m + sp m
theorem totF_s {sp : Nat → Int} {i : Int} (h : 0 ≤ i) : totF sp (i + 1).toNat = totF sp i.toNat + sp i.toNat := by rw [tn_s h]; rfl
theorem totF_b {sp : Nat → Int} : ∀ (n : Nat), (∀ m, m < n → -891 ≤ sp m ∧ sp m ≤ 99) → -891 * n ≤ totF sp n ∧ totF sp n ≤ 99 * n
  | 0, _ => by show (-891 : Int) * 0 ≤ 0 ∧ (0 : Int) ≤ 99 * 0; omega
  | n + 1, h => by
    have := totF_b n fun m hm => h m (by omega)
    have := h n (by omega)
    show _ ≤ totF sp n + sp n ∧ totF sp n + sp n ≤ _
    omega
theorem suf_tot {sp : Nat → Int} {q : Nat} : ∀ d : Nat, d ≤ q → totF sp (q - d) + sufF sp q d = totF sp (q + 1)
  | 0, _ => rfl
  | d + 1, h => by
    rw [← suf_tot d (by omega), show q - d = (q - (d + 1)) + 1 by omega]
    show totF sp (q - (d + 1)) + (sp (q - (d + 1)) + sufF sp q d) = totF sp (q - (d + 1)) + sp (q - (d + 1)) + sufF sp q d
    omega
theorem suf_b {sp : Nat → Int} {q : Nat} (hs : ∀ m, sp m ≤ 99) : ∀ d : Nat, sufF sp q d ≤ 99 * (d + 1)
  | 0 => by have := hs q; show sp q ≤ 99 * (0 + 1); omega
  | d + 1 => by
    have := suf_b (q := q) hs d
    have := hs (q - (d + 1))
    show sp (q - (d + 1)) + sufF sp q d ≤ _
    omega
/-- it can be done -/
theorem yF_fe {sp : Nat → Int} {q : Nat} (hq : q ≤ 7) (hs : ∀ m, sp m ≤ 99) : ∀ (d : Nat) (x : Int), d ≤ q → x ≤ 99 * ((q : Int) - d) → 0 ≤ x + sufF sp q d → yF sp q d x ≤ 800 * d
  | 0, x, _, _, h => by
    have h : 0 ≤ x + sp q := h
    show (if 0 ≤ x + sp q then (0 : Int) else 1000000) ≤ _
    rw [if_pos h]; omega
  | d + 1, x, hd, hx, h => by
    have h : 0 ≤ x + (sp (q - (d + 1)) + sufF sp q d) := h
    have h1 := hs (q - (d + 1))
    have h2 := suf_b (q := q) hs d
    have ih := yF_fe hq hs d (x + sp (q - (d + 1))) (by omega) (by omega) (by omega)
    have z := mnR_le (g := fun y => abZ y + yF sp q d y) (min 800 (x + sp (q - (d + 1))) + 801).toNat (x + sp (q - (d + 1)) + 800).toNat (by omega)
    have e : -800 + (((x + sp (q - (d + 1)) + 800).toNat : Nat) : Int) = x + sp (q - (d + 1)) := by omega
    simp only [e] at z
    have := abZ_b (y := x + sp (q - (d + 1))) (by omega)
    show mnR _ _ ≤ _
    omega
/-- the first y from which on g is v -/
noncomputable def fsF (g : Int → Int) (v : Int) : Nat → Int → Int
  | 0, y => y
  | n + 1, y => if g y = v then y else fsF g v n (y + 1)
noncomputable def shRow (sp : Nat → Int) (q : Nat) : Nat → Int → List Int
  | 0, _ => []
  | d + 1, x => fsF (fun y => abZ y + yF sp q d y) (yF sp q (d + 1) x) 1601 (-800) :: shRow sp q d (fsF (fun y => abZ y + yF sp q d y) (yF sp q (d + 1) x) 1601 (-800))
noncomputable def YT (sp : Nat → Int) (q : Nat) (h : aH) (m x0 : Int) : Prop := ∀ m' x : Int, 0 ≤ m' → m' ≤ q → -800 ≤ x → x ≤ 800 → (m < m' ∨ (m' = m ∧ x < x0)) → gi h 192 (1601 * m' + 800 + x).toNat = yF sp q (q - m'.toNat) x
set_option maxRecDepth 4000 in
theorem ctX11_spare {SP : CT} (hSP : MONO SP) {sh : List (Nat × Nat)} {h : aH} (hG : GD gE gRL sh h) {m n : Int} (hm : 0 ≤ m ∧ m ≤ 7) (hn : 0 ≤ n ∧ n ≤ 99) : CLd SP 1 mX11_spare [.ref 171, .int (I m), .int (I n)] h 0 0 (fun rv h' => h' = h ∧ rv = some (.int (I (spF h n m.toNat)))) := by
  refine x_met _ rfl (Nat.le_of_ble_eq_true rfl) (fun K hK => ?_)
  have hmono := MONO_CLd hSP 0
  refine x_aload_n 1 hK rfl rfl rfl ?_
  refine x_getR 4 hK rfl rfl (sp_171 (h := h) hG) (rf_171_14 (h := h) hG) ?_
  refine x_bipush 6 hK rfl rfl rfl ?_
  refine x_iload_n 7 hK rfl rfl rfl ?_
  refine x_iadd 8 hK rfl rfl ?_
  have g238 := gi_r h 178 (41 + m).toNat
  refine x_ialoadE 9 hK rfl rfl (sp_178 (h := h) hG) (by omega) (by omega) (by omega) (e' := (gi h 178 (41 + m).toNat)) (rfl) ?_
  refine x_iload_n 10 hK rfl rfl rfl ?_
  refine x_aload_n 11 hK rfl rfl rfl ?_
  refine x_getR 14 hK rfl rfl (sp_171 (h := h) hG) (rf_171_13 (h := h) hG) ?_
  refine x_iload_n 15 hK rfl rfl rfl ?_
  have g239 := grn (0) (9) hG (a := 177) (r := 60) (k := m.toNat) rfl rfl (by omega)
  refine x_ialoadE 16 hK rfl rfl (sp_177 (h := h) hG) (by omega) (by omega) (by omega) (e' := (gi h 177 m.toNat)) (rfl) ?_
  refine x_imul 17 hK rfl rfl ?_
  refine x_isub 18 hK rfl rfl ?_
  exact x_iret hK rfl ⟨rfl, by unfold spF; rw [show 41 + m.toNat = (41 + m).toNat by omega]⟩
set_option maxRecDepth 4000 in
theorem ctX11_flow {SP : CT} (hSP : MONO SP) {sh : List (Nat × Nat)} {h : aH} (hG : GD gE gRL sh h) {m y : Int} (hm : 0 ≤ m ∧ m ≤ 7) (hy : -800 ≤ y ∧ y ≤ 800) : CLd SP 1 mX11_flow [.ref 171, .int (I m), .int (I y)] h 0 0 (fun rv h' => h' = h ∧ rv = some (.int (I (abZ y + gi h 192 (1601 * (m + 1) + 800 + y).toNat)))) := by
  refine x_met _ rfl (Nat.le_of_ble_eq_true rfl) (fun K hK => ?_)
  have hmono := MONO_CLd hSP 0
  refine x_iload_n 1 hK rfl rfl rfl ?_
  refine x_abs 4 hK rfl rfl (Nat.le_of_ble_eq_true rfl) (by omega) ?_
  refine x_aload_n 5 hK rfl rfl rfl ?_
  refine x_getR 8 hK rfl rfl (sp_171 (h := h) hG) (rf_171_41 (h := h) hG) ?_
  refine x_sipush 11 hK rfl rfl rfl ?_
  refine x_iload_n 12 hK rfl rfl rfl ?_
  refine x_iconst 13 hK rfl rfl ?_
  refine x_iadd 14 hK rfl rfl ?_
  refine x_imul 15 hK rfl rfl ?_
  refine x_sipush 18 hK rfl rfl rfl ?_
  refine x_iadd 19 hK rfl rfl ?_
  refine x_iload_n 20 hK rfl rfl rfl ?_
  refine x_iadd 21 hK rfl rfl ?_
  have g240 := gi_r h 192 (((1601 * (m + 1)) + 800) + y).toNat
  refine x_ialoadE 22 hK rfl rfl (sp_192 (h := h) hG) (by omega) (by omega) (by omega) (e' := (gi h 192 (((1601 * (m + 1)) + 800) + y).toNat)) (rfl) ?_
  refine x_iadd 23 hK rfl rfl ?_
  exact x_iret hK rfl ⟨rfl, rfl⟩
set_option maxRecDepth 4000 in
theorem ctX11_laysFlows {SP : CT} (hSP : MONO SP) {sh : List (Nat × Nat)} {h : aH} (hG : GD gE gRL sh h) {n b : Int} (hn : 0 ≤ n ∧ n ≤ 99) (wb : WB b (RC h 178 0)) (h7 : 1 ≤ gi h 171 7) : CLd SP 3 mX11_laysFlows [.ref 171, .int (I n)] h 0 0 (fun rv h' => rv = none ∧ GD gE gRL sh h' ∧ FRM gRL [(0, 75, 0, 14408)] h h' ∧ YT (spF h n) (gi h 171 7 - 1).toNat h' (-1) 0) := by
  refine x_met _ rfl (Nat.le_of_ble_eq_true rfl) (fun K hK => ?_)
  have hmono := MONO_CLd hSP 2
  have g7 := gri 0 8 hG (a := 171) (r := 54) (k := 7) rfl rfl
  have fdb : ∀ m, m < 8 → 0 ≤ gi h 178 (41 + m) ∧ gi h 178 (41 + m) ≤ 99 := fun m hm => by have := (wb.2.2.2.2.2 m hm).1; rw [RC_0 (by omega)] at this; exact this
  have spb : ∀ m : Nat, m < 8 → -891 ≤ spF h n m ∧ spF h n m ≤ 99 := fun m hm => by
    have a := fdb m hm
    have e := grn 0 9 hG (a := 177) (r := 60) (k := m) rfl rfl (by omega)
    have z := mul_b (n := n) (e := gi h 177 m) (a := 99) (b := 9) hn e
    unfold spF
    omega
  obtain ⟨sp, hsp⟩ : ∃ sp, spF h n = sp := ⟨_, rfl⟩
  obtain ⟨q, hq, hq7⟩ : ∃ q : Nat, gi h 171 7 - 1 = q ∧ q ≤ 7 := ⟨(gi h 171 7 - 1).toNat, by omega, by omega⟩
  rw [hsp, hq, show ((q : Int)).toNat = q from rfl] at hK
  have loopM : ∀ (mz : Nat) (m : Int) (h3 : aH) (ls : List (Nat × Value)), ((m + 1).toNat = mz) → (-1 ≤ m ∧ m < q) → (YT sp q h3 m (-800)) → lk ls 0 = some (.ref 171) → lk ls 1 = some (.int (I n)) → lk ls 2 = some (.int (I m)) → GD gE gRL sh h3 → FRM gRL [(0, 75, 0, 14408)] h h3 → K 68 ls [] h3 0 0 := by
    intro mz
    induction mz using Nat.strongRecOn with
    | ind mz ih =>
    intro m h3 ls hm m0 t3 l0 l1 l2 hG3 hF3
    have ihM := ih
    have loopX : ∀ (mz : Nat) (e y x : Int) (h4 : aH) (ls : List (Nat × Value)), ((801 - x).toNat = mz) → (0 ≤ m) → (-800 ≤ x ∧ x ≤ 801) → (-800 ≤ y ∧ y ≤ 801) → (y = -800 ∨ y ≤ x + sp m.toNat) → (x = -800 ∨ y = -800 + (min 800 (x - 1 + sp m.toNat) + 801).toNat) → (e = mnR (fun y => abZ y + yF sp q (q - (m + 1).toNat) y) (y + 800).toNat) → (YT sp q h4 m x) → lk ls 0 = some (.ref 171) → lk ls 1 = some (.int (I n)) → lk ls 2 = some (.int (I m)) → lk ls 3 = some (.int (I e)) → lk ls 4 = some (.int (I y)) → lk ls 5 = some (.int (I x)) → GD gE gRL sh h4 → FRM gRL [(0, 75, 0, 14408)] h h4 → K 86 ls [] h4 0 0 := by
      intro mz
      induction mz using Nat.strongRecOn with
      | ind mz ih =>
      intro e y x h4 ls hm m1 x0 y0 yx yf ee t4 l0 l1 l2 l3 l4 l5 hG4 hF4
      have ihX := ih
      have gy := yF_nn sp q (q - (m + 1).toNat)
      have spm := spb m.toNat (by omega)
      rw [hsp] at spm
      have loopY : ∀ (mz : Nat) (e y : Int) (ls : List (Nat × Value)), ((801 - y).toNat = mz) → (-800 ≤ x ∧ x ≤ 800) → (0 ≤ m) → (-800 ≤ y ∧ y ≤ 801) → (y = -800 ∨ y ≤ x + sp m.toNat + 1) → (e = mnR (fun y => abZ y + yF sp q (q - (m + 1).toNat) y) (y + 800).toNat) → (YT sp q h4 m x) → lk ls 0 = some (.ref 171) → lk ls 1 = some (.int (I n)) → lk ls 2 = some (.int (I m)) → lk ls 3 = some (.int (I e)) → lk ls 4 = some (.int (I y)) → lk ls 5 = some (.int (I x)) → K 94 ls [] h4 0 0 := by
        intro mz
        induction mz using Nat.strongRecOn with
        | ind mz ih =>
        intro e y ls hm x1 m1 y0 yx ee t4 l0 l1 l2 l3 l4 l5
        have eb := mnR_b (g := fun y => abZ y + yF sp q (q - (m + 1).toNat) y) (fun k => fl_nn sp q _ _) (y + 800).toNat
        rw [← ee] at eb
        have ms1 := mnR_s (g := fun y => abZ y + yF sp q (q - (m + 1).toNat) y) (y := y) y0.1
        rw [← ee] at ms1
        refine x_iload 96 hK rfl rfl l4 ?_
        refine x_sipush 99 hK rfl rfl rfl ?_
        refine x_if_icmp_gt 134 102 hK rfl rfl rfl (by omega) (by omega) (fun c3 => ?_) (fun c3 => ?_)
        · refine x_aload_n 135 hK rfl rfl l0 ?_
          refine x_getR 138 hK rfl rfl (sp_171 (h := h4) hG4) (rf_171_41 (h := h4) hG4) ?_
          refine x_sipush 141 hK rfl rfl rfl ?_
          refine x_iload_n 142 hK rfl rfl l2 ?_
          refine x_imul 143 hK rfl rfl ?_
          refine x_sipush 146 hK rfl rfl rfl ?_
          refine x_iadd 147 hK rfl rfl ?_
          refine x_iload 149 hK rfl rfl l5 ?_
          refine x_iadd 150 hK rfl rfl ?_
          refine x_iload_n 151 hK rfl rfl l3 ?_
          refine x_iastore 152 hK rfl rfl (sp_192 (h := h4) hG4) (by omega) (by omega) (by omega) ?_
          refine x_iinc 155 hK rfl rfl l5 _ rfl ?_
          refine x_goto 86 hK rfl rfl ?_
          have ye : y = -800 + (min 800 (x + 1 - 1 + sp m.toNat) + 801).toNat := by rcases yx with z | z <;> omega
          have yv : yF sp q (q - m.toNat) x = e := by rw [yF_s m1 (by omega), ee, show (min 800 (x + sp m.toNat) + 801).toNat = (y + 800).toNat by omega]
          have tn : YT sp q (wI h4 192 (((1601 * m) + 800) + x).toNat e) m (x + 1) := by
            intro m' x' z1 z2 z3 z4 z5
            by_cases c : m' = m ∧ x' = x
            · obtain ⟨rfl, rfl⟩ := c
              rw [yv]; exact gi_same (by omega)
            · exact (gi_k (by omega) _).trans (t4 m' x' z1 z2 z3 z4 (by omega))
          exact ihX _ (by omega) e y (x + 1) _ _ rfl (m1) (by omega) (by omega) (by omega) ((Or.inr ye)) (ee) (tn) (lk1_n l0 (by decide) (Or.inl rfl)) (lk1_n l1 (by decide) (Or.inl rfl)) (lk1_n l2 (by decide) (Or.inl rfl)) (lk1_n l3 (by decide) (Or.inl rfl)) (lk1_n l4 (by decide) (Or.inl rfl)) lk1_s (GD_wn (hG4) (r := 75) rfl rfl) (FRM_wn 0 14408 (hF4) (r := 75) rfl rfl rfl (by omega) (by omega))
        · refine x_iload 104 hK rfl rfl l4 ?_
          refine x_iload 106 hK rfl rfl l5 ?_
          refine x_aload_n 107 hK rfl rfl l0 ?_
          refine x_iload_n 108 hK rfl rfl l2 ?_
          refine x_iload_n 109 hK rfl rfl l1 ?_
          refine x_callV 112 hK hmono rfl rfl [.ref 171, .int (I m), .int (I n)] [.int (I x), .int (I y)] rfl rfl (Nat.le_of_ble_eq_true rfl) (Nat.le_of_ble_eq_true rfl) rfl (sp_171 (h := h4) hG4) (CLd_le (Nat.le_of_ble_eq_true rfl) (ctX11_spare hSP hG4 (by omega) (by omega))) ?_
          rintro v9 h9 ⟨e9, rfl⟩
          rw [e9]
          clear e9
          rw [show spF h4 n m.toNat = sp m.toNat from by rw [← hsp]; unfold spF; rw [show gi h4 178 (41 + m.toNat) = gi h 178 (41 + m.toNat) from FRM_gi hF4 (r := 61) rfl rfl, show gi h4 177 m.toNat = gi h 177 m.toNat from FRM_gi hF4 (r := 60) rfl rfl]]
          have zp241 := spb m.toNat (by omega)
          rw [hsp] at zp241
          refine x_iadd 113 hK rfl rfl ?_
          refine x_if_icmp_gt 134 116 hK rfl rfl rfl (by omega) (by omega) (fun c25 => ?_) (fun c25 => ?_)
          · refine x_aload_n 135 hK rfl rfl l0 ?_
            refine x_getR 138 hK rfl rfl (sp_171 (h := h4) hG4) (rf_171_41 (h := h4) hG4) ?_
            refine x_sipush 141 hK rfl rfl rfl ?_
            refine x_iload_n 142 hK rfl rfl l2 ?_
            refine x_imul 143 hK rfl rfl ?_
            refine x_sipush 146 hK rfl rfl rfl ?_
            refine x_iadd 147 hK rfl rfl ?_
            refine x_iload 149 hK rfl rfl l5 ?_
            refine x_iadd 150 hK rfl rfl ?_
            refine x_iload_n 151 hK rfl rfl l3 ?_
            refine x_iastore 152 hK rfl rfl (sp_192 (h := h4) hG4) (by omega) (by omega) (by omega) ?_
            refine x_iinc 155 hK rfl rfl l5 _ rfl ?_
            refine x_goto 86 hK rfl rfl ?_
            have ye : y = -800 + (min 800 (x + 1 - 1 + sp m.toNat) + 801).toNat := by rcases yx with z | z <;> omega
            have yv : yF sp q (q - m.toNat) x = e := by rw [yF_s m1 (by omega), ee, show (min 800 (x + sp m.toNat) + 801).toNat = (y + 800).toNat by omega]
            have tn : YT sp q (wI h4 192 (((1601 * m) + 800) + x).toNat e) m (x + 1) := by
              intro m' x' z1 z2 z3 z4 z5
              by_cases c : m' = m ∧ x' = x
              · obtain ⟨rfl, rfl⟩ := c
                rw [yv]; exact gi_same (by omega)
              · exact (gi_k (by omega) _).trans (t4 m' x' z1 z2 z3 z4 (by omega))
            exact ihX _ (by omega) e y (x + 1) _ _ rfl (m1) (by omega) (by omega) (by omega) ((Or.inr ye)) (ee) (tn) (lk1_n l0 (by decide) (Or.inl rfl)) (lk1_n l1 (by decide) (Or.inl rfl)) (lk1_n l2 (by decide) (Or.inl rfl)) (lk1_n l3 (by decide) (Or.inl rfl)) (lk1_n l4 (by decide) (Or.inl rfl)) lk1_s (GD_wn (hG4) (r := 75) rfl rfl) (FRM_wn 0 14408 (hF4) (r := 75) rfl rfl rfl (by omega) (by omega))
          · refine x_iload_n 117 hK rfl rfl l3 ?_
            refine x_aload_n 118 hK rfl rfl l0 ?_
            refine x_iload_n 119 hK rfl rfl l2 ?_
            refine x_iload 121 hK rfl rfl l4 ?_
            refine x_callV 124 hK hmono rfl rfl [.ref 171, .int (I m), .int (I y)] [.int (I e)] rfl rfl (Nat.le_of_ble_eq_true rfl) (Nat.le_of_ble_eq_true rfl) rfl (sp_171 (h := h4) hG4) (CLd_le (Nat.le_of_ble_eq_true rfl) (ctX11_flow hSP hG4 (by omega) (by omega))) ?_
            rintro v9 h9 ⟨e9, rfl⟩
            rw [e9]
            clear e9
            rw [show gi h4 192 (1601 * (m + 1) + 800 + y).toNat = yF sp q (q - (m + 1).toNat) y from t4 (m + 1) y (by omega) (by omega) (by omega) (by omega) (Or.inl (by omega))]
            have yb242 := yF_nn sp q (q - (m + 1).toNat) y
            have ab242 := abZ_b (y := y) (by omega)
            refine x_min 127 hK rfl rfl (Nat.le_of_ble_eq_true rfl) (by omega) (by omega) ?_
            refine x_istore_n 128 hK rfl rfl _ rfl ?_
            refine x_iinc 131 hK rfl rfl (lk1_n l4 (by decide) (Or.inl rfl)) _ rfl ?_
            refine x_goto 94 hK rfl rfl ?_
            exact ih _ (by omega) (min e (abZ y + yF sp q (q - (m + 1).toNat) y)) (y + 1) _ rfl (x1) (m1) (by omega) (by omega) ((by rw [ms1])) (t4) (lk1_n (lk1_n l0 (by decide) (Or.inl rfl)) (by decide) (Or.inl rfl)) (lk1_n (lk1_n l1 (by decide) (Or.inl rfl)) (by decide) (Or.inl rfl)) (lk1_n (lk1_n l2 (by decide) (Or.inl rfl)) (by decide) (Or.inl rfl)) (lk1_n lk1_s (by decide) (Or.inl rfl)) lk1_s (lk1_n (lk1_n l5 (by decide) (Or.inl rfl)) (by decide) (Or.inl rfl))
      refine x_iload 88 hK rfl rfl l5 ?_
      refine x_sipush 91 hK rfl rfl rfl ?_
      refine x_if_icmp_gt 158 94 hK rfl rfl rfl (by omega) (by omega) (fun c3 => ?_) (fun c3 => ?_)
      · refine x_iinc 161 hK rfl rfl l2 _ rfl ?_
        refine x_goto 68 hK rfl rfl ?_
        exact ihM _ (by omega) (m + (-1)) _ _ rfl (by omega) ((fun m' x' z1 z2 z3 z4 z5 => t4 m' x' z1 z2 z3 z4 (by omega))) (lk1_n l0 (by decide) (Or.inl rfl)) (lk1_n l1 (by decide) (Or.inl rfl)) lk1_s (hG4) (hF4)
      · exact loopY _ e y _ rfl (by omega) (m1) (by omega) ((by rcases yx with z | z <;> omega)) (ee) (t4) l0 l1 l2 l3 l4 l5
    refine x_iload_n 69 hK rfl rfl l2 ?_
    refine x_if_lt 164 72 hK rfl rfl rfl (by omega) (fun c2 => ?_) (fun c2 => ?_)
    · obtain rfl : m = -1 := by omega
      exact x_vret hK rfl ⟨rfl, hG3, hF3, fun m' x' z1 z2 z3 z4 z5 => t3 m' x' z1 z2 z3 z4 (by omega)⟩
    · refine x_ldc_w 75 hK rfl rfl ?_
      refine x_istore_n 76 hK rfl rfl _ rfl ?_
      refine x_sipush 79 hK rfl rfl rfl ?_
      refine x_istore 81 hK rfl rfl _ rfl ?_
      refine x_sipush 84 hK rfl rfl rfl ?_
      refine x_istore 86 hK rfl rfl _ rfl ?_
      exact loopX _ 1000000 (-800) (-800) _ _ rfl (by omega) (by omega) (by omega) ((Or.inl rfl)) ((Or.inl rfl)) (rfl) ((fun m' x' z1 z2 z3 z4 z5 => t3 m' x' z1 z2 z3 z4 (by omega))) (lk1_n (lk1_n (lk1_n l0 (by decide) (Or.inl rfl)) (by decide) (Or.inl rfl)) (by decide) (Or.inl rfl)) (lk1_n (lk1_n (lk1_n l1 (by decide) (Or.inl rfl)) (by decide) (Or.inl rfl)) (by decide) (Or.inl rfl)) (lk1_n (lk1_n (lk1_n l2 (by decide) (Or.inl rfl)) (by decide) (Or.inl rfl)) (by decide) (Or.inl rfl)) (lk1_n (lk1_n lk1_s (by decide) (Or.inl rfl)) (by decide) (Or.inl rfl)) (lk1_n lk1_s (by decide) (Or.inl rfl)) lk1_s (hG3) (hF3)
  have loop0 : ∀ (mz : Nat) (x : Int) (h5 : aH) (ls : List (Nat × Value)), ((801 - x).toNat = mz) → (-800 ≤ x ∧ x ≤ 801) → (YT sp q h5 q x) → lk ls 0 = some (.ref 171) → lk ls 1 = some (.int (I n)) → lk ls 2 = some (.int (I x)) → GD gE gRL sh h5 → FRM gRL [(0, 75, 0, 14408)] h h5 → K 4 ls [] h5 0 0 := by
    intro mz
    induction mz using Nat.strongRecOn with
    | ind mz ih =>
    intro x h5 ls hm x0 t5 l0 l1 l2 hG5 hF5
    have spm := spb q (by omega)
    rw [hsp] at spm
    have m7 : gi h5 171 7 = gi h 171 7 := FRM_gi hF5 (r := 54) rfl rfl
    refine x_iload_n 5 hK rfl rfl l2 ?_
    refine x_sipush 8 hK rfl rfl rfl ?_
    refine x_if_icmp_gt 61 11 hK rfl rfl rfl (by omega) (by omega) (fun c3 => ?_) (fun c3 => ?_)
    · refine x_aload_n 62 hK rfl rfl l0 ?_
      refine x_getE 65 hK rfl (Or.inl rfl) rfl (sp_171 (h := h5) hG5) (e := ((q : Int) + 1)) ((by rw [m7]; omega)) ?_
      refine x_iconst 66 hK rfl rfl ?_
      refine x_isub 67 hK rfl rfl ?_
      refine x_istore_n 68 hK rfl rfl _ rfl ?_
      exact loopM _ (((q : Int) + 1) - 2) _ _ rfl (by omega) ((fun m' x' z1 z2 z3 z4 z5 => t5 m' x' z1 z2 z3 z4 (by omega))) (lk1_n l0 (by decide) (Or.inl rfl)) (lk1_n l1 (by decide) (Or.inl rfl)) lk1_s (hG5) (hF5)
    · refine x_aload_n 12 hK rfl rfl l0 ?_
      refine x_getR 15 hK rfl rfl (sp_171 (h := h5) hG5) (rf_171_41 (h := h5) hG5) ?_
      refine x_sipush 18 hK rfl rfl rfl ?_
      refine x_aload_n 19 hK rfl rfl l0 ?_
      refine x_getE 22 hK rfl (Or.inl rfl) rfl (sp_171 (h := h5) hG5) (e := ((q : Int) + 1)) ((by rw [m7]; omega)) ?_
      refine x_iconst 23 hK rfl rfl ?_
      refine x_isub 24 hK rfl rfl ?_
      refine x_imul 25 hK rfl rfl ?_
      refine x_sipush 28 hK rfl rfl rfl ?_
      refine x_iadd 29 hK rfl rfl ?_
      refine x_iload_n 30 hK rfl rfl l2 ?_
      refine x_iadd 31 hK rfl rfl ?_
      refine x_iload_n 32 hK rfl rfl l2 ?_
      refine x_aload_n 33 hK rfl rfl l0 ?_
      refine x_aload_n 34 hK rfl rfl l0 ?_
      refine x_getE 37 hK rfl (Or.inl rfl) rfl (sp_171 (h := h5) hG5) (e := ((q : Int) + 1)) ((by rw [m7]; omega)) ?_
      refine x_iconst 38 hK rfl rfl ?_
      refine x_isub 39 hK rfl rfl ?_
      refine x_iload_n 40 hK rfl rfl l1 ?_
      refine x_callV 43 hK hmono rfl rfl [.ref 171, .int (I (((q : Int) + 1) - 1)), .int (I n)] [.int (I x), .int (I (((1601 * (((q : Int) + 1) - 1)) + 800) + x)), .ref 192] rfl rfl (Nat.le_of_ble_eq_true rfl) (Nat.le_of_ble_eq_true rfl) rfl (sp_171 (h := h5) hG5) (CLd_le (Nat.le_of_ble_eq_true rfl) (ctX11_spare hSP hG5 (by omega) (by omega))) ?_
      rintro v9 h9 ⟨e9, rfl⟩
      rw [e9]
      clear e9
      rw [show spF h5 n (((q : Int) + 1) - 1).toNat = sp q from by rw [show (((q : Int) + 1) - 1).toNat = q by omega, ← hsp]; unfold spF; rw [show gi h5 178 (41 + q) = gi h 178 (41 + q) from FRM_gi hF5 (r := 61) rfl rfl, show gi h5 177 q = gi h 177 q from FRM_gi hF5 (r := 60) rfl rfl]]
      refine x_iadd 44 hK rfl rfl ?_
      refine x_if_lt 51 47 hK rfl rfl rfl (by omega) (fun c31 => ?_) (fun c31 => ?_)
      · refine x_ldc_w 54 hK rfl rfl ?_
        refine x_iastore 55 hK rfl rfl (sp_192 (h := h5) hG5) (by omega) (by omega) (by omega) ?_
        refine x_iinc 58 hK rfl rfl l2 _ rfl ?_
        refine x_goto 4 hK rfl rfl ?_
        have yv : yF sp q (q - (q : Int).toNat) x = 1000000 := by
          rw [show q - (q : Int).toNat = 0 by omega]
          show (if 0 ≤ x + sp q then (0 : Int) else 1000000) = _
          rw [if_neg (by omega)]
        have tn : YT sp q (wI h5 192 (((1601 * (((q : Int) + 1) - 1)) + 800) + x).toNat 1000000) q (x + 1) := by
          intro m' x' z1 z2 z3 z4 z5
          by_cases c : m' = q ∧ x' = x
          · obtain ⟨rfl, rfl⟩ := c
            rw [yv]; exact (gi_to (by omega)).trans (gi_same (by omega))
          · exact (gi_k (by omega) _).trans (t5 m' x' z1 z2 z3 z4 (by omega))
        exact ih _ (by omega) (x + 1) _ _ rfl (by omega) (tn) (lk1_n l0 (by decide) (Or.inl rfl)) (lk1_n l1 (by decide) (Or.inl rfl)) lk1_s (GD_wn (hG5) (r := 75) rfl rfl) (FRM_wn 0 14408 (hF5) (r := 75) rfl rfl rfl (by omega) (by omega))
      · refine x_iconst 48 hK rfl rfl ?_
        refine x_goto 54 hK rfl rfl ?_
        refine x_iastore 55 hK rfl rfl (sp_192 (h := h5) hG5) (by omega) (by omega) (by omega) ?_
        refine x_iinc 58 hK rfl rfl l2 _ rfl ?_
        refine x_goto 4 hK rfl rfl ?_
        have yv : yF sp q (q - (q : Int).toNat) x = 0 := by
          rw [show q - (q : Int).toNat = 0 by omega]
          show (if 0 ≤ x + sp q then (0 : Int) else 1000000) = _
          rw [if_pos (by omega)]
        have tn : YT sp q (wI h5 192 (((1601 * (((q : Int) + 1) - 1)) + 800) + x).toNat 0) q (x + 1) := by
          intro m' x' z1 z2 z3 z4 z5
          by_cases c : m' = q ∧ x' = x
          · obtain ⟨rfl, rfl⟩ := c
            rw [yv]; exact (gi_to (by omega)).trans (gi_same (by omega))
          · exact (gi_k (by omega) _).trans (t5 m' x' z1 z2 z3 z4 (by omega))
        exact ih _ (by omega) (x + 1) _ _ rfl (by omega) (tn) (lk1_n l0 (by decide) (Or.inl rfl)) (lk1_n l1 (by decide) (Or.inl rfl)) lk1_s (GD_wn (hG5) (r := 75) rfl rfl) (FRM_wn 0 14408 (hF5) (r := 75) rfl rfl rfl (by omega) (by omega))
  refine x_sipush 3 hK rfl rfl rfl ?_
  refine x_istore_n 4 hK rfl rfl [(2, .int (I (-800))), (0, .ref 171), (1, .int (I n))] rfl ?_
  exact loop0 _ (-800) _ _ rfl (by omega) ((fun m' x' z1 z2 z3 z4 z5 => absurd z5 (by omega))) rfl rfl rfl (hG) ((FRM.rf : FRM gRL [(0, 75, 0, 14408)] h h))
theorem yF_cg {sp sp' : Nat → Int} {q : Nat} (h : ∀ m, m ≤ q → sp m = sp' m) : ∀ (d : Nat) (x : Int), yF sp q d x = yF sp' q d x
  | 0, x => by show (if 0 ≤ x + sp q then (0 : Int) else 1000000) = if 0 ≤ x + sp' q then 0 else 1000000; rw [h q (Nat.le_refl _)]
  | d + 1, x => by
    show mnR _ (min 800 (x + sp (q - (d + 1))) + 801).toNat = mnR _ (min 800 (x + sp' (q - (d + 1))) + 801).toNat
    rw [h _ (by omega), show (fun y => abZ y + yF sp q d y) = fun y => abZ y + yF sp' q d y from funext fun y => by rw [yF_cg h d y]]
theorem suf_cg {sp sp' : Nat → Int} {q : Nat} (h : ∀ m, m ≤ q → sp m = sp' m) : ∀ (d : Nat), sufF sp q d = sufF sp' q d
  | 0 => h q (Nat.le_refl _)
  | d + 1 => by
    show sp (q - (d + 1)) + _ = sp' (q - (d + 1)) + _
    rw [h _ (by omega), suf_cg h d]
theorem yF_fe2 {sp : Nat → Int} {q : Nat} (hq : q ≤ 7) (hs : ∀ m, m ≤ q → sp m ≤ 99) (d : Nat) (x : Int) (h1 : d ≤ q) (h2 : x ≤ 99 * ((q : Int) - d)) (h3 : 0 ≤ x + sufF sp q d) : yF sp q d x ≤ 800 * d := by
  have e : ∀ m, m ≤ q → sp m = (fun m => if m ≤ q then sp m else 0) m := fun m hm => (if_pos hm).symm
  rw [yF_cg e]
  refine yF_fe hq (fun m => ?_) d x h1 h2 (by rw [← suf_cg e]; exact h3)
  show (if m ≤ q then sp m else 0) ≤ 99
  split
  · exact hs m (by assumption)
  · omega
set_option maxRecDepth 4000 in
theorem ctX11_shares {SP : CT} (hSP : MONO SP) {sh : List (Nat × Nat)} {h : aH} (hG : GD gE gRL sh h) {n b : Int} (rn : r32 n) (wb : WB b (RC h 178 0)) : CLd SP 6 mX11_shares [.ref 171, .int (I n)] h 0 0 (fun rv h' => ((¬ ((0 ≤ n ∧ n ≤ 99) ∧ gi h 171 7 ≠ 0) ∧ rv = some (.int (I (-1))) ∧ mrow h' = mrow h) ∨ (((0 ≤ n ∧ n ≤ 99) ∧ gi h 171 7 ≠ 0) ∧ totF (spF h n) (gi h 171 7).toNat < 0 ∧ rv = some (.int (I (-2))) ∧ mrow h' = mrow h) ∨ (((0 ≤ n ∧ n ≤ 99) ∧ gi h 171 7 ≠ 0) ∧ 0 ≤ totF (spF h n) (gi h 171 7).toNat ∧ rv = some (.int (I (yF (spF h n) (gi h 171 7 - 1).toNat (gi h 171 7 - 1).toNat 0))) ∧ mrow h' = shRow (spF h n) (gi h 171 7 - 1).toNat (gi h 171 7 - 1).toNat 0)) ∧ GD gE gRL sh h' ∧ FRM gRL [(0, 54, 0, 0), (0, 54, 1, 1), (0, 75, 0, 14408), (1, 55, 0, 39)] h h' ∧ gi h' 171 0 = 0) := by
  refine x_met _ rfl (Nat.le_of_ble_eq_true rfl) (fun K hK => ?_)
  have hmono := MONO_CLd hSP 5
  have g7 := gri 0 8 hG (a := 171) (r := 54) (k := 7) rfl rfl
  have loopC : ∀ (mz : Nat) (x m : Int) (h4 : aH) (ls : List (Nat × Value)), ((gi h 171 7 - m).toNat = mz) → (0 ≤ n ∧ n ≤ 99) → (1 ≤ gi h 171 7) → (0 ≤ totF (spF h n) (gi h 171 7).toNat) → (0 ≤ m ∧ m ≤ gi h 171 7 - 1) → (-800 ≤ x ∧ x ≤ 800) → (gi h4 171 0 = 0) → (gi h4 171 1 = m) → (YT (spF h n) (gi h 171 7 - 1).toNat h4 (-1) 0) → (yF (spF h n) (gi h 171 7 - 1).toNat ((gi h 171 7 - 1).toNat - m.toNat) x < 1000000) → (mrow h4 ++ shRow (spF h n) (gi h 171 7 - 1).toNat ((gi h 171 7 - 1).toNat - m.toNat) x = shRow (spF h n) (gi h 171 7 - 1).toNat (gi h 171 7 - 1).toNat 0) → lk ls 0 = some (.ref 171) → lk ls 1 = some (.int (I n)) → lk ls 3 = some (.int (I x)) → lk ls 4 = some (.int (I m)) → GD gE gRL sh h4 → FRM gRL [(0, 54, 0, 0), (0, 54, 1, 1), (0, 75, 0, 14408), (1, 55, 0, 39)] h h4 → K 75 ls [] h4 0 0 := by
    intro mz
    induction mz using Nat.strongRecOn with
    | ind mz ih =>
    intro x m h4 ls hm hn h7 tp m0 x0 t4 r4 yt yx e4 l0 l1 l3 l4 hG4 hF4
    have ihC := ih
    have g41 := gri 0 40 hG4 (a := 171) (r := 54) (k := 1) rfl rfl
    obtain ⟨sp, hsp⟩ : ∃ sp, spF h n = sp := ⟨_, rfl⟩
    obtain ⟨q, hq, hq7⟩ : ∃ q : Nat, gi h 171 7 - 1 = q ∧ q ≤ 7 := ⟨(gi h 171 7 - 1).toNat, by omega, by omega⟩
    rw [hsp] at tp
    rw [hsp, hq, show ((q : Int)).toNat = q from rfl] at yt yx e4 ihC hK
    obtain ⟨v, hv⟩ : ∃ v, yF sp q (q - m.toNat) x = v := ⟨_, rfl⟩
    have vb := yF_nn sp q (q - m.toNat) x
    rw [hv] at vb yx
    have loopS : ∀ (y1 : Int) (h1 : y1 ≤ 800 ∧ abZ y1 + yF sp q (q - (m + 1).toNat) y1 = v), ∀ (mz : Nat) (y : Int) (ls : List (Nat × Value)), ((y1 - y).toNat = mz) → (m < gi h 171 7 - 1) → (-800 ≤ y ∧ y ≤ 800) → (y ≤ y1) → (fsF (fun y => abZ y + yF sp q (q - (m + 1).toNat) y) v 1601 (-800) = fsF (fun y => abZ y + yF sp q (q - (m + 1).toNat) y) v (801 - y).toNat y) → lk ls 0 = some (.ref 171) → lk ls 1 = some (.int (I n)) → lk ls 3 = some (.int (I x)) → lk ls 4 = some (.int (I m)) → lk ls 5 = some (.int (I y)) → K 91 ls [] h4 0 0 := by
      intro y1 h1
      intro mz
      induction mz using Nat.strongRecOn with
      | ind mz ih =>
      intro y ls hm m1 y0 yl fs l0 l1 l3 l4 l5
      refine x_aload_n 92 hK rfl rfl l0 ?_
      refine x_iload 94 hK rfl rfl l4 ?_
      refine x_iload 96 hK rfl rfl l5 ?_
      refine x_callV 99 hK hmono rfl rfl [.ref 171, .int (I m), .int (I y)] [] rfl rfl (Nat.le_of_ble_eq_true rfl) (Nat.le_of_ble_eq_true rfl) rfl (sp_171 (h := h4) hG4) (CLd_le (Nat.le_of_ble_eq_true rfl) (ctX11_flow hSP hG4 (by omega) (by omega))) ?_
      rintro v9 h9 ⟨e9, rfl⟩
      rw [e9]
      clear e9
      rw [show gi h4 192 (1601 * (m + 1) + 800 + y).toNat = yF sp q (q - (m + 1).toNat) y from yt (m + 1) y (by omega) (by omega) (by omega) (by omega) (Or.inl (by omega))]
      have yb243 := yF_nn sp q (q - (m + 1).toNat) y
      have ab243 := abZ_b (y := y) (by omega)
      refine x_aload_n 100 hK rfl rfl l0 ?_
      refine x_getR 103 hK rfl rfl (sp_171 (h := h4) hG4) (rf_171_41 (h := h4) hG4) ?_
      refine x_sipush 106 hK rfl rfl rfl ?_
      refine x_iload 108 hK rfl rfl l4 ?_
      refine x_imul 109 hK rfl rfl ?_
      refine x_sipush 112 hK rfl rfl rfl ?_
      refine x_iadd 113 hK rfl rfl ?_
      refine x_iload_n 114 hK rfl rfl l3 ?_
      refine x_iadd 115 hK rfl rfl ?_
      refine x_ialoadE 116 hK rfl rfl (sp_192 (h := h4) hG4) (by omega) (by omega) (by omega) (e' := v) (((yt m x (by omega) (by omega) (by omega) (by omega) (Or.inl (by omega))).trans hv)) ?_
      refine x_if_icmp_eq 125 119 hK rfl rfl rfl (by omega) (by omega) (fun c15 => ?_) (fun c15 => ?_)
      · refine x_aload_n 126 hK rfl rfl l0 ?_
        refine x_iload 128 hK rfl rfl l5 ?_
        refine x_i2l 129 hK rfl rfl (by omega) ?_
        have z245 : gi h4 171 1 = m := r4
        have z245r : mrow h4 = (mrow h4) := rfl
        refine x_callV 132 hK hmono rfl rfl [.ref 171, .long (J y)] [] rfl rfl (Nat.le_of_ble_eq_true rfl) (Nat.le_of_ble_eq_true rfl) rfl (sp_171 (h := h4) hG4) (CLd_le (Nat.le_of_ble_eq_true rfl) (ctX11_entersF hSP hG4 (by omega) (by omega))) ?_
        rintro v244 h244 ⟨rfl, hG244, hF244, t244, s244⟩
        rw [z245] at t244
        rw [z245r] at s244
        refine x_iload 134 hK rfl rfl l5 ?_
        refine x_istore_n 135 hK rfl rfl _ rfl ?_
        refine x_iinc 138 hK rfl rfl (lk1_n l4 (by decide) (Or.inl rfl)) _ rfl ?_
        refine x_goto 75 hK rfl rfl ?_
        have fe : fsF (fun y => abZ y + yF sp q (q - (m + 1).toNat) y) v 1601 (-800) = y := by
          rw [fs, show (801 - y).toNat = (800 - y).toNat + 1 by omega]
          show (if _ then _ else _) = _
          rw [if_pos (by omega)]
        have ya := abZ_b (y := y) y0
        exact ihC _ (by omega) y (m + 1) _ _ rfl (hn) (h7) (tp) (by omega) (by omega) ((FRM_gi hF244 (r := 54) rfl rfl).trans (t4)) (t244) ((fun m' x' z1 z2 z3 z4 z5 => by rw [show gi h244 192 _ = gi h4 192 _ from FRM_gi hF244 (r := 75) rfl rfl]; exact yt m' x' z1 z2 z3 z4 z5)) ((by omega)) ((by rw [s244, ← e4, show q - m.toNat = (q - (m + 1).toNat) + 1 by omega, List.append_assoc]; show mrow h4 ++ ([y] ++ _) = mrow h4 ++ (fsF _ (yF sp q (q - (m + 1).toNat + 1) x) 1601 (-800) :: shRow sp q _ (fsF _ (yF sp q (q - (m + 1).toNat + 1) x) 1601 (-800))); rw [show q - (m + 1).toNat + 1 = q - m.toNat by omega, hv, fe]; rfl)) (lk1_n (lk1_n l0 (by decide) (Or.inl rfl)) (by decide) (Or.inl rfl)) (lk1_n (lk1_n l1 (by decide) (Or.inl rfl)) (by decide) (Or.inl rfl)) (lk1_n lk1_s (by decide) (Or.inl rfl)) lk1_s (hG244) ((hF4).trans ((hF244).mono rfl))
      · refine x_iinc 122 hK rfl rfl l5 _ rfl ?_
        refine x_goto 91 hK rfl rfl ?_
        have yne : y ≠ y1 := fun z => by subst z; omega
        exact ih _ (by omega) (y + 1) _ rfl (m1) (by omega) (by omega) ((by rw [fs, show (801 - y).toNat = (801 - (y + 1)).toNat + 1 by omega]; show (if _ then _ else _) = _; rw [if_neg (by omega)])) (lk1_n l0 (by decide) (Or.inl rfl)) (lk1_n l1 (by decide) (Or.inl rfl)) (lk1_n l3 (by decide) (Or.inl rfl)) (lk1_n l4 (by decide) (Or.inl rfl)) lk1_s
    refine x_iload 77 hK rfl rfl l4 ?_
    refine x_aload_n 78 hK rfl rfl l0 ?_
    have g246 := gri (0) (8) hG (a := 171) (r := 54) (k := 7) rfl rfl
    refine x_getE 81 hK rfl (Or.inl rfl) rfl (sp_171 (h := h4) hG4) (e := (gi h 171 7)) (FRM_gi hF4 (r := 54) rfl rfl) ?_
    refine x_iconst 82 hK rfl rfl ?_
    refine x_isub 83 hK rfl rfl ?_
    refine x_if_icmp_ge 141 86 hK rfl rfl rfl (by omega) (by omega) (fun c6 => ?_) (fun c6 => ?_)
    · refine x_aload_n 142 hK rfl rfl l0 ?_
      refine x_getR 145 hK rfl rfl (sp_171 (h := h4) hG4) (rf_171_41 (h := h4) hG4) ?_
      refine x_sipush 148 hK rfl rfl rfl ?_
      have g247 := gi_r h4 192 800
      refine x_ialoadE 149 hK rfl rfl (sp_192 (h := h4) hG4) (by omega) (by omega) (by omega) (e' := (gi h4 192 800)) (rfl) ?_
      have mq : m = q := by omega
      have y0 : gi h4 192 800 = yF sp q q 0 := by
        have z := yt 0 0 (by omega) (by omega) (by omega) (by omega) (Or.inl (by omega))
        exact z
      have er : mrow h4 = shRow sp q q 0 := by
        rw [← e4, show q - m.toNat = 0 by omega]
        show _ = _ ++ []
        rw [List.append_nil]
      exact x_iret hK rfl ⟨Or.inr (Or.inr ⟨⟨hn, by omega⟩, tp, by rw [y0], er⟩), hG4, hF4, t4⟩
    · refine x_sipush 89 hK rfl rfl rfl ?_
      refine x_istore 91 hK rfl rfl _ rfl ?_
      obtain ⟨k, k1, k2⟩ := mnR_ex (g := fun y => abZ y + yF sp q (q - (m + 1).toNat) y) (min 800 (x + sp m.toNat) + 801).toNat (by rw [← yF_s m0.1 (by omega), hv]; exact yx)
      rw [← yF_s m0.1 (by omega), hv] at k2
      exact loopS (-800 + (k : Int)) ⟨by omega, k2⟩ _ (-800) _ rfl (by omega) (by omega) (by omega) (rfl) (lk1_n l0 (by decide) (Or.inl rfl)) (lk1_n l1 (by decide) (Or.inl rfl)) (lk1_n l3 (by decide) (Or.inl rfl)) (lk1_n l4 (by decide) (Or.inl rfl)) lk1_s
  have loopA : ∀ (mz : Nat) (a i : Int) (ls : List (Nat × Value)), ((gi h 171 7 - i).toNat = mz) → (0 ≤ n ∧ n ≤ 99) → (1 ≤ gi h 171 7) → (0 ≤ i ∧ i ≤ gi h 171 7) → (a = totF (spF h n) i.toNat) → lk ls 0 = some (.ref 171) → lk ls 1 = some (.int (I n)) → lk ls 2 = some (.int (I a)) → lk ls 3 = some (.int (I i)) → K 30 ls [] (wI h 171 0 0) 0 0 := by
    intro mz
    induction mz using Nat.strongRecOn with
    | ind mz ih =>
    intro a i ls hm hn h7 i0 ea l0 l1 l2 l3
    have fdb : ∀ m, m < 8 → 0 ≤ gi h 178 (41 + m) ∧ gi h 178 (41 + m) ≤ 99 := fun m hm => by have := (wb.2.2.2.2.2 m hm).1; rw [RC_0 (by omega)] at this; exact this
    have spb : ∀ m : Nat, m < 8 → -891 ≤ spF h n m ∧ spF h n m ≤ 99 := fun m hm => by
      have a := fdb m hm
      have e := grn 0 9 hG (a := 177) (r := 60) (k := m) rfl rfl (by omega)
      have z := mul_b (n := n) (e := gi h 177 m) (a := 99) (b := 9) hn e
      unfold spF
      omega
    have tb := totF_b (sp := spF h n) i.toNat fun m hm => spb m (by omega)
    rw [← ea] at tb
    have ts := totF_s (sp := spF h n) i0.1
    rw [← ea] at ts
    refine x_iload_n 31 hK rfl rfl l3 ?_
    refine x_aload_n 32 hK rfl rfl l0 ?_
    have g248 := gri (0) (8) hG (a := 171) (r := 54) (k := 7) rfl rfl
    refine x_getE 35 hK rfl (Or.inl rfl) rfl (sp_171 (h := h) hG) (e := (gi h 171 7)) (gi_k (by decide) _) ?_
    refine x_if_icmp_ge 53 38 hK rfl rfl rfl (by omega) (by omega) (fun c4 => ?_) (fun c4 => ?_)
    · refine x_iload_n 54 hK rfl rfl l2 ?_
      refine x_if_ge 60 57 hK rfl rfl rfl (by omega) (fun c6 => ?_) (fun c6 => ?_)
      · refine x_aload_n 61 hK rfl rfl l0 ?_
        refine x_iload_n 62 hK rfl rfl l1 ?_
        have hGp249 : GD gE gRL sh (wI h 171 0 0) := GD_w1 (hG) (r := 54) rfl (by omega) rfl (by omega) (by omega)
        refine x_callV 65 hK hmono rfl rfl [.ref 171, .int (I n)] [] rfl rfl (Nat.le_of_ble_eq_true rfl) (Nat.le_of_ble_eq_true rfl) rfl (sp_171 (h := h) hG) (CLd_le (Nat.le_of_ble_eq_true rfl) (ctX11_laysFlows hSP hGp249 hn (by rw [show RC (wI h 171 0 0) 178 0 = RC h 178 0 from RC_w (by decide)]; exact wb) (by rw [show gi (wI h 171 0 0) 171 7 = gi h 171 7 from gi_k (by decide) _]; exact h7))) ?_
        rintro v2 h2 ⟨rfl, hG2, hF2, yt2⟩
        rw [show spF (wI h 171 0 0) n = spF h n from funext fun m => by unfold spF; rw [gi_a (by decide), gi_a (by decide)], show gi (wI h 171 0 0) 171 7 = gi h 171 7 from gi_k (by decide) _] at yt2
        refine x_aload_n 66 hK rfl rfl l0 ?_
        refine x_iconst 67 hK rfl rfl ?_
        refine x_putI 70 hK rfl rfl (sp_171 (h := h2) hG2) ?_
        refine x_iconst 71 hK rfl rfl ?_
        refine x_istore_n 72 hK rfl rfl _ rfl ?_
        refine x_iconst 73 hK rfl rfl ?_
        refine x_istore 75 hK rfl rfl _ rfl ?_
        have ix : i = gi h 171 7 := by omega
        rw [ix] at ea
        have st := suf_tot (sp := spF h n) (q := (gi h 171 7 - 1).toNat) (gi h 171 7 - 1).toNat (Nat.le_refl _)
        rw [Nat.sub_self, show (gi h 171 7 - 1).toNat + 1 = (gi h 171 7).toNat by omega, ← ea] at st
        have st2 : (0 : Int) + sufF (spF h n) (gi h 171 7 - 1).toNat (gi h 171 7 - 1).toNat = a := st
        have spc : ∀ m, (fun m => if m < 8 then spF h n m else 0) m ≤ 99 := fun m => by show (if m < 8 then spF h n m else 0) ≤ 99; split; exact (spb m (by omega)).2; omega
        have fe := yF_fe2 (sp := spF h n) (q := (gi h 171 7 - 1).toNat) (by omega) (fun m hm => (spb m (by omega)).2) (gi h 171 7 - 1).toNat 0 (Nat.le_refl _) (by omega) (by omega)
        exact loopC _ 0 0 _ _ rfl (hn) (h7) ((by omega)) (by omega) (by omega) ((gi_k (by decide) _).trans ((FRM_gi hF2 (r := 54) rfl rfl).trans (gi_same (by omega)))) (gi_same (by omega)) ((fun m' x' z1 z2 z3 z4 z5 => (gi_a (by decide) _).trans (yt2 m' x' z1 z2 z3 z4 z5))) ((by show yF _ _ _ 0 < _; rw [show (gi h 171 7 - 1).toNat - (0 : Int).toNat = (gi h 171 7 - 1).toNat from rfl]; omega)) ((by rw [mrow_0 (gi_same (by omega))]; rfl)) (lk1_n (lk1_n l0 (by decide) (Or.inl rfl)) (by decide) (Or.inl rfl)) (lk1_n (lk1_n l1 (by decide) (Or.inl rfl)) (by decide) (Or.inl rfl)) (lk1_n lk1_s (by decide) (Or.inl rfl)) lk1_s (GD_w1 (hG2) (r := 54) rfl (by omega) rfl (by omega) (by omega)) (FRM_w ((FRM_w ((FRM.rf : FRM gRL [(0, 54, 0, 0), (0, 54, 1, 1), (0, 75, 0, 14408), (1, 55, 0, 39)] h h)) (r := 54) rfl rfl).trans ((hF2).mono rfl)) (r := 54) rfl rfl)
      · refine x_bipush 59 hK rfl rfl rfl ?_
        have ix : i = gi h 171 7 := by omega
        rw [ix] at ea
        exact x_iret hK rfl ⟨Or.inr (Or.inl ⟨⟨hn, by omega⟩, by omega, rfl, mrow_k (by decide)⟩), GD_w1 (hG) (r := 54) rfl (by omega) rfl (by omega) (by omega), FRM_w ((FRM.rf : FRM gRL [(0, 54, 0, 0), (0, 54, 1, 1), (0, 75, 0, 14408), (1, 55, 0, 39)] h h)) (r := 54) rfl rfl, gi_same (by omega)⟩
    · refine x_iload_n 39 hK rfl rfl l2 ?_
      refine x_aload_n 40 hK rfl rfl l0 ?_
      refine x_iload_n 41 hK rfl rfl l3 ?_
      refine x_iload_n 42 hK rfl rfl l1 ?_
      have hGp250 : GD gE gRL sh (wI h 171 0 0) := GD_w1 (hG) (r := 54) rfl (by omega) rfl (by omega) (by omega)
      refine x_callV 45 hK hmono rfl rfl [.ref 171, .int (I i), .int (I n)] [.int (I a)] rfl rfl (Nat.le_of_ble_eq_true rfl) (Nat.le_of_ble_eq_true rfl) rfl (sp_171 (h := h) hG) (CLd_le (Nat.le_of_ble_eq_true rfl) (ctX11_spare hSP hGp250 (by omega) (by omega))) ?_
      rintro v9 h9 ⟨e9, rfl⟩
      rw [e9]
      clear e9
      rw [show spF (wI h 171 0 0) n i.toNat = spF h n i.toNat from by unfold spF; rw [gi_a (by decide), gi_a (by decide)]]
      have zp251 := spb i.toNat (by omega)
      refine x_iadd 46 hK rfl rfl ?_
      refine x_istore_n 47 hK rfl rfl _ rfl ?_
      refine x_iinc 50 hK rfl rfl (lk1_n l3 (by decide) (Or.inl rfl)) _ rfl ?_
      refine x_goto 30 hK rfl rfl ?_
      exact ih _ (by omega) (a + (spF h n i.toNat)) (i + 1) _ rfl (hn) (h7) (by omega) ((by rw [ts])) (lk1_n (lk1_n l0 (by decide) (Or.inl rfl)) (by decide) (Or.inl rfl)) (lk1_n (lk1_n l1 (by decide) (Or.inl rfl)) (by decide) (Or.inl rfl)) (lk1_n lk1_s (by decide) (Or.inl rfl)) lk1_s
  refine x_aload_n 1 hK rfl rfl rfl ?_
  refine x_iconst 2 hK rfl rfl ?_
  refine x_putI 5 hK rfl rfl (sp_171 (h := h) hG) ?_
  refine x_iload_n 6 hK rfl rfl rfl ?_
  refine x_i2l 7 hK rfl rfl (by omega) ?_
  refine x_lconstE 8 0 hK rfl rfl rfl ?_
  refine x_ldc2_w 11 hK rfl rfl ?_
  have hGp252 : GD gE gRL sh (wI h 171 0 0) := GD_w1 (hG) (r := 54) rfl (by omega) rfl (by omega) (by omega)
  refine x_callS 14 hK hmono rfl (Or.inl rfl) rfl [.long (J n), .long (J 0), .long (J 99)] [] rfl rfl (Nat.le_of_ble_eq_true rfl) (Nat.le_of_ble_eq_true rfl) (CLd_le (Nat.le_of_ble_eq_true rfl) (ctX11_in (by omega) (by omega) (by omega))) ?_
  rintro v9 h9 ⟨e9, ⟨rfl, i1253, i2253⟩ | ⟨rfl, i1253⟩⟩ <;> rw [e9] <;> clear e9
  · refine x_if_eq 24 17 hK rfl rfl rfl (by omega) (fun c => by omega) (fun _ => ?_)
    refine x_aload_n 18 hK rfl rfl rfl ?_
    have g254 := gri (0) (8) hG (a := 171) (r := 54) (k := 7) rfl rfl
    refine x_getE 21 hK rfl (Or.inl rfl) rfl (sp_171 (h := h) hG) (e := (gi h 171 7)) (gi_k (by decide) _) ?_
    refine x_if_ne 26 24 hK rfl rfl rfl (by omega) (fun c12 => ?_) (fun c12 => ?_)
    · refine x_iconst 27 hK rfl rfl ?_
      refine x_istore_n 28 hK rfl rfl [(2, .int (I 0)), (0, .ref 171), (1, .int (I n))] rfl ?_
      refine x_iconst 29 hK rfl rfl ?_
      refine x_istore_n 30 hK rfl rfl [(3, .int (I 0)), (2, .int (I 0)), (0, .ref 171), (1, .int (I n))] rfl ?_
      exact loopA _ 0 0 _ rfl (by omega) (by omega) (by omega) (rfl) rfl rfl rfl rfl
    · refine x_iconst 25 hK rfl rfl ?_
      exact x_iret hK rfl ⟨Or.inl ⟨by omega, rfl, mrow_k (by decide)⟩, GD_w1 (hG) (r := 54) rfl (by omega) rfl (by omega) (by omega), FRM_w ((FRM.rf : FRM gRL [(0, 54, 0, 0), (0, 54, 1, 1), (0, 75, 0, 14408), (1, 55, 0, 39)] h h)) (r := 54) rfl rfl, gi_same (by omega)⟩
  · refine x_if_eq 24 17 hK rfl rfl rfl (by omega) (fun _ => ?_) (fun c => by omega)
    refine x_iconst 25 hK rfl rfl ?_
    exact x_iret hK rfl ⟨Or.inl ⟨by omega, rfl, mrow_k (by decide)⟩, GD_w1 (hG) (r := 54) rfl (by omega) rfl (by omega) (by omega), FRM_w ((FRM.rf : FRM gRL [(0, 54, 0, 0), (0, 54, 1, 1), (0, 75, 0, 14408), (1, 55, 0, 39)] h h)) (r := 54) rfl rfl, gi_same (by omega)⟩
end
section
/-! THE FEWEST ORDERS (the reference): vectors of nine LANES -/
noncomputable def nev : Nat → Int := fun _ => 1000
noncomputable def gbL (u : Nat → Int) (w c : Int) : Nat → (Nat → Int) → Nat → Int
  | 0, a => a
  | l + 1, a => fun g => if (g : Int) = max 0 (min 8 (l + w)) then min (gbL u w c l a g) (u l + c) else gbL u w c l a g
/-- an order moves her: one that is given, or any, which costs 1 where it isn't 0 -/
noncomputable def gbV (v : Int) (any : Bool) (u : Nat → Int) : Nat → Int := if any = true then gbL u 1 1 9 (gbL u 0 0 9 (gbL u (-1) 1 9 nev)) else gbL u v 0 9 nev
noncomputable def rgV (u : Nat → Int) : Prop := ∀ l, 0 ≤ u l ∧ u l ≤ 1000
theorem nev_r : rgV nev := fun _ => by show (0 : Int) ≤ 1000 ∧ (1000 : Int) ≤ 1000; omega
theorem gbL_r {u a : Nat → Int} {w c : Int} (hu : rgV u) (hc : 0 ≤ c) (ha : rgV a) : ∀ n, rgV (gbL u w c n a)
  | 0 => ha
  | n + 1 => fun g => by
    have h1 := gbL_r (w := w) hu hc ha n g
    have h2 := hu n
    show 0 ≤ (if (g : Int) = max 0 (min 8 (n + w)) then min (gbL u w c n a g) (u n + c) else gbL u w c n a g) ∧ (if (g : Int) = max 0 (min 8 (n + w)) then min (gbL u w c n a g) (u n + c) else gbL u w c n a g) ≤ 1000
    split <;> omega
theorem gbV_r {u : Nat → Int} {v : Int} {any : Bool} (hu : rgV u) : rgV (gbV v any u) := by
  unfold gbV
  split
  · exact gbL_r hu (by omega) (gbL_r hu (by omega) (gbL_r hu (by omega) nev_r 9) 9) 9
  · exact gbL_r hu (by omega) nev_r 9
/-- the least of two, and what costs k more -/
noncomputable def mn2 (u a : Nat → Int) : Nat → Int := fun l => min (u l) (a l)
noncomputable def stV (u : Nat → Int) (k : Int) : Nat → Int := fun l => min 1000 (u l + k)
theorem mm1 {a b x y c : Int} : min (min a b) (min x y + c) = min (min a (x + c)) (min b (y + c)) := by omega
theorem mm2 {a x c k : Int} (hc : 0 ≤ c) (hk : 0 ≤ k) : min (min 1000 (a + k)) (min 1000 (x + k) + c) = min 1000 (min a (x + c) + k) := by omega
theorem mm3 {a b x : Int} : min (min a b) x = min a (min b x) := by omega
theorem gbL_mn {u v a b : Nat → Int} {w c : Int} : ∀ n, gbL (mn2 u v) w c n (mn2 a b) = mn2 (gbL u w c n a) (gbL v w c n b)
  | 0 => rfl
  | n + 1 => by
    funext g
    show (if (g : Int) = max 0 (min 8 (n + w)) then min (gbL (mn2 u v) w c n (mn2 a b) g) (min (u n) (v n) + c) else gbL (mn2 u v) w c n (mn2 a b) g) = min (if (g : Int) = max 0 (min 8 (n + w)) then min (gbL u w c n a g) (u n + c) else gbL u w c n a g) (if (g : Int) = max 0 (min 8 (n + w)) then min (gbL v w c n b g) (v n + c) else gbL v w c n b g)
    rw [gbL_mn n]
    by_cases c1 : (g : Int) = max 0 (min 8 (n + w))
    · rw [if_pos c1, if_pos c1, if_pos c1]; exact mm1
    · rw [if_neg c1, if_neg c1, if_neg c1]; rfl
theorem gbL_st {u a : Nat → Int} {w c k : Int} (hc : 0 ≤ c) (hk : 0 ≤ k) : ∀ n, gbL (stV u k) w c n (stV a k) = stV (gbL u w c n a) k
  | 0 => rfl
  | n + 1 => by
    funext g
    show (if (g : Int) = max 0 (min 8 (n + w)) then min (gbL (stV u k) w c n (stV a k) g) (min 1000 (u n + k) + c) else gbL (stV u k) w c n (stV a k) g) = min 1000 ((if (g : Int) = max 0 (min 8 (n + w)) then min (gbL u w c n a g) (u n + c) else gbL u w c n a g) + k)
    rw [gbL_st hc hk n]
    by_cases c1 : (g : Int) = max 0 (min 8 (n + w))
    · rw [if_pos c1, if_pos c1]; exact mm2 hc hk
    · rw [if_neg c1, if_neg c1]; rfl
theorem nev_st {k : Int} (hk : 0 ≤ k) : stV nev k = nev := funext fun _ => by show min 1000 (1000 + k) = 1000; omega
theorem nev_mn : mn2 nev nev = nev := funext fun _ => by show min (1000 : Int) 1000 = 1000; omega
/-- what is taken in behind a -/
theorem gbL_acc {u a b : Nat → Int} {w c : Int} : ∀ n, gbL u w c n (mn2 a b) = mn2 a (gbL u w c n b)
  | 0 => rfl
  | n + 1 => by
    funext g
    show (if (g : Int) = max 0 (min 8 (n + w)) then min (gbL u w c n (mn2 a b) g) (u n + c) else gbL u w c n (mn2 a b) g) = min (a g) (if (g : Int) = max 0 (min 8 (n + w)) then min (gbL u w c n b g) (u n + c) else gbL u w c n b g)
    rw [gbL_acc n]
    by_cases c1 : (g : Int) = max 0 (min 8 (n + w))
    · rw [if_pos c1, if_pos c1]; exact mm3
    · rw [if_neg c1, if_neg c1]; rfl
theorem gbL_c {u a : Nat → Int} {w c : Int} : ∀ n, (∀ g, mn2 (fun _ => 1000) (gbL u w c n (stV a c)) g = stV (gbL u w 0 n a) c g)
  | 0 => fun g => by show min 1000 (min 1000 (a g + c)) = min 1000 (a g + c); omega
  | n + 1 => fun g => by
    have ih := gbL_c (u := u) (a := a) (w := w) (c := c) n g
    have ih : min 1000 (gbL u w c n (stV a c) g) = min 1000 (gbL u w 0 n a g + c) := ih
    show min 1000 (if (g : Int) = max 0 (min 8 (n + w)) then min (gbL u w c n (stV a c) g) (u n + c) else gbL u w c n (stV a c) g) = min 1000 ((if (g : Int) = max 0 (min 8 (n + w)) then min (gbL u w 0 n a g) (u n + 0) else gbL u w 0 n a g) + c)
    split <;> omega
theorem mn_1000 {u : Nat → Int} (hu : rgV u) : mn2 (fun _ => 1000) u = u := funext fun g => by have := hu g; show min 1000 (u g) = u g; omega
theorem mn_nev {u : Nat → Int} (hu : rgV u) : mn2 u nev = u := funext fun g => by have := hu g; show min (u g) 1000 = u g; omega
theorem gb_cost {u : Nat → Int} {w c : Int} (hu : rgV u) (hc : 0 ≤ c) : gbL u w c 9 nev = stV (gbL u w 0 9 nev) c := by
  have h1 := funext (gbL_c (u := u) (a := nev) (w := w) (c := c) 9)
  rw [nev_st hc] at h1
  rw [← h1, mn_1000 (gbL_r hu hc nev_r 9)]
/-- any order: the best of the three -/
theorem gbV_any {u : Nat → Int} {v : Int} (hu : rgV u) : gbV v true u = mn2 (mn2 (stV (gbV (-1) false u) 1) (gbV 0 false u)) (stV (gbV 1 false u) 1) := by
  show gbL u 1 1 9 (gbL u 0 0 9 (gbL u (-1) 1 9 nev)) = mn2 (mn2 (stV (gbL u (-1) 0 9 nev) 1) (gbL u 0 0 9 nev)) (stV (gbL u 1 0 9 nev) 1)
  rw [← gb_cost hu (by omega), ← gb_cost hu (by omega)]
  have r1 := gbL_r (w := -1) (c := 1) hu (by omega) nev_r 9
  rw [← gbL_acc, ← mn_nev r1, gbL_acc, mn_nev r1]
  have r2 : rgV (mn2 (gbL u (-1) 1 9 nev) (gbL u 0 0 9 nev)) := fun l => by
    have a := r1 l
    have b := gbL_r (w := 0) (c := 0) hu (by omega) nev_r 9 l
    show 0 ≤ min _ _ ∧ min _ _ ≤ 1000
    omega
  rw [mn_nev r2]
theorem gbV_mn {u a : Nat → Int} {v : Int} : gbV v false (mn2 u a) = mn2 (gbV v false u) (gbV v false a) := by
  show gbL (mn2 u a) v 0 9 nev = mn2 (gbL u v 0 9 nev) (gbL a v 0 9 nev)
  rw [← gbL_mn, nev_mn]
theorem gbV_st {u : Nat → Int} {v k : Int} (hk : 0 ≤ k) : gbV v false (stV u k) = stV (gbV v false u) k := by
  show gbL (stV u k) v 0 9 nev = stV (gbL u v 0 9 nev) k
  rw [← gbL_st (by omega) hk, nev_st hk]
theorem mn2_r {u a : Nat → Int} (hu : rgV u) (ha : rgV a) : rgV (mn2 u a) := fun l => by
  have := hu l
  have := ha l
  show 0 ≤ min _ _ ∧ min _ _ ≤ 1000
  omega
theorem stV_r {u : Nat → Int} {k : Int} (hu : rgV u) (hk : 0 ≤ k) : rgV (stV u k) := fun l => by
  have := hu l
  show 0 ≤ min _ _ ∧ min _ _ ≤ 1000
  omega
theorem mn_p1 (a b : Int) : min 1000 (min a b + 1) = min (min 1000 (a + 1)) (min 1000 (b + 1)) := by omega
theorem mn_6 (x1 x2 y1 y2 z1 z2 : Int) : min (min (min x1 x2) (min y1 y2)) (min z1 z2) = min (min (min x1 y1) z1) (min (min x2 y2) z2) := by ac_rfl
theorem gbVA_mn {u a : Nat → Int} {v : Int} {any : Bool} (hu : rgV u) (ha : rgV a) : gbV v any (mn2 u a) = mn2 (gbV v any u) (gbV v any a) := by
  cases any
  · exact gbV_mn
  · rw [gbV_any (mn2_r hu ha), gbV_any hu, gbV_any ha, gbV_mn, gbV_mn, gbV_mn]
    funext g
    show min (min (min 1000 (min _ _ + 1)) (min _ _)) (min 1000 (min _ _ + 1)) = min (min (min (min 1000 _) _) _) (min (min (min 1000 _) _) _)
    simp only [mn2, stV]
    rw [mn_p1, mn_p1]
    exact mn_6 _ _ _ _ _ _
theorem gbVA_st {u : Nat → Int} {v k : Int} {any : Bool} (hu : rgV u) (hk : 0 ≤ k) : gbV v any (stV u k) = stV (gbV v any u) k := by
  cases any
  · exact gbV_st hk
  · rw [gbV_any (stV_r hu hk), gbV_any hu, gbV_st hk, gbV_st hk, gbV_st hk]
    funext g
    simp only [mn2, stV]
    omega
/-- what happens one behind another: 0 an order under way, 1 one that is chosen, 2 the ROCKS of a STEP -/
noncomputable def opF (ch : Int → Int) (l : Int) (hit : Int → Nat → Int) (q : Int × Int) (u : Nat → Int) : Nat → Int :=
  if q.1 = 0 then gbV q.2 false u else if q.1 = 1 then gbV (tvF l (ch q.2)) (decide (ch q.2 = 2)) u else fun g => if 0 < hit q.2 g then 1000 else u g
noncomputable def opsF (ch : Int → Int) (l : Int) (hit : Int → Nat → Int) (L : List (Int × Int)) (u : Nat → Int) : Nat → Int := L.foldl (fun u q => opF ch l hit q u) u
theorem opF_r {ch : Int → Int} {l : Int} {hit : Int → Nat → Int} {q : Int × Int} {u : Nat → Int} (hu : rgV u) : rgV (opF ch l hit q u) := by
  unfold opF
  split
  · exact gbV_r hu
  · split
    · exact gbV_r hu
    · intro g
      have := hu g
      show 0 ≤ (if _ then (1000 : Int) else u g) ∧ (if _ then (1000 : Int) else u g) ≤ 1000
      split <;> omega
theorem opF_mn {ch : Int → Int} {l : Int} {hit : Int → Nat → Int} {q : Int × Int} {u a : Nat → Int} (hu : rgV u) (ha : rgV a) : opF ch l hit q (mn2 u a) = mn2 (opF ch l hit q u) (opF ch l hit q a) := by
  unfold opF
  by_cases c : q.1 = 0
  · simp only [if_pos c]; exact gbVA_mn hu ha
  · by_cases c2 : q.1 = 1
    · simp only [if_neg c, if_pos c2]; exact gbVA_mn hu ha
    · simp only [if_neg c, if_neg c2]
      funext g
      simp only [mn2]
      split <;> omega
theorem opF_st {ch : Int → Int} {l : Int} {hit : Int → Nat → Int} {q : Int × Int} {u : Nat → Int} {k : Int} (hu : rgV u) (hk : 0 ≤ k) : opF ch l hit q (stV u k) = stV (opF ch l hit q u) k := by
  unfold opF
  by_cases c : q.1 = 0
  · simp only [if_pos c]; exact gbVA_st hu hk
  · by_cases c2 : q.1 = 1
    · simp only [if_neg c, if_pos c2]; exact gbVA_st hu hk
    · simp only [if_neg c, if_neg c2]
      funext g
      simp only [stV]
      split <;> omega
theorem opsF_r {ch : Int → Int} {l : Int} {hit : Int → Nat → Int} : ∀ (L : List (Int × Int)) (u : Nat → Int), rgV u → rgV (opsF ch l hit L u)
  | [], _, h => h
  | q :: r, u, h => opsF_r r _ (opF_r h)
theorem opsF_mn {ch : Int → Int} {l : Int} {hit : Int → Nat → Int} : ∀ (L : List (Int × Int)) (u a : Nat → Int), rgV u → rgV a → opsF ch l hit L (mn2 u a) = mn2 (opsF ch l hit L u) (opsF ch l hit L a)
  | [], _, _, _, _ => rfl
  | q :: r, u, a, hu, ha => by
    show opsF ch l hit r (opF ch l hit q (mn2 u a)) = mn2 (opsF ch l hit r (opF ch l hit q u)) (opsF ch l hit r (opF ch l hit q a))
    rw [opF_mn hu ha, opsF_mn r _ _ (opF_r hu) (opF_r ha)]
theorem opsF_st {ch : Int → Int} {l : Int} {hit : Int → Nat → Int} {k : Int} (hk : 0 ≤ k) : ∀ (L : List (Int × Int)) (u : Nat → Int), rgV u → opsF ch l hit L (stV u k) = stV (opsF ch l hit L u) k
  | [], _, _ => rfl
  | q :: r, u, hu => by
    show opsF ch l hit r (opF ch l hit q (stV u k)) = stV (opsF ch l hit r (opF ch l hit q u)) k
    rw [opF_st hu hk, opsF_st hk r _ (opF_r hu)]
theorem opsF_app {ch : Int → Int} {l : Int} {hit : Int → Nat → Int} {L R : List (Int × Int)} {u : Nat → Int} : opsF ch l hit (L ++ R) u = opsF ch l hit R (opsF ch l hit L u) := by unfold opsF; rw [List.foldl_append]
/-- choices that don't come don't count -/
theorem opsF_ch {ch ch' : Int → Int} {l : Int} {hit : Int → Nat → Int} : ∀ (L : List (Int × Int)) (u : Nat → Int), (∀ q ∈ L, q.1 = 1 → ch q.2 = ch' q.2) → opsF ch l hit L u = opsF ch' l hit L u
  | [], _, _ => rfl
  | q :: r, u, h => by
    show opsF ch l hit r (opF ch l hit q u) = opsF ch' l hit r (opF ch' l hit q u)
    have e : opF ch l hit q u = opF ch' l hit q u := by
      unfold opF
      by_cases c2 : q.1 = 1
      · simp only [h q List.mem_cons_self c2]
      · simp only [if_neg c2]
    rw [e]
    exact opsF_ch r _ fun z hz => h z (List.mem_cons_of_mem _ hz)
/-- the least of a vector -/
noncomputable def fwN (u : Nat → Int) : Nat → Int
  | 0 => 1000
  | l + 1 => min (fwN u l) (u l)
theorem fwN_s {u : Nat → Int} {i : Int} (h : 0 ≤ i) : fwN u (i + 1).toNat = min (fwN u i.toNat) (u i.toNat) := by rw [tn_s h]; rfl
theorem fwN_r {u : Nat → Int} (hu : rgV u) : ∀ n, 0 ≤ fwN u n ∧ fwN u n ≤ 1000
  | 0 => by show (0 : Int) ≤ 1000 ∧ (1000 : Int) ≤ 1000; omega
  | n + 1 => by
    have := fwN_r hu n
    have := hu n
    show 0 ≤ min _ _ ∧ min _ _ ≤ 1000
    omega
theorem fwN_mn {u a : Nat → Int} : ∀ n, fwN (mn2 u a) n = min (fwN u n) (fwN a n)
  | 0 => by show (1000 : Int) = min 1000 1000; omega
  | n + 1 => by
    show min (fwN (mn2 u a) n) (min (u n) (a n)) = min (min (fwN u n) (u n)) (min (fwN a n) (a n))
    rw [fwN_mn n]; omega
theorem fwN_st {u : Nat → Int} {k : Int} (hk : 0 ≤ k) : ∀ n, fwN (stV u k) n = min 1000 (fwN u n + k)
  | 0 => by show (1000 : Int) = min 1000 (1000 + k); omega
  | n + 1 => by
    show min (fwN (stV u k) n) (min 1000 (u n + k)) = min 1000 (min (fwN u n) (u n) + k)
    rw [fwN_st hk n]; omega
noncomputable def upC (ch : Int → Int) (k v : Int) : Int → Int := fun j => if j = k then v else ch j
/-- one choice that comes once: any of it costs as the best of three -/
theorem one_ch {ch : Int → Int} {l : Int} {hit : Int → Nat → Int} {k : Int} {A B : List (Int × Int)} {u : Nat → Int} (hu : rgV u) (hA : ∀ q ∈ A, q.1 = 1 → q.2 ≠ k) (hB : ∀ q ∈ B, q.1 = 1 → q.2 ≠ k) (hk : ch k = 2) :
    fwN (opsF ch l hit (A ++ ((1, k) :: B)) u) 9 = min (min (min 1000 (fwN (opsF (upC ch k (-1)) l hit (A ++ ((1, k) :: B)) u) 9 + 1)) (fwN (opsF (upC ch k 0) l hit (A ++ ((1, k) :: B)) u) 9)) (min 1000 (fwN (opsF (upC ch k 1) l hit (A ++ ((1, k) :: B)) u) 9 + 1)) := by
  have ha : ∀ v, opsF (upC ch k v) l hit A u = opsF ch l hit A u := fun v => opsF_ch A u fun q hq h1 => if_neg (hA q hq h1)
  have hb : ∀ v x, opsF (upC ch k v) l hit B x = opsF ch l hit B x := fun v x => opsF_ch B x fun q hq h1 => if_neg (hB q hq h1)
  have step : ∀ (ch' : Int → Int) x, opsF ch' l hit ((1, k) :: B) x = opsF ch' l hit B (gbV (tvF l (ch' k)) (decide (ch' k = 2)) x) := fun ch' x => rfl
  simp only [opsF_app, step, ha, hb]
  obtain ⟨x, hx⟩ : ∃ x, opsF ch l hit A u = x := ⟨_, rfl⟩
  have rx : rgV x := by rw [← hx]; exact opsF_r A u hu
  rw [hx, show upC ch k (-1) k = -1 from if_pos rfl, show upC ch k 0 k = 0 from if_pos rfl, show upC ch k 1 k = 1 from if_pos rfl, hk]
  rw [show decide ((2 : Int) = 2) = true from rfl, show decide ((-1 : Int) = 2) = false from rfl, show decide ((0 : Int) = 2) = false from rfl, show decide ((1 : Int) = 2) = false from rfl, gbV_any rx]
  have r1 := gbV_r (v := -1) (any := false) rx
  have r2 := gbV_r (v := 0) (any := false) rx
  have r3 := gbV_r (v := 1) (any := false) rx
  rw [opsF_mn B _ _ (mn2_r (stV_r r1 (by omega)) r2) (stV_r r3 (by omega)), opsF_mn B _ _ (stV_r r1 (by omega)) r2, opsF_st (by omega) B _ r1, opsF_st (by omega) B _ r3, fwN_mn, fwN_mn, fwN_st (by omega), fwN_st (by omega)]
  have e0 : tvF l 0 = 0 := by unfold tvF; split <;> rfl
  have e1 : (tvF l (-1) = -1 ∧ tvF l 1 = 1) ∨ (tvF l (-1) = 1 ∧ tvF l 1 = -1) := by unfold tvF; split <;> simp
  rw [e0]
  rcases e1 with ⟨a, b⟩ | ⟨a, b⟩
  · rw [a, b]
  · rw [a, b]; omega
noncomputable def cmF (now last : Int) (dl : Int → Int) (k t : Int) : Bool := (decide (0 < k) || decide (last ≠ now)) && decide (k + dl (now + k) = t)
noncomputable def blkC (now last : Int) (dl : Int → Int) (t : Int) : Nat → List (Int × Int)
  | 0 => []
  | k + 1 => blkC now last dl t k ++ if cmF now last dl k t = true then [(1, (k : Int))] else []
noncomputable def wyF (L : List (Int × Int × Int)) (d : Int) : List (Int × Int) := (L.filter fun q => decide (q.1 = d)).map fun q => (0, q.2.1)
noncomputable def blkT (L : List (Int × Int × Int)) (now last : Int) (dl : Int → Int) (t : Nat) : List (Int × Int) := wyF L (now + t) ++ (blkC now last dl t t ++ [(2, (t : Int))])
noncomputable def opsT (L : List (Int × Int × Int)) (now last : Int) (dl : Int → Int) : Nat → List (Int × Int)
  | 0 => []
  | t + 1 => opsT L now last dl t ++ blkT L now last dl (t + 1)
theorem wyF_1 {L : List (Int × Int × Int)} {d : Int} {q : Int × Int} (h : q ∈ wyF L d) : q.1 = 0 := by
  obtain ⟨z, -, rfl⟩ := List.mem_map.mp h
  rfl
theorem blkC_1 {now last : Int} {dl : Int → Int} {t : Int} : ∀ (n : Nat) {q : Int × Int}, q ∈ blkC now last dl t n → q.1 = 1 ∧ 0 ≤ q.2 ∧ q.2 < n ∧ cmF now last dl q.2 t = true
  | 0, q, h => absurd h List.not_mem_nil
  | n + 1, q, h => by
    rcases List.mem_append.mp h with h | h
    · obtain ⟨a, b, c, d⟩ := blkC_1 n h
      exact ⟨a, b, by omega, d⟩
    · by_cases c : cmF now last dl n t = true
      · rw [if_pos c] at h
        obtain rfl := List.mem_singleton.mp h
        exact ⟨rfl, by show (0 : Int) ≤ n; omega, by show (n : Int) < _; omega, c⟩
      · rw [if_neg c] at h
        exact absurd h List.not_mem_nil
theorem cmF_t {now last : Int} {dl : Int → Int} {k t : Int} (h : cmF now last dl k t = true) : (0 < k ∨ last ≠ now) ∧ k + dl (now + k) = t := by
  unfold cmF at h
  rw [Bool.and_eq_true, Bool.or_eq_true, decide_eq_true_eq, decide_eq_true_eq, decide_eq_true_eq] at h
  exact h
theorem cmF_i {now last : Int} {dl : Int → Int} {k t : Int} (h : (0 < k ∨ last ≠ now) ∧ k + dl (now + k) = t) : cmF now last dl k t = true := by
  unfold cmF
  rw [Bool.and_eq_true, Bool.or_eq_true, decide_eq_true_eq, decide_eq_true_eq, decide_eq_true_eq]
  exact h
theorem blkT_1 {L : List (Int × Int × Int)} {now last : Int} {dl : Int → Int} {t : Nat} {q : Int × Int} (h : q ∈ blkT L now last dl t) (h1 : q.1 = 1) : cmF now last dl q.2 t = true := by
  rcases List.mem_append.mp h with h | h
  · have := wyF_1 h; omega
  · rcases List.mem_append.mp h with h | h
    · exact (blkC_1 t h).2.2.2
    · obtain rfl := List.mem_singleton.mp h
      exact absurd h1 (by show ¬ (2 : Int) = 1; omega)
theorem opsT_1 {L : List (Int × Int × Int)} {now last : Int} {dl : Int → Int} : ∀ (n : Nat) {q : Int × Int}, q ∈ opsT L now last dl n → q.1 = 1 → (0 < q.2 ∨ last ≠ now) ∧ q.2 + dl (now + q.2) ≤ n
  | 0, q, h, _ => absurd h List.not_mem_nil
  | n + 1, q, h, h1 => by
    rcases List.mem_append.mp h with h | h
    · have := opsT_1 n h h1
      exact ⟨this.1, by omega⟩
    · have := cmF_t (blkT_1 h h1)
      exact ⟨this.1, by omega⟩
theorem blkC_at {now last : Int} {dl : Int → Int} {t k : Int} (h0 : 0 ≤ k) (hc : cmF now last dl k t = true) : ∀ n : Nat, k < n → ∃ A B, blkC now last dl t n = A ++ ((1, k) :: B) ∧ (∀ q ∈ A, q.2 < k) ∧ ∀ q ∈ B, k < q.2
  | 0, h => absurd h (by omega)
  | n + 1, h => by
    by_cases c : k = n
    · refine ⟨blkC now last dl t n, [], ?_, fun q hq => by have := (blkC_1 n hq).2.2.1; omega, fun q hq => absurd hq List.not_mem_nil⟩
      show blkC now last dl t n ++ (if cmF now last dl n t = true then [(1, (n : Int))] else []) = _
      rw [← c, if_pos hc]
    · obtain ⟨A, B, e, a, b⟩ := blkC_at h0 hc n (by omega)
      refine ⟨A, B ++ if cmF now last dl n t = true then [(1, (n : Int))] else [], ?_, a, fun q hq => ?_⟩
      · show blkC now last dl t n ++ _ = _
        rw [e, List.append_assoc]; rfl
      · rcases List.mem_append.mp hq with hq | hq
        · exact b q hq
        · by_cases c2 : cmF now last dl n t = true
          · rw [if_pos c2] at hq
            obtain rfl := List.mem_singleton.mp hq
            show k < (n : Int); omega
          · rw [if_neg c2] at hq
            exact absurd hq List.not_mem_nil
/-- a choice that comes in n STEPS comes once -/
theorem opsT_at {L : List (Int × Int × Int)} {now last : Int} {dl : Int → Int} {k : Int} (h0 : 0 ≤ k) (hd : 1 ≤ dl (now + k)) (hm : 0 < k ∨ last ≠ now) : ∀ n : Nat, k + dl (now + k) ≤ n → ∃ A B, opsT L now last dl n = A ++ ((1, k) :: B) ∧ (∀ q ∈ A, q.1 = 1 → q.2 ≠ k) ∧ ∀ q ∈ B, q.1 = 1 → q.2 ≠ k
  | 0, h => absurd h (by omega)
  | n + 1, h => by
    by_cases c : k + dl (now + k) ≤ n
    · obtain ⟨A, B, e, a, b⟩ := opsT_at h0 hd hm n c
      refine ⟨A, B ++ blkT L now last dl (n + 1), ?_, a, fun q hq h1 => ?_⟩
      · show opsT L now last dl n ++ _ = _
        rw [e, List.append_assoc]; rfl
      · rcases List.mem_append.mp hq with hq | hq
        · exact b q hq h1
        · have := (cmF_t (blkT_1 hq h1)).2
          intro z
          rw [z] at this
          omega
    · obtain ⟨A, B, e, a, b⟩ := blkC_at (now := now) (last := last) (dl := dl) (t := ((n + 1 : Nat) : Int)) h0 (cmF_i ⟨hm, by omega⟩) (n + 1) (by omega)
      refine ⟨opsT L now last dl n ++ (wyF L (now + ((n + 1 : Nat) : Int)) ++ A), B ++ [(2, ((n + 1 : Nat) : Int))], ?_, fun q hq h1 => ?_, fun q hq h1 => ?_⟩
      · show opsT L now last dl n ++ (wyF L (now + ((n + 1 : Nat) : Int)) ++ (blkC now last dl ((n + 1 : Nat) : Int) (n + 1) ++ [(2, ((n + 1 : Nat) : Int))])) = _
        rw [e]
        simp only [List.append_assoc, List.cons_append]
      · rcases List.mem_append.mp hq with hq | hq
        · have := (opsT_1 n hq h1).2
          intro z
          rw [z] at this
          omega
        · rcases List.mem_append.mp hq with hq | hq
          · have := wyF_1 hq; omega
          · have := a q hq; omega
      · rcases List.mem_append.mp hq with hq | hq
        · have := b q hq; omega
        · obtain rfl := List.mem_singleton.mp hq
          exact absurd h1 (by show ¬ (2 : Int) = 1; omega)
/-- nine ints as a vector -/
noncomputable def LV (h : aH) (a : Nat) : Nat → Int := fun l => if l < 9 then gi h a l else 1000
theorem LV_at {h : aH} {a l : Nat} (hl : l < 9) : LV h a l = gi h a l := if_pos hl
theorem LV_F {M : MD} {h h' : aH} {a r : Nat} (hF : FRM gRL M h h') (hr : gRL[a]? = some r) (hm : (M.all fun q => !(Nat.beq q.1 0 && Nat.beq q.2.1 r)) = true) : LV h' a = LV h a := by
  funext l
  unfold LV
  rw [FRM_gi hF hr (mHas_non hm _)]
theorem LV_rng {h : aH} {a : Nat} (hr : rgV (LV h a)) {l : Nat} (hl : l < 9) : 0 ≤ gi h a l ∧ gi h a l ≤ 1000 := by have := hr l; rw [LV_at hl] at this; exact this
end
