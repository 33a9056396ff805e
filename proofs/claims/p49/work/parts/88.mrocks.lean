section
/-! ROCKS TOLD (the reference); rule() empties THE TEXT -/
noncomputable def rkJ : List Int32 := byJ.getD 0 []
/-- a LINE of ROCKS: can it stand and up to where; MILE, LANE -/
noncomputable def rdRock (f : Int → Int) (p : Int) : (Bool × Int) × Int × Int :=
  if (nmI f 3 1 999 p).1 < 0 then ((false, (nmI f 3 1 999 p).2), 0, 0) else if f (nmI f 3 1 999 p).2 ≠ 44 then ((false, (nmI f 3 1 999 p).2), 0, 0)
  else if fidx (f ((nmI f 3 1 999 p).2 + 1)) rkJ 0 < 0 then ((false, (nmI f 3 1 999 p).2 + 1), 0, 0) else ((true, (nmI f 3 1 999 p).2 + 2), (nmI f 3 1 999 p).1, fidx (f ((nmI f 3 1 999 p).2 + 1)) rkJ 0)
/-- LINES of ROCKS, of which n at most have room -/
noncomputable def rdRs (f : Int → Int) : Nat → Int → (Bool × Int) × List (Int × Int)
  | 0, p => ((false, p), [])
  | n + 1, p => if (rdRock f p).1.1 = true then (if f (rdRock f p).1.2 = 59 then ((rdRs f n ((rdRock f p).1.2 + 1)).1, (rdRock f p).2 :: (rdRs f n ((rdRock f p).1.2 + 1)).2) else ((true, (rdRock f p).1.2), [(rdRock f p).2])) else ((false, (rdRock f p).1.2), [])
noncomputable def rkR (f : Int → Int) (sz rs : Int) : (Bool × Int) × List (Int × Int) := if sz = 0 then ((true, 0), []) else rdRs f (16 - rs).toNat 0
theorem fidx_e {s : Int} : ∀ (l : List Int32) (k : Nat), (∀ c ∈ l, c.toInt ≠ s) → fidx s l k = -1
  | [], _, _ => rfl
  | c :: t, k, h => by rw [fidx_cons, if_neg (h c List.mem_cons_self)]; exact fidx_e t (k + 1) fun d hd => h d (List.mem_cons_of_mem _ hd)
theorem rk_l : ∀ s : Int, fidx s rkJ 0 = if 48 ≤ s ∧ s ≤ 56 then s - 48 else -1 := by
  intro s
  by_cases c : 48 ≤ s ∧ s ≤ 56
  · rw [if_pos c]
    have : ∀ n : Nat, n < 9 → fidx (48 + (n : Int)) rkJ 0 = n := by decide
    have z := this (s - 48).toNat (by omega)
    rw [show 48 + (((s - 48).toNat : Nat) : Int) = s by omega] at z
    rw [z]; omega
  · rw [if_neg c]
    refine fidx_e _ _ fun d hd => ?_
    have : ∀ d ∈ rkJ, 48 ≤ d.toInt ∧ d.toInt ≤ 56 := by decide
    have := this d hd
    omega
theorem rdRock_b {f : Int → Int} {p stop : Int} (hf : ∀ a, stop ≤ a → f a = -1) (hp : p ≤ stop) : p ≤ (rdRock f p).1.2 ∧ (rdRock f p).1.2 ≤ stop ∧ ((rdRock f p).1.1 = true → p < (rdRock f p).1.2 ∧ (1 ≤ (rdRock f p).2.1 ∧ (rdRock f p).2.1 ≤ 999) ∧ 0 ≤ (rdRock f p).2.2 ∧ (rdRock f p).2.2 ≤ 8) := by
  have m := nmI_b (n := 3) (lo := 1) (hi := 999) hf hp
  unfold rdRock
  generalize nmI f 3 1 999 p = e at m ⊢
  by_cases c : e.1 < 0
  · rw [if_pos c]; exact ⟨m.1, m.2.1, fun z => absurd (show false = true from z) (by decide)⟩
  · have m2 := m.2.2 (by omega)
    rw [if_neg c]
    by_cases d : f e.2 ≠ 44
    · rw [if_pos d]; exact ⟨m.1, m.2.1, fun z => absurd (show false = true from z) (by decide)⟩
    · rw [if_neg d]
      have l1 : e.2 < stop := by
        by_cases z : stop ≤ e.2
        · have := hf _ z; omega
        · omega
      have fb := rk_l (f (e.2 + 1))
      by_cases g : fidx (f (e.2 + 1)) rkJ 0 < 0
      · rw [if_pos g]; exact ⟨by show p ≤ e.2 + 1; omega, by show e.2 + 1 ≤ stop; omega, fun z => absurd (show false = true from z) (by decide)⟩
      · rw [if_neg g]
        have l2 : e.2 + 1 < stop := by
          by_cases z : stop ≤ e.2 + 1
          · have q := hf _ z
            rw [q, if_neg (by omega)] at fb
            rw [q, fb] at g
            omega
          · omega
        refine ⟨by show p ≤ e.2 + 2; omega, by show e.2 + 2 ≤ stop; omega, fun _ => ⟨by show p < e.2 + 2; omega, by show 1 ≤ e.1 ∧ e.1 ≤ 999; omega, ?_⟩⟩
        show 0 ≤ fidx (f (e.2 + 1)) rkJ 0 ∧ fidx (f (e.2 + 1)) rkJ 0 ≤ 8
        rw [fb] at g ⊢
        split at g <;> split <;> omega
theorem rdRs_b {f : Int → Int} {stop : Int} (hf : ∀ a, stop ≤ a → f a = -1) : ∀ (n : Nat) (p : Int), p ≤ stop → (p ≤ (rdRs f n p).1.2 ∧ (rdRs f n p).1.2 ≤ stop) ∧ (rdRs f n p).2.length ≤ n ∧ ∀ q ∈ (rdRs f n p).2, (1 ≤ q.1 ∧ q.1 ≤ 999) ∧ 0 ≤ q.2 ∧ q.2 ≤ 8
  | 0, p, h => ⟨⟨Int.le_refl _, h⟩, Nat.le_refl _, fun q hq => absurd hq List.not_mem_nil⟩
  | n + 1, p, h => by
    have b := rdRock_b hf h
    unfold rdRs
    generalize rdRock f p = e at b ⊢
    by_cases c : e.1.1 = true
    · have b2 := b.2.2 c
      rw [if_pos c]
      by_cases d : f e.1.2 = 59
      · have l1 : e.1.2 < stop := by
          by_cases z : stop ≤ e.1.2
          · have := hf _ z; omega
          · omega
        have ih := rdRs_b hf n (e.1.2 + 1) (by omega)
        rw [if_pos d]
        refine ⟨⟨by show p ≤ (rdRs f n (e.1.2 + 1)).1.2; omega, ih.1.2⟩, by simp only [List.length_cons]; omega, fun q hq => ?_⟩
        rcases List.mem_cons.mp hq with rfl | hq
        · exact b2.2
        · exact ih.2.2 q hq
      · rw [if_neg d]
        refine ⟨⟨b.1, b.2.1⟩, by simp, fun q hq => ?_⟩
        rw [List.mem_singleton.mp hq]
        exact b2.2
    · rw [if_neg c]
      exact ⟨⟨b.1, b.2.1⟩, Nat.zero_le _, fun q hq => absurd hq List.not_mem_nil⟩
theorem rkR_b {f : Int → Int} {stop sz rs : Int} (hf : ∀ a, stop ≤ a → f a = -1) (h0 : 0 ≤ stop) : (0 ≤ (rkR f sz rs).1.2 ∧ (rkR f sz rs).1.2 ≤ stop) ∧ (rkR f sz rs).2.length ≤ (16 - rs).toNat ∧ ∀ q ∈ (rkR f sz rs).2, (1 ≤ q.1 ∧ q.1 ≤ 999) ∧ 0 ≤ q.2 ∧ q.2 ≤ 8 := by
  unfold rkR
  split
  · exact ⟨⟨Int.le_refl _, h0⟩, Nat.zero_le _, fun q hq => absurd hq List.not_mem_nil⟩
  · exact rdRs_b hf _ _ h0
set_option maxRecDepth 4000 in
theorem ctX11_readsRockF (hSP : MONO SPt) {sh : List (Nat × Nat)} {h : aH} (hG : GD gE gRL sh h) (hc : gi h 171 6 + gi h 171 22 ≤ 16) (ha : gi h 171 18 ≤ gi h 171 19) : CLd SPt 6 mX11_readsRock [.ref 171] h 0 0 (fun rv h' => ((gi h 171 6 + gi h 171 22 = 16 ∧ rv = some (.int (I 0)) ∧ gi h' 171 18 = (gi h 171 18) ∧ gi h' 171 22 = gi h 171 22) ∨ (gi h 171 6 + gi h 171 22 < 16 ∧ (rdRock (fm h) (gi h 171 18)).1.1 = false ∧ rv = some (.int (I 0)) ∧ gi h' 171 18 = (rdRock (fm h) (gi h 171 18)).1.2 ∧ gi h' 171 22 ≤ gi h 171 22 + 1) ∨ (gi h 171 6 + gi h 171 22 < 16 ∧ (rdRock (fm h) (gi h 171 18)).1.1 = true ∧ rv = some (.int (I 1)) ∧ gi h' 171 18 = (rdRock (fm h) (gi h 171 18)).1.2 ∧ gi h' 171 22 = gi h 171 22 + 1 ∧ gi h' 181 (2 * gi h 171 22).toNat = (rdRock (fm h) (gi h 171 18)).2.1 ∧ gi h' 181 (2 * gi h 171 22 + 1).toNat = (rdRock (fm h) (gi h 171 18)).2.2 ∧ (gi h 171 18) < (rdRock (fm h) (gi h 171 18)).1.2 ∧ ∀ j, j ≠ (2 * gi h 171 22).toNat → j ≠ (2 * gi h 171 22 + 1).toNat → gi h' 181 j = gi h 181 j)) ∧ (gi h 171 18) ≤ gi h' 171 18 ∧ gi h' 171 18 ≤ gi h 171 19 ∧ GD gE gRL sh h' ∧ FRM gRL [(0, 54, 18, 18), (0, 54, 22, 22), (0, 64, 0, 31)] h h') := by
  refine x_met _ rfl (Nat.le_of_ble_eq_true rfl) (fun K hK => ?_)
  have hmono := MONO_CLd hSP 5
  have g22 := gri 0 16 hG (a := 171) (r := 54) (k := 22) rfl rfl
  have gc := gri 0 16 hG (a := 171) (r := 54) (k := 6) rfl rfl
  have fe0 : ∀ a, gi h 171 19 ≤ a → fm h a = -1 := fun a ha => if_neg (by omega)
  have rb := rdRock_b fe0 ha
  refine x_aload_n 1 hK rfl rfl rfl ?_
  have g284 := gri (0) (16) hG (a := 171) (r := 54) (k := 6) rfl rfl
  refine x_getE 4 hK rfl (Or.inl rfl) rfl (sp_171 (h := h) hG) (e := (gi h 171 6)) (rfl) ?_
  refine x_aload_n 5 hK rfl rfl rfl ?_
  have g285 := gri (0) (16) hG (a := 171) (r := 54) (k := 22) rfl rfl
  refine x_getE 8 hK rfl (Or.inl rfl) rfl (sp_171 (h := h) hG) (e := (gi h 171 22)) (rfl) ?_
  refine x_iadd 9 hK rfl rfl ?_
  refine x_bipush 11 hK rfl rfl rfl ?_
  refine x_if_icmp_ne 16 14 hK rfl rfl rfl (by omega) (by omega) (fun c7 => ?_) (fun c7 => ?_)
  · refine x_iconst 17 hK rfl rfl ?_
    refine x_aload_n 18 hK rfl rfl rfl ?_
    refine x_getE 21 hK rfl (Or.inl rfl) rfl (sp_171 (h := h) hG) (e := (gi h 171 22)) (rfl) ?_
    refine x_imul 22 hK rfl rfl ?_
    refine x_istore_n 23 hK rfl rfl [(1, .int (I (2 * (gi h 171 22)))), (0, .ref 171)] rfl ?_
    refine x_aload_n 24 hK rfl rfl rfl ?_
    refine x_getR 27 hK rfl rfl (sp_171 (h := h) hG) (rf_171_21 (h := h) hG) ?_
    refine x_iload_n 28 hK rfl rfl rfl ?_
    refine x_aload_n 29 hK rfl rfl rfl ?_
    refine x_iconst 30 hK rfl rfl ?_
    refine x_iconst 31 hK rfl rfl ?_
    refine x_sipush 34 hK rfl rfl rfl ?_
    have g287 := gri (0) (81) hG (a := 171) (r := 54) (k := 18) rfl rfl
    have at286 : gi h 171 18 = (gi h 171 18) := rfl
    have fe286 : fm h = (fm h) := rfl
    have to286 : gi h 171 19 = gi h 171 19 := rfl
    refine x_callV 37 hK hmono rfl rfl [.ref 171, .int (I 3), .int (I 1), .int (I 999)] [.int (I (2 * (gi h 171 22))), .ref 181] rfl rfl (Nat.le_of_ble_eq_true rfl) (Nat.le_of_ble_eq_true rfl) rfl (sp_171 (h := h) hG) (CLd_le (Nat.le_of_ble_eq_true rfl) (ctX11_numberIn hSP hG (n := 3) (lo := 1) (hi := 999) (by omega) (by omega) (by omega))) ?_
    rw [fe286, at286, to286]
    rintro v286 h286 ⟨⟨e286, rfl, ne286, nu286, nf286⟩, hG286, hF286, np286, nq286, nr286⟩
    have nm286 : nmI (fm h) 3 1 999 (gi h 171 18) = (e286, gi h286 171 18) := nmI_e nu286 np286
    clear nu286 np286
    generalize eq286 : gi h286 171 18 = p286 at *
    refine x_iastore 38 hK rfl rfl (sp_181 (h := h286) hG286) (by omega) (by omega) (by omega) ?_
    refine x_aload_n 39 hK rfl rfl rfl ?_
    refine x_getR 42 hK rfl rfl (sp_171 (h := h286) hG286) (rf_171_21 (h := h286) hG286) ?_
    refine x_iload_n 43 hK rfl rfl rfl ?_
    refine x_ialoadE 44 hK rfl rfl (sp_181 (h := h286) hG286) (by omega) (by omega) (by omega) (e' := e286) (gi_same (by omega)) ?_
    refine x_if_lt 56 47 hK rfl rfl rfl (by omega) (fun c26 => ?_) (fun c26 => ?_)
    · refine x_iconst 57 hK rfl rfl ?_
      have zb : gi (wI h286 181 (2 * (gi h 171 22)).toNat e286) 171 22 = (gi h 171 22) := (gi_a (by decide) _).trans (FRM_gi hF286 (r := 54) rfl rfl)
      have za : gi (wI h286 181 (2 * (gi h 171 22)).toNat e286) 171 18 = p286 := (gi_a (by decide) _).trans (eq286)
      have er : (rdRock (fm h) (gi h 171 18)) = ((false, p286), 0, 0) := by
        unfold rdRock
        rw [nm286, if_pos (show e286 < 0 by omega)]
      rw [er] at rb
      exact x_zret hK rfl (by omega) ⟨Or.inr (Or.inl ⟨by omega, by rw [er], rfl, by rw [er]; exact za, by omega⟩), by omega, by omega, GD_wn (hG286) (r := 64) rfl rfl, FRM_wn 0 31 ((hF286).mono rfl) (r := 64) rfl rfl rfl (by omega) (by omega)⟩
    · refine x_aload_n 48 hK rfl rfl rfl ?_
      refine x_bipush 50 hK rfl rfl rfl ?_
      have hGp289 : GD gE gRL sh (wI h286 181 (2 * (gi h 171 22)).toNat e286) := GD_wn (hG286) (r := 64) rfl rfl
      have at288 : gi (wI h286 181 (2 * (gi h 171 22)).toNat e286) 171 18 = p286 := (gi_a (by decide) _).trans (eq286)
      have fe288 : fm (wI h286 181 (2 * (gi h 171 22)).toNat e286) = (fm h) := (fm_wI (by decide) (Or.inl (by decide))).trans (fm_F hF286 rfl rfl)
      have to288 : gi (wI h286 181 (2 * (gi h 171 22)).toNat e286) 171 19 = gi h 171 19 := (gi_a (by decide) _).trans (FRM_gi hF286 (r := 54) rfl rfl)
      refine x_callV 53 hK hmono rfl rfl [.ref 171, .int (I 44)] [] rfl rfl (Nat.le_of_ble_eq_true rfl) (Nat.le_of_ble_eq_true rfl) rfl (sp_171 (h := h286) hG286) (CLd_le (Nat.le_of_ble_eq_true rfl) (ctX11_takes hSP hGp289 (s := 44) (by omega))) ?_
      rw [fe288, at288, to288]
      rintro v288 h288 ⟨hG288, hF288, ⟨rfl, tk288, tt288, eq288⟩ | ⟨rfl, tk288, eq288⟩⟩
      · refine x_if_ne 58 56 hK rfl rfl rfl (by omega) (fun _ => ?_) (fun c => by omega)
        refine x_aload_n 59 hK rfl rfl rfl ?_
        refine x_getR 62 hK rfl rfl (sp_171 (h := h288) hG288) (rf_171_21 (h := h288) hG288) ?_
        refine x_iload_n 63 hK rfl rfl rfl ?_
        refine x_iconst 64 hK rfl rfl ?_
        refine x_iadd 65 hK rfl rfl ?_
        refine x_aload_n 66 hK rfl rfl rfl ?_
        refine x_ldcS 68 hK rfl rfl ?_
        have at290 : gi h288 171 18 = (p286 + 1) := eq288
        have fe290 : fm h288 = (fm h) := (fm_F hF288 rfl rfl).trans ((fm_wI (by decide) (Or.inl (by decide))).trans (fm_F hF286 rfl rfl))
        have to290 : gi h288 171 19 = gi h 171 19 := (FRM_gi hF288 (r := 54) rfl rfl).trans ((gi_a (by decide) _).trans (FRM_gi hF286 (r := 54) rfl rfl))
        refine x_callV 71 hK hmono rfl rfl [.ref 171, .ref 1000000] [.int (I ((2 * (gi h 171 22)) + 1)), .ref 181] rfl rfl (Nat.le_of_ble_eq_true rfl) (Nat.le_of_ble_eq_true rfl) rfl (sp_171 (h := h288) hG288) (CLd_le (Nat.le_of_ble_eq_true rfl) (ctX11_takesOf hSP hG288 (b := 0) (by omega))) ?_
        rw [fe290, at290, to290]
        rintro v290 h290 ⟨⟨e290, rfl, eo290, ep290, eq_290, er290, es290⟩, hG290, hF290⟩
        refine x_iastore 72 hK rfl rfl (sp_181 (h := h290) hG290) (by omega) (by omega) (by omega) ?_
        refine x_aload_n 73 hK rfl rfl rfl ?_
        refine x_dup 74 hK rfl rfl rfl ?_
        refine x_getE 77 hK rfl (Or.inl rfl) rfl (sp_171 (h := h290) hG290) (e := (gi h 171 22)) ((gi_a (by decide) _).trans ((FRM_gi hF290 (r := 54) rfl rfl).trans ((FRM_gi hF288 (r := 54) rfl rfl).trans ((gi_a (by decide) _).trans (FRM_gi hF286 (r := 54) rfl rfl))))) ?_
        refine x_iconst 78 hK rfl rfl ?_
        refine x_iadd 79 hK rfl rfl ?_
        refine x_putI 82 hK rfl rfl (sp_171 (h := h290) hG290) ?_
        refine x_aload_n 83 hK rfl rfl rfl ?_
        refine x_getR 86 hK rfl rfl (sp_171 (h := h290) hG290) (rf_171_21 (h := h290) hG290) ?_
        refine x_iload_n 87 hK rfl rfl rfl ?_
        refine x_iconst 88 hK rfl rfl ?_
        refine x_iadd 89 hK rfl rfl ?_
        refine x_ialoadE 90 hK rfl rfl (sp_181 (h := h290) hG290) (by omega) (by omega) (by omega) (e' := e290) ((gi_a (by decide) _).trans (gi_same (by omega))) ?_
        refine x_if_lt 97 93 hK rfl rfl rfl (by omega) (fun c54 => ?_) (fun c54 => ?_)
        · refine x_iconst 98 hK rfl rfl ?_
          have zb : gi (wI (wI h290 181 ((2 * (gi h 171 22)) + 1).toNat e290) 171 22 ((gi h 171 22) + 1)) 171 22 = ((gi h 171 22) + 1) := gi_same (by omega)
          have za : gi (wI (wI h290 181 ((2 * (gi h 171 22)) + 1).toNat e290) 171 22 ((gi h 171 22) + 1)) 171 18 = p286 + 1 := ((gi_k (by decide) _).trans ((gi_a (by decide) _).trans (er290))).trans (by rw [if_pos (by omega)]; omega)
          have er : (rdRock (fm h) (gi h 171 18)) = ((false, p286 + 1), 0, 0) := by
            unfold rdRock
            rw [nm286, if_neg (show ¬ e286 < 0 by omega), if_neg (show ¬ fm h p286 ≠ 44 by omega)]
            rw [show fidx (fm h (p286 + 1)) rkJ 0 = e290 from eo290.symm, if_pos (by omega)]
          rw [er] at rb
          exact x_zret hK rfl (by omega) ⟨Or.inr (Or.inl ⟨by omega, by rw [er], rfl, by rw [er]; exact za, by omega⟩), by omega, by rw [za]; exact rb.2.1, GD_w1 (GD_wn (hG290) (r := 64) rfl rfl) (r := 54) rfl (by omega) rfl (by omega) (by omega), FRM_w (FRM_wn 0 31 (((FRM_wn 0 31 ((hF286).mono rfl) (r := 64) rfl rfl rfl (by omega) (by omega)).trans ((hF288).mono rfl)).trans ((hF290).mono rfl)) (r := 64) rfl rfl rfl (by omega) (by omega)) (r := 54) rfl rfl⟩
        · refine x_iconst 94 hK rfl rfl ?_
          refine x_goto 98 hK rfl rfl ?_
          have zb : gi (wI (wI h290 181 ((2 * (gi h 171 22)) + 1).toNat e290) 171 22 ((gi h 171 22) + 1)) 171 22 = ((gi h 171 22) + 1) := gi_same (by omega)
          have za : gi (wI (wI h290 181 ((2 * (gi h 171 22)) + 1).toNat e290) 171 22 ((gi h 171 22) + 1)) 171 18 = p286 + 2 := ((gi_k (by decide) _).trans ((gi_a (by decide) _).trans (er290))).trans (by rw [if_neg (by omega)]; omega)
          have er : (rdRock (fm h) (gi h 171 18)) = ((true, p286 + 2), e286, e290) := by
            unfold rdRock
            rw [nm286, if_neg (show ¬ e286 < 0 by omega), if_neg (show ¬ fm h p286 ≠ 44 by omega)]
            rw [show fidx (fm h (p286 + 1)) rkJ 0 = e290 from eo290.symm, if_neg (by omega)]
          rw [er] at rb
          have y0 : gi (wI (wI h290 181 ((2 * (gi h 171 22)) + 1).toNat e290) 171 22 ((gi h 171 22) + 1)) 181 (2 * (gi h 171 22)).toNat = e286 := (gi_a (by decide) _).trans ((gi_k (by omega) _).trans ((FRM_gi hF290 (r := 64) rfl rfl).trans ((FRM_gi hF288 (r := 64) rfl rfl).trans (gi_same (by omega)))))
          have y1 : gi (wI (wI h290 181 ((2 * (gi h 171 22)) + 1).toNat e290) 171 22 ((gi h 171 22) + 1)) 181 ((2 * (gi h 171 22)) + 1).toNat = e290 := (gi_a (by decide) _).trans (gi_same (by omega))
          exact x_zret hK rfl (by omega) ⟨Or.inr (Or.inr ⟨by omega, by rw [er], rfl, by rw [er]; exact za, by omega, by rw [er]; exact y0, by rw [er]; exact y1, by rw [er]; show _ < p286 + 2; omega, fun j h5 h6 => (gi_a (by decide) _).trans ((gi_k (by omega) _).trans ((FRM_gi hF290 (r := 64) rfl rfl).trans ((FRM_gi hF288 (r := 64) rfl rfl).trans ((gi_k (by omega) _).trans (FRM_gi hF286 (r := 64) rfl rfl)))))⟩), by omega, by rw [za]; exact rb.2.1, GD_w1 (GD_wn (hG290) (r := 64) rfl rfl) (r := 54) rfl (by omega) rfl (by omega) (by omega), FRM_w (FRM_wn 0 31 (((FRM_wn 0 31 ((hF286).mono rfl) (r := 64) rfl rfl rfl (by omega) (by omega)).trans ((hF288).mono rfl)).trans ((hF290).mono rfl)) (r := 64) rfl rfl rfl (by omega) (by omega)) (r := 54) rfl rfl⟩
      · refine x_if_ne 58 56 hK rfl rfl rfl (by omega) (fun c => by omega) (fun _ => ?_)
        refine x_iconst 57 hK rfl rfl ?_
        have zb : gi h288 171 22 = (gi h 171 22) := (FRM_gi hF288 (r := 54) rfl rfl).trans ((gi_a (by decide) _).trans (FRM_gi hF286 (r := 54) rfl rfl))
        have za : gi h288 171 18 = p286 := eq288
        have er : (rdRock (fm h) (gi h 171 18)) = ((false, p286), 0, 0) := by
          unfold rdRock
          rw [nm286, if_neg (show ¬ e286 < 0 by omega), if_pos (show fm h p286 ≠ 44 by omega)]
        rw [er] at rb
        exact x_zret hK rfl (by omega) ⟨Or.inr (Or.inl ⟨by omega, by rw [er], rfl, by rw [er]; exact za, by omega⟩), by omega, by omega, hG288, (FRM_wn 0 31 ((hF286).mono rfl) (r := 64) rfl rfl rfl (by omega) (by omega)).trans ((hF288).mono rfl)⟩
  · refine x_iconst 15 hK rfl rfl ?_
    exact x_zret hK rfl (by omega) ⟨Or.inl ⟨by omega, rfl, rfl, rfl⟩, Int.le_refl _, ha, hG, (FRM.rf : FRM gRL [(0, 54, 18, 18), (0, 54, 22, 22), (0, 64, 0, 31)] h h)⟩
set_option maxRecDepth 4000 in
theorem ctX11_rocksF (hSP : MONO SPt) {sh : List (Nat × Nat)} {h : aH} (hG : GD gE gRL sh h) : CLd SPt 7 mX11_rocks [.ref 171] h 0 0 (fun rv h' => (((fltF (gi h 171 17) 76 (rkR (txF (gi h 180) (min (gi h 171 17) 76)) (gi h 171 17) (gi h 171 6)).1) < 0 ∧ rv = some (.int (I (fltF (gi h 171 17) 76 (rkR (txF (gi h 180) (min (gi h 171 17) 76)) (gi h 171 17) (gi h 171 6)).1))) ∧ gi h' 171 6 = gi h 171 6 ∧ ∀ j, gi h' 175 j = gi h 175 j ∧ gi h' 176 j = gi h 176 j) ∨ ((fltF (gi h 171 17) 76 (rkR (txF (gi h 180) (min (gi h 171 17) 76)) (gi h 171 17) (gi h 171 6)).1) = 0 ∧ rv = some (.int (I (((rkR (txF (gi h 180) (min (gi h 171 17) 76)) (gi h 171 17) (gi h 171 6)).2).length : Nat))) ∧ gi h' 171 6 = gi h 171 6 + (((rkR (txF (gi h 180) (min (gi h 171 17) 76)) (gi h 171 17) (gi h 171 6)).2).length : Nat) ∧ ∀ j : Nat, (gi h' 175 j = if gi h 171 6 ≤ (j : Int) ∧ (j : Int) < gi h 171 6 + (((rkR (txF (gi h 180) (min (gi h 171 17) 76)) (gi h 171 17) (gi h 171 6)).2).length : Nat) then (((rkR (txF (gi h 180) (min (gi h 171 17) 76)) (gi h 171 17) (gi h 171 6)).2).getD (j - (gi h 171 6).toNat) (0, 0)).1 else gi h 175 j) ∧ gi h' 176 j = if gi h 171 6 ≤ (j : Int) ∧ (j : Int) < gi h 171 6 + (((rkR (txF (gi h 180) (min (gi h 171 17) 76)) (gi h 171 17) (gi h 171 6)).2).length : Nat) then (((rkR (txF (gi h 180) (min (gi h 171 17) 76)) (gi h 171 17) (gi h 171 6)).2).getD (j - (gi h 171 6).toNat) (0, 0)).2 else gi h 176 j)) ∧ GD gE gRL sh h' ∧ FRM gRL [(0, 54, 0, 0), (0, 54, 6, 6), (0, 54, 17, 20), (0, 54, 22, 22), (0, 58, 0, 15), (0, 59, 0, 15), (0, 64, 0, 31)] h h' ∧ gi h' 171 0 = 0 ∧ gi h' 171 17 = 0) := by
  refine x_met _ rfl (Nat.le_of_ble_eq_true rfl) (fun K hK => ?_)
  have hmono := MONO_CLd hSP 6
  have gc := gri 0 16 hG (a := 171) (r := 54) (k := 6) rfl rfl
  have gsz := gri 0 80 hG (a := 171) (r := 54) (k := 17) rfl rfl
  obtain ⟨T, hT⟩ : ∃ T, (txF (gi h 180) (min (gi h 171 17) 76)) = T := ⟨_, rfl⟩
  obtain ⟨RR, hRR⟩ : ∃ RR, rkR T (gi h 171 17) (gi h 171 6) = RR := ⟨_, rfl⟩
  have fe0 : ∀ a, min (gi h 171 17) 76 ≤ a → T a = -1 := fun a ha => by rw [← hT]; exact if_neg (by omega)
  have rb := rkR_b (sz := gi h 171 17) (rs := gi h 171 6) fe0 (by omega)
  rw [hRR] at rb
  rw [hT, hRR] at hK
  have loop2 : ∀ (mz : Nat) (k : Int) (h5 : aH) (ls : List (Nat × Value)), ((((RR.2.length : Nat) : Int) - k).toNat = mz) → (0 ≤ k ∧ k ≤ (RR.2.length : Nat)) → (fltF (gi h 171 17) 76 RR.1 = 0) → (gi h5 171 0 = 0) → (gi h5 171 17 = 0) → (gi h5 171 22 = (RR.2.length : Nat)) → (gi h5 171 6 = gi h 171 6 + k) → (∀ j : Nat, j < RR.2.length → gi h5 181 (2 * j) = (RR.2.getD j (0, 0)).1 ∧ gi h5 181 (2 * j + 1) = (RR.2.getD j (0, 0)).2) → (∀ j : Nat, (gi h5 175 j = if gi h 171 6 ≤ (j : Int) ∧ (j : Int) < gi h 171 6 + k then (RR.2.getD (j - (gi h 171 6).toNat) (0, 0)).1 else gi h 175 j) ∧ gi h5 176 j = if gi h 171 6 ≤ (j : Int) ∧ (j : Int) < gi h 171 6 + k then (RR.2.getD (j - (gi h 171 6).toNat) (0, 0)).2 else gi h 176 j) → lk ls 0 = some (.ref 171) → lk ls 5 = some (.int (I k)) → GD gE gRL sh h5 → FRM gRL [(0, 54, 0, 0), (0, 54, 6, 6), (0, 54, 17, 20), (0, 54, 22, 22), (0, 58, 0, 15), (0, 59, 0, 15), (0, 64, 0, 31)] h h5 → K 81 ls [] h5 0 0 := by
    intro mz
    induction mz using Nat.strongRecOn with
    | ind mz ih =>
    intro k h5 ls hm k0 f0 t5 z5 r5 m5 rl fl l0 l5 hG5 hF5
    have rlk := fun z : k < (RR.2.length : Nat) => rl k.toNat (by omega)
    have rbk := fun z : k < (RR.2.length : Nat) => getD_all rb.2.2 (j := k.toNat) (by omega)
    have rb1 := rb.2.1
    refine x_iload 83 hK rfl rfl l5 ?_
    refine x_aload_n 84 hK rfl rfl l0 ?_
    refine x_getE 87 hK rfl (Or.inl rfl) rfl (sp_171 (h := h5) hG5) (e := ((RR.2.length : Nat) : Int)) (r5) ?_
    refine x_if_icmp_ge 144 90 hK rfl rfl rfl (by omega) (by omega) (fun c4 => ?_) (fun c4 => ?_)
    · refine x_aload_n 145 hK rfl rfl l0 ?_
      refine x_getE 148 hK rfl (Or.inl rfl) rfl (sp_171 (h := h5) hG5) (e := ((RR.2.length : Nat) : Int)) (r5) ?_
      obtain rfl : k = (RR.2.length : Nat) := by omega
      exact x_iret hK rfl ⟨Or.inr ⟨f0, rfl, m5, fl⟩, hG5, hF5, t5, z5⟩
    · refine x_aload_n 91 hK rfl rfl l0 ?_
      refine x_getR 94 hK rfl rfl (sp_171 (h := h5) hG5) (rf_171_11 (h := h5) hG5) ?_
      refine x_aload_n 95 hK rfl rfl l0 ?_
      refine x_getE 98 hK rfl (Or.inl rfl) rfl (sp_171 (h := h5) hG5) (e := (gi h 171 6 + k)) (m5) ?_
      refine x_aload_n 99 hK rfl rfl l0 ?_
      refine x_getR 102 hK rfl rfl (sp_171 (h := h5) hG5) (rf_171_21 (h := h5) hG5) ?_
      refine x_iconst 103 hK rfl rfl ?_
      refine x_iload 105 hK rfl rfl l5 ?_
      refine x_imul 106 hK rfl rfl ?_
      refine x_ialoadE 107 hK rfl rfl (sp_181 (h := h5) hG5) (by omega) (by omega) (by omega) (e' := (RR.2.getD k.toNat (0, 0)).1) (((gi_to (by omega)).trans (rlk (by omega)).1)) ?_
      refine x_iastore 108 hK rfl rfl (sp_175 (h := h5) hG5) (by omega) (by omega) (by omega) ?_
      refine x_aload_n 109 hK rfl rfl l0 ?_
      refine x_getR 112 hK rfl rfl (sp_171 (h := h5) hG5) (rf_171_12 (h := h5) hG5) ?_
      refine x_aload_n 113 hK rfl rfl l0 ?_
      refine x_getE 116 hK rfl (Or.inl rfl) rfl (sp_171 (h := h5) hG5) (e := (gi h 171 6 + k)) ((gi_a (by decide) _).trans (m5)) ?_
      refine x_aload_n 117 hK rfl rfl l0 ?_
      refine x_getR 120 hK rfl rfl (sp_171 (h := h5) hG5) (rf_171_21 (h := h5) hG5) ?_
      refine x_iconst 121 hK rfl rfl ?_
      refine x_iload 123 hK rfl rfl l5 ?_
      refine x_imul 124 hK rfl rfl ?_
      refine x_iconst 125 hK rfl rfl ?_
      refine x_iadd 126 hK rfl rfl ?_
      refine x_ialoadE 127 hK rfl rfl (sp_181 (h := h5) hG5) (by omega) (by omega) (by omega) (e' := (RR.2.getD k.toNat (0, 0)).2) ((gi_a (by decide) _).trans (((gi_to (by omega)).trans (rlk (by omega)).2))) ?_
      refine x_iastore 128 hK rfl rfl (sp_176 (h := h5) hG5) (by omega) (by omega) (by omega) ?_
      refine x_aload_n 129 hK rfl rfl l0 ?_
      refine x_dup 130 hK rfl rfl rfl ?_
      refine x_getE 133 hK rfl (Or.inl rfl) rfl (sp_171 (h := h5) hG5) (e := (gi h 171 6 + k)) ((gi_a (by decide) _).trans ((gi_a (by decide) _).trans (m5))) ?_
      refine x_iconst 134 hK rfl rfl ?_
      refine x_iadd 135 hK rfl rfl ?_
      refine x_putI 138 hK rfl rfl (sp_171 (h := h5) hG5) ?_
      refine x_iinc 141 hK rfl rfl l5 _ rfl ?_
      refine x_goto 81 hK rfl rfl ?_
      have rbq := rbk (by omega)
      have y1 : gi (wI (wI (wI h5 175 (gi h 171 6 + k).toNat ((RR.2.getD k.toNat (0, 0)).1)) 176 (gi h 171 6 + k).toNat ((RR.2.getD k.toNat (0, 0)).2)) 171 6 ((gi h 171 6 + k) + 1)) 175 (gi h 171 6 + k).toNat = ((RR.2.getD k.toNat (0, 0)).1) := (gi_a (by decide) _).trans ((gi_a (by decide) _).trans (gi_same (by omega)))
      have y2 : gi (wI (wI (wI h5 175 (gi h 171 6 + k).toNat ((RR.2.getD k.toNat (0, 0)).1)) 176 (gi h 171 6 + k).toNat ((RR.2.getD k.toNat (0, 0)).2)) 171 6 ((gi h 171 6 + k) + 1)) 176 (gi h 171 6 + k).toNat = ((RR.2.getD k.toNat (0, 0)).2) := (gi_a (by decide) _).trans (gi_same (by omega))
      have fn : ∀ j : Nat, (gi (wI (wI (wI h5 175 (gi h 171 6 + k).toNat ((RR.2.getD k.toNat (0, 0)).1)) 176 (gi h 171 6 + k).toNat ((RR.2.getD k.toNat (0, 0)).2)) 171 6 ((gi h 171 6 + k) + 1)) 175 j = if gi h 171 6 ≤ (j : Int) ∧ (j : Int) < gi h 171 6 + (k + 1) then (RR.2.getD (j - (gi h 171 6).toNat) (0, 0)).1 else gi h 175 j) ∧ gi (wI (wI (wI h5 175 (gi h 171 6 + k).toNat ((RR.2.getD k.toNat (0, 0)).1)) 176 (gi h 171 6 + k).toNat ((RR.2.getD k.toNat (0, 0)).2)) 171 6 ((gi h 171 6 + k) + 1)) 176 j = if gi h 171 6 ≤ (j : Int) ∧ (j : Int) < gi h 171 6 + (k + 1) then (RR.2.getD (j - (gi h 171 6).toNat) (0, 0)).2 else gi h 176 j := by
        intro j
        by_cases c : (j : Int) = (gi h 171 6 + k)
        · rw [if_pos (by omega), if_pos (by omega), show j - (gi h 171 6).toNat = k.toNat by omega, (gi_to (show j = (gi h 171 6 + k).toNat by omega)).trans y1, (gi_to (show j = (gi h 171 6 + k).toNat by omega)).trans y2]
          exact ⟨rfl, rfl⟩
        · have z := fl j
          rw [show gi (wI (wI (wI h5 175 (gi h 171 6 + k).toNat ((RR.2.getD k.toNat (0, 0)).1)) 176 (gi h 171 6 + k).toNat ((RR.2.getD k.toNat (0, 0)).2)) 171 6 ((gi h 171 6 + k) + 1)) 175 j = gi h5 175 j from (gi_a (by decide) _).trans ((gi_a (by decide) _).trans (gi_k (by omega) _)), show gi (wI (wI (wI h5 175 (gi h 171 6 + k).toNat ((RR.2.getD k.toNat (0, 0)).1)) 176 (gi h 171 6 + k).toNat ((RR.2.getD k.toNat (0, 0)).2)) 171 6 ((gi h 171 6 + k) + 1)) 176 j = gi h5 176 j from (gi_a (by decide) _).trans ((gi_k (by omega) _).trans (gi_a (by decide) _)), z.1, z.2]
          exact ⟨if_c (by omega), if_c (by omega)⟩
      exact ih _ (by omega) (k + 1) _ _ rfl (by omega) (f0) ((gi_k (by decide) _).trans ((gi_a (by decide) _).trans ((gi_a (by decide) _).trans (t5)))) ((gi_k (by decide) _).trans ((gi_a (by decide) _).trans ((gi_a (by decide) _).trans (z5)))) ((gi_k (by decide) _).trans ((gi_a (by decide) _).trans ((gi_a (by decide) _).trans (r5)))) (((gi_same (by omega)).trans (by omega))) ((fun j hj => by rw [show gi (wI (wI (wI h5 175 (gi h 171 6 + k).toNat ((RR.2.getD k.toNat (0, 0)).1)) 176 (gi h 171 6 + k).toNat ((RR.2.getD k.toNat (0, 0)).2)) 171 6 ((gi h 171 6 + k) + 1)) 181 (2 * j) = gi h5 181 (2 * j) from (gi_a (by decide) _).trans ((gi_a (by decide) _).trans (gi_a (by decide) _)), show gi (wI (wI (wI h5 175 (gi h 171 6 + k).toNat ((RR.2.getD k.toNat (0, 0)).1)) 176 (gi h 171 6 + k).toNat ((RR.2.getD k.toNat (0, 0)).2)) 171 6 ((gi h 171 6 + k) + 1)) 181 (2 * j + 1) = gi h5 181 (2 * j + 1) from (gi_a (by decide) _).trans ((gi_a (by decide) _).trans (gi_a (by decide) _))]; exact rl j hj)) (fn) (lk1_n l0 (by decide) (Or.inl rfl)) lk1_s (GD_w1 (GD_wn (GD_wu (hG5) (r := 58) rfl (by omega) rfl (by omega) (by omega)) (r := 59) rfl rfl) (r := 54) rfl (by omega) rfl (by omega) (by omega)) (FRM_w (FRM_wn 0 15 (FRM_wn 0 15 (hF5) (r := 58) rfl rfl rfl (by omega) (by omega)) (r := 59) rfl rfl rfl (by omega) (by omega)) (r := 54) rfl rfl)
  have end1 : ∀ (is : Int) (h4 : aH) (ls : List (Nat × Value)), (is = b2i RR.1.1) → (gi h4 171 18 = RR.1.2) → (gi h4 171 19 = min (gi h 171 17) 76) → (gi h4 171 0 = 0) → (gi h4 171 17 = 0) → (RR.1.1 = true → rdL h4 (gi h4 171 22).toNat = RR.2) → lk ls 0 = some (.ref 171) → lk ls 1 = some (.int (I (gi h 171 17))) → lk ls 2 = some (.int (I is)) → GD gE gRL sh h4 → FRM gRL [(0, 54, 0, 0), (0, 54, 17, 20), (0, 54, 22, 22), (0, 64, 0, 31)] h h4 → K 60 ls [] h4 0 0 := by
    intro is h4 ls ib a4 to4 t4 z4 rl l0 l1 l2 hG4 hF4
    have g22 := gri 0 16 hG4 (a := 171) (r := 54) (k := 22) rfl rfl
    have is01 := b2i_r RR.1.1
    have a0 := rb.1
    have fb := fltF_le (n := gi h 171 17) (most := 76) (r := RR.1) (by omega) a0.1
    refine x_aload_n 61 hK rfl rfl l0 ?_
    refine x_iload_n 62 hK rfl rfl l1 ?_
    refine x_bipush 64 hK rfl rfl rfl ?_
    refine x_iload_n 65 hK rfl rfl l2 ?_
    refine x_callV 68 hK hmono rfl rfl [.ref 171, .int (I (gi h 171 17)), .int (I 76), .int (I is)] [] rfl rfl (Nat.le_of_ble_eq_true rfl) (Nat.le_of_ble_eq_true rfl) rfl (sp_171 (h := h4) hG4) (CLd_le (Nat.le_of_ble_eq_true rfl) (ctX11_faultOf hSP hG4 (by omega) (by omega) (by omega))) ?_
    rintro v9 h9 ⟨e9, rfl⟩
    rw [e9, a4, to4]
    clear e9
    rw [show (if 76 < gi h 171 17 ∧ ((is = 1 ∧ RR.1.2 = min (gi h 171 17) 76) ∨ 76 ≤ RR.1.2) then -1 - 76 else if is = 1 ∧ RR.1.2 = min (gi h 171 17) 76 then 0 else -1 - RR.1.2) = fltF (gi h 171 17) 76 RR.1 from by rw [ib]; exact flt_i]
    have fr : r32 (fltF (gi h 171 17) 76 RR.1) := by unfold fltF at fb ⊢; (repeat' split) <;> omega
    refine x_istore 70 hK rfl rfl _ rfl ?_
    refine x_iload 72 hK rfl rfl lk1_s ?_
    refine x_if_ge 78 75 hK rfl rfl rfl (by omega) (fun c8 => ?_) (fun c8 => ?_)
    · refine x_iconst 79 hK rfl rfl ?_
      refine x_istore 81 hK rfl rfl _ rfl ?_
      have rl4 := rl (fltF_0 (n := gi h 171 17) (most := 76) (by omega) a0.1 (by omega)).1
      have len4 := rdL_l rl4
      have lb := rb.2.1
      exact loop2 _ 0 _ _ rfl (⟨by omega, by omega⟩) (by omega) (t4) (z4) (by omega) (((FRM_gi hF4 (r := 54) rfl rfl).trans (by omega))) ((fun j hj => rdL_get rl4 (by omega))) ((fun j => by rw [if_neg (by omega), if_neg (by omega)]; exact ⟨FRM_gi hF4 (r := 58) rfl rfl, FRM_gi hF4 (r := 59) rfl rfl⟩)) (lk1_n (lk1_n l0 (by decide) (Or.inl rfl)) (by decide) (Or.inl rfl)) lk1_s (hG4) ((hF4).mono rfl)
    · refine x_iload 77 hK rfl rfl lk1_s ?_
      exact x_iret hK rfl ⟨Or.inl ⟨by omega, rfl, FRM_gi hF4 (r := 54) rfl rfl, fun j => ⟨FRM_gi hF4 (r := 58) rfl rfl, FRM_gi hF4 (r := 59) rfl rfl⟩⟩, hG4, (hF4).mono rfl, t4, z4⟩
  have loop1 : ∀ (mz : Nat) (h6 : aH) (ls : List (Nat × Value)), ((17 - gi h6 171 22).toNat = mz) → (gi h 171 17 ≠ 0) → (gi h 171 6 + gi h6 171 22 ≤ 16) → (gi h6 171 18 ≤ min (gi h 171 17) 76) → (gi h6 171 19 = min (gi h 171 17) 76) → (gi h6 171 0 = 0) → (gi h6 171 17 = 0) → (RR.1 = (rdRs T (16 - gi h 171 6 - gi h6 171 22).toNat (gi h6 171 18)).1) → (RR.2 = rdL h6 (gi h6 171 22).toNat ++ (rdRs T (16 - gi h 171 6 - gi h6 171 22).toNat (gi h6 171 18)).2) → lk ls 0 = some (.ref 171) → lk ls 1 = some (.int (I (gi h 171 17))) → GD gE gRL sh h6 → FRM gRL [(0, 54, 0, 0), (0, 54, 17, 20), (0, 54, 22, 22), (0, 64, 0, 31)] h h6 → K 33 ls [] h6 0 0 := by
    intro mz
    induction mz using Nat.strongRecOn with
    | ind mz ih =>
    intro  h6 ls hm n0 c8 a6 to6 t6 z6 e1 e2 l0 l1 hG6 hF6
    have g22 := gri 0 16 hG6 (a := 171) (r := 54) (k := 22) rfl rfl
    have g18 := gri 0 81 hG6 (a := 171) (r := 54) (k := 18) rfl rfl
    have ft6 : fm h6 = T := by rw [fm_tx, to6, ← hT, show gi h6 180 = gi h 180 from funext fun k => FRM_gi hF6 (r := 63) rfl rfl]
    have ms6 : gi h6 171 6 = gi h 171 6 := FRM_gi hF6 (r := 54) rfl rfl
    refine x_aload_n 34 hK rfl rfl l0 ?_
    refine x_callV 37 hK hmono rfl rfl [.ref 171] [] rfl rfl (Nat.le_of_ble_eq_true rfl) (Nat.le_of_ble_eq_true rfl) rfl (sp_171 (h := h6) hG6) (CLd_le (Nat.le_of_ble_eq_true rfl) (ctX11_readsRockF hSP hG6 (by omega) (by omega))) ?_
    rw [ft6, ms6, to6]
    rintro v7 h7 ⟨⟨y1, rfl, y2, y3⟩ | ⟨y1, y2, rfl, y3, y4⟩ | ⟨y1, y2, rfl, y3, y4, y5, y6, y7, y10⟩, ya, yb, hG7, hF7⟩
    · have q0 : (16 - gi h 171 6 - gi h6 171 22).toNat = 0 := by omega
      rw [q0] at e1 e2
      refine x_istore_n 38 hK rfl rfl _ rfl ?_
      refine x_iload_n 39 hK rfl rfl lk1_s ?_
      refine x_if_eq 55 42 hK rfl rfl rfl (by omega) (fun _ => ?_) (fun c => by omega)
      refine x_iconst 56 hK rfl rfl ?_
      refine x_istore_n 57 hK rfl rfl _ rfl ?_
      refine x_goto 29 hK rfl rfl ?_
      refine x_iload_n 30 hK rfl rfl lk1_s ?_
      refine x_if_eq 60 33 hK rfl rfl rfl (by omega) (fun _ => ?_) (fun c => by omega)
      exact end1 0 _ _ ((by rw [e1]; rfl)) ((by rw [e1]; exact y2)) ((FRM_gi hF7 (r := 54) rfl rfl).trans (to6)) ((FRM_gi hF7 (r := 54) rfl rfl).trans (t6)) ((FRM_gi hF7 (r := 54) rfl rfl).trans (z6)) ((fun z => by rw [e1] at z; cases z)) (lk1_n (lk1_n l0 (by decide) (Or.inl rfl)) (by decide) (Or.inl rfl)) (lk1_n (lk1_n l1 (by decide) (Or.inl rfl)) (by decide) (Or.inl rfl)) (lk1_n lk1_s (by decide) (Or.inl rfl)) (hG7) ((hF6).trans ((hF7).mono rfl))
    · obtain ⟨n, hn⟩ : ∃ n : Nat, (16 - gi h 171 6 - gi h6 171 22).toNat = n + 1 := ⟨(16 - gi h 171 6 - gi h6 171 22).toNat - 1, by omega⟩
      rw [hn] at e1 e2
      unfold rdRs at e1 e2
      rw [if_neg (by rw [y2]; exact Bool.noConfusion)] at e1 e2
      refine x_istore_n 38 hK rfl rfl _ rfl ?_
      refine x_iload_n 39 hK rfl rfl lk1_s ?_
      refine x_if_eq 55 42 hK rfl rfl rfl (by omega) (fun _ => ?_) (fun c => by omega)
      refine x_iconst 56 hK rfl rfl ?_
      refine x_istore_n 57 hK rfl rfl _ rfl ?_
      refine x_goto 29 hK rfl rfl ?_
      refine x_iload_n 30 hK rfl rfl lk1_s ?_
      refine x_if_eq 60 33 hK rfl rfl rfl (by omega) (fun _ => ?_) (fun c => by omega)
      exact end1 0 _ _ ((by rw [e1]; rfl)) ((by rw [e1]; exact y3)) ((FRM_gi hF7 (r := 54) rfl rfl).trans (to6)) ((FRM_gi hF7 (r := 54) rfl rfl).trans (t6)) ((FRM_gi hF7 (r := 54) rfl rfl).trans (z6)) ((fun z => by rw [e1] at z; cases z)) (lk1_n (lk1_n l0 (by decide) (Or.inl rfl)) (by decide) (Or.inl rfl)) (lk1_n (lk1_n l1 (by decide) (Or.inl rfl)) (by decide) (Or.inl rfl)) (lk1_n lk1_s (by decide) (Or.inl rfl)) (hG7) ((hF6).trans ((hF7).mono rfl))
    · obtain ⟨n, hn⟩ : ∃ n : Nat, (16 - gi h 171 6 - gi h6 171 22).toNat = n + 1 := ⟨(16 - gi h 171 6 - gi h6 171 22).toNat - 1, by omega⟩
      rw [hn] at e1 e2
      unfold rdRs at e1 e2
      rw [if_pos y2] at e1 e2
      have rq : rdL h7 (gi h7 171 22).toNat = rdL h6 (gi h6 171 22).toNat ++ [(rdRock T (gi h6 171 18)).2] := by
        rw [show (gi h7 171 22).toNat = (gi h6 171 22).toNat + 1 by omega, rdL_s]
        congr 1
        · exact rdL_congr fun j hj => y10 j (by omega) (by omega)
        · rw [(gi_to (show 2 * (gi h6 171 22).toNat = (2 * gi h6 171 22).toNat by omega)).trans y5, (gi_to (show 2 * (gi h6 171 22).toNat + 1 = (2 * gi h6 171 22 + 1).toNat by omega)).trans y6]
      refine x_istore_n 38 hK rfl rfl _ rfl ?_
      refine x_iload_n 39 hK rfl rfl lk1_s ?_
      refine x_if_eq 55 42 hK rfl rfl rfl (by omega) (fun c => by omega) (fun _ => ?_)
      refine x_aload_n 43 hK rfl rfl (lk1_n l0 (by decide) (Or.inl rfl)) ?_
      refine x_bipush 45 hK rfl rfl rfl ?_
      have ft7 : fm h7 = T := (fm_F hF7 rfl rfl).trans ft6
      have to7 : gi h7 171 19 = min (gi h 171 17) 76 := (FRM_gi hF7 (r := 54) rfl rfl).trans (to6)
      refine x_callV 48 hK hmono rfl rfl [.ref 171, .int (I 59)] [] rfl rfl (Nat.le_of_ble_eq_true rfl) (Nat.le_of_ble_eq_true rfl) rfl (sp_171 (h := h7) hG7) (CLd_le (Nat.le_of_ble_eq_true rfl) (ctX11_takes hSP hG7 (s := 59) (by omega))) ?_
      rw [ft7, to7, y3]
      rintro v8 h8 ⟨hG8, hF8, ⟨rfl, k1, k2, k3⟩ | ⟨rfl, k1, k3⟩⟩
      · have r8 : rdL h8 (gi h8 171 22).toNat = rdL h7 (gi h7 171 22).toNat := by rw [show gi h8 171 22 = gi h7 171 22 from FRM_gi hF8 (r := 54) rfl rfl]; exact rdL_congr fun j _ => FRM_gi hF8 (r := 64) rfl rfl
        have k22 : gi h8 171 22 = gi h7 171 22 := FRM_gi hF8 (r := 54) rfl rfl
        rw [if_pos k1] at e1 e2
        refine x_if_eq 55 51 hK rfl rfl rfl (by omega) (fun c => by omega) (fun _ => ?_)
        refine x_iconst 52 hK rfl rfl ?_
        refine x_goto 56 hK rfl rfl ?_
        refine x_istore_n 57 hK rfl rfl _ rfl ?_
        refine x_goto 29 hK rfl rfl ?_
        refine x_iload_n 30 hK rfl rfl lk1_s ?_
        refine x_if_eq 60 33 hK rfl rfl rfl (by omega) (fun c => by omega) (fun _ => ?_)
        exact ih _ (by omega)  _ _ rfl (n0) (by omega) (by rw [k3]; omega) ((FRM_gi hF8 (r := 54) rfl rfl).trans ((FRM_gi hF7 (r := 54) rfl rfl).trans (to6))) ((FRM_gi hF8 (r := 54) rfl rfl).trans ((FRM_gi hF7 (r := 54) rfl rfl).trans (t6))) ((FRM_gi hF8 (r := 54) rfl rfl).trans ((FRM_gi hF7 (r := 54) rfl rfl).trans (z6))) ((by rw [e1, k3, show (16 - gi h 171 6 - gi h8 171 22).toNat = n by omega])) ((by rw [e2, r8, rq, k3, show (16 - gi h 171 6 - gi h8 171 22).toNat = n by omega, List.append_assoc]; rfl)) (lk1_n (lk1_n l0 (by decide) (Or.inl rfl)) (by decide) (Or.inl rfl)) (lk1_n (lk1_n l1 (by decide) (Or.inl rfl)) (by decide) (Or.inl rfl)) (hG8) (((hF6).trans ((hF7).mono rfl)).trans ((hF8).mono rfl))
      · have r8 : rdL h8 (gi h8 171 22).toNat = rdL h7 (gi h7 171 22).toNat := by rw [show gi h8 171 22 = gi h7 171 22 from FRM_gi hF8 (r := 54) rfl rfl]; exact rdL_congr fun j _ => FRM_gi hF8 (r := 64) rfl rfl
        have k22 : gi h8 171 22 = gi h7 171 22 := FRM_gi hF8 (r := 54) rfl rfl
        rw [if_neg k1] at e1 e2
        refine x_if_eq 55 51 hK rfl rfl rfl (by omega) (fun _ => ?_) (fun c => by omega)
        refine x_iconst 56 hK rfl rfl ?_
        refine x_istore_n 57 hK rfl rfl _ rfl ?_
        refine x_goto 29 hK rfl rfl ?_
        refine x_iload_n 30 hK rfl rfl lk1_s ?_
        refine x_if_eq 60 33 hK rfl rfl rfl (by omega) (fun _ => ?_) (fun c => by omega)
        exact end1 1 _ _ ((by rw [e1]; rfl)) ((by rw [e1]; exact k3)) ((FRM_gi hF8 (r := 54) rfl rfl).trans ((FRM_gi hF7 (r := 54) rfl rfl).trans (to6))) ((FRM_gi hF8 (r := 54) rfl rfl).trans ((FRM_gi hF7 (r := 54) rfl rfl).trans (t6))) ((FRM_gi hF8 (r := 54) rfl rfl).trans ((FRM_gi hF7 (r := 54) rfl rfl).trans (z6))) ((fun z => by rw [r8, rq, e2])) (lk1_n (lk1_n l0 (by decide) (Or.inl rfl)) (by decide) (Or.inl rfl)) (lk1_n (lk1_n l1 (by decide) (Or.inl rfl)) (by decide) (Or.inl rfl)) (lk1_n lk1_s (by decide) (Or.inl rfl)) (hG8) (((hF6).trans ((hF7).mono rfl)).trans ((hF8).mono rfl))
  refine x_aload_n 1 hK rfl rfl rfl ?_
  refine x_iconst 2 hK rfl rfl ?_
  refine x_putI 5 hK rfl rfl (sp_171 (h := h) hG) ?_
  refine x_aload_n 6 hK rfl rfl rfl ?_
  refine x_bipush 8 hK rfl rfl rfl ?_
  have hGp291 : GD gE gRL sh (wI h 171 0 0) := GD_w1 (hG) (r := 54) rfl (by omega) rfl (by omega) (by omega)
  have sz0 : gi (wI h 171 0 0) 171 17 = gi h 171 17 := gi_k (by decide) _
  refine x_callV 11 hK hmono rfl rfl [.ref 171, .int (I 76)] [] rfl rfl (Nat.le_of_ble_eq_true rfl) (Nat.le_of_ble_eq_true rfl) rfl (sp_171 (h := h) hG) (CLd_le (Nat.le_of_ble_eq_true rfl) (ctX11_begins hSP hGp291 (by omega))) ?_
  rintro v1 h1 ⟨rfl, hG1, hF1, b17, b18, b20, b19⟩
  rw [sz0] at b19 ⊢
  have f1 : fm h1 = T := by rw [fm_tx, b19, ← hT, show gi h1 180 = gi h 180 from funext fun k => (FRM_gi hF1 (r := 63) rfl rfl).trans (gi_a (by decide) _)]
  refine x_istore_n 12 hK rfl rfl [(1, .int (I (gi h 171 17))), (0, .ref 171)] rfl ?_
  refine x_aload_n 13 hK rfl rfl rfl ?_
  refine x_iconst 14 hK rfl rfl ?_
  refine x_putI 17 hK rfl rfl (sp_171 (h := h1) hG1) ?_
  refine x_iconst 18 hK rfl rfl ?_
  refine x_istore_n 19 hK rfl rfl [(2, .int (I 1)), (1, .int (I (gi h 171 17))), (0, .ref 171)] rfl ?_
  refine x_iload_n 20 hK rfl rfl rfl ?_
  refine x_if_le 27 23 hK rfl rfl rfl (by omega) (fun c14 => ?_) (fun c14 => ?_)
  · refine x_iconst 28 hK rfl rfl ?_
    refine x_istore_n 29 hK rfl rfl [(3, .int (I 0)), (2, .int (I 1)), (1, .int (I (gi h 171 17))), (0, .ref 171)] rfl ?_
    refine x_iload_n 30 hK rfl rfl rfl ?_
    refine x_if_eq 60 33 hK rfl rfl rfl (by omega) (fun _ => ?_) (fun c => by omega)
    have r0 : RR = ((true, 0), []) := by rw [← hRR]; unfold rkR; rw [if_pos (by omega)]
    exact end1 1 _ _ (by rw [r0]; rfl) (by rw [r0]; exact (gi_k (by decide) _).trans (b18)) ((gi_k (by decide) _).trans (b19)) ((gi_k (by decide) _).trans ((FRM_gi hF1 (r := 54) rfl rfl).trans (gi_same (by omega)))) ((gi_k (by decide) _).trans (b17)) ((fun _ => by rw [r0, show gi (wI h1 171 22 0) 171 22 = 0 from gi_same (by omega)]; rfl)) rfl rfl rfl (GD_w1 (hG1) (r := 54) rfl (by omega) rfl (by omega) (by omega)) (FRM_w ((FRM_w ((FRM.rf : FRM gRL [(0, 54, 0, 0), (0, 54, 17, 20), (0, 54, 22, 22), (0, 64, 0, 31)] h h)) (r := 54) rfl rfl).trans ((hF1).mono rfl)) (r := 54) rfl rfl)
  · refine x_iconst 24 hK rfl rfl ?_
    refine x_goto 28 hK rfl rfl ?_
    refine x_istore_n 29 hK rfl rfl [(3, .int (I 1)), (2, .int (I 1)), (1, .int (I (gi h 171 17))), (0, .ref 171)] rfl ?_
    refine x_iload_n 30 hK rfl rfl rfl ?_
    refine x_if_eq 60 33 hK rfl rfl rfl (by omega) (fun c => by omega) (fun _ => ?_)
    exact loop1 _  _ _ rfl (by omega) ((by rw [show gi (wI h1 171 22 0) 171 22 = 0 from gi_same (by omega)]; omega)) ((by rw [show gi (wI h1 171 22 0) 171 18 = 0 from (gi_k (by decide) _).trans (b18)]; omega)) ((gi_k (by decide) _).trans (b19)) ((gi_k (by decide) _).trans ((FRM_gi hF1 (r := 54) rfl rfl).trans (gi_same (by omega)))) ((gi_k (by decide) _).trans (b17)) ((by rw [show gi (wI h1 171 22 0) 171 22 = 0 from gi_same (by omega), show gi (wI h1 171 22 0) 171 18 = 0 from (gi_k (by decide) _).trans (b18), Int.sub_zero, ← hRR]; unfold rkR; rw [if_neg (by omega)])) ((by rw [show gi (wI h1 171 22 0) 171 22 = 0 from gi_same (by omega), show gi (wI h1 171 22 0) 171 18 = 0 from (gi_k (by decide) _).trans (b18), Int.sub_zero, ← hRR]; unfold rkR; rw [if_neg (by omega)]; rfl)) rfl rfl (GD_w1 (hG1) (r := 54) rfl (by omega) rfl (by omega) (by omega)) (FRM_w ((FRM_w ((FRM.rf : FRM gRL [(0, 54, 0, 0), (0, 54, 17, 20), (0, 54, 22, 22), (0, 64, 0, 31)] h h)) (r := 54) rfl rfl).trans ((hF1).mono rfl)) (r := 54) rfl rfl)
end
section
/-! ROCKS TOLD (the class) -/
/-- ROCKS of the class from number c on -/
noncomputable def rkL (h : aH) (c n : Nat) : List (Int × Int) := (List.range n).map fun j => (gi h 20 (c + j), gi h 21 (c + j))
theorem rkL_l (h : aH) (c n : Nat) : (rkL h c n).length = n := by unfold rkL; rw [List.length_map, List.length_range]
theorem rkL_s {h h' : aH} {c n : Nat} {a b : Int} (h1 : gi h' 20 (c + n) = a) (h2 : gi h' 21 (c + n) = b) (h3 : ∀ j, j < c + n → gi h' 20 j = gi h 20 j ∧ gi h' 21 j = gi h 21 j) : rkL h' c (n + 1) = rkL h c n ++ [(a, b)] := by
  unfold rkL
  rw [List.range_succ, List.map_append, List.map_cons, List.map_nil, h1, h2]
  congr 1
  exact List.map_congr_left fun j hj => by have := List.mem_range.mp hj; rw [(h3 (c + j) (by omega)).1, (h3 (c + j) (by omega)).2]
theorem rkL_eq {h h' : aH} {c n : Nat} (h3 : ∀ j, j < c + n → gi h' 20 j = gi h 20 j ∧ gi h' 21 j = gi h 21 j) : rkL h' c n = rkL h c n := by
  unfold rkL
  exact List.map_congr_left fun j hj => by have := List.mem_range.mp hj; rw [(h3 (c + j) (by omega)).1, (h3 (c + j) (by omega)).2]
theorem fltF_ne {n most : Int} {r : Bool × Int} (hm : 0 ≤ most) (h0 : 0 ≤ r.2) (h : r.1 = false) : fltF n most r ≠ 0 := fun z => by
  have := (fltF_0 hm h0 z).1
  rw [h] at this
  cases this
theorem fltF_nq {n most : Int} {r : Bool × Int} (hm : 0 ≤ most) (h0 : 0 ≤ r.2) (h : r.2 ≠ min n most) : fltF n most r ≠ 0 := fun z => h (fltF_0 hm h0 z).2
theorem fltF_of {n most p : Int} (hm : 0 ≤ most) (h : p = min n most) : fltF n most (true, p) = 0 ↔ ¬ most < n := by
  unfold fltF
  by_cases d : most < n
  · rw [if_pos ⟨d, Or.inl ⟨rfl, h⟩⟩]; omega
  · rw [if_neg (fun z => d z.1), if_pos ⟨rfl, h⟩]; omega
set_option maxRecDepth 4000 in
theorem ctX2_readFrom {SP : CT} (hSP : MONO SP) {sh : List (Nat × Nat)} {h : aH} (hG : GD gE gRL sh h) {n : Int} (h12 : gi h 1 2 = 0) (h13 : gi h 1 3 = min n 76) (h14 : gi h 1 4 = if 76 < n then 1 else 0) (hn : 0 ≤ n ∧ n ≤ 80) : CLd SP 4 mX2_readFrom [.ref 19, .ref 1] h 0 0 (fun rv h' => (∃ e : Int, rv = some (.int (I e)) ∧ (-1 ≤ e ∧ e ≤ 76) ∧ (e = -1 ↔ fltF n 76 (rdRs (fx h) (16 - gi h 19 0).toNat 0).1 = 0)) ∧ GD gE gRL sh h' ∧ FRM gRL [(0, 1, 2, 2), (0, 1, 5, 5), (0, 13, 0, 0), (0, 14, 0, 15), (0, 15, 0, 15)] h h' ∧ (fltF n 76 (rdRs (fx h) (16 - gi h 19 0).toNat 0).1 = 0 → gi h' 19 0 = gi h 19 0 + ((rdRs (fx h) (16 - gi h 19 0).toNat 0).2.length : Nat) ∧ rkL h' (gi h 19 0).toNat (rdRs (fx h) (16 - gi h 19 0).toNat 0).2.length = (rdRs (fx h) (16 - gi h 19 0).toNat 0).2) ∧ (fltF n 76 (rdRs (fx h) (16 - gi h 19 0).toNat 0).1 ≠ 0 → gi h' 19 0 = gi h 19 0) ∧ ∀ j : Nat, (j : Int) < gi h 19 0 → gi h' 20 j = gi h 20 j ∧ gi h' 21 j = gi h 21 j) := by
  refine x_met _ rfl (Nat.le_of_ble_eq_true rfl) (fun K hK => ?_)
  have hmono := MONO_CLd hSP 3
  have gc := gri 0 16 hG (a := 19) (r := 13) (k := 0) rfl rfl
  obtain ⟨c, hc⟩ : ∃ c, gi h 19 0 = c := ⟨_, rfl⟩
  rw [hc] at gc hK
  obtain ⟨mm, hmm⟩ : ∃ mm, min n 76 = mm := ⟨_, rfl⟩
  have hm0 : 0 ≤ mm ∧ mm ≤ 76 ∧ mm ≤ n := by omega
  obtain ⟨mo, hmo⟩ : ∃ mo, (if 76 < n then (1 : Int) else 0) = mo := ⟨_, rfl⟩
  rw [hmm] at h13
  rw [hmo] at h14
  have hmH : ∀ _ : Unit, min n 76 = mm ∧ (0 ≤ n ∧ n ≤ 80) ∧ (if 76 < n then (1 : Int) else 0) = mo := fun _ => ⟨hmm, hn, hmo⟩
  clear hmm hmo
  have fe0 : ∀ a, mm ≤ a → fx h a = -1 := fun a ha => fx_end h a (by rw [h13]; exact ha)
  obtain ⟨RR, hRR⟩ : ∃ RR, rdRs (fx h) (16 - c).toNat 0 = RR := ⟨_, rfl⟩
  have rb := rdRs_b fe0 (16 - c).toNat 0 (by omega)
  rw [hRR] at rb hK
  have rb0 := rb.1
  have loop : ∀ (mz : Nat) (m i p : Int) (h4 : aH) (ls : List (Nat × Value)), ((17 - i).toNat = mz) → (0 ≤ i ∧ i ≤ 16) → (m = c + i ∧ m ≤ 16) → (0 ≤ p ∧ p ≤ mm) → (gi h4 1 2 = p) → (gi h4 19 0 = c) → (RR.1 = (rdRs (fx h) (16 - c - i).toNat p).1) → (RR.2 = rkL h4 c.toNat i.toNat ++ (rdRs (fx h) (16 - c - i).toNat p).2) → (∀ j : Nat, (j : Int) < c → gi h4 20 j = gi h 20 j ∧ gi h4 21 j = gi h 21 j) → lk ls 0 = some (.ref 19) → lk ls 1 = some (.ref 1) → lk ls 2 = some (.int (I m)) → lk ls 3 = some (.int (I i)) → GD gE gRL sh h4 → FRM gRL [(0, 1, 2, 2), (0, 1, 5, 5), (0, 13, 0, 0), (0, 14, 0, 15), (0, 15, 0, 15)] h h4 → K 7 ls [] h4 0 0 := by
    intro mz
    induction mz using Nat.strongRecOn with
    | ind mz ih =>
    intro m i p h4 ls hm i0 m0 p0 d2 d3 e1 e2 ol l0 l1 l2 l3 hG4 hF4
    have s3 : gi h4 1 3 = mm := (FRM_gi hF4 (r := 1) rfl rfl).trans h13
    have s4 : gi h4 1 4 = mo := (FRM_gi hF4 (r := 1) rfl rfl).trans h14
    have sF : fx h4 = fx h := fx_F hF4 rfl rfl
    refine x_iload_n 8 hK rfl rfl l3 ?_
    refine x_bipush 10 hK rfl rfl rfl ?_
    refine x_if_icmp_gt 155 13 hK rfl rfl rfl (by omega) (by omega) (fun c3 => ?_) (fun c3 => ?_)
    · exfalso
      omega
    · refine x_iload_n 14 hK rfl rfl l2 ?_
      refine x_bipush 16 hK rfl rfl rfl ?_
      refine x_if_icmp_lt 24 19 hK rfl rfl rfl (by omega) (by omega) (fun c7 => ?_) (fun c7 => ?_)
      · refine x_aload_n 25 hK rfl rfl l1 ?_
        refine x_iconst 26 hK rfl rfl ?_
        have at292 : gi h4 1 2 = p := d2
        have fe292 : fx h4 = (fx h) := fx_F hF4 rfl rfl
        have to292 : gi h4 1 3 = mm := s3
        have mo292 : gi h4 1 4 = mo := s4
        refine x_callV 29 hK hmono rfl rfl [.ref 1, .int (I 3)] [] rfl rfl (Nat.le_of_ble_eq_true rfl) (Nat.le_of_ble_eq_true rfl) rfl (sp_1 (h := h4) hG4) (CLd_le (Nat.le_of_ble_eq_true rfl) (ctX9_takeNumber hSP hG4 (n := 3) (by omega))) ?_
        rw [fe292, at292, to292, mo292]
        clear fe292 at292 to292 mo292
        rintro v292 h292 ⟨⟨e292, rfl, nu292, ne292⟩, hG292, hF292, np292, nc292, nd292⟩
        have nm292 : nmF (fx h) 3 p = (e292, gi h292 1 2) := by rw [nu292, np292]; rfl
        have nb292 : p ≤ gi h292 1 2 ∧ gi h292 1 2 ≤ mm := by rw [np292]; exact ⟨(tkv_lb _ _ _ _).1, tkv_sp fe0 _ _ _ (by first | omega | (have q := fe0 p; omega))⟩
        have nz292 : 0 ≤ e292 → p < gi h292 1 2 := fun z => by have := nmF_n (f := (fx h)) (n := 3) (p := p) (by rw [nm292]; exact z); rw [nm292] at this; exact this
        have ny292 : e292 = -1 → gi h292 1 2 = p := fun z => by
          rw [np292]
          by_cases c : (tkv (fx h) (Int.toNat 3) p 0).2 = p
          · exact c
          · rw [if_neg c] at nu292
            have := tkv_nn (f := (fx h)) (Int.toNat 3) p 0 (by omega)
            omega
        clear nu292 np292
        have nl292 := nm_3 ne292
        have nk292 := nk_ ne292 nz292 ny292
        clear ne292 nz292 ny292
        generalize eq292 : gi h292 1 2 = p292 at *
        refine x_istore 31 hK rfl rfl _ rfl ?_
        refine x_iload 33 hK rfl rfl lk1_s ?_
        refine x_if_ne 50 36 hK rfl rfl rfl (by omega) (fun c13 => ?_) (fun c13 => ?_)
        · refine x_iload 52 hK rfl rfl lk1_s ?_
          refine x_iconst 53 hK rfl rfl ?_
          refine x_if_icmp_eq 65 56 hK rfl rfl rfl (by omega) (by omega) (fun c16 => ?_) (fun c16 => ?_)
          · refine x_aload_n 66 hK rfl rfl (lk1_n l1 (by decide) (Or.inl rfl)) ?_
            refine x_getE 69 hK rfl (Or.inl rfl) rfl (sp_1 (h := h292) hG292) (e := p292) (eq292) ?_
            obtain ⟨q, hq⟩ : ∃ q : Nat, (16 - c - i).toNat = q + 1 := ⟨(16 - c - i).toNat - 1, by omega⟩
            rw [hq] at e1 e2
            unfold rdRs at e1 e2
            have ni : nmI (fx h) 3 1 999 p = (e292, p292) := by unfold nmI; rw [nm292, if_pos (show e292 < 0 by omega)]
            have er : rdRock (fx h) p = ((false, p292), 0, 0) := by
              unfold rdRock
              rw [ni, if_pos (show e292 < 0 by omega)]
            rw [er, if_neg (show ¬ false = true by decide)] at e1 e2
            have f9 : fltF n 76 RR.1 ≠ 0 := by rw [e1]; exact fltF_ne (by omega) (by show 0 ≤ p292; omega) rfl
            exact x_iret hK rfl ⟨⟨p292, rfl, by omega, ⟨fun z => by omega, fun z => absurd z f9⟩⟩, hG292, (hF4).trans ((hF292).mono rfl), fun z => absurd z f9, fun _ => (FRM_gi hF292 (r := 13) rfl rfl).trans (d3), (fun j hj => ⟨(FRM_gi hF292 (r := 14) rfl rfl).trans (ol j hj).1, (FRM_gi hF292 (r := 15) rfl rfl).trans (ol j hj).2⟩)⟩
          · refine x_aload_n 57 hK rfl rfl (lk1_n l1 (by decide) (Or.inl rfl)) ?_
            refine x_bipush 59 hK rfl rfl rfl ?_
            have at293 : gi h292 1 2 = p292 := eq292
            have fe293 : fx h292 = (fx h) := (fx_F hF292 rfl rfl).trans (fx_F hF4 rfl rfl)
            refine x_callV 62 hK hmono rfl rfl [.ref 1, .int (I 44)] [] rfl rfl (Nat.le_of_ble_eq_true rfl) (Nat.le_of_ble_eq_true rfl) rfl (sp_1 (h := h292) hG292) (CLd_le (Nat.le_of_ble_eq_true rfl) (ctX9_take hSP hG292 (s := 44) (by omega) (by omega))) ?_
            rw [fe293, at293]
            clear fe293 at293
            rintro v293 h293 ⟨hG293, hF293, ⟨rfl, tk293, eq293⟩ | ⟨rfl, tk293, eq293⟩⟩
            · refine x_if_ne 70 65 hK rfl rfl rfl (by omega) (fun _ => ?_) (fun c => by omega)
              refine x_aload_n 71 hK rfl rfl (lk1_n l1 (by decide) (Or.inl rfl)) ?_
              have at294 : gi h293 1 2 = (p292 + 1) := eq293
              have fe294 : fx h293 = (fx h) := (fx_F hF293 rfl rfl).trans ((fx_F hF292 rfl rfl).trans (fx_F hF4 rfl rfl))
              refine x_callV 74 hK hmono rfl rfl [.ref 1] [] rfl rfl (Nat.le_of_ble_eq_true rfl) (Nat.le_of_ble_eq_true rfl) rfl (sp_1 (h := h293) hG293) (CLd_le (Nat.le_of_ble_eq_true rfl) (ctX9_next hSP hG293)) ?_
              rw [fe294, at294]
              clear fe294 at294
              rintro v9 h9 ⟨e9, rfl⟩
              rw [e9]
              clear e9
              have fr294 := fx_r hG (p292 + 1)
              refine x_bipush 76 hK rfl rfl rfl ?_
              refine x_isub 77 hK rfl rfl ?_
              refine x_istore 79 hK rfl rfl _ rfl ?_
              refine x_iload 81 hK rfl rfl lk1_s ?_
              refine x_if_lt 91 84 hK rfl rfl rfl (by omega) (fun c30 => ?_) (fun c30 => ?_)
              · refine x_aload_n 92 hK rfl rfl (lk1_n (lk1_n l1 (by decide) (Or.inl rfl)) (by decide) (Or.inl rfl)) ?_
                refine x_getE 95 hK rfl (Or.inl rfl) rfl (sp_1 (h := h293) hG293) (e := (p292 + 1)) (eq293) ?_
                have m0 : e292 ≠ 0 := fun z => by have := fe0 p292 (by omega); omega
                have ltc : p292 < mm := by
                  by_cases z : mm ≤ p292
                  · have := fe0 p292 z; omega
                  · omega
                obtain ⟨q, hq⟩ : ∃ q : Nat, (16 - c - i).toNat = q + 1 := ⟨(16 - c - i).toNat - 1, by omega⟩
                rw [hq] at e1 e2
                unfold rdRs at e1 e2
                have ni : nmI (fx h) 3 1 999 p = (e292, p292) := by unfold nmI; rw [nm292, if_neg (show ¬ e292 < 0 by omega), if_pos (show 1 ≤ e292 ∧ e292 ≤ 999 by omega)]
                have er : rdRock (fx h) p = ((false, p292 + 1), 0, 0) := by
                  unfold rdRock
                  rw [ni, if_neg (show ¬ e292 < 0 by omega), if_neg (show ¬ fx h p292 ≠ 44 by omega)]
                  rw [rk_l, if_neg (show ¬ (48 ≤ fx h (p292 + 1) ∧ fx h (p292 + 1) ≤ 56) by omega), if_pos (by decide)]
                rw [er, if_neg (show ¬ false = true by decide)] at e1 e2
                have f9 : fltF n 76 RR.1 ≠ 0 := by rw [e1]; exact fltF_ne (by omega) (by show 0 ≤ (p292 + 1); omega) rfl
                exact x_iret hK rfl ⟨⟨(p292 + 1), rfl, by omega, ⟨fun z => by omega, fun z => absurd z f9⟩⟩, hG293, ((hF4).trans ((hF292).mono rfl)).trans ((hF293).mono rfl), fun z => absurd z f9, fun _ => (FRM_gi hF293 (r := 13) rfl rfl).trans ((FRM_gi hF292 (r := 13) rfl rfl).trans (d3)), (fun j hj => ⟨((FRM_gi hF293 (r := 14) rfl rfl).trans (FRM_gi hF292 (r := 14) rfl rfl)).trans (ol j hj).1, ((FRM_gi hF293 (r := 15) rfl rfl).trans (FRM_gi hF292 (r := 15) rfl rfl)).trans (ol j hj).2⟩)⟩
              · refine x_iload 86 hK rfl rfl lk1_s ?_
                refine x_bipush 88 hK rfl rfl rfl ?_
                refine x_if_icmp_le 96 91 hK rfl rfl rfl (by omega) (by omega) (fun c36 => ?_) (fun c36 => ?_)
                · refine x_aload_n 97 hK rfl rfl (lk1_n (lk1_n l1 (by decide) (Or.inl rfl)) (by decide) (Or.inl rfl)) ?_
                  refine x_dup 98 hK rfl rfl rfl ?_
                  refine x_getE 101 hK rfl (Or.inl rfl) rfl (sp_1 (h := h293) hG293) (e := (p292 + 1)) (eq293) ?_
                  refine x_iconst 102 hK rfl rfl ?_
                  refine x_iadd 103 hK rfl rfl ?_
                  refine x_putI 106 hK rfl rfl (sp_1 (h := h293) hG293) ?_
                  refine x_aload_n 107 hK rfl rfl (lk1_n (lk1_n l0 (by decide) (Or.inl rfl)) (by decide) (Or.inl rfl)) ?_
                  refine x_getR 110 hK rfl rfl (sp_19 (h := h293) hG293) (rf_19_1 (h := h293) hG293) ?_
                  refine x_iload_n 111 hK rfl rfl (lk1_n (lk1_n l2 (by decide) (Or.inl rfl)) (by decide) (Or.inl rfl)) ?_
                  refine x_iload 113 hK rfl rfl (lk1_n lk1_s (by decide) (Or.inl rfl)) ?_
                  refine x_iastore 114 hK rfl rfl (sp_20 (h := h293) hG293) (by omega) (by omega) (by omega) ?_
                  refine x_aload_n 115 hK rfl rfl (lk1_n (lk1_n l0 (by decide) (Or.inl rfl)) (by decide) (Or.inl rfl)) ?_
                  refine x_getR 118 hK rfl rfl (sp_19 (h := h293) hG293) (rf_19_2 (h := h293) hG293) ?_
                  refine x_iload_n 119 hK rfl rfl (lk1_n (lk1_n l2 (by decide) (Or.inl rfl)) (by decide) (Or.inl rfl)) ?_
                  refine x_iload 121 hK rfl rfl lk1_s ?_
                  refine x_iastore 122 hK rfl rfl (sp_21 (h := h293) hG293) (by omega) (by omega) (by omega) ?_
                  have m0 : e292 ≠ 0 := fun z => by have := fe0 p292 (by omega); omega
                  obtain ⟨q, hq⟩ : ∃ q : Nat, (16 - c - i).toNat = q + 1 := ⟨(16 - c - i).toNat - 1, by omega⟩
                  rw [hq] at e1 e2
                  unfold rdRs at e1 e2
                  have ni : nmI (fx h) 3 1 999 p = (e292, p292) := by unfold nmI; rw [nm292, if_neg (show ¬ e292 < 0 by omega), if_pos (show 1 ≤ e292 ∧ e292 ≤ 999 by omega)]
                  have er : rdRock (fx h) p = ((true, p292 + 2), e292, fx h (p292 + 1) - 48) := by
                    unfold rdRock
                    rw [ni, if_neg (show ¬ e292 < 0 by omega), if_neg (show ¬ fx h p292 ≠ 44 by omega)]
                    rw [rk_l, if_pos (show 48 ≤ fx h (p292 + 1) ∧ fx h (p292 + 1) ≤ 56 by omega), if_neg (by omega)]
                  rw [er, if_pos (show true = true from rfl)] at e1 e2
                  have lt2 : p292 + 2 ≤ mm := by
                    by_cases z : mm ≤ p292 + 1
                    · have := fe0 (p292 + 1) z; omega
                    · omega
                  have yr : rkL (wI (wI (wI h293 1 2 ((p292 + 1) + 1)) 20 m.toNat e292) 21 m.toNat (((fx h) (p292 + 1)) - 48)) c.toNat (i + 1).toNat = rkL h4 c.toNat i.toNat ++ [(e292, fx h (p292 + 1) - 48)] := by
                    rw [tn_s i0.1]
                    exact rkL_s ((gi_to (show c.toNat + i.toNat = m.toNat by omega)).trans ((gi_a (by decide) _).trans (gi_same (by omega)))) ((gi_to (show c.toNat + i.toNat = m.toNat by omega)).trans (gi_same (by omega))) fun j hj => ⟨(gi_a (by decide) _).trans ((gi_k (by omega) _).trans ((gi_a (by decide) _).trans ((FRM_gi hF293 (r := 14) rfl rfl).trans (FRM_gi hF292 (r := 14) rfl rfl)))), (gi_k (by omega) _).trans ((gi_a (by decide) _).trans ((gi_a (by decide) _).trans ((FRM_gi hF293 (r := 15) rfl rfl).trans (FRM_gi hF292 (r := 15) rfl rfl))))⟩
                  refine x_iinc 125 hK rfl rfl (lk1_n (lk1_n l2 (by decide) (Or.inl rfl)) (by decide) (Or.inl rfl)) _ rfl ?_
                  refine x_aload_n 126 hK rfl rfl (lk1_n (lk1_n (lk1_n l1 (by decide) (Or.inl rfl)) (by decide) (Or.inl rfl)) (by decide) (Or.inl rfl)) ?_
                  have hGp295 : GD gE gRL sh (wI (wI (wI h293 1 2 ((p292 + 1) + 1)) 20 m.toNat e292) 21 m.toNat (((fx h) (p292 + 1)) - 48)) := GD_wu (GD_wn (GD_w0 (hG293) (r := 1) rfl rfl) (r := 14) rfl rfl) (r := 15) rfl (by omega) rfl (by omega) (by omega)
                  have at296 : gi (wI (wI (wI h293 1 2 ((p292 + 1) + 1)) 20 m.toNat e292) 21 m.toNat (((fx h) (p292 + 1)) - 48)) 1 2 = ((p292 + 1) + 1) := (gi_a (by decide) _).trans ((gi_a (by decide) _).trans (gi_same (by omega)))
                  have to296 : gi (wI (wI (wI h293 1 2 ((p292 + 1) + 1)) 20 m.toNat e292) 21 m.toNat (((fx h) (p292 + 1)) - 48)) 1 3 = mm := (gi_a (by decide) _).trans ((gi_a (by decide) _).trans ((gi_k (by decide) _).trans ((FRM_gi hF293 (r := 1) rfl rfl).trans ((FRM_gi hF292 (r := 1) rfl rfl).trans (s3)))))
                  refine x_callV 129 hK hmono rfl rfl [.ref 1] [] rfl rfl (Nat.le_of_ble_eq_true rfl) (Nat.le_of_ble_eq_true rfl) rfl (sp_1 (h := h293) hG293) (CLd_le (Nat.le_of_ble_eq_true rfl) (ctX9_ended hSP hGp295)) ?_
                  rw [at296, to296]
                  clear at296 to296
                  rintro v9 h9 ⟨e9, ⟨rfl, en296⟩ | ⟨rfl, en296⟩⟩ <;> rw [e9] <;> clear e9
                  · refine x_if_eq 135 132 hK rfl rfl rfl (by omega) (fun c => by omega) (fun _ => ?_)
                    refine x_goto 155 hK rfl rfl ?_
                    rw [if_neg (show ¬ fx h (p292 + 2) = 59 by rw [fe0 (p292 + 2) (by omega)]; decide)] at e1 e2
                    have yq : rkL (wI (wI (wI h293 1 2 ((p292 + 1) + 1)) 20 m.toNat e292) 21 m.toNat (((fx h) (p292 + 1)) - 48)) c.toNat (i + 1).toNat = rkL (wI (wI (wI h293 1 2 ((p292 + 1) + 1)) 20 m.toNat e292) 21 m.toNat (((fx h) (p292 + 1)) - 48)) c.toNat (i + 1).toNat := rkL_eq fun j hj => ⟨rfl, rfl⟩
                    have e3 : RR.2 = rkL (wI (wI (wI h293 1 2 ((p292 + 1) + 1)) 20 m.toNat e292) 21 m.toNat (((fx h) (p292 + 1)) - 48)) c.toNat (i + 1).toNat := by rw [e2, yq, yr]
                    have ln : (RR.2.length : Nat) = (i + 1).toNat := by rw [e3, rkL_l]
                    have fo := fltF_of (n := n) (most := 76) (p := p292 + 2) (by have hz9 := hmH (); omega) (by have hz9 := hmH (); omega)
                    have fr : fltF n 76 RR.1 = 0 ↔ ¬ 76 < n := by rw [e1]; exact fo
                    refine x_aload_n 156 hK rfl rfl (lk1_n (lk1_n (lk1_n l1 (by decide) (Or.inl rfl)) (by decide) (Or.inl rfl)) (by decide) (Or.inl rfl)) ?_
                    have hGp297 : GD gE gRL sh (wI (wI (wI h293 1 2 ((p292 + 1) + 1)) 20 m.toNat e292) 21 m.toNat (((fx h) (p292 + 1)) - 48)) := GD_wu (GD_wn (GD_w0 (hG293) (r := 1) rfl rfl) (r := 14) rfl rfl) (r := 15) rfl (by omega) rfl (by omega) (by omega)
                    have to298 : gi (wI (wI (wI h293 1 2 ((p292 + 1) + 1)) 20 m.toNat e292) 21 m.toNat (((fx h) (p292 + 1)) - 48)) 1 3 = mm := (gi_a (by decide) _).trans ((gi_a (by decide) _).trans ((gi_k (by decide) _).trans ((FRM_gi hF293 (r := 1) rfl rfl).trans ((FRM_gi hF292 (r := 1) rfl rfl).trans (s3)))))
                    have mo298 : gi (wI (wI (wI h293 1 2 ((p292 + 1) + 1)) 20 m.toNat e292) 21 m.toNat (((fx h) (p292 + 1)) - 48)) 1 4 = mo := (gi_a (by decide) _).trans ((gi_a (by decide) _).trans ((gi_k (by decide) _).trans ((FRM_gi hF293 (r := 1) rfl rfl).trans ((FRM_gi hF292 (r := 1) rfl rfl).trans (s4)))))
                    refine x_callV 159 hK hmono rfl rfl [.ref 1] [] rfl rfl (Nat.le_of_ble_eq_true rfl) (Nat.le_of_ble_eq_true rfl) rfl (sp_1 (h := h293) hG293) (CLd_le (Nat.le_of_ble_eq_true rfl) (ctX9_faultAtEnd hSP hGp297)) ?_
                    rw [to298, mo298]
                    clear to298 mo298
                    rintro v9 h9 ⟨e9, rfl⟩
                    rw [e9]
                    clear e9
                    refine x_istore_n 160 hK rfl rfl _ rfl ?_
                    refine x_aload_n 161 hK rfl rfl (lk1_n (lk1_n (lk1_n (lk1_n l0 (by decide) (Or.inl rfl)) (by decide) (Or.inl rfl)) (by decide) (Or.inl rfl)) (by decide) (Or.inl rfl)) ?_
                    refine x_iload_n 162 hK rfl rfl lk1_s ?_
                    refine x_iconst 163 hK rfl rfl ?_
                    refine x_if_icmp_ne 170 166 hK rfl rfl rfl (by omega) (by omega) (fun c66 => ?_) (fun c66 => ?_)
                    · refine x_aload_n 171 hK rfl rfl (lk1_n (lk1_n (lk1_n (lk1_n l0 (by decide) (Or.inl rfl)) (by decide) (Or.inl rfl)) (by decide) (Or.inl rfl)) (by decide) (Or.inl rfl)) ?_
                      refine x_getE 174 hK rfl (Or.inl rfl) rfl (sp_19 (h := h293) hG293) (e := c) ((gi_a (by decide) _).trans ((gi_a (by decide) _).trans ((gi_a (by decide) _).trans ((FRM_gi hF293 (r := 13) rfl rfl).trans ((FRM_gi hF292 (r := 13) rfl rfl).trans (d3)))))) ?_
                      refine x_putI 177 hK rfl rfl (sp_19 (h := h293) hG293) ?_
                      refine x_iload_n 178 hK rfl rfl lk1_s ?_
                      have e9 : (-1 ≤ (if mo = 1 then mm else -1) ∧ (if mo = 1 then mm else -1) ≤ 76) ∧ ((if mo = 1 then mm else -1) = -1 ↔ fltF n 76 RR.1 = 0) := by have hz9 := hmH (); rw [fr]; (repeat' split) <;> omega
                      have yz : rkL (wI (wI (wI (wI h293 1 2 ((p292 + 1) + 1)) 20 m.toNat e292) 21 m.toNat (((fx h) (p292 + 1)) - 48)) 19 0 c) c.toNat RR.2.length = RR.2 := by
                        rw [ln, e3]
                        exact rkL_eq fun j hj => ⟨gi_a (by decide) _, gi_a (by decide) _⟩
                      have f9 : fltF n 76 RR.1 ≠ 0 := fun z => by have := e9.2.mpr z; omega
                      exact x_iret hK rfl ⟨⟨(if mo = 1 then mm else -1), rfl, e9.1, e9.2⟩, GD_w1 (GD_wu (GD_wn (GD_w0 (hG293) (r := 1) rfl rfl) (r := 14) rfl rfl) (r := 15) rfl (by omega) rfl (by omega) (by omega)) (r := 13) rfl (by omega) rfl (by omega) (by omega), FRM_w (FRM_wn 0 15 (FRM_wn 0 15 (FRM_w (((hF4).trans ((hF292).mono rfl)).trans ((hF293).mono rfl)) (r := 1) rfl rfl) (r := 14) rfl rfl rfl (by omega) (by omega)) (r := 15) rfl rfl rfl (by omega) (by omega)) (r := 13) rfl rfl, fun z => absurd z f9, fun _ => gi_same (by omega), (fun j hj => ⟨((gi_a (by decide) _).trans ((gi_a (by decide) _).trans ((gi_k (by omega) _).trans ((gi_a (by decide) _).trans ((FRM_gi hF293 (r := 14) rfl rfl).trans (FRM_gi hF292 (r := 14) rfl rfl)))))).trans (ol j hj).1, ((gi_a (by decide) _).trans ((gi_k (by omega) _).trans ((gi_a (by decide) _).trans ((gi_a (by decide) _).trans ((FRM_gi hF293 (r := 15) rfl rfl).trans (FRM_gi hF292 (r := 15) rfl rfl)))))).trans (ol j hj).2⟩)⟩
                    · refine x_iload_n 167 hK rfl rfl (lk1_n lk1_s (by decide) (Or.inl rfl)) ?_
                      refine x_goto 174 hK rfl rfl ?_
                      refine x_putI 177 hK rfl rfl (sp_19 (h := h293) hG293) ?_
                      refine x_iload_n 178 hK rfl rfl lk1_s ?_
                      have e9 : (-1 ≤ (if mo = 1 then mm else -1) ∧ (if mo = 1 then mm else -1) ≤ 76) ∧ ((if mo = 1 then mm else -1) = -1 ↔ fltF n 76 RR.1 = 0) := by have hz9 := hmH (); rw [fr]; (repeat' split) <;> omega
                      have yz : rkL (wI (wI (wI (wI h293 1 2 ((p292 + 1) + 1)) 20 m.toNat e292) 21 m.toNat (((fx h) (p292 + 1)) - 48)) 19 0 (m + 1)) c.toNat RR.2.length = RR.2 := by
                        rw [ln, e3]
                        exact rkL_eq fun j hj => ⟨gi_a (by decide) _, gi_a (by decide) _⟩
                      have f9 : fltF n 76 RR.1 = 0 := e9.2.mp (by omega)
                      exact x_iret hK rfl ⟨⟨(if mo = 1 then mm else -1), rfl, e9.1, e9.2⟩, GD_w1 (GD_wu (GD_wn (GD_w0 (hG293) (r := 1) rfl rfl) (r := 14) rfl rfl) (r := 15) rfl (by omega) rfl (by omega) (by omega)) (r := 13) rfl (by omega) rfl (by omega) (by omega), FRM_w (FRM_wn 0 15 (FRM_wn 0 15 (FRM_w (((hF4).trans ((hF292).mono rfl)).trans ((hF293).mono rfl)) (r := 1) rfl rfl) (r := 14) rfl rfl rfl (by omega) (by omega)) (r := 15) rfl rfl rfl (by omega) (by omega)) (r := 13) rfl rfl, fun _ => ⟨(gi_same (by omega)).trans (by omega), yz⟩, fun z => absurd f9 z, (fun j hj => ⟨((gi_a (by decide) _).trans ((gi_a (by decide) _).trans ((gi_k (by omega) _).trans ((gi_a (by decide) _).trans ((FRM_gi hF293 (r := 14) rfl rfl).trans (FRM_gi hF292 (r := 14) rfl rfl)))))).trans (ol j hj).1, ((gi_a (by decide) _).trans ((gi_k (by omega) _).trans ((gi_a (by decide) _).trans ((gi_a (by decide) _).trans ((FRM_gi hF293 (r := 15) rfl rfl).trans (FRM_gi hF292 (r := 15) rfl rfl)))))).trans (ol j hj).2⟩)⟩
                  · refine x_if_eq 135 132 hK rfl rfl rfl (by omega) (fun _ => ?_) (fun c => by omega)
                    refine x_aload_n 136 hK rfl rfl (lk1_n (lk1_n (lk1_n l1 (by decide) (Or.inl rfl)) (by decide) (Or.inl rfl)) (by decide) (Or.inl rfl)) ?_
                    refine x_bipush 138 hK rfl rfl rfl ?_
                    have hGp300 : GD gE gRL sh (wI (wI (wI h293 1 2 ((p292 + 1) + 1)) 20 m.toNat e292) 21 m.toNat (((fx h) (p292 + 1)) - 48)) := GD_wu (GD_wn (GD_w0 (hG293) (r := 1) rfl rfl) (r := 14) rfl rfl) (r := 15) rfl (by omega) rfl (by omega) (by omega)
                    have at299 : gi (wI (wI (wI h293 1 2 ((p292 + 1) + 1)) 20 m.toNat e292) 21 m.toNat (((fx h) (p292 + 1)) - 48)) 1 2 = ((p292 + 1) + 1) := (gi_a (by decide) _).trans ((gi_a (by decide) _).trans (gi_same (by omega)))
                    have fe299 : fx (wI (wI (wI h293 1 2 ((p292 + 1) + 1)) 20 m.toNat e292) 21 m.toNat (((fx h) (p292 + 1)) - 48)) = (fx h) := (fx_wI (by decide) (Or.inl (by decide))).trans ((fx_wI (by decide) (Or.inl (by decide))).trans ((fx_wI (by decide) (Or.inr (by decide))).trans ((fx_F hF293 rfl rfl).trans ((fx_F hF292 rfl rfl).trans (fx_F hF4 rfl rfl)))))
                    refine x_callV 141 hK hmono rfl rfl [.ref 1, .int (I 59)] [] rfl rfl (Nat.le_of_ble_eq_true rfl) (Nat.le_of_ble_eq_true rfl) rfl (sp_1 (h := h293) hG293) (CLd_le (Nat.le_of_ble_eq_true rfl) (ctX9_take hSP hGp300 (s := 59) (by omega) (by omega))) ?_
                    rw [fe299, at299]
                    clear fe299 at299
                    rintro v299 h299 ⟨hG299, hF299, ⟨rfl, tk299, eq299⟩ | ⟨rfl, tk299, eq299⟩⟩
                    · refine x_if_ne 149 144 hK rfl rfl rfl (by omega) (fun _ => ?_) (fun c => by omega)
                      refine x_iinc 152 hK rfl rfl (lk1_n (lk1_n (lk1_n l3 (by decide) (Or.inl rfl)) (by decide) (Or.inl rfl)) (by decide) (Or.inl rfl)) _ rfl ?_
                      refine x_goto 7 hK rfl rfl ?_
                      have lt3 : p292 + 2 < mm := by
                        by_cases z : mm ≤ p292 + 1 + 1
                        · have := fe0 (p292 + 1 + 1) z; omega
                        · omega
                      rw [if_pos (show fx h (p292 + 2) = 59 by rw [show p292 + 2 = p292 + 1 + 1 by omega]; omega)] at e1 e2
                      have yq : rkL h299 c.toNat (i + 1).toNat = rkL (wI (wI (wI h293 1 2 ((p292 + 1) + 1)) 20 m.toNat e292) 21 m.toNat (((fx h) (p292 + 1)) - 48)) c.toNat (i + 1).toNat := rkL_eq fun j hj => ⟨FRM_gi hF299 (r := 14) rfl rfl, FRM_gi hF299 (r := 15) rfl rfl⟩
                      exact ih _ (by omega) (m + 1) (i + 1) (p292 + 1 + 1 + 1) _ _ rfl (by omega) (by omega) (by omega) (eq299) ((FRM_gi hF299 (r := 13) rfl rfl).trans ((gi_a (by decide) _).trans ((gi_a (by decide) _).trans ((gi_a (by decide) _).trans ((FRM_gi hF293 (r := 13) rfl rfl).trans ((FRM_gi hF292 (r := 13) rfl rfl).trans (d3))))))) ((by rw [e1, show (16 - c - (i + 1)).toNat = q by omega, show p292 + 2 + 1 = p292 + 1 + 1 + 1 by omega])) ((by rw [e2, yq, yr, show (16 - c - (i + 1)).toNat = q by omega, show p292 + 2 + 1 = p292 + 1 + 1 + 1 by omega, List.append_assoc]; rfl)) ((fun j hj => ⟨((FRM_gi hF299 (r := 14) rfl rfl).trans ((gi_a (by decide) _).trans ((gi_k (by omega) _).trans ((gi_a (by decide) _).trans ((FRM_gi hF293 (r := 14) rfl rfl).trans (FRM_gi hF292 (r := 14) rfl rfl)))))).trans (ol j hj).1, ((FRM_gi hF299 (r := 15) rfl rfl).trans ((gi_k (by omega) _).trans ((gi_a (by decide) _).trans ((gi_a (by decide) _).trans ((FRM_gi hF293 (r := 15) rfl rfl).trans (FRM_gi hF292 (r := 15) rfl rfl)))))).trans (ol j hj).2⟩)) (lk1_n (lk1_n (lk1_n (lk1_n l0 (by decide) (Or.inl rfl)) (by decide) (Or.inl rfl)) (by decide) (Or.inl rfl)) (by decide) (Or.inl rfl)) (lk1_n (lk1_n (lk1_n (lk1_n l1 (by decide) (Or.inl rfl)) (by decide) (Or.inl rfl)) (by decide) (Or.inl rfl)) (by decide) (Or.inl rfl)) (lk1_n lk1_s (by decide) (Or.inl rfl)) lk1_s (hG299) ((FRM_wn 0 15 (FRM_wn 0 15 (FRM_w (((hF4).trans ((hF292).mono rfl)).trans ((hF293).mono rfl)) (r := 1) rfl rfl) (r := 14) rfl rfl rfl (by omega) (by omega)) (r := 15) rfl rfl rfl (by omega) (by omega)).trans ((hF299).mono rfl))
                    · refine x_if_ne 149 144 hK rfl rfl rfl (by omega) (fun c => by omega) (fun _ => ?_)
                      refine x_aload_n 145 hK rfl rfl (lk1_n (lk1_n (lk1_n l1 (by decide) (Or.inl rfl)) (by decide) (Or.inl rfl)) (by decide) (Or.inl rfl)) ?_
                      refine x_getE 148 hK rfl (Or.inl rfl) rfl (sp_1 (h := h299) hG299) (e := ((p292 + 1) + 1)) (eq299) ?_
                      rw [if_neg (show ¬ fx h (p292 + 2) = 59 by rw [show p292 + 2 = p292 + 1 + 1 by omega]; omega)] at e1 e2
                      have f9 : fltF n 76 RR.1 ≠ 0 := by rw [e1]; exact fltF_nq (by omega) (by show 0 ≤ (p292 + 2); omega) (by show (p292 + 2) ≠ _; omega)
                      exact x_iret hK rfl ⟨⟨((p292 + 1) + 1), rfl, by omega, ⟨fun z => by omega, fun z => absurd z f9⟩⟩, hG299, (FRM_wn 0 15 (FRM_wn 0 15 (FRM_w (((hF4).trans ((hF292).mono rfl)).trans ((hF293).mono rfl)) (r := 1) rfl rfl) (r := 14) rfl rfl rfl (by omega) (by omega)) (r := 15) rfl rfl rfl (by omega) (by omega)).trans ((hF299).mono rfl), fun z => absurd z f9, fun _ => (FRM_gi hF299 (r := 13) rfl rfl).trans ((gi_a (by decide) _).trans ((gi_a (by decide) _).trans ((gi_a (by decide) _).trans ((FRM_gi hF293 (r := 13) rfl rfl).trans ((FRM_gi hF292 (r := 13) rfl rfl).trans (d3)))))), (fun j hj => ⟨((FRM_gi hF299 (r := 14) rfl rfl).trans ((gi_a (by decide) _).trans ((gi_k (by omega) _).trans ((gi_a (by decide) _).trans ((FRM_gi hF293 (r := 14) rfl rfl).trans (FRM_gi hF292 (r := 14) rfl rfl)))))).trans (ol j hj).1, ((FRM_gi hF299 (r := 15) rfl rfl).trans ((gi_k (by omega) _).trans ((gi_a (by decide) _).trans ((gi_a (by decide) _).trans ((FRM_gi hF293 (r := 15) rfl rfl).trans (FRM_gi hF292 (r := 15) rfl rfl)))))).trans (ol j hj).2⟩)⟩
                · refine x_aload_n 92 hK rfl rfl (lk1_n (lk1_n l1 (by decide) (Or.inl rfl)) (by decide) (Or.inl rfl)) ?_
                  refine x_getE 95 hK rfl (Or.inl rfl) rfl (sp_1 (h := h293) hG293) (e := (p292 + 1)) (eq293) ?_
                  have m0 : e292 ≠ 0 := fun z => by have := fe0 p292 (by omega); omega
                  have ltc : p292 < mm := by
                    by_cases z : mm ≤ p292
                    · have := fe0 p292 z; omega
                    · omega
                  obtain ⟨q, hq⟩ : ∃ q : Nat, (16 - c - i).toNat = q + 1 := ⟨(16 - c - i).toNat - 1, by omega⟩
                  rw [hq] at e1 e2
                  unfold rdRs at e1 e2
                  have ni : nmI (fx h) 3 1 999 p = (e292, p292) := by unfold nmI; rw [nm292, if_neg (show ¬ e292 < 0 by omega), if_pos (show 1 ≤ e292 ∧ e292 ≤ 999 by omega)]
                  have er : rdRock (fx h) p = ((false, p292 + 1), 0, 0) := by
                    unfold rdRock
                    rw [ni, if_neg (show ¬ e292 < 0 by omega), if_neg (show ¬ fx h p292 ≠ 44 by omega)]
                    rw [rk_l, if_neg (show ¬ (48 ≤ fx h (p292 + 1) ∧ fx h (p292 + 1) ≤ 56) by omega), if_pos (by decide)]
                  rw [er, if_neg (show ¬ false = true by decide)] at e1 e2
                  have f9 : fltF n 76 RR.1 ≠ 0 := by rw [e1]; exact fltF_ne (by omega) (by show 0 ≤ (p292 + 1); omega) rfl
                  exact x_iret hK rfl ⟨⟨(p292 + 1), rfl, by omega, ⟨fun z => by omega, fun z => absurd z f9⟩⟩, hG293, ((hF4).trans ((hF292).mono rfl)).trans ((hF293).mono rfl), fun z => absurd z f9, fun _ => (FRM_gi hF293 (r := 13) rfl rfl).trans ((FRM_gi hF292 (r := 13) rfl rfl).trans (d3)), (fun j hj => ⟨((FRM_gi hF293 (r := 14) rfl rfl).trans (FRM_gi hF292 (r := 14) rfl rfl)).trans (ol j hj).1, ((FRM_gi hF293 (r := 15) rfl rfl).trans (FRM_gi hF292 (r := 15) rfl rfl)).trans (ol j hj).2⟩)⟩
            · refine x_if_ne 70 65 hK rfl rfl rfl (by omega) (fun c => by omega) (fun _ => ?_)
              refine x_aload_n 66 hK rfl rfl (lk1_n l1 (by decide) (Or.inl rfl)) ?_
              refine x_getE 69 hK rfl (Or.inl rfl) rfl (sp_1 (h := h293) hG293) (e := p292) (eq293) ?_
              obtain ⟨q, hq⟩ : ∃ q : Nat, (16 - c - i).toNat = q + 1 := ⟨(16 - c - i).toNat - 1, by omega⟩
              rw [hq] at e1 e2
              unfold rdRs at e1 e2
              have f9 : fltF n 76 RR.1 ≠ 0 := by
                by_cases c0 : e292 = 0
                · have ni : nmI (fx h) 3 1 999 p = (-1, p292 - 1) := by unfold nmI; rw [nm292, if_neg (show ¬ e292 < 0 by omega), if_neg (show ¬ (1 ≤ e292 ∧ e292 ≤ 999) by omega)]
                  have er : rdRock (fx h) p = ((false, p292 - 1), 0, 0) := by unfold rdRock; rw [ni, if_pos (show (-1 : Int) < 0 by decide)]
                  rw [er, if_neg (show ¬ false = true by decide)] at e1
                  rw [e1]; exact fltF_ne (by omega) (by show 0 ≤ p292 - 1; omega) rfl
                · have ni : nmI (fx h) 3 1 999 p = (e292, p292) := by unfold nmI; rw [nm292, if_neg (show ¬ e292 < 0 by omega), if_pos (show 1 ≤ e292 ∧ e292 ≤ 999 by omega)]
                  have er : rdRock (fx h) p = ((false, p292), 0, 0) := by unfold rdRock; rw [ni, if_neg (show ¬ e292 < 0 by omega), if_pos (show fx h p292 ≠ 44 by omega)]
                  rw [er, if_neg (show ¬ false = true by decide)] at e1
                  rw [e1]; exact fltF_ne (by omega) (by show 0 ≤ p292; omega) rfl
              exact x_iret hK rfl ⟨⟨p292, rfl, by omega, ⟨fun z => by omega, fun z => absurd z f9⟩⟩, hG293, ((hF4).trans ((hF292).mono rfl)).trans ((hF293).mono rfl), fun z => absurd z f9, fun _ => (FRM_gi hF293 (r := 13) rfl rfl).trans ((FRM_gi hF292 (r := 13) rfl rfl).trans (d3)), (fun j hj => ⟨((FRM_gi hF293 (r := 14) rfl rfl).trans (FRM_gi hF292 (r := 14) rfl rfl)).trans (ol j hj).1, ((FRM_gi hF293 (r := 15) rfl rfl).trans (FRM_gi hF292 (r := 15) rfl rfl)).trans (ol j hj).2⟩)⟩
        · refine x_aload_n 37 hK rfl rfl (lk1_n l1 (by decide) (Or.inl rfl)) ?_
          have g301 := gri (0) (1) hG292 (a := 1) (r := 1) (k := 5) rfl rfl
          refine x_getE 40 hK rfl (Or.inr rfl) rfl (sp_1 (h := h292) hG292) (e := (gi h292 1 5)) (rfl) ?_
          refine x_if_ne 50 43 hK rfl rfl rfl (by omega) (fun c98 => ?_) (fun c98 => ?_)
          · refine x_iload 52 hK rfl rfl lk1_s ?_
            refine x_iconst 53 hK rfl rfl ?_
            refine x_if_icmp_eq 65 56 hK rfl rfl rfl (by omega) (by omega) (fun c => by omega) (fun _ => ?_)
            refine x_aload_n 57 hK rfl rfl (lk1_n l1 (by decide) (Or.inl rfl)) ?_
            refine x_bipush 59 hK rfl rfl rfl ?_
            have at302 : gi h292 1 2 = p292 := eq292
            have fe302 : fx h292 = (fx h) := (fx_F hF292 rfl rfl).trans (fx_F hF4 rfl rfl)
            refine x_callV 62 hK hmono rfl rfl [.ref 1, .int (I 44)] [] rfl rfl (Nat.le_of_ble_eq_true rfl) (Nat.le_of_ble_eq_true rfl) rfl (sp_1 (h := h292) hG292) (CLd_le (Nat.le_of_ble_eq_true rfl) (ctX9_take hSP hG292 (s := 44) (by omega) (by omega))) ?_
            rw [fe302, at302]
            clear fe302 at302
            rintro v302 h302 ⟨hG302, hF302, ⟨rfl, tk302, eq302⟩ | ⟨rfl, tk302, eq302⟩⟩
            · refine x_if_ne 70 65 hK rfl rfl rfl (by omega) (fun _ => ?_) (fun c => by omega)
              refine x_aload_n 71 hK rfl rfl (lk1_n l1 (by decide) (Or.inl rfl)) ?_
              have at303 : gi h302 1 2 = (p292 + 1) := eq302
              have fe303 : fx h302 = (fx h) := (fx_F hF302 rfl rfl).trans ((fx_F hF292 rfl rfl).trans (fx_F hF4 rfl rfl))
              refine x_callV 74 hK hmono rfl rfl [.ref 1] [] rfl rfl (Nat.le_of_ble_eq_true rfl) (Nat.le_of_ble_eq_true rfl) rfl (sp_1 (h := h302) hG302) (CLd_le (Nat.le_of_ble_eq_true rfl) (ctX9_next hSP hG302)) ?_
              rw [fe303, at303]
              clear fe303 at303
              rintro v9 h9 ⟨e9, rfl⟩
              rw [e9]
              clear e9
              have fr303 := fx_r hG (p292 + 1)
              refine x_bipush 76 hK rfl rfl rfl ?_
              refine x_isub 77 hK rfl rfl ?_
              refine x_istore 79 hK rfl rfl _ rfl ?_
              refine x_iload 81 hK rfl rfl lk1_s ?_
              refine x_if_lt 91 84 hK rfl rfl rfl (by omega) (fun c112 => ?_) (fun c112 => ?_)
              · refine x_aload_n 92 hK rfl rfl (lk1_n (lk1_n l1 (by decide) (Or.inl rfl)) (by decide) (Or.inl rfl)) ?_
                refine x_getE 95 hK rfl (Or.inl rfl) rfl (sp_1 (h := h302) hG302) (e := (p292 + 1)) (eq302) ?_
                have m0 : e292 ≠ 0 := fun z => by have := fe0 p292 (by omega); omega
                have ltc : p292 < mm := by
                  by_cases z : mm ≤ p292
                  · have := fe0 p292 z; omega
                  · omega
                obtain ⟨q, hq⟩ : ∃ q : Nat, (16 - c - i).toNat = q + 1 := ⟨(16 - c - i).toNat - 1, by omega⟩
                rw [hq] at e1 e2
                unfold rdRs at e1 e2
                have ni : nmI (fx h) 3 1 999 p = (e292, p292) := by unfold nmI; rw [nm292, if_neg (show ¬ e292 < 0 by omega), if_pos (show 1 ≤ e292 ∧ e292 ≤ 999 by omega)]
                have er : rdRock (fx h) p = ((false, p292 + 1), 0, 0) := by
                  unfold rdRock
                  rw [ni, if_neg (show ¬ e292 < 0 by omega), if_neg (show ¬ fx h p292 ≠ 44 by omega)]
                  rw [rk_l, if_neg (show ¬ (48 ≤ fx h (p292 + 1) ∧ fx h (p292 + 1) ≤ 56) by omega), if_pos (by decide)]
                rw [er, if_neg (show ¬ false = true by decide)] at e1 e2
                have f9 : fltF n 76 RR.1 ≠ 0 := by rw [e1]; exact fltF_ne (by omega) (by show 0 ≤ (p292 + 1); omega) rfl
                exact x_iret hK rfl ⟨⟨(p292 + 1), rfl, by omega, ⟨fun z => by omega, fun z => absurd z f9⟩⟩, hG302, ((hF4).trans ((hF292).mono rfl)).trans ((hF302).mono rfl), fun z => absurd z f9, fun _ => (FRM_gi hF302 (r := 13) rfl rfl).trans ((FRM_gi hF292 (r := 13) rfl rfl).trans (d3)), (fun j hj => ⟨((FRM_gi hF302 (r := 14) rfl rfl).trans (FRM_gi hF292 (r := 14) rfl rfl)).trans (ol j hj).1, ((FRM_gi hF302 (r := 15) rfl rfl).trans (FRM_gi hF292 (r := 15) rfl rfl)).trans (ol j hj).2⟩)⟩
              · refine x_iload 86 hK rfl rfl lk1_s ?_
                refine x_bipush 88 hK rfl rfl rfl ?_
                refine x_if_icmp_le 96 91 hK rfl rfl rfl (by omega) (by omega) (fun c118 => ?_) (fun c118 => ?_)
                · refine x_aload_n 97 hK rfl rfl (lk1_n (lk1_n l1 (by decide) (Or.inl rfl)) (by decide) (Or.inl rfl)) ?_
                  refine x_dup 98 hK rfl rfl rfl ?_
                  refine x_getE 101 hK rfl (Or.inl rfl) rfl (sp_1 (h := h302) hG302) (e := (p292 + 1)) (eq302) ?_
                  refine x_iconst 102 hK rfl rfl ?_
                  refine x_iadd 103 hK rfl rfl ?_
                  refine x_putI 106 hK rfl rfl (sp_1 (h := h302) hG302) ?_
                  refine x_aload_n 107 hK rfl rfl (lk1_n (lk1_n l0 (by decide) (Or.inl rfl)) (by decide) (Or.inl rfl)) ?_
                  refine x_getR 110 hK rfl rfl (sp_19 (h := h302) hG302) (rf_19_1 (h := h302) hG302) ?_
                  refine x_iload_n 111 hK rfl rfl (lk1_n (lk1_n l2 (by decide) (Or.inl rfl)) (by decide) (Or.inl rfl)) ?_
                  refine x_iload 113 hK rfl rfl (lk1_n lk1_s (by decide) (Or.inl rfl)) ?_
                  refine x_iastore 114 hK rfl rfl (sp_20 (h := h302) hG302) (by omega) (by omega) (by omega) ?_
                  refine x_aload_n 115 hK rfl rfl (lk1_n (lk1_n l0 (by decide) (Or.inl rfl)) (by decide) (Or.inl rfl)) ?_
                  refine x_getR 118 hK rfl rfl (sp_19 (h := h302) hG302) (rf_19_2 (h := h302) hG302) ?_
                  refine x_iload_n 119 hK rfl rfl (lk1_n (lk1_n l2 (by decide) (Or.inl rfl)) (by decide) (Or.inl rfl)) ?_
                  refine x_iload 121 hK rfl rfl lk1_s ?_
                  refine x_iastore 122 hK rfl rfl (sp_21 (h := h302) hG302) (by omega) (by omega) (by omega) ?_
                  have m0 : e292 ≠ 0 := fun z => by have := fe0 p292 (by omega); omega
                  obtain ⟨q, hq⟩ : ∃ q : Nat, (16 - c - i).toNat = q + 1 := ⟨(16 - c - i).toNat - 1, by omega⟩
                  rw [hq] at e1 e2
                  unfold rdRs at e1 e2
                  have ni : nmI (fx h) 3 1 999 p = (e292, p292) := by unfold nmI; rw [nm292, if_neg (show ¬ e292 < 0 by omega), if_pos (show 1 ≤ e292 ∧ e292 ≤ 999 by omega)]
                  have er : rdRock (fx h) p = ((true, p292 + 2), e292, fx h (p292 + 1) - 48) := by
                    unfold rdRock
                    rw [ni, if_neg (show ¬ e292 < 0 by omega), if_neg (show ¬ fx h p292 ≠ 44 by omega)]
                    rw [rk_l, if_pos (show 48 ≤ fx h (p292 + 1) ∧ fx h (p292 + 1) ≤ 56 by omega), if_neg (by omega)]
                  rw [er, if_pos (show true = true from rfl)] at e1 e2
                  have lt2 : p292 + 2 ≤ mm := by
                    by_cases z : mm ≤ p292 + 1
                    · have := fe0 (p292 + 1) z; omega
                    · omega
                  have yr : rkL (wI (wI (wI h302 1 2 ((p292 + 1) + 1)) 20 m.toNat e292) 21 m.toNat (((fx h) (p292 + 1)) - 48)) c.toNat (i + 1).toNat = rkL h4 c.toNat i.toNat ++ [(e292, fx h (p292 + 1) - 48)] := by
                    rw [tn_s i0.1]
                    exact rkL_s ((gi_to (show c.toNat + i.toNat = m.toNat by omega)).trans ((gi_a (by decide) _).trans (gi_same (by omega)))) ((gi_to (show c.toNat + i.toNat = m.toNat by omega)).trans (gi_same (by omega))) fun j hj => ⟨(gi_a (by decide) _).trans ((gi_k (by omega) _).trans ((gi_a (by decide) _).trans ((FRM_gi hF302 (r := 14) rfl rfl).trans (FRM_gi hF292 (r := 14) rfl rfl)))), (gi_k (by omega) _).trans ((gi_a (by decide) _).trans ((gi_a (by decide) _).trans ((FRM_gi hF302 (r := 15) rfl rfl).trans (FRM_gi hF292 (r := 15) rfl rfl))))⟩
                  refine x_iinc 125 hK rfl rfl (lk1_n (lk1_n l2 (by decide) (Or.inl rfl)) (by decide) (Or.inl rfl)) _ rfl ?_
                  refine x_aload_n 126 hK rfl rfl (lk1_n (lk1_n (lk1_n l1 (by decide) (Or.inl rfl)) (by decide) (Or.inl rfl)) (by decide) (Or.inl rfl)) ?_
                  have hGp304 : GD gE gRL sh (wI (wI (wI h302 1 2 ((p292 + 1) + 1)) 20 m.toNat e292) 21 m.toNat (((fx h) (p292 + 1)) - 48)) := GD_wu (GD_wn (GD_w0 (hG302) (r := 1) rfl rfl) (r := 14) rfl rfl) (r := 15) rfl (by omega) rfl (by omega) (by omega)
                  have at305 : gi (wI (wI (wI h302 1 2 ((p292 + 1) + 1)) 20 m.toNat e292) 21 m.toNat (((fx h) (p292 + 1)) - 48)) 1 2 = ((p292 + 1) + 1) := (gi_a (by decide) _).trans ((gi_a (by decide) _).trans (gi_same (by omega)))
                  have to305 : gi (wI (wI (wI h302 1 2 ((p292 + 1) + 1)) 20 m.toNat e292) 21 m.toNat (((fx h) (p292 + 1)) - 48)) 1 3 = mm := (gi_a (by decide) _).trans ((gi_a (by decide) _).trans ((gi_k (by decide) _).trans ((FRM_gi hF302 (r := 1) rfl rfl).trans ((FRM_gi hF292 (r := 1) rfl rfl).trans (s3)))))
                  refine x_callV 129 hK hmono rfl rfl [.ref 1] [] rfl rfl (Nat.le_of_ble_eq_true rfl) (Nat.le_of_ble_eq_true rfl) rfl (sp_1 (h := h302) hG302) (CLd_le (Nat.le_of_ble_eq_true rfl) (ctX9_ended hSP hGp304)) ?_
                  rw [at305, to305]
                  clear at305 to305
                  rintro v9 h9 ⟨e9, ⟨rfl, en305⟩ | ⟨rfl, en305⟩⟩ <;> rw [e9] <;> clear e9
                  · refine x_if_eq 135 132 hK rfl rfl rfl (by omega) (fun c => by omega) (fun _ => ?_)
                    refine x_goto 155 hK rfl rfl ?_
                    rw [if_neg (show ¬ fx h (p292 + 2) = 59 by rw [fe0 (p292 + 2) (by omega)]; decide)] at e1 e2
                    have yq : rkL (wI (wI (wI h302 1 2 ((p292 + 1) + 1)) 20 m.toNat e292) 21 m.toNat (((fx h) (p292 + 1)) - 48)) c.toNat (i + 1).toNat = rkL (wI (wI (wI h302 1 2 ((p292 + 1) + 1)) 20 m.toNat e292) 21 m.toNat (((fx h) (p292 + 1)) - 48)) c.toNat (i + 1).toNat := rkL_eq fun j hj => ⟨rfl, rfl⟩
                    have e3 : RR.2 = rkL (wI (wI (wI h302 1 2 ((p292 + 1) + 1)) 20 m.toNat e292) 21 m.toNat (((fx h) (p292 + 1)) - 48)) c.toNat (i + 1).toNat := by rw [e2, yq, yr]
                    have ln : (RR.2.length : Nat) = (i + 1).toNat := by rw [e3, rkL_l]
                    have fo := fltF_of (n := n) (most := 76) (p := p292 + 2) (by have hz9 := hmH (); omega) (by have hz9 := hmH (); omega)
                    have fr : fltF n 76 RR.1 = 0 ↔ ¬ 76 < n := by rw [e1]; exact fo
                    refine x_aload_n 156 hK rfl rfl (lk1_n (lk1_n (lk1_n l1 (by decide) (Or.inl rfl)) (by decide) (Or.inl rfl)) (by decide) (Or.inl rfl)) ?_
                    have hGp306 : GD gE gRL sh (wI (wI (wI h302 1 2 ((p292 + 1) + 1)) 20 m.toNat e292) 21 m.toNat (((fx h) (p292 + 1)) - 48)) := GD_wu (GD_wn (GD_w0 (hG302) (r := 1) rfl rfl) (r := 14) rfl rfl) (r := 15) rfl (by omega) rfl (by omega) (by omega)
                    have to307 : gi (wI (wI (wI h302 1 2 ((p292 + 1) + 1)) 20 m.toNat e292) 21 m.toNat (((fx h) (p292 + 1)) - 48)) 1 3 = mm := (gi_a (by decide) _).trans ((gi_a (by decide) _).trans ((gi_k (by decide) _).trans ((FRM_gi hF302 (r := 1) rfl rfl).trans ((FRM_gi hF292 (r := 1) rfl rfl).trans (s3)))))
                    have mo307 : gi (wI (wI (wI h302 1 2 ((p292 + 1) + 1)) 20 m.toNat e292) 21 m.toNat (((fx h) (p292 + 1)) - 48)) 1 4 = mo := (gi_a (by decide) _).trans ((gi_a (by decide) _).trans ((gi_k (by decide) _).trans ((FRM_gi hF302 (r := 1) rfl rfl).trans ((FRM_gi hF292 (r := 1) rfl rfl).trans (s4)))))
                    refine x_callV 159 hK hmono rfl rfl [.ref 1] [] rfl rfl (Nat.le_of_ble_eq_true rfl) (Nat.le_of_ble_eq_true rfl) rfl (sp_1 (h := h302) hG302) (CLd_le (Nat.le_of_ble_eq_true rfl) (ctX9_faultAtEnd hSP hGp306)) ?_
                    rw [to307, mo307]
                    clear to307 mo307
                    rintro v9 h9 ⟨e9, rfl⟩
                    rw [e9]
                    clear e9
                    refine x_istore_n 160 hK rfl rfl _ rfl ?_
                    refine x_aload_n 161 hK rfl rfl (lk1_n (lk1_n (lk1_n (lk1_n l0 (by decide) (Or.inl rfl)) (by decide) (Or.inl rfl)) (by decide) (Or.inl rfl)) (by decide) (Or.inl rfl)) ?_
                    refine x_iload_n 162 hK rfl rfl lk1_s ?_
                    refine x_iconst 163 hK rfl rfl ?_
                    refine x_if_icmp_ne 170 166 hK rfl rfl rfl (by omega) (by omega) (fun c148 => ?_) (fun c148 => ?_)
                    · refine x_aload_n 171 hK rfl rfl (lk1_n (lk1_n (lk1_n (lk1_n l0 (by decide) (Or.inl rfl)) (by decide) (Or.inl rfl)) (by decide) (Or.inl rfl)) (by decide) (Or.inl rfl)) ?_
                      refine x_getE 174 hK rfl (Or.inl rfl) rfl (sp_19 (h := h302) hG302) (e := c) ((gi_a (by decide) _).trans ((gi_a (by decide) _).trans ((gi_a (by decide) _).trans ((FRM_gi hF302 (r := 13) rfl rfl).trans ((FRM_gi hF292 (r := 13) rfl rfl).trans (d3)))))) ?_
                      refine x_putI 177 hK rfl rfl (sp_19 (h := h302) hG302) ?_
                      refine x_iload_n 178 hK rfl rfl lk1_s ?_
                      have e9 : (-1 ≤ (if mo = 1 then mm else -1) ∧ (if mo = 1 then mm else -1) ≤ 76) ∧ ((if mo = 1 then mm else -1) = -1 ↔ fltF n 76 RR.1 = 0) := by have hz9 := hmH (); rw [fr]; (repeat' split) <;> omega
                      have yz : rkL (wI (wI (wI (wI h302 1 2 ((p292 + 1) + 1)) 20 m.toNat e292) 21 m.toNat (((fx h) (p292 + 1)) - 48)) 19 0 c) c.toNat RR.2.length = RR.2 := by
                        rw [ln, e3]
                        exact rkL_eq fun j hj => ⟨gi_a (by decide) _, gi_a (by decide) _⟩
                      have f9 : fltF n 76 RR.1 ≠ 0 := fun z => by have := e9.2.mpr z; omega
                      exact x_iret hK rfl ⟨⟨(if mo = 1 then mm else -1), rfl, e9.1, e9.2⟩, GD_w1 (GD_wu (GD_wn (GD_w0 (hG302) (r := 1) rfl rfl) (r := 14) rfl rfl) (r := 15) rfl (by omega) rfl (by omega) (by omega)) (r := 13) rfl (by omega) rfl (by omega) (by omega), FRM_w (FRM_wn 0 15 (FRM_wn 0 15 (FRM_w (((hF4).trans ((hF292).mono rfl)).trans ((hF302).mono rfl)) (r := 1) rfl rfl) (r := 14) rfl rfl rfl (by omega) (by omega)) (r := 15) rfl rfl rfl (by omega) (by omega)) (r := 13) rfl rfl, fun z => absurd z f9, fun _ => gi_same (by omega), (fun j hj => ⟨((gi_a (by decide) _).trans ((gi_a (by decide) _).trans ((gi_k (by omega) _).trans ((gi_a (by decide) _).trans ((FRM_gi hF302 (r := 14) rfl rfl).trans (FRM_gi hF292 (r := 14) rfl rfl)))))).trans (ol j hj).1, ((gi_a (by decide) _).trans ((gi_k (by omega) _).trans ((gi_a (by decide) _).trans ((gi_a (by decide) _).trans ((FRM_gi hF302 (r := 15) rfl rfl).trans (FRM_gi hF292 (r := 15) rfl rfl)))))).trans (ol j hj).2⟩)⟩
                    · refine x_iload_n 167 hK rfl rfl (lk1_n lk1_s (by decide) (Or.inl rfl)) ?_
                      refine x_goto 174 hK rfl rfl ?_
                      refine x_putI 177 hK rfl rfl (sp_19 (h := h302) hG302) ?_
                      refine x_iload_n 178 hK rfl rfl lk1_s ?_
                      have e9 : (-1 ≤ (if mo = 1 then mm else -1) ∧ (if mo = 1 then mm else -1) ≤ 76) ∧ ((if mo = 1 then mm else -1) = -1 ↔ fltF n 76 RR.1 = 0) := by have hz9 := hmH (); rw [fr]; (repeat' split) <;> omega
                      have yz : rkL (wI (wI (wI (wI h302 1 2 ((p292 + 1) + 1)) 20 m.toNat e292) 21 m.toNat (((fx h) (p292 + 1)) - 48)) 19 0 (m + 1)) c.toNat RR.2.length = RR.2 := by
                        rw [ln, e3]
                        exact rkL_eq fun j hj => ⟨gi_a (by decide) _, gi_a (by decide) _⟩
                      have f9 : fltF n 76 RR.1 = 0 := e9.2.mp (by omega)
                      exact x_iret hK rfl ⟨⟨(if mo = 1 then mm else -1), rfl, e9.1, e9.2⟩, GD_w1 (GD_wu (GD_wn (GD_w0 (hG302) (r := 1) rfl rfl) (r := 14) rfl rfl) (r := 15) rfl (by omega) rfl (by omega) (by omega)) (r := 13) rfl (by omega) rfl (by omega) (by omega), FRM_w (FRM_wn 0 15 (FRM_wn 0 15 (FRM_w (((hF4).trans ((hF292).mono rfl)).trans ((hF302).mono rfl)) (r := 1) rfl rfl) (r := 14) rfl rfl rfl (by omega) (by omega)) (r := 15) rfl rfl rfl (by omega) (by omega)) (r := 13) rfl rfl, fun _ => ⟨(gi_same (by omega)).trans (by omega), yz⟩, fun z => absurd f9 z, (fun j hj => ⟨((gi_a (by decide) _).trans ((gi_a (by decide) _).trans ((gi_k (by omega) _).trans ((gi_a (by decide) _).trans ((FRM_gi hF302 (r := 14) rfl rfl).trans (FRM_gi hF292 (r := 14) rfl rfl)))))).trans (ol j hj).1, ((gi_a (by decide) _).trans ((gi_k (by omega) _).trans ((gi_a (by decide) _).trans ((gi_a (by decide) _).trans ((FRM_gi hF302 (r := 15) rfl rfl).trans (FRM_gi hF292 (r := 15) rfl rfl)))))).trans (ol j hj).2⟩)⟩
                  · refine x_if_eq 135 132 hK rfl rfl rfl (by omega) (fun _ => ?_) (fun c => by omega)
                    refine x_aload_n 136 hK rfl rfl (lk1_n (lk1_n (lk1_n l1 (by decide) (Or.inl rfl)) (by decide) (Or.inl rfl)) (by decide) (Or.inl rfl)) ?_
                    refine x_bipush 138 hK rfl rfl rfl ?_
                    have hGp309 : GD gE gRL sh (wI (wI (wI h302 1 2 ((p292 + 1) + 1)) 20 m.toNat e292) 21 m.toNat (((fx h) (p292 + 1)) - 48)) := GD_wu (GD_wn (GD_w0 (hG302) (r := 1) rfl rfl) (r := 14) rfl rfl) (r := 15) rfl (by omega) rfl (by omega) (by omega)
                    have at308 : gi (wI (wI (wI h302 1 2 ((p292 + 1) + 1)) 20 m.toNat e292) 21 m.toNat (((fx h) (p292 + 1)) - 48)) 1 2 = ((p292 + 1) + 1) := (gi_a (by decide) _).trans ((gi_a (by decide) _).trans (gi_same (by omega)))
                    have fe308 : fx (wI (wI (wI h302 1 2 ((p292 + 1) + 1)) 20 m.toNat e292) 21 m.toNat (((fx h) (p292 + 1)) - 48)) = (fx h) := (fx_wI (by decide) (Or.inl (by decide))).trans ((fx_wI (by decide) (Or.inl (by decide))).trans ((fx_wI (by decide) (Or.inr (by decide))).trans ((fx_F hF302 rfl rfl).trans ((fx_F hF292 rfl rfl).trans (fx_F hF4 rfl rfl)))))
                    refine x_callV 141 hK hmono rfl rfl [.ref 1, .int (I 59)] [] rfl rfl (Nat.le_of_ble_eq_true rfl) (Nat.le_of_ble_eq_true rfl) rfl (sp_1 (h := h302) hG302) (CLd_le (Nat.le_of_ble_eq_true rfl) (ctX9_take hSP hGp309 (s := 59) (by omega) (by omega))) ?_
                    rw [fe308, at308]
                    clear fe308 at308
                    rintro v308 h308 ⟨hG308, hF308, ⟨rfl, tk308, eq308⟩ | ⟨rfl, tk308, eq308⟩⟩
                    · refine x_if_ne 149 144 hK rfl rfl rfl (by omega) (fun _ => ?_) (fun c => by omega)
                      refine x_iinc 152 hK rfl rfl (lk1_n (lk1_n (lk1_n l3 (by decide) (Or.inl rfl)) (by decide) (Or.inl rfl)) (by decide) (Or.inl rfl)) _ rfl ?_
                      refine x_goto 7 hK rfl rfl ?_
                      have lt3 : p292 + 2 < mm := by
                        by_cases z : mm ≤ p292 + 1 + 1
                        · have := fe0 (p292 + 1 + 1) z; omega
                        · omega
                      rw [if_pos (show fx h (p292 + 2) = 59 by rw [show p292 + 2 = p292 + 1 + 1 by omega]; omega)] at e1 e2
                      have yq : rkL h308 c.toNat (i + 1).toNat = rkL (wI (wI (wI h302 1 2 ((p292 + 1) + 1)) 20 m.toNat e292) 21 m.toNat (((fx h) (p292 + 1)) - 48)) c.toNat (i + 1).toNat := rkL_eq fun j hj => ⟨FRM_gi hF308 (r := 14) rfl rfl, FRM_gi hF308 (r := 15) rfl rfl⟩
                      exact ih _ (by omega) (m + 1) (i + 1) (p292 + 1 + 1 + 1) _ _ rfl (by omega) (by omega) (by omega) (eq308) ((FRM_gi hF308 (r := 13) rfl rfl).trans ((gi_a (by decide) _).trans ((gi_a (by decide) _).trans ((gi_a (by decide) _).trans ((FRM_gi hF302 (r := 13) rfl rfl).trans ((FRM_gi hF292 (r := 13) rfl rfl).trans (d3))))))) ((by rw [e1, show (16 - c - (i + 1)).toNat = q by omega, show p292 + 2 + 1 = p292 + 1 + 1 + 1 by omega])) ((by rw [e2, yq, yr, show (16 - c - (i + 1)).toNat = q by omega, show p292 + 2 + 1 = p292 + 1 + 1 + 1 by omega, List.append_assoc]; rfl)) ((fun j hj => ⟨((FRM_gi hF308 (r := 14) rfl rfl).trans ((gi_a (by decide) _).trans ((gi_k (by omega) _).trans ((gi_a (by decide) _).trans ((FRM_gi hF302 (r := 14) rfl rfl).trans (FRM_gi hF292 (r := 14) rfl rfl)))))).trans (ol j hj).1, ((FRM_gi hF308 (r := 15) rfl rfl).trans ((gi_k (by omega) _).trans ((gi_a (by decide) _).trans ((gi_a (by decide) _).trans ((FRM_gi hF302 (r := 15) rfl rfl).trans (FRM_gi hF292 (r := 15) rfl rfl)))))).trans (ol j hj).2⟩)) (lk1_n (lk1_n (lk1_n (lk1_n l0 (by decide) (Or.inl rfl)) (by decide) (Or.inl rfl)) (by decide) (Or.inl rfl)) (by decide) (Or.inl rfl)) (lk1_n (lk1_n (lk1_n (lk1_n l1 (by decide) (Or.inl rfl)) (by decide) (Or.inl rfl)) (by decide) (Or.inl rfl)) (by decide) (Or.inl rfl)) (lk1_n lk1_s (by decide) (Or.inl rfl)) lk1_s (hG308) ((FRM_wn 0 15 (FRM_wn 0 15 (FRM_w (((hF4).trans ((hF292).mono rfl)).trans ((hF302).mono rfl)) (r := 1) rfl rfl) (r := 14) rfl rfl rfl (by omega) (by omega)) (r := 15) rfl rfl rfl (by omega) (by omega)).trans ((hF308).mono rfl))
                    · refine x_if_ne 149 144 hK rfl rfl rfl (by omega) (fun c => by omega) (fun _ => ?_)
                      refine x_aload_n 145 hK rfl rfl (lk1_n (lk1_n (lk1_n l1 (by decide) (Or.inl rfl)) (by decide) (Or.inl rfl)) (by decide) (Or.inl rfl)) ?_
                      refine x_getE 148 hK rfl (Or.inl rfl) rfl (sp_1 (h := h308) hG308) (e := ((p292 + 1) + 1)) (eq308) ?_
                      rw [if_neg (show ¬ fx h (p292 + 2) = 59 by rw [show p292 + 2 = p292 + 1 + 1 by omega]; omega)] at e1 e2
                      have f9 : fltF n 76 RR.1 ≠ 0 := by rw [e1]; exact fltF_nq (by omega) (by show 0 ≤ (p292 + 2); omega) (by show (p292 + 2) ≠ _; omega)
                      exact x_iret hK rfl ⟨⟨((p292 + 1) + 1), rfl, by omega, ⟨fun z => by omega, fun z => absurd z f9⟩⟩, hG308, (FRM_wn 0 15 (FRM_wn 0 15 (FRM_w (((hF4).trans ((hF292).mono rfl)).trans ((hF302).mono rfl)) (r := 1) rfl rfl) (r := 14) rfl rfl rfl (by omega) (by omega)) (r := 15) rfl rfl rfl (by omega) (by omega)).trans ((hF308).mono rfl), fun z => absurd z f9, fun _ => (FRM_gi hF308 (r := 13) rfl rfl).trans ((gi_a (by decide) _).trans ((gi_a (by decide) _).trans ((gi_a (by decide) _).trans ((FRM_gi hF302 (r := 13) rfl rfl).trans ((FRM_gi hF292 (r := 13) rfl rfl).trans (d3)))))), (fun j hj => ⟨((FRM_gi hF308 (r := 14) rfl rfl).trans ((gi_a (by decide) _).trans ((gi_k (by omega) _).trans ((gi_a (by decide) _).trans ((FRM_gi hF302 (r := 14) rfl rfl).trans (FRM_gi hF292 (r := 14) rfl rfl)))))).trans (ol j hj).1, ((FRM_gi hF308 (r := 15) rfl rfl).trans ((gi_k (by omega) _).trans ((gi_a (by decide) _).trans ((gi_a (by decide) _).trans ((FRM_gi hF302 (r := 15) rfl rfl).trans (FRM_gi hF292 (r := 15) rfl rfl)))))).trans (ol j hj).2⟩)⟩
                · refine x_aload_n 92 hK rfl rfl (lk1_n (lk1_n l1 (by decide) (Or.inl rfl)) (by decide) (Or.inl rfl)) ?_
                  refine x_getE 95 hK rfl (Or.inl rfl) rfl (sp_1 (h := h302) hG302) (e := (p292 + 1)) (eq302) ?_
                  have m0 : e292 ≠ 0 := fun z => by have := fe0 p292 (by omega); omega
                  have ltc : p292 < mm := by
                    by_cases z : mm ≤ p292
                    · have := fe0 p292 z; omega
                    · omega
                  obtain ⟨q, hq⟩ : ∃ q : Nat, (16 - c - i).toNat = q + 1 := ⟨(16 - c - i).toNat - 1, by omega⟩
                  rw [hq] at e1 e2
                  unfold rdRs at e1 e2
                  have ni : nmI (fx h) 3 1 999 p = (e292, p292) := by unfold nmI; rw [nm292, if_neg (show ¬ e292 < 0 by omega), if_pos (show 1 ≤ e292 ∧ e292 ≤ 999 by omega)]
                  have er : rdRock (fx h) p = ((false, p292 + 1), 0, 0) := by
                    unfold rdRock
                    rw [ni, if_neg (show ¬ e292 < 0 by omega), if_neg (show ¬ fx h p292 ≠ 44 by omega)]
                    rw [rk_l, if_neg (show ¬ (48 ≤ fx h (p292 + 1) ∧ fx h (p292 + 1) ≤ 56) by omega), if_pos (by decide)]
                  rw [er, if_neg (show ¬ false = true by decide)] at e1 e2
                  have f9 : fltF n 76 RR.1 ≠ 0 := by rw [e1]; exact fltF_ne (by omega) (by show 0 ≤ (p292 + 1); omega) rfl
                  exact x_iret hK rfl ⟨⟨(p292 + 1), rfl, by omega, ⟨fun z => by omega, fun z => absurd z f9⟩⟩, hG302, ((hF4).trans ((hF292).mono rfl)).trans ((hF302).mono rfl), fun z => absurd z f9, fun _ => (FRM_gi hF302 (r := 13) rfl rfl).trans ((FRM_gi hF292 (r := 13) rfl rfl).trans (d3)), (fun j hj => ⟨((FRM_gi hF302 (r := 14) rfl rfl).trans (FRM_gi hF292 (r := 14) rfl rfl)).trans (ol j hj).1, ((FRM_gi hF302 (r := 15) rfl rfl).trans (FRM_gi hF292 (r := 15) rfl rfl)).trans (ol j hj).2⟩)⟩
            · refine x_if_ne 70 65 hK rfl rfl rfl (by omega) (fun c => by omega) (fun _ => ?_)
              refine x_aload_n 66 hK rfl rfl (lk1_n l1 (by decide) (Or.inl rfl)) ?_
              refine x_getE 69 hK rfl (Or.inl rfl) rfl (sp_1 (h := h302) hG302) (e := p292) (eq302) ?_
              obtain ⟨q, hq⟩ : ∃ q : Nat, (16 - c - i).toNat = q + 1 := ⟨(16 - c - i).toNat - 1, by omega⟩
              rw [hq] at e1 e2
              unfold rdRs at e1 e2
              have f9 : fltF n 76 RR.1 ≠ 0 := by
                by_cases c0 : e292 = 0
                · have ni : nmI (fx h) 3 1 999 p = (-1, p292 - 1) := by unfold nmI; rw [nm292, if_neg (show ¬ e292 < 0 by omega), if_neg (show ¬ (1 ≤ e292 ∧ e292 ≤ 999) by omega)]
                  have er : rdRock (fx h) p = ((false, p292 - 1), 0, 0) := by unfold rdRock; rw [ni, if_pos (show (-1 : Int) < 0 by decide)]
                  rw [er, if_neg (show ¬ false = true by decide)] at e1
                  rw [e1]; exact fltF_ne (by omega) (by show 0 ≤ p292 - 1; omega) rfl
                · have ni : nmI (fx h) 3 1 999 p = (e292, p292) := by unfold nmI; rw [nm292, if_neg (show ¬ e292 < 0 by omega), if_pos (show 1 ≤ e292 ∧ e292 ≤ 999 by omega)]
                  have er : rdRock (fx h) p = ((false, p292), 0, 0) := by unfold rdRock; rw [ni, if_neg (show ¬ e292 < 0 by omega), if_pos (show fx h p292 ≠ 44 by omega)]
                  rw [er, if_neg (show ¬ false = true by decide)] at e1
                  rw [e1]; exact fltF_ne (by omega) (by show 0 ≤ p292; omega) rfl
              exact x_iret hK rfl ⟨⟨p292, rfl, by omega, ⟨fun z => by omega, fun z => absurd z f9⟩⟩, hG302, ((hF4).trans ((hF292).mono rfl)).trans ((hF302).mono rfl), fun z => absurd z f9, fun _ => (FRM_gi hF302 (r := 13) rfl rfl).trans ((FRM_gi hF292 (r := 13) rfl rfl).trans (d3)), (fun j hj => ⟨((FRM_gi hF302 (r := 14) rfl rfl).trans (FRM_gi hF292 (r := 14) rfl rfl)).trans (ol j hj).1, ((FRM_gi hF302 (r := 15) rfl rfl).trans (FRM_gi hF292 (r := 15) rfl rfl)).trans (ol j hj).2⟩)⟩
          · refine x_aload_n 44 hK rfl rfl (lk1_n l1 (by decide) (Or.inl rfl)) ?_
            refine x_getE 47 hK rfl (Or.inl rfl) rfl (sp_1 (h := h292) hG292) (e := p292) (eq292) ?_
            refine x_iconst 48 hK rfl rfl ?_
            refine x_isub 49 hK rfl rfl ?_
            obtain ⟨q, hq⟩ : ∃ q : Nat, (16 - c - i).toNat = q + 1 := ⟨(16 - c - i).toNat - 1, by omega⟩
            rw [hq] at e1 e2
            unfold rdRs at e1 e2
            have ni : nmI (fx h) 3 1 999 p = (-1, p292 - 1) := by unfold nmI; rw [nm292, if_neg (show ¬ e292 < 0 by omega), if_neg (show ¬ (1 ≤ e292 ∧ e292 ≤ 999) by omega)]
            have er : rdRock (fx h) p = ((false, p292 - 1), 0, 0) := by
              unfold rdRock
              rw [ni, if_pos (show (-1 : Int) < 0 by decide)]
            rw [er, if_neg (show ¬ false = true by decide)] at e1 e2
            have f9 : fltF n 76 RR.1 ≠ 0 := by rw [e1]; exact fltF_ne (by omega) (by show 0 ≤ (p292 - 1); omega) rfl
            exact x_iret hK rfl ⟨⟨(p292 - 1), rfl, by omega, ⟨fun z => by omega, fun z => absurd z f9⟩⟩, hG292, (hF4).trans ((hF292).mono rfl), fun z => absurd z f9, fun _ => (FRM_gi hF292 (r := 13) rfl rfl).trans (d3), (fun j hj => ⟨(FRM_gi hF292 (r := 14) rfl rfl).trans (ol j hj).1, (FRM_gi hF292 (r := 15) rfl rfl).trans (ol j hj).2⟩)⟩
      · refine x_aload_n 20 hK rfl rfl l1 ?_
        refine x_getE 23 hK rfl (Or.inl rfl) rfl (sp_1 (h := h4) hG4) (e := p) (d2) ?_
        have z0 : (16 - c - i).toNat = 0 := by omega
        rw [z0] at e1 e2
        have f9 : fltF n 76 RR.1 ≠ 0 := by rw [e1]; exact fltF_ne (by omega) (by show 0 ≤ p; omega) rfl
        exact x_iret hK rfl ⟨⟨p, rfl, by omega, ⟨fun z => by omega, fun z => absurd z f9⟩⟩, hG4, hF4, fun z => absurd z f9, fun _ => d3, (fun j hj => ⟨(rfl).trans (ol j hj).1, (rfl).trans (ol j hj).2⟩)⟩
  refine x_aload_n 1 hK rfl rfl rfl ?_
  refine x_getE 4 hK rfl (Or.inl rfl) rfl (sp_19 (h := h) hG) (e := c) (hc) ?_
  refine x_istore_n 5 hK rfl rfl [(2, .int (I c)), (0, .ref 19), (1, .ref 1)] rfl ?_
  refine x_iconst 6 hK rfl rfl ?_
  refine x_istore_n 7 hK rfl rfl [(3, .int (I 0)), (2, .int (I c)), (0, .ref 19), (1, .ref 1)] rfl ?_
  exact loop _ c 0 0 _ _ rfl (by omega) (by omega) (by omega) (h12) (hc) ((by rw [← hRR, show 16 - c - 0 = 16 - c by omega])) ((by rw [← hRR, show 16 - c - 0 = 16 - c by omega]; rfl)) ((fun j hj => ⟨rfl, rfl⟩)) rfl rfl rfl rfl (hG) ((FRM.rf : FRM gRL [(0, 1, 2, 2), (0, 1, 5, 5), (0, 13, 0, 0), (0, 14, 0, 15), (0, 15, 0, 15)] h h))
set_option maxRecDepth 4000 in
theorem ctX10_rocks {SP : CT} (hSP : MONO SP) {sh : List (Nat × Nat)} {h : aH} (hG : GD gE gRL sh h) : CLd SP 6 mX10_rocks [.ref 0] h 0 0 (fun rv h' => (∃ e : Int, rv = some (.int (I e)) ∧ r32 e) ∧ GD gE gRL sh h' ∧ FRM gRL [(0, 1, 1, 5), (0, 13, 0, 0), (0, 14, 0, 15), (0, 15, 0, 15)] h h' ∧ gi h' 1 1 = 0 ∧ ((fltF (gi h 1 1) 76 (rkR (txF (gi h 2) (min (gi h 1 1) 76)) (gi h 1 1) (gi h 19 0)).1) = 0 → gi h' 19 0 = gi h 19 0 + ((rkR (txF (gi h 2) (min (gi h 1 1) 76)) (gi h 1 1) (gi h 19 0)).2.length : Nat) ∧ rkL h' (gi h 19 0).toNat (rkR (txF (gi h 2) (min (gi h 1 1) 76)) (gi h 1 1) (gi h 19 0)).2.length = (rkR (txF (gi h 2) (min (gi h 1 1) 76)) (gi h 1 1) (gi h 19 0)).2) ∧ ((fltF (gi h 1 1) 76 (rkR (txF (gi h 2) (min (gi h 1 1) 76)) (gi h 1 1) (gi h 19 0)).1) ≠ 0 → gi h' 19 0 = gi h 19 0) ∧ ∀ j : Nat, (j : Int) < gi h 19 0 → gi h' 20 j = gi h 20 j ∧ gi h' 21 j = gi h 21 j) := by
  refine x_met _ rfl (Nat.le_of_ble_eq_true rfl) (fun K hK => ?_)
  have hmono := MONO_CLd hSP 5
  have gs := gri 0 80 hG (a := 1) (r := 1) (k := 1) rfl rfl
  have gc := gri 0 16 hG (a := 19) (r := 13) (k := 0) rfl rfl
  obtain ⟨T, hT⟩ : ∃ T, (txF (gi h 2) (min (gi h 1 1) 76)) = T := ⟨_, rfl⟩
  obtain ⟨RR, hRR⟩ : ∃ RR, rkR T (gi h 1 1) (gi h 19 0) = RR := ⟨_, rfl⟩
  rw [hT, hRR] at hK
  refine x_aload_n 1 hK rfl rfl rfl ?_
  refine x_getR 4 hK rfl rfl (sp_0 (h := h) hG) (rf_0_0 (h := h) hG) ?_
  have g310 := gri (0) (80) hG (a := 1) (r := 1) (k := 1) rfl rfl
  refine x_getE 7 hK rfl (Or.inl rfl) rfl (sp_1 (h := h) hG) (e := (gi h 1 1)) (rfl) ?_
  refine x_if_ne 12 10 hK rfl rfl rfl (by omega) (fun c4 => ?_) (fun c4 => ?_)
  · refine x_aload_n 13 hK rfl rfl rfl ?_
    refine x_getR 16 hK rfl rfl (sp_0 (h := h) hG) (rf_0_0 (h := h) hG) ?_
    refine x_bipush 18 hK rfl rfl rfl ?_
    have z312 : gi h 1 1 = (gi h 1 1) := rfl
    refine x_callV 21 hK hmono rfl rfl [.ref 1, .int (I 76)] [] rfl rfl (Nat.le_of_ble_eq_true rfl) (Nat.le_of_ble_eq_true rfl) rfl (sp_1 (h := h) hG) (CLd_le (Nat.le_of_ble_eq_true rfl) (ctX9_open hSP hG (by omega))) ?_
    rintro v311 h311 ⟨rfl, hG311, hF311, o311, p311, q311, r311⟩
    rw [z312] at p311 q311
    refine x_aload_n 22 hK rfl rfl rfl ?_
    refine x_getR 25 hK rfl rfl (sp_0 (h := h311) hG311) (rf_0_7 (h := h311) hG311) ?_
    have g313 := gri (0) (16) hG (a := 19) (r := 13) (k := 0) rfl rfl
    refine x_getE 28 hK rfl (Or.inl rfl) rfl (sp_19 (h := h311) hG311) (e := (gi h 19 0)) (FRM_gi hF311 (r := 13) rfl rfl) ?_
    refine x_istore_n 29 hK rfl rfl [(1, .int (I (gi h 19 0))), (0, .ref 0)] rfl ?_
    refine x_aload_n 30 hK rfl rfl rfl ?_
    refine x_getR 33 hK rfl rfl (sp_0 (h := h311) hG311) (rf_0_7 (h := h311) hG311) ?_
    refine x_aload_n 34 hK rfl rfl rfl ?_
    refine x_getR 37 hK rfl rfl (sp_0 (h := h311) hG311) (rf_0_0 (h := h311) hG311) ?_
    have z2 : gi h311 1 2 = 0 := o311
    have z3 : gi h311 1 3 = min (gi h 1 1) 76 := p311
    have z4 : gi h311 1 4 = (if 76 < gi h 1 1 then (1 : Int) else 0) := q311
    have zc : gi h311 19 0 = gi h 19 0 := FRM_gi hF311 (r := 13) rfl rfl
    have zt : fx h311 = T := by rw [fx_tx, z3, ← hT, show gi h311 2 = gi h 2 from funext fun k => FRM_gi hF311 (r := 2) rfl rfl]
    have rr : rdRs T (16 - gi h 19 0).toNat 0 = RR := by rw [← hRR]; unfold rkR; rw [if_neg (by omega)]
    refine x_callV 40 hK hmono rfl rfl [.ref 19, .ref 1] [] rfl rfl (Nat.le_of_ble_eq_true rfl) (Nat.le_of_ble_eq_true rfl) rfl (sp_19 (h := h311) hG311) (CLd_le (Nat.le_of_ble_eq_true rfl) (ctX2_readFrom hSP hG311 (n := gi h 1 1) z2 z3 z4 (by omega))) ?_
    rw [zt, zc, rr]
    rintro v314 h314 ⟨⟨e314, rfl, eb314, ei314⟩, hG314, hF314, y1, y2, y3⟩
    refine x_istore_n 41 hK rfl rfl [(2, .int (I e314)), (1, .int (I (gi h 19 0))), (0, .ref 0)] rfl ?_
    refine x_aload_n 42 hK rfl rfl rfl ?_
    refine x_getR 45 hK rfl rfl (sp_0 (h := h314) hG314) (rf_0_0 (h := h314) hG314) ?_
    refine x_iconst 46 hK rfl rfl ?_
    refine x_putI 49 hK rfl rfl (sp_1 (h := h314) hG314) ?_
    refine x_iload_n 50 hK rfl rfl rfl ?_
    refine x_iconst 51 hK rfl rfl ?_
    refine x_if_icmp_eq 58 54 hK rfl rfl rfl (by omega) (by omega) (fun c25 => ?_) (fun c25 => ?_)
    · refine x_aload_n 59 hK rfl rfl rfl ?_
      refine x_getR 62 hK rfl rfl (sp_0 (h := h314) hG314) (rf_0_7 (h := h314) hG314) ?_
      have g315 := gri (0) (16) hG314 (a := 19) (r := 13) (k := 0) rfl rfl
      refine x_getE 65 hK rfl (Or.inl rfl) rfl (sp_19 (h := h314) hG314) (e := (gi h314 19 0)) (gi_a (by decide) _) ?_
      refine x_iload_n 66 hK rfl rfl rfl ?_
      refine x_isub 67 hK rfl rfl ?_
      have gq := gri 0 16 hG314 (a := 19) (r := 13) (k := 0) rfl rfl
      exact x_iret hK rfl ⟨⟨_, rfl, by omega⟩, GD_w1 (hG314) (r := 1) rfl (by omega) rfl (by omega) (by omega), FRM_w (((hF311).mono rfl).trans ((hF314).mono rfl)) (r := 1) rfl rfl, gi_same (by omega), fun z => ⟨(gi_a (by decide) _).trans ((y1 z).1), (rkL_eq fun j hj => ⟨gi_a (by decide) _, gi_a (by decide) _⟩).trans (y1 z).2⟩, fun z => (gi_a (by decide) _).trans (y2 z), fun j hj => ⟨(gi_a (by decide) _).trans (((y3 j hj).1.trans (FRM_gi hF311 (r := 14) rfl rfl))), (gi_a (by decide) _).trans (((y3 j hj).2.trans (FRM_gi hF311 (r := 15) rfl rfl)))⟩⟩
    · refine x_iconst 55 hK rfl rfl ?_
      refine x_iload_n 56 hK rfl rfl rfl ?_
      refine x_isub 57 hK rfl rfl ?_
      have gq := gri 0 16 hG314 (a := 19) (r := 13) (k := 0) rfl rfl
      exact x_iret hK rfl ⟨⟨_, rfl, by omega⟩, GD_w1 (hG314) (r := 1) rfl (by omega) rfl (by omega) (by omega), FRM_w (((hF311).mono rfl).trans ((hF314).mono rfl)) (r := 1) rfl rfl, gi_same (by omega), fun z => ⟨(gi_a (by decide) _).trans ((y1 z).1), (rkL_eq fun j hj => ⟨gi_a (by decide) _, gi_a (by decide) _⟩).trans (y1 z).2⟩, fun z => (gi_a (by decide) _).trans (y2 z), fun j hj => ⟨(gi_a (by decide) _).trans (((y3 j hj).1.trans (FRM_gi hF311 (r := 14) rfl rfl))), (gi_a (by decide) _).trans (((y3 j hj).2.trans (FRM_gi hF311 (r := 15) rfl rfl)))⟩⟩
  · refine x_iconst 11 hK rfl rfl ?_
    have r0 : RR = ((true, 0), []) := by rw [← hRR]; unfold rkR; rw [if_pos (by omega)]
    exact x_iret hK rfl ⟨⟨_, rfl, by omega⟩, hG, FRM.rf, by omega, fun _ => by rw [r0]; exact ⟨(Int.add_zero _).symm, rfl⟩, fun _ => rfl, fun j hj => ⟨rfl, rfl⟩⟩
end
section
/-! MESSES TOLD (the class) -/
/-- MESSES of the class from number c on: FOOD, EATS -/
noncomputable def mkL (h : aH) (c n : Nat) : List (Int × Int) := (List.range n).map fun j => (gi h 26 (c + j), gi h 22 (c + j))
theorem mkL_l (h : aH) (c n : Nat) : (mkL h c n).length = n := by unfold mkL; rw [List.length_map, List.length_range]
theorem mkL_s {h h' : aH} {c n : Nat} {a b : Int} (h1 : gi h' 26 (c + n) = a) (h2 : gi h' 22 (c + n) = b) (h3 : ∀ j, j < c + n → gi h' 26 j = gi h 26 j ∧ gi h' 22 j = gi h 22 j) : mkL h' c (n + 1) = mkL h c n ++ [(a, b)] := by
  unfold mkL
  rw [List.range_succ, List.map_append, List.map_cons, List.map_nil, h1, h2]
  congr 1
  exact List.map_congr_left fun j hj => by have := List.mem_range.mp hj; rw [(h3 (c + j) (by omega)).1, (h3 (c + j) (by omega)).2]
theorem mkL_eq {h h' : aH} {c n : Nat} (h3 : ∀ j, j < c + n → gi h' 26 j = gi h 26 j ∧ gi h' 22 j = gi h 22 j) : mkL h' c n = mkL h c n := by
  unfold mkL
  exact List.map_congr_left fun j hj => by have := List.mem_range.mp hj; rw [(h3 (c + j) (by omega)).1, (h3 (c + j) (by omega)).2]
theorem mkL_get {h : aH} {c : Nat} {L : List (Int × Int)} (e : mkL h c L.length = L) {j : Nat} (hj : j < L.length) : gi h 26 (c + j) = (L.getD j (0, 0)).1 ∧ gi h 22 (c + j) = (L.getD j (0, 0)).2 := by
  have z : (mkL h c L.length).getD j (0, 0) = L.getD j (0, 0) := by rw [e]
  rw [← z]
  unfold mkL
  rw [List.getD_eq_getElem?_getD, List.getElem?_map, List.getElem?_range hj]
  exact ⟨rfl, rfl⟩
theorem rkL_get {h : aH} {c : Nat} {L : List (Int × Int)} (e : rkL h c L.length = L) {j : Nat} (hj : j < L.length) : gi h 20 (c + j) = (L.getD j (0, 0)).1 ∧ gi h 21 (c + j) = (L.getD j (0, 0)).2 := by
  have z : (rkL h c L.length).getD j (0, 0) = L.getD j (0, 0) := by rw [e]
  rw [← z]
  unfold rkL
  rw [List.getD_eq_getElem?_getD, List.getElem?_map, List.getElem?_range hj]
  exact ⟨rfl, rfl⟩
theorem rdMess_p {f : Int → Int} {p stop : Int} (hf : ∀ a, stop ≤ a → f a = -1) (hp : p ≤ stop) : p ≤ (rdMess f p).1.2 ∧ (rdMess f p).1.2 ≤ stop ∧ ((rdMess f p).1.1 = true → p < (rdMess f p).1.2) := by
  have a := nmF_p (f := f) (n := 2) (p := p)
  have b : (nmF f 2 p).2 ≤ stop := tkv_sp hf 2 p 0 hp
  unfold rdMess
  by_cases c : (nmF f 2 p).1 < 0
  · rw [if_pos c]; exact ⟨a, b, fun z => absurd (show false = true from z) (by decide)⟩
  · rw [if_neg c]
    by_cases d : f (nmF f 2 p).2 ≠ 42
    · rw [if_pos d]; exact ⟨a, b, fun z => absurd (show false = true from z) (by decide)⟩
    · have l1 : (nmF f 2 p).2 < stop := by
        by_cases z : stop ≤ (nmF f 2 p).2
        · have := hf _ z; omega
        · omega
      have a2 := nmF_p (f := f) (n := 1) (p := (nmF f 2 p).2 + 1)
      have b2 : (nmF f 1 ((nmF f 2 p).2 + 1)).2 ≤ stop := tkv_sp hf 1 _ 0 (by omega)
      rw [if_neg d]
      split
      · exact ⟨by show p ≤ (nmF f 1 ((nmF f 2 p).2 + 1)).2; omega, b2, fun z => absurd (show false = true from z) (by decide)⟩
      · exact ⟨by show p ≤ (nmF f 1 ((nmF f 2 p).2 + 1)).2; omega, b2, fun _ => by show p < (nmF f 1 ((nmF f 2 p).2 + 1)).2; omega⟩
theorem rdMs_p {f : Int → Int} {stop : Int} (hf : ∀ a, stop ≤ a → f a = -1) : ∀ (n : Nat) (p : Int), p ≤ stop → p ≤ (rdMs f n p).1.2 ∧ (rdMs f n p).1.2 ≤ stop
  | 0, p, h => ⟨Int.le_refl _, h⟩
  | n + 1, p, h => by
    have b := rdMess_p hf h
    unfold rdMs
    split
    · split
      · rename_i d
        have l1 : (rdMess f p).1.2 < stop := by
          by_cases z : stop ≤ (rdMess f p).1.2
          · have := hf _ z; omega
          · omega
        have ih := rdMs_p hf n ((rdMess f p).1.2 + 1) (by omega)
        exact ⟨by show p ≤ (rdMs f n ((rdMess f p).1.2 + 1)).1.2; omega, ih.2⟩
      · exact ⟨b.1, b.2.1⟩
    · exact ⟨b.1, b.2.1⟩
theorem cfl_f {n most p : Int} : cfl n most (false, p) = p := if_neg (fun z => absurd (show false = true from z.1) (by decide))
theorem cfl_l {n most p : Int} (h : p ≠ min n most) : cfl n most (true, p) = p := if_neg (fun z => h z.2)
theorem cfl_e {n most p : Int} (h : p = min n most) : cfl n most (true, p) = if most < n then min n most else -1 := if_pos ⟨rfl, h⟩
set_option maxRecDepth 4000 in
theorem ctX10_readMesses {SP : CT} (hSP : MONO SP) {sh : List (Nat × Nat)} {h : aH} (hG : GD gE gRL sh h) {n : Int} (h12 : gi h 1 2 = 0) (h13 : gi h 1 3 = min n 39) (h14 : gi h 1 4 = if 39 < n then 1 else 0) (hn : 0 ≤ n ∧ n ≤ 80) : CLd SP 4 mX10_readMesses [.ref 0] h 0 0 (fun rv h' => rv = some (.int (I (cfl n 39 (rdMs (fx h) (8 - gi h 0 9).toNat 0).1))) ∧ GD gE gRL sh h' ∧ FRM gRL [(0, 0, 9, 9), (0, 1, 2, 2), (0, 1, 5, 5), (0, 16, 0, 7), (0, 20, 0, 7), (0, 21, 0, 7)] h h' ∧ gi h' 0 9 = (if (cfl n 39 (rdMs (fx h) (8 - gi h 0 9).toNat 0).1) = -1 then gi h 0 9 + ((rdMs (fx h) (8 - gi h 0 9).toNat 0).2.length : Nat) else gi h 0 9) ∧ ((cfl n 39 (rdMs (fx h) (8 - gi h 0 9).toNat 0).1) = -1 → mkL h' (gi h 0 9).toNat (rdMs (fx h) (8 - gi h 0 9).toNat 0).2.length = (rdMs (fx h) (8 - gi h 0 9).toNat 0).2 ∧ ∀ j, j < (rdMs (fx h) (8 - gi h 0 9).toNat 0).2.length → gi h' 27 ((gi h 0 9).toNat + j) = 0) ∧ ∀ j : Nat, (j : Int) < gi h 0 9 → gi h' 26 j = gi h 26 j ∧ gi h' 27 j = gi h 27 j ∧ gi h' 22 j = gi h 22 j) := by
  refine x_met _ rfl (Nat.le_of_ble_eq_true rfl) (fun K hK => ?_)
  have hmono := MONO_CLd hSP 3
  have gc := gri 0 8 hG (a := 0) (r := 0) (k := 9) rfl rfl
  obtain ⟨c, hc⟩ : ∃ c, gi h 0 9 = c := ⟨_, rfl⟩
  rw [hc] at gc hK
  obtain ⟨mm, hmm⟩ : ∃ mm, min n 39 = mm := ⟨_, rfl⟩
  have hm0 : 0 ≤ mm ∧ mm ≤ 39 ∧ mm ≤ n := by omega
  obtain ⟨mo, hmo⟩ : ∃ mo, (if 39 < n then (1 : Int) else 0) = mo := ⟨_, rfl⟩
  rw [hmm] at h13
  rw [hmo] at h14
  have hmH : ∀ _ : Unit, min n 39 = mm ∧ (0 ≤ n ∧ n ≤ 80) ∧ (if 39 < n then (1 : Int) else 0) = mo := fun _ => ⟨hmm, hn, hmo⟩
  clear hmm hmo
  have fe0 : ∀ a, mm ≤ a → fx h a = -1 := fun a ha => fx_end h a (by rw [h13]; exact ha)
  obtain ⟨RR, hRR⟩ : ∃ RR, rdMs (fx h) (8 - c).toNat 0 = RR := ⟨_, rfl⟩
  rw [hRR] at hK
  have loop : ∀ (mz : Nat) (m i p : Int) (h4 : aH) (ls : List (Nat × Value)), ((9 - i).toNat = mz) → (0 ≤ i ∧ i ≤ 8) → (m = c + i ∧ m ≤ 8) → (0 ≤ p ∧ p ≤ mm) → (gi h4 1 2 = p) → (gi h4 0 9 = c) → (RR.1 = (rdMs (fx h) (8 - c - i).toNat p).1) → (RR.2 = mkL h4 c.toNat i.toNat ++ (rdMs (fx h) (8 - c - i).toNat p).2) → (∀ j : Nat, j < i.toNat → gi h4 27 (c.toNat + j) = 0) → (∀ j : Nat, (j : Int) < c → gi h4 26 j = gi h 26 j ∧ gi h4 27 j = gi h 27 j ∧ gi h4 22 j = gi h 22 j) → lk ls 0 = some (.ref 0) → lk ls 1 = some (.int (I m)) → lk ls 2 = some (.int (I i)) → GD gE gRL sh h4 → FRM gRL [(0, 0, 9, 9), (0, 1, 2, 2), (0, 1, 5, 5), (0, 16, 0, 7), (0, 20, 0, 7), (0, 21, 0, 7)] h h4 → K 7 ls [] h4 0 0 := by
    intro mz
    induction mz using Nat.strongRecOn with
    | ind mz ih =>
    intro m i p h4 ls hm i0 m0 p0 d2 d3 e1 e2 hz ol l0 l1 l2 hG4 hF4
    have s3 : gi h4 1 3 = mm := (FRM_gi hF4 (r := 1) rfl rfl).trans h13
    have s4 : gi h4 1 4 = mo := (FRM_gi hF4 (r := 1) rfl rfl).trans h14
    have sF : fx h4 = fx h := fx_F hF4 rfl rfl
    refine x_iload_n 8 hK rfl rfl l2 ?_
    refine x_bipush 10 hK rfl rfl rfl ?_
    refine x_if_icmp_gt 155 13 hK rfl rfl rfl (by omega) (by omega) (fun c3 => ?_) (fun c3 => ?_)
    · exfalso
      omega
    · refine x_iload_n 14 hK rfl rfl l1 ?_
      refine x_bipush 16 hK rfl rfl rfl ?_
      refine x_if_icmp_lt 27 19 hK rfl rfl rfl (by omega) (by omega) (fun c7 => ?_) (fun c7 => ?_)
      · refine x_aload_n 28 hK rfl rfl l0 ?_
        refine x_getR 31 hK rfl rfl (sp_0 (h := h4) hG4) (rf_0_0 (h := h4) hG4) ?_
        refine x_iconst 32 hK rfl rfl ?_
        have at316 : gi h4 1 2 = p := d2
        have fe316 : fx h4 = (fx h) := fx_F hF4 rfl rfl
        have to316 : gi h4 1 3 = mm := s3
        have mo316 : gi h4 1 4 = mo := s4
        refine x_callV 35 hK hmono rfl rfl [.ref 1, .int (I 2)] [] rfl rfl (Nat.le_of_ble_eq_true rfl) (Nat.le_of_ble_eq_true rfl) rfl (sp_1 (h := h4) hG4) (CLd_le (Nat.le_of_ble_eq_true rfl) (ctX9_takeNumber hSP hG4 (n := 2) (by omega))) ?_
        rw [fe316, at316, to316, mo316]
        clear fe316 at316 to316 mo316
        rintro v316 h316 ⟨⟨e316, rfl, nu316, ne316⟩, hG316, hF316, np316, nc316, nd316⟩
        have nm316 : nmF (fx h) 2 p = (e316, gi h316 1 2) := by rw [nu316, np316]; rfl
        have nb316 : p ≤ gi h316 1 2 ∧ gi h316 1 2 ≤ mm := by rw [np316]; exact ⟨(tkv_lb _ _ _ _).1, tkv_sp fe0 _ _ _ (by first | omega | (have q := fe0 p; omega))⟩
        have nz316 : 0 ≤ e316 → p < gi h316 1 2 := fun z => by have := nmF_n (f := (fx h)) (n := 2) (p := p) (by rw [nm316]; exact z); rw [nm316] at this; exact this
        have ny316 : e316 = -1 → gi h316 1 2 = p := fun z => by
          rw [np316]
          by_cases c : (tkv (fx h) (Int.toNat 2) p 0).2 = p
          · exact c
          · rw [if_neg c] at nu316
            have := tkv_nn (f := (fx h)) (Int.toNat 2) p 0 (by omega)
            omega
        clear nu316 np316
        have nl316 := nm_2 ne316
        have nk316 := nk_ ne316 nz316 ny316
        clear ne316 nz316 ny316
        clear nc316 nd316
        generalize eq316 : gi h316 1 2 = p316 at *
        refine x_istore_n 36 hK rfl rfl _ rfl ?_
        refine x_iload_n 37 hK rfl rfl lk1_s ?_
        refine x_iconst 38 hK rfl rfl ?_
        refine x_if_icmp_eq 53 41 hK rfl rfl rfl (by omega) (by omega) (fun c15 => ?_) (fun c15 => ?_)
        · refine x_aload_n 54 hK rfl rfl (lk1_n l0 (by decide) (Or.inl rfl)) ?_
          refine x_getR 57 hK rfl rfl (sp_0 (h := h316) hG316) (rf_0_0 (h := h316) hG316) ?_
          refine x_getE 60 hK rfl (Or.inl rfl) rfl (sp_1 (h := h316) hG316) (e := p316) (eq316) ?_
          obtain ⟨q, hq⟩ : ∃ q : Nat, (8 - c - i).toNat = q + 1 := ⟨(8 - c - i).toNat - 1, by omega⟩
          rw [hq] at e1 e2
          unfold rdMs at e1 e2
          have er : rdMess (fx h) p = ((false, p316), 0, 0) := by unfold rdMess; rw [nm316, if_pos (show e316 < 0 by omega)]
          rw [er, if_neg (show ¬ false = true by decide)] at e1 e2
          have c9 : cfl n 39 RR.1 = p316 := by rw [e1]; exact cfl_f
          exact x_iret hK rfl ⟨by rw [c9], hG316, (hF4).trans ((hF316).mono rfl), ((FRM_gi hF316 (r := 0) rfl rfl).trans (d3)).trans (if_neg (by rw [c9]; omega)).symm, fun z => by rw [c9] at z; omega, (fun j hj => ⟨(FRM_gi hF316 (r := 20) rfl rfl).trans (ol j hj).1, (FRM_gi hF316 (r := 21) rfl rfl).trans (ol j hj).2.1, (FRM_gi hF316 (r := 16) rfl rfl).trans (ol j hj).2.2⟩)⟩
        · refine x_aload_n 42 hK rfl rfl (lk1_n l0 (by decide) (Or.inl rfl)) ?_
          refine x_getR 45 hK rfl rfl (sp_0 (h := h316) hG316) (rf_0_0 (h := h316) hG316) ?_
          refine x_bipush 47 hK rfl rfl rfl ?_
          have at317 : gi h316 1 2 = p316 := eq316
          have fe317 : fx h316 = (fx h) := (fx_F hF316 rfl rfl).trans (fx_F hF4 rfl rfl)
          refine x_callV 50 hK hmono rfl rfl [.ref 1, .int (I 42)] [] rfl rfl (Nat.le_of_ble_eq_true rfl) (Nat.le_of_ble_eq_true rfl) rfl (sp_1 (h := h316) hG316) (CLd_le (Nat.le_of_ble_eq_true rfl) (ctX9_take hSP hG316 (s := 42) (by omega) (by omega))) ?_
          rw [fe317, at317]
          clear fe317 at317
          rintro v317 h317 ⟨hG317, hF317, ⟨rfl, tk317, eq317⟩ | ⟨rfl, tk317, eq317⟩⟩
          · refine x_if_ne 61 53 hK rfl rfl rfl (by omega) (fun _ => ?_) (fun c => by omega)
            refine x_aload_n 62 hK rfl rfl (lk1_n l0 (by decide) (Or.inl rfl)) ?_
            refine x_getR 65 hK rfl rfl (sp_0 (h := h317) hG317) (rf_0_0 (h := h317) hG317) ?_
            refine x_iconst 66 hK rfl rfl ?_
            have at318 : gi h317 1 2 = (p316 + 1) := eq317
            have fe318 : fx h317 = (fx h) := (fx_F hF317 rfl rfl).trans ((fx_F hF316 rfl rfl).trans (fx_F hF4 rfl rfl))
            have to318 : gi h317 1 3 = mm := (FRM_gi hF317 (r := 1) rfl rfl).trans ((FRM_gi hF316 (r := 1) rfl rfl).trans (s3))
            have mo318 : gi h317 1 4 = mo := (FRM_gi hF317 (r := 1) rfl rfl).trans ((FRM_gi hF316 (r := 1) rfl rfl).trans (s4))
            refine x_callV 69 hK hmono rfl rfl [.ref 1, .int (I 1)] [] rfl rfl (Nat.le_of_ble_eq_true rfl) (Nat.le_of_ble_eq_true rfl) rfl (sp_1 (h := h317) hG317) (CLd_le (Nat.le_of_ble_eq_true rfl) (ctX9_takeNumber hSP hG317 (n := 1) (by omega))) ?_
            rw [fe318, at318, to318, mo318]
            clear fe318 at318 to318 mo318
            rintro v318 h318 ⟨⟨e318, rfl, nu318, ne318⟩, hG318, hF318, np318, nc318, nd318⟩
            have nm318 : nmF (fx h) 1 (p316 + 1) = (e318, gi h318 1 2) := by rw [nu318, np318]; rfl
            have nb318 : (p316 + 1) ≤ gi h318 1 2 ∧ gi h318 1 2 ≤ mm := by rw [np318]; exact ⟨(tkv_lb _ _ _ _).1, tkv_sp fe0 _ _ _ (by first | omega | (have q := fe0 p316; omega))⟩
            have nz318 : 0 ≤ e318 → (p316 + 1) < gi h318 1 2 := fun z => by have := nmF_n (f := (fx h)) (n := 1) (p := (p316 + 1)) (by rw [nm318]; exact z); rw [nm318] at this; exact this
            have ny318 : e318 = -1 → gi h318 1 2 = (p316 + 1) := fun z => by
              rw [np318]
              by_cases c : (tkv (fx h) (Int.toNat 1) (p316 + 1) 0).2 = (p316 + 1)
              · exact c
              · rw [if_neg c] at nu318
                have := tkv_nn (f := (fx h)) (Int.toNat 1) (p316 + 1) 0 (by omega)
                omega
            clear nu318 np318
            have nl318 := nm_1 ne318
            have nk318 := nk_ ne318 nz318 ny318
            clear ne318 nz318 ny318
            clear nc318 nd318
            generalize eq318 : gi h318 1 2 = p318 at *
            refine x_istore 71 hK rfl rfl _ rfl ?_
            refine x_iload 73 hK rfl rfl lk1_s ?_
            refine x_iconst 74 hK rfl rfl ?_
            refine x_if_icmp_ne 85 77 hK rfl rfl rfl (by omega) (by omega) (fun c32 => ?_) (fun c32 => ?_)
            · refine x_aload_n 86 hK rfl rfl (lk1_n (lk1_n l0 (by decide) (Or.inl rfl)) (by decide) (Or.inl rfl)) ?_
              refine x_getR 89 hK rfl rfl (sp_0 (h := h318) hG318) (rf_0_10 (h := h318) hG318) ?_
              refine x_getR 92 hK rfl rfl (sp_23 (h := h318) hG318) (rf_23_7 (h := h318) hG318) ?_
              refine x_iload_n 93 hK rfl rfl (lk1_n (lk1_n l1 (by decide) (Or.inl rfl)) (by decide) (Or.inl rfl)) ?_
              refine x_iload_n 94 hK rfl rfl (lk1_n lk1_s (by decide) (Or.inl rfl)) ?_
              refine x_iastore 95 hK rfl rfl (sp_26 (h := h318) hG318) (by omega) (by omega) (by omega) ?_
              refine x_aload_n 96 hK rfl rfl (lk1_n (lk1_n l0 (by decide) (Or.inl rfl)) (by decide) (Or.inl rfl)) ?_
              refine x_getR 99 hK rfl rfl (sp_0 (h := h318) hG318) (rf_0_10 (h := h318) hG318) ?_
              refine x_getR 102 hK rfl rfl (sp_23 (h := h318) hG318) (rf_23_8 (h := h318) hG318) ?_
              refine x_iload_n 103 hK rfl rfl (lk1_n (lk1_n l1 (by decide) (Or.inl rfl)) (by decide) (Or.inl rfl)) ?_
              refine x_iconst 104 hK rfl rfl ?_
              refine x_iastore 105 hK rfl rfl (sp_27 (h := h318) hG318) (by omega) (by omega) (by omega) ?_
              refine x_aload_n 106 hK rfl rfl (lk1_n (lk1_n l0 (by decide) (Or.inl rfl)) (by decide) (Or.inl rfl)) ?_
              refine x_getR 109 hK rfl rfl (sp_0 (h := h318) hG318) (rf_0_8 (h := h318) hG318) ?_
              refine x_iload_n 110 hK rfl rfl (lk1_n (lk1_n l1 (by decide) (Or.inl rfl)) (by decide) (Or.inl rfl)) ?_
              refine x_iload 112 hK rfl rfl lk1_s ?_
              refine x_iastore 113 hK rfl rfl (sp_22 (h := h318) hG318) (by omega) (by omega) (by omega) ?_
              obtain ⟨q, hq⟩ : ∃ q : Nat, (8 - c - i).toNat = q + 1 := ⟨(8 - c - i).toNat - 1, by omega⟩
              rw [hq] at e1 e2
              unfold rdMs at e1 e2
              have er : rdMess (fx h) p = ((true, p318), e316, e318) := by unfold rdMess; rw [nm316]; show (if e316 < 0 then _ else if fx h p316 ≠ 42 then _ else if (nmF (fx h) 1 (p316 + 1)).1 < 0 then _ else _) = _; rw [if_neg (by omega), if_neg (by omega), nm318, if_neg (show ¬ e318 < 0 by omega)]
              rw [er, if_pos (show true = true from rfl)] at e1 e2
              have yr : mkL (wI (wI (wI h318 26 m.toNat e316) 27 m.toNat 0) 22 m.toNat e318) c.toNat (i + 1).toNat = mkL h4 c.toNat i.toNat ++ [(e316, e318)] := by
                rw [tn_s i0.1]
                exact mkL_s ((gi_to (show c.toNat + i.toNat = m.toNat by omega)).trans ((gi_a (by decide) _).trans ((gi_a (by decide) _).trans (gi_same (by omega))))) ((gi_to (show c.toNat + i.toNat = m.toNat by omega)).trans (gi_same (by omega))) fun j hj => ⟨(gi_a (by decide) _).trans ((gi_a (by decide) _).trans ((gi_k (by omega) _).trans ((FRM_gi hF318 (r := 20) rfl rfl).trans ((FRM_gi hF317 (r := 20) rfl rfl).trans (FRM_gi hF316 (r := 20) rfl rfl))))), (gi_k (by omega) _).trans ((gi_a (by decide) _).trans ((gi_a (by decide) _).trans ((FRM_gi hF318 (r := 16) rfl rfl).trans ((FRM_gi hF317 (r := 16) rfl rfl).trans (FRM_gi hF316 (r := 16) rfl rfl)))))⟩
              have yz : ∀ j : Nat, j < (i + 1).toNat → gi (wI (wI (wI h318 26 m.toNat e316) 27 m.toNat 0) 22 m.toNat e318) 27 (c.toNat + j) = 0 := by
                intro j hj
                by_cases z : j = i.toNat
                · rw [show c.toNat + j = m.toNat by omega]; exact (gi_a (by decide) _).trans (gi_same (by omega))
                · exact ((gi_a (by decide) _).trans ((gi_k (by omega) _).trans ((gi_a (by decide) _).trans ((FRM_gi hF318 (r := 21) rfl rfl).trans ((FRM_gi hF317 (r := 21) rfl rfl).trans (FRM_gi hF316 (r := 21) rfl rfl)))))).trans (hz j (by omega))
              have yo : ∀ j : Nat, (j : Int) < c → gi (wI (wI (wI h318 26 m.toNat e316) 27 m.toNat 0) 22 m.toNat e318) 26 j = gi h 26 j ∧ gi (wI (wI (wI h318 26 m.toNat e316) 27 m.toNat 0) 22 m.toNat e318) 27 j = gi h 27 j ∧ gi (wI (wI (wI h318 26 m.toNat e316) 27 m.toNat 0) 22 m.toNat e318) 22 j = gi h 22 j := (fun j hj => ⟨((gi_a (by decide) _).trans ((gi_a (by decide) _).trans ((gi_k (by omega) _).trans ((FRM_gi hF318 (r := 20) rfl rfl).trans ((FRM_gi hF317 (r := 20) rfl rfl).trans (FRM_gi hF316 (r := 20) rfl rfl)))))).trans (ol j hj).1, ((gi_a (by decide) _).trans ((gi_k (by omega) _).trans ((gi_a (by decide) _).trans ((FRM_gi hF318 (r := 21) rfl rfl).trans ((FRM_gi hF317 (r := 21) rfl rfl).trans (FRM_gi hF316 (r := 21) rfl rfl)))))).trans (ol j hj).2.1, ((gi_k (by omega) _).trans ((gi_a (by decide) _).trans ((gi_a (by decide) _).trans ((FRM_gi hF318 (r := 16) rfl rfl).trans ((FRM_gi hF317 (r := 16) rfl rfl).trans (FRM_gi hF316 (r := 16) rfl rfl)))))).trans (ol j hj).2.2⟩)
              refine x_iinc 116 hK rfl rfl (lk1_n (lk1_n l1 (by decide) (Or.inl rfl)) (by decide) (Or.inl rfl)) _ rfl ?_
              refine x_aload_n 117 hK rfl rfl (lk1_n (lk1_n (lk1_n l0 (by decide) (Or.inl rfl)) (by decide) (Or.inl rfl)) (by decide) (Or.inl rfl)) ?_
              refine x_getR 120 hK rfl rfl (sp_0 (h := h318) hG318) (rf_0_0 (h := h318) hG318) ?_
              have hGp319 : GD gE gRL sh (wI (wI (wI h318 26 m.toNat e316) 27 m.toNat 0) 22 m.toNat e318) := GD_wu (GD_wn (GD_wn (hG318) (r := 20) rfl rfl) (r := 21) rfl rfl) (r := 16) rfl (by omega) rfl (by omega) (by omega)
              have at320 : gi (wI (wI (wI h318 26 m.toNat e316) 27 m.toNat 0) 22 m.toNat e318) 1 2 = p318 := (gi_a (by decide) _).trans ((gi_a (by decide) _).trans ((gi_a (by decide) _).trans (eq318)))
              have to320 : gi (wI (wI (wI h318 26 m.toNat e316) 27 m.toNat 0) 22 m.toNat e318) 1 3 = mm := (gi_a (by decide) _).trans ((gi_a (by decide) _).trans ((gi_a (by decide) _).trans ((FRM_gi hF318 (r := 1) rfl rfl).trans ((FRM_gi hF317 (r := 1) rfl rfl).trans ((FRM_gi hF316 (r := 1) rfl rfl).trans (s3))))))
              refine x_callV 123 hK hmono rfl rfl [.ref 1] [] rfl rfl (Nat.le_of_ble_eq_true rfl) (Nat.le_of_ble_eq_true rfl) rfl (sp_1 (h := h318) hG318) (CLd_le (Nat.le_of_ble_eq_true rfl) (ctX9_ended hSP hGp319)) ?_
              rw [at320, to320]
              clear at320 to320
              rintro v9 h9 ⟨e9, ⟨rfl, en320⟩ | ⟨rfl, en320⟩⟩ <;> rw [e9] <;> clear e9
              · refine x_if_eq 129 126 hK rfl rfl rfl (by omega) (fun c => by omega) (fun _ => ?_)
                refine x_goto 155 hK rfl rfl ?_
                rw [if_neg (show ¬ fx h p318 = 59 by rw [fe0 p318 (by omega)]; decide)] at e1 e2
                have yq : mkL (wI (wI (wI h318 26 m.toNat e316) 27 m.toNat 0) 22 m.toNat e318) c.toNat (i + 1).toNat = mkL (wI (wI (wI h318 26 m.toNat e316) 27 m.toNat 0) 22 m.toNat e318) c.toNat (i + 1).toNat := mkL_eq fun j hj => ⟨rfl, rfl⟩
                have e3 : RR.2 = mkL (wI (wI (wI h318 26 m.toNat e316) 27 m.toNat 0) 22 m.toNat e318) c.toNat (i + 1).toNat := by rw [e2, yq, yr]
                have ln : RR.2.length = (i + 1).toNat := by rw [e3, mkL_l]
                have c9 : cfl n 39 RR.1 = if 39 < n then mm else -1 := by have hz9 := hmH (); rw [e1, ← hz9.1]; exact cfl_e (show p318 = _ by omega)
                refine x_aload_n 156 hK rfl rfl (lk1_n (lk1_n (lk1_n l0 (by decide) (Or.inl rfl)) (by decide) (Or.inl rfl)) (by decide) (Or.inl rfl)) ?_
                refine x_getR 159 hK rfl rfl (sp_0 (h := h318) hG318) (rf_0_0 (h := h318) hG318) ?_
                have hGp321 : GD gE gRL sh (wI (wI (wI h318 26 m.toNat e316) 27 m.toNat 0) 22 m.toNat e318) := GD_wu (GD_wn (GD_wn (hG318) (r := 20) rfl rfl) (r := 21) rfl rfl) (r := 16) rfl (by omega) rfl (by omega) (by omega)
                have to322 : gi (wI (wI (wI h318 26 m.toNat e316) 27 m.toNat 0) 22 m.toNat e318) 1 3 = mm := (gi_a (by decide) _).trans ((gi_a (by decide) _).trans ((gi_a (by decide) _).trans ((FRM_gi hF318 (r := 1) rfl rfl).trans ((FRM_gi hF317 (r := 1) rfl rfl).trans ((FRM_gi hF316 (r := 1) rfl rfl).trans (s3))))))
                have mo322 : gi (wI (wI (wI h318 26 m.toNat e316) 27 m.toNat 0) 22 m.toNat e318) 1 4 = mo := (gi_a (by decide) _).trans ((gi_a (by decide) _).trans ((gi_a (by decide) _).trans ((FRM_gi hF318 (r := 1) rfl rfl).trans ((FRM_gi hF317 (r := 1) rfl rfl).trans ((FRM_gi hF316 (r := 1) rfl rfl).trans (s4))))))
                refine x_callV 162 hK hmono rfl rfl [.ref 1] [] rfl rfl (Nat.le_of_ble_eq_true rfl) (Nat.le_of_ble_eq_true rfl) rfl (sp_1 (h := h318) hG318) (CLd_le (Nat.le_of_ble_eq_true rfl) (ctX9_faultAtEnd hSP hGp321)) ?_
                rw [to322, mo322]
                clear to322 mo322
                rintro v9 h9 ⟨e9, rfl⟩
                rw [e9]
                clear e9
                refine x_istore_n 163 hK rfl rfl _ rfl ?_
                refine x_aload_n 164 hK rfl rfl (lk1_n (lk1_n (lk1_n (lk1_n l0 (by decide) (Or.inl rfl)) (by decide) (Or.inl rfl)) (by decide) (Or.inl rfl)) (by decide) (Or.inl rfl)) ?_
                refine x_iload_n 165 hK rfl rfl lk1_s ?_
                refine x_iconst 166 hK rfl rfl ?_
                refine x_if_icmp_ne 173 169 hK rfl rfl rfl (by omega) (by omega) (fun c65 => ?_) (fun c65 => ?_)
                · refine x_aload_n 174 hK rfl rfl (lk1_n (lk1_n (lk1_n (lk1_n l0 (by decide) (Or.inl rfl)) (by decide) (Or.inl rfl)) (by decide) (Or.inl rfl)) (by decide) (Or.inl rfl)) ?_
                  refine x_getE 177 hK rfl (Or.inl rfl) rfl (sp_0 (h := h318) hG318) (e := c) ((gi_a (by decide) _).trans ((gi_a (by decide) _).trans ((gi_a (by decide) _).trans ((FRM_gi hF318 (r := 0) rfl rfl).trans ((FRM_gi hF317 (r := 0) rfl rfl).trans ((FRM_gi hF316 (r := 0) rfl rfl).trans (d3))))))) ?_
                  refine x_putI 180 hK rfl rfl (sp_0 (h := h318) hG318) ?_
                  refine x_iload_n 181 hK rfl rfl lk1_s ?_
                  have ce : cfl n 39 RR.1 = (if mo = 1 then mm else -1) := by
                    rw [c9]
                    by_cases z : 39 < n
                    · rw [← (hmH ()).2.2, if_pos z, if_pos z, if_pos rfl]
                    · rw [← (hmH ()).2.2, if_neg z, if_neg z, if_neg (by decide)]
                  have yw : mkL (wI (wI (wI (wI h318 26 m.toNat e316) 27 m.toNat 0) 22 m.toNat e318) 0 9 c) c.toNat RR.2.length = RR.2 := by
                    rw [ln, e3]
                    exact mkL_eq fun j hj => ⟨gi_a (by decide) _, gi_a (by decide) _⟩
                  exact x_iret hK rfl ⟨by rw [ce], GD_w1 (GD_wu (GD_wn (GD_wn (hG318) (r := 20) rfl rfl) (r := 21) rfl rfl) (r := 16) rfl (by omega) rfl (by omega) (by omega)) (r := 0) rfl (by omega) rfl (by omega) (by omega), FRM_w (FRM_wn 0 7 (FRM_wn 0 7 (FRM_wn 0 7 ((((hF4).trans ((hF316).mono rfl)).trans ((hF317).mono rfl)).trans ((hF318).mono rfl)) (r := 20) rfl rfl rfl (by omega) (by omega)) (r := 21) rfl rfl rfl (by omega) (by omega)) (r := 16) rfl rfl rfl (by omega) (by omega)) (r := 0) rfl rfl, (gi_same (by omega)).trans (if_neg (by omega)).symm, fun z => absurd z (by omega), (fun j hj => ⟨((gi_a (by decide) _).trans ((gi_a (by decide) _).trans ((gi_a (by decide) _).trans ((gi_k (by omega) _).trans ((FRM_gi hF318 (r := 20) rfl rfl).trans ((FRM_gi hF317 (r := 20) rfl rfl).trans (FRM_gi hF316 (r := 20) rfl rfl))))))).trans (ol j hj).1, ((gi_a (by decide) _).trans ((gi_a (by decide) _).trans ((gi_k (by omega) _).trans ((gi_a (by decide) _).trans ((FRM_gi hF318 (r := 21) rfl rfl).trans ((FRM_gi hF317 (r := 21) rfl rfl).trans (FRM_gi hF316 (r := 21) rfl rfl))))))).trans (ol j hj).2.1, ((gi_a (by decide) _).trans ((gi_k (by omega) _).trans ((gi_a (by decide) _).trans ((gi_a (by decide) _).trans ((FRM_gi hF318 (r := 16) rfl rfl).trans ((FRM_gi hF317 (r := 16) rfl rfl).trans (FRM_gi hF316 (r := 16) rfl rfl))))))).trans (ol j hj).2.2⟩)⟩
                · refine x_iload_n 170 hK rfl rfl (lk1_n lk1_s (by decide) (Or.inl rfl)) ?_
                  refine x_goto 177 hK rfl rfl ?_
                  refine x_putI 180 hK rfl rfl (sp_0 (h := h318) hG318) ?_
                  refine x_iload_n 181 hK rfl rfl lk1_s ?_
                  have ce : cfl n 39 RR.1 = (if mo = 1 then mm else -1) := by
                    rw [c9]
                    by_cases z : 39 < n
                    · rw [← (hmH ()).2.2, if_pos z, if_pos z, if_pos rfl]
                    · rw [← (hmH ()).2.2, if_neg z, if_neg z, if_neg (by decide)]
                  have yw : mkL (wI (wI (wI (wI h318 26 m.toNat e316) 27 m.toNat 0) 22 m.toNat e318) 0 9 (m + 1)) c.toNat RR.2.length = RR.2 := by
                    rw [ln, e3]
                    exact mkL_eq fun j hj => ⟨gi_a (by decide) _, gi_a (by decide) _⟩
                  exact x_iret hK rfl ⟨by rw [ce], GD_w1 (GD_wu (GD_wn (GD_wn (hG318) (r := 20) rfl rfl) (r := 21) rfl rfl) (r := 16) rfl (by omega) rfl (by omega) (by omega)) (r := 0) rfl (by omega) rfl (by omega) (by omega), FRM_w (FRM_wn 0 7 (FRM_wn 0 7 (FRM_wn 0 7 ((((hF4).trans ((hF316).mono rfl)).trans ((hF317).mono rfl)).trans ((hF318).mono rfl)) (r := 20) rfl rfl rfl (by omega) (by omega)) (r := 21) rfl rfl rfl (by omega) (by omega)) (r := 16) rfl rfl rfl (by omega) (by omega)) (r := 0) rfl rfl, ((gi_same (by omega)).trans (by omega)).trans (if_pos (by omega)).symm, fun _ => ⟨yw, fun j hj => (gi_a (by decide) _).trans (yz j (by omega))⟩, (fun j hj => ⟨((gi_a (by decide) _).trans ((gi_a (by decide) _).trans ((gi_a (by decide) _).trans ((gi_k (by omega) _).trans ((FRM_gi hF318 (r := 20) rfl rfl).trans ((FRM_gi hF317 (r := 20) rfl rfl).trans (FRM_gi hF316 (r := 20) rfl rfl))))))).trans (ol j hj).1, ((gi_a (by decide) _).trans ((gi_a (by decide) _).trans ((gi_k (by omega) _).trans ((gi_a (by decide) _).trans ((FRM_gi hF318 (r := 21) rfl rfl).trans ((FRM_gi hF317 (r := 21) rfl rfl).trans (FRM_gi hF316 (r := 21) rfl rfl))))))).trans (ol j hj).2.1, ((gi_a (by decide) _).trans ((gi_k (by omega) _).trans ((gi_a (by decide) _).trans ((gi_a (by decide) _).trans ((FRM_gi hF318 (r := 16) rfl rfl).trans ((FRM_gi hF317 (r := 16) rfl rfl).trans (FRM_gi hF316 (r := 16) rfl rfl))))))).trans (ol j hj).2.2⟩)⟩
              · refine x_if_eq 129 126 hK rfl rfl rfl (by omega) (fun _ => ?_) (fun c => by omega)
                refine x_aload_n 130 hK rfl rfl (lk1_n (lk1_n (lk1_n l0 (by decide) (Or.inl rfl)) (by decide) (Or.inl rfl)) (by decide) (Or.inl rfl)) ?_
                refine x_getR 133 hK rfl rfl (sp_0 (h := h318) hG318) (rf_0_0 (h := h318) hG318) ?_
                refine x_bipush 135 hK rfl rfl rfl ?_
                have hGp324 : GD gE gRL sh (wI (wI (wI h318 26 m.toNat e316) 27 m.toNat 0) 22 m.toNat e318) := GD_wu (GD_wn (GD_wn (hG318) (r := 20) rfl rfl) (r := 21) rfl rfl) (r := 16) rfl (by omega) rfl (by omega) (by omega)
                have at323 : gi (wI (wI (wI h318 26 m.toNat e316) 27 m.toNat 0) 22 m.toNat e318) 1 2 = p318 := (gi_a (by decide) _).trans ((gi_a (by decide) _).trans ((gi_a (by decide) _).trans (eq318)))
                have fe323 : fx (wI (wI (wI h318 26 m.toNat e316) 27 m.toNat 0) 22 m.toNat e318) = (fx h) := (fx_wI (by decide) (Or.inl (by decide))).trans ((fx_wI (by decide) (Or.inl (by decide))).trans ((fx_wI (by decide) (Or.inl (by decide))).trans ((fx_F hF318 rfl rfl).trans ((fx_F hF317 rfl rfl).trans ((fx_F hF316 rfl rfl).trans (fx_F hF4 rfl rfl))))))
                refine x_callV 138 hK hmono rfl rfl [.ref 1, .int (I 59)] [] rfl rfl (Nat.le_of_ble_eq_true rfl) (Nat.le_of_ble_eq_true rfl) rfl (sp_1 (h := h318) hG318) (CLd_le (Nat.le_of_ble_eq_true rfl) (ctX9_take hSP hGp324 (s := 59) (by omega) (by omega))) ?_
                rw [fe323, at323]
                clear fe323 at323
                rintro v323 h323 ⟨hG323, hF323, ⟨rfl, tk323, eq323⟩ | ⟨rfl, tk323, eq323⟩⟩
                · refine x_if_ne 149 141 hK rfl rfl rfl (by omega) (fun _ => ?_) (fun c => by omega)
                  refine x_iinc 152 hK rfl rfl (lk1_n (lk1_n (lk1_n l2 (by decide) (Or.inl rfl)) (by decide) (Or.inl rfl)) (by decide) (Or.inl rfl)) _ rfl ?_
                  refine x_goto 7 hK rfl rfl ?_
                  rw [if_pos (show fx h p318 = 59 by omega)] at e1 e2
                  have lt3 : p318 < mm := by
                    by_cases z : mm ≤ p318
                    · have := fe0 p318 z; omega
                    · omega
                  have yq : mkL h323 c.toNat (i + 1).toNat = mkL (wI (wI (wI h318 26 m.toNat e316) 27 m.toNat 0) 22 m.toNat e318) c.toNat (i + 1).toNat := mkL_eq fun j hj => ⟨FRM_gi hF323 (r := 20) rfl rfl, FRM_gi hF323 (r := 16) rfl rfl⟩
                  exact ih _ (by omega) (m + 1) (i + 1) (p318 + 1) _ _ rfl (by omega) (by omega) (by omega) (eq323) ((FRM_gi hF323 (r := 0) rfl rfl).trans ((gi_a (by decide) _).trans ((gi_a (by decide) _).trans ((gi_a (by decide) _).trans ((FRM_gi hF318 (r := 0) rfl rfl).trans ((FRM_gi hF317 (r := 0) rfl rfl).trans ((FRM_gi hF316 (r := 0) rfl rfl).trans (d3)))))))) ((by rw [e1, show (8 - c - (i + 1)).toNat = q by omega])) ((by rw [e2, yq, yr, show (8 - c - (i + 1)).toNat = q by omega, List.append_assoc]; rfl)) ((fun j hj => (FRM_gi hF323 (r := 21) rfl rfl).trans (yz j hj))) ((fun j hj => ⟨((FRM_gi hF323 (r := 20) rfl rfl).trans ((gi_a (by decide) _).trans ((gi_a (by decide) _).trans ((gi_k (by omega) _).trans ((FRM_gi hF318 (r := 20) rfl rfl).trans ((FRM_gi hF317 (r := 20) rfl rfl).trans (FRM_gi hF316 (r := 20) rfl rfl))))))).trans (ol j hj).1, ((FRM_gi hF323 (r := 21) rfl rfl).trans ((gi_a (by decide) _).trans ((gi_k (by omega) _).trans ((gi_a (by decide) _).trans ((FRM_gi hF318 (r := 21) rfl rfl).trans ((FRM_gi hF317 (r := 21) rfl rfl).trans (FRM_gi hF316 (r := 21) rfl rfl))))))).trans (ol j hj).2.1, ((FRM_gi hF323 (r := 16) rfl rfl).trans ((gi_k (by omega) _).trans ((gi_a (by decide) _).trans ((gi_a (by decide) _).trans ((FRM_gi hF318 (r := 16) rfl rfl).trans ((FRM_gi hF317 (r := 16) rfl rfl).trans (FRM_gi hF316 (r := 16) rfl rfl))))))).trans (ol j hj).2.2⟩)) (lk1_n (lk1_n (lk1_n (lk1_n l0 (by decide) (Or.inl rfl)) (by decide) (Or.inl rfl)) (by decide) (Or.inl rfl)) (by decide) (Or.inl rfl)) (lk1_n lk1_s (by decide) (Or.inl rfl)) lk1_s (hG323) ((FRM_wn 0 7 (FRM_wn 0 7 (FRM_wn 0 7 ((((hF4).trans ((hF316).mono rfl)).trans ((hF317).mono rfl)).trans ((hF318).mono rfl)) (r := 20) rfl rfl rfl (by omega) (by omega)) (r := 21) rfl rfl rfl (by omega) (by omega)) (r := 16) rfl rfl rfl (by omega) (by omega)).trans ((hF323).mono rfl))
                · refine x_if_ne 149 141 hK rfl rfl rfl (by omega) (fun c => by omega) (fun _ => ?_)
                  refine x_aload_n 142 hK rfl rfl (lk1_n (lk1_n (lk1_n l0 (by decide) (Or.inl rfl)) (by decide) (Or.inl rfl)) (by decide) (Or.inl rfl)) ?_
                  refine x_getR 145 hK rfl rfl (sp_0 (h := h323) hG323) (rf_0_0 (h := h323) hG323) ?_
                  refine x_getE 148 hK rfl (Or.inl rfl) rfl (sp_1 (h := h323) hG323) (e := p318) (eq323) ?_
                  rw [if_neg (show ¬ fx h p318 = 59 by omega)] at e1 e2
                  have c9 : cfl n 39 RR.1 = p318 := by rw [e1]; exact cfl_l (show p318 ≠ _ by omega)
                  exact x_iret hK rfl ⟨by rw [c9], hG323, (FRM_wn 0 7 (FRM_wn 0 7 (FRM_wn 0 7 ((((hF4).trans ((hF316).mono rfl)).trans ((hF317).mono rfl)).trans ((hF318).mono rfl)) (r := 20) rfl rfl rfl (by omega) (by omega)) (r := 21) rfl rfl rfl (by omega) (by omega)) (r := 16) rfl rfl rfl (by omega) (by omega)).trans ((hF323).mono rfl), ((FRM_gi hF323 (r := 0) rfl rfl).trans ((gi_a (by decide) _).trans ((gi_a (by decide) _).trans ((gi_a (by decide) _).trans ((FRM_gi hF318 (r := 0) rfl rfl).trans ((FRM_gi hF317 (r := 0) rfl rfl).trans ((FRM_gi hF316 (r := 0) rfl rfl).trans (d3)))))))).trans (if_neg (by rw [c9]; omega)).symm, fun z => by rw [c9] at z; omega, (fun j hj => ⟨((FRM_gi hF323 (r := 20) rfl rfl).trans ((gi_a (by decide) _).trans ((gi_a (by decide) _).trans ((gi_k (by omega) _).trans ((FRM_gi hF318 (r := 20) rfl rfl).trans ((FRM_gi hF317 (r := 20) rfl rfl).trans (FRM_gi hF316 (r := 20) rfl rfl))))))).trans (ol j hj).1, ((FRM_gi hF323 (r := 21) rfl rfl).trans ((gi_a (by decide) _).trans ((gi_k (by omega) _).trans ((gi_a (by decide) _).trans ((FRM_gi hF318 (r := 21) rfl rfl).trans ((FRM_gi hF317 (r := 21) rfl rfl).trans (FRM_gi hF316 (r := 21) rfl rfl))))))).trans (ol j hj).2.1, ((FRM_gi hF323 (r := 16) rfl rfl).trans ((gi_k (by omega) _).trans ((gi_a (by decide) _).trans ((gi_a (by decide) _).trans ((FRM_gi hF318 (r := 16) rfl rfl).trans ((FRM_gi hF317 (r := 16) rfl rfl).trans (FRM_gi hF316 (r := 16) rfl rfl))))))).trans (ol j hj).2.2⟩)⟩
            · refine x_aload_n 78 hK rfl rfl (lk1_n (lk1_n l0 (by decide) (Or.inl rfl)) (by decide) (Or.inl rfl)) ?_
              refine x_getR 81 hK rfl rfl (sp_0 (h := h318) hG318) (rf_0_0 (h := h318) hG318) ?_
              refine x_getE 84 hK rfl (Or.inl rfl) rfl (sp_1 (h := h318) hG318) (e := p318) (eq318) ?_
              obtain ⟨q, hq⟩ : ∃ q : Nat, (8 - c - i).toNat = q + 1 := ⟨(8 - c - i).toNat - 1, by omega⟩
              rw [hq] at e1 e2
              unfold rdMs at e1 e2
              have er : rdMess (fx h) p = ((false, p318), 0, 0) := by unfold rdMess; rw [nm316]; show (if e316 < 0 then _ else if fx h p316 ≠ 42 then _ else if (nmF (fx h) 1 (p316 + 1)).1 < 0 then _ else _) = _; rw [if_neg (by omega), if_neg (by omega), nm318, if_pos (show e318 < 0 by omega)]
              rw [er, if_neg (show ¬ false = true by decide)] at e1 e2
              have c9 : cfl n 39 RR.1 = p318 := by rw [e1]; exact cfl_f
              exact x_iret hK rfl ⟨by rw [c9], hG318, (((hF4).trans ((hF316).mono rfl)).trans ((hF317).mono rfl)).trans ((hF318).mono rfl), ((FRM_gi hF318 (r := 0) rfl rfl).trans ((FRM_gi hF317 (r := 0) rfl rfl).trans ((FRM_gi hF316 (r := 0) rfl rfl).trans (d3)))).trans (if_neg (by rw [c9]; omega)).symm, fun z => by rw [c9] at z; omega, (fun j hj => ⟨((FRM_gi hF318 (r := 20) rfl rfl).trans ((FRM_gi hF317 (r := 20) rfl rfl).trans (FRM_gi hF316 (r := 20) rfl rfl))).trans (ol j hj).1, ((FRM_gi hF318 (r := 21) rfl rfl).trans ((FRM_gi hF317 (r := 21) rfl rfl).trans (FRM_gi hF316 (r := 21) rfl rfl))).trans (ol j hj).2.1, ((FRM_gi hF318 (r := 16) rfl rfl).trans ((FRM_gi hF317 (r := 16) rfl rfl).trans (FRM_gi hF316 (r := 16) rfl rfl))).trans (ol j hj).2.2⟩)⟩
          · refine x_if_ne 61 53 hK rfl rfl rfl (by omega) (fun c => by omega) (fun _ => ?_)
            refine x_aload_n 54 hK rfl rfl (lk1_n l0 (by decide) (Or.inl rfl)) ?_
            refine x_getR 57 hK rfl rfl (sp_0 (h := h317) hG317) (rf_0_0 (h := h317) hG317) ?_
            refine x_getE 60 hK rfl (Or.inl rfl) rfl (sp_1 (h := h317) hG317) (e := p316) (eq317) ?_
            obtain ⟨q, hq⟩ : ∃ q : Nat, (8 - c - i).toNat = q + 1 := ⟨(8 - c - i).toNat - 1, by omega⟩
            rw [hq] at e1 e2
            unfold rdMs at e1 e2
            have er : rdMess (fx h) p = ((false, p316), 0, 0) := by unfold rdMess; rw [nm316, if_neg (show ¬ e316 < 0 by omega), if_pos (show fx h p316 ≠ 42 by omega)]
            rw [er, if_neg (show ¬ false = true by decide)] at e1 e2
            have c9 : cfl n 39 RR.1 = p316 := by rw [e1]; exact cfl_f
            exact x_iret hK rfl ⟨by rw [c9], hG317, ((hF4).trans ((hF316).mono rfl)).trans ((hF317).mono rfl), ((FRM_gi hF317 (r := 0) rfl rfl).trans ((FRM_gi hF316 (r := 0) rfl rfl).trans (d3))).trans (if_neg (by rw [c9]; omega)).symm, fun z => by rw [c9] at z; omega, (fun j hj => ⟨((FRM_gi hF317 (r := 20) rfl rfl).trans (FRM_gi hF316 (r := 20) rfl rfl)).trans (ol j hj).1, ((FRM_gi hF317 (r := 21) rfl rfl).trans (FRM_gi hF316 (r := 21) rfl rfl)).trans (ol j hj).2.1, ((FRM_gi hF317 (r := 16) rfl rfl).trans (FRM_gi hF316 (r := 16) rfl rfl)).trans (ol j hj).2.2⟩)⟩
      · refine x_aload_n 20 hK rfl rfl l0 ?_
        refine x_getR 23 hK rfl rfl (sp_0 (h := h4) hG4) (rf_0_0 (h := h4) hG4) ?_
        refine x_getE 26 hK rfl (Or.inl rfl) rfl (sp_1 (h := h4) hG4) (e := p) (d2) ?_
        have z0 : (8 - c - i).toNat = 0 := by omega
        rw [z0] at e1 e2
        have c9 : cfl n 39 RR.1 = p := by rw [e1]; exact cfl_f
        exact x_iret hK rfl ⟨by rw [c9], hG4, hF4, (d3).trans (if_neg (by rw [c9]; omega)).symm, fun z => by rw [c9] at z; omega, (fun j hj => ⟨(rfl).trans (ol j hj).1, (rfl).trans (ol j hj).2.1, (rfl).trans (ol j hj).2.2⟩)⟩
  refine x_aload_n 1 hK rfl rfl rfl ?_
  refine x_getE 4 hK rfl (Or.inl rfl) rfl (sp_0 (h := h) hG) (e := c) (hc) ?_
  refine x_istore_n 5 hK rfl rfl [(1, .int (I c)), (0, .ref 0)] rfl ?_
  refine x_iconst 6 hK rfl rfl ?_
  refine x_istore_n 7 hK rfl rfl [(2, .int (I 0)), (1, .int (I c)), (0, .ref 0)] rfl ?_
  exact loop _ c 0 0 _ _ rfl (by omega) (by omega) (by omega) (h12) (hc) ((by rw [← hRR, show 8 - c - 0 = 8 - c by omega])) ((by rw [← hRR, show 8 - c - 0 = 8 - c by omega]; rfl)) ((fun j hj => absurd hj (by show ¬ j < 0; omega))) ((fun j hj => ⟨rfl, rfl, rfl⟩)) rfl rfl rfl (hG) ((FRM.rf : FRM gRL [(0, 0, 9, 9), (0, 1, 2, 2), (0, 1, 5, 5), (0, 16, 0, 7), (0, 20, 0, 7), (0, 21, 0, 7)] h h))
set_option maxRecDepth 4000 in
theorem ctX10_messes {SP : CT} (hSP : MONO SP) {sh : List (Nat × Nat)} {h : aH} (hG : GD gE gRL sh h) (hX : XI h) : CLd SP 6 mX10_messes [.ref 0] h 0 0 (fun rv h' => rv = some (.int (I (if (fltF (gi h 1 1) 39 (msR (txF (gi h 2) (min (gi h 1 1) 39)) (gi h 1 1) (gi h 0 9)).1) = 0 then ((msR (txF (gi h 2) (min (gi h 1 1) 39)) (gi h 1 1) (gi h 0 9)).2.length : Nat) else (fltF (gi h 1 1) 39 (msR (txF (gi h 2) (min (gi h 1 1) 39)) (gi h 1 1) (gi h 0 9)).1)))) ∧ GD gE gRL sh h' ∧ FRM gRL [(0, 0, 9, 9), (0, 1, 1, 5), (0, 16, 0, 7), (0, 20, 0, 7), (0, 21, 0, 7), (0, 27, 2, 2), (0, 30, 0, 2)] h h' ∧ gi h' 1 1 = 0 ∧ gi h' 0 9 = (if (fltF (gi h 1 1) 39 (msR (txF (gi h 2) (min (gi h 1 1) 39)) (gi h 1 1) (gi h 0 9)).1) = 0 then gi h 0 9 + ((msR (txF (gi h 2) (min (gi h 1 1) 39)) (gi h 1 1) (gi h 0 9)).2.length : Nat) else gi h 0 9) ∧ ((fltF (gi h 1 1) 39 (msR (txF (gi h 2) (min (gi h 1 1) 39)) (gi h 1 1) (gi h 0 9)).1) = 0 → mkL h' (gi h 0 9).toNat (msR (txF (gi h 2) (min (gi h 1 1) 39)) (gi h 1 1) (gi h 0 9)).2.length = (msR (txF (gi h 2) (min (gi h 1 1) 39)) (gi h 1 1) (gi h 0 9)).2 ∧ ∀ j, j < (msR (txF (gi h 2) (min (gi h 1 1) 39)) (gi h 1 1) (gi h 0 9)).2.length → gi h' 27 ((gi h 0 9).toNat + j) = 0) ∧ (∀ j : Nat, (j : Int) < gi h 0 9 → gi h' 26 j = gi h 26 j ∧ gi h' 27 j = gi h 27 j ∧ gi h' 22 j = gi h 22 j) ∧ ((fltF (gi h 1 1) 39 (msR (txF (gi h 2) (min (gi h 1 1) 39)) (gi h 1 1) (gi h 0 9)).1) = 0 ∧ (msR (txF (gi h 2) (min (gi h 1 1) 39)) (gi h 1 1) (gi h 0 9)).2 ≠ [] → gi h' 33 2 = 0 ∧ ∀ k, k < 3 → gi h' 36 k = 0) ∧ (¬ ((fltF (gi h 1 1) 39 (msR (txF (gi h 2) (min (gi h 1 1) 39)) (gi h 1 1) (gi h 0 9)).1) = 0 ∧ (msR (txF (gi h 2) (min (gi h 1 1) 39)) (gi h 1 1) (gi h 0 9)).2 ≠ []) → gi h' 33 2 = gi h 33 2 ∧ ∀ k, gi h' 36 k = gi h 36 k)) := by
  refine x_met _ rfl (Nat.le_of_ble_eq_true rfl) (fun K hK => ?_)
  have hmono := MONO_CLd hSP 5
  have gs := gri 0 80 hG (a := 1) (r := 1) (k := 1) rfl rfl
  have gc := gri 0 8 hG (a := 0) (r := 0) (k := 9) rfl rfl
  obtain ⟨T, hT⟩ : ∃ T, (txF (gi h 2) (min (gi h 1 1) 39)) = T := ⟨_, rfl⟩
  obtain ⟨RR, hRR⟩ : ∃ RR, msR T (gi h 1 1) (gi h 0 9) = RR := ⟨_, rfl⟩
  rw [hT, hRR] at hK
  have fe0 : ∀ a, min (gi h 1 1) 39 ≤ a → T a = -1 := fun a ha => by rw [← hT]; exact if_neg (by omega)
  refine x_aload_n 1 hK rfl rfl rfl ?_
  refine x_getR 4 hK rfl rfl (sp_0 (h := h) hG) (rf_0_0 (h := h) hG) ?_
  have g325 := gri (0) (80) hG (a := 1) (r := 1) (k := 1) rfl rfl
  refine x_getE 7 hK rfl (Or.inl rfl) rfl (sp_1 (h := h) hG) (e := (gi h 1 1)) (rfl) ?_
  refine x_if_ne 12 10 hK rfl rfl rfl (by omega) (fun c4 => ?_) (fun c4 => ?_)
  · refine x_aload_n 13 hK rfl rfl rfl ?_
    refine x_getR 16 hK rfl rfl (sp_0 (h := h) hG) (rf_0_0 (h := h) hG) ?_
    refine x_bipush 18 hK rfl rfl rfl ?_
    have z327 : gi h 1 1 = (gi h 1 1) := rfl
    refine x_callV 21 hK hmono rfl rfl [.ref 1, .int (I 39)] [] rfl rfl (Nat.le_of_ble_eq_true rfl) (Nat.le_of_ble_eq_true rfl) rfl (sp_1 (h := h) hG) (CLd_le (Nat.le_of_ble_eq_true rfl) (ctX9_open hSP hG (by omega))) ?_
    rintro v326 h326 ⟨rfl, hG326, hF326, o326, p326, q326, r326⟩
    rw [z327] at p326 q326
    refine x_aload_n 22 hK rfl rfl rfl ?_
    have g328 := gri (0) (8) hG (a := 0) (r := 0) (k := 9) rfl rfl
    refine x_getE 25 hK rfl (Or.inl rfl) rfl (sp_0 (h := h326) hG326) (e := (gi h 0 9)) (FRM_gi hF326 (r := 0) rfl rfl) ?_
    refine x_istore_n 26 hK rfl rfl [(1, .int (I (gi h 0 9))), (0, .ref 0)] rfl ?_
    refine x_aload_n 27 hK rfl rfl rfl ?_
    have z2 : gi h326 1 2 = 0 := o326
    have z3 : gi h326 1 3 = min (gi h 1 1) 39 := p326
    have z4 : gi h326 1 4 = (if 39 < gi h 1 1 then (1 : Int) else 0) := q326
    have zc : gi h326 0 9 = gi h 0 9 := FRM_gi hF326 (r := 0) rfl rfl
    have zt : fx h326 = T := by rw [fx_tx, z3, ← hT, show gi h326 2 = gi h 2 from funext fun k => FRM_gi hF326 (r := 2) rfl rfl]
    have rr : rdMs T (8 - gi h 0 9).toNat 0 = RR := by rw [← hRR]; unfold msR; rw [if_neg (by omega)]
    have rp := rdMs_p fe0 (8 - gi h 0 9).toNat 0 (by omega)
    rw [rr] at rp
    have cf := cfl_flt (n := gi h 1 1) (most := 39) (r := RR.1) (by omega) (by omega) rp.1 rp.2
    have cb : -1 ≤ cfl (gi h 1 1) 39 RR.1 ∧ cfl (gi h 1 1) 39 RR.1 ≤ 39 := by unfold cfl; (repeat' split) <;> omega
    refine x_callV 30 hK hmono rfl rfl [.ref 0] [] rfl rfl (Nat.le_of_ble_eq_true rfl) (Nat.le_of_ble_eq_true rfl) rfl (sp_0 (h := h326) hG326) (CLd_le (Nat.le_of_ble_eq_true rfl) (ctX10_readMesses hSP hG326 (n := gi h 1 1) z2 z3 z4 (by omega))) ?_
    rw [zt, zc, rr]
    rintro v329 h329 ⟨rfl, hG329, hF329, y0, y1, y3⟩
    refine x_istore_n 31 hK rfl rfl [(2, .int (I (cfl (gi h 1 1) 39 RR.1))), (1, .int (I (gi h 0 9))), (0, .ref 0)] rfl ?_
    refine x_aload_n 32 hK rfl rfl rfl ?_
    refine x_getR 35 hK rfl rfl (sp_0 (h := h329) hG329) (rf_0_0 (h := h329) hG329) ?_
    refine x_iconst 36 hK rfl rfl ?_
    refine x_putI 39 hK rfl rfl (sp_1 (h := h329) hG329) ?_
    refine x_iload_n 40 hK rfl rfl rfl ?_
    refine x_iconst 41 hK rfl rfl ?_
    refine x_if_icmp_eq 48 44 hK rfl rfl rfl (by omega) (by omega) (fun c21 => ?_) (fun c21 => ?_)
    · refine x_aload_n 49 hK rfl rfl rfl ?_
      refine x_getR 52 hK rfl rfl (sp_0 (h := h329) hG329) (rf_0_12 (h := h329) hG329) ?_
      have hGp330 : GD gE gRL sh (wI h329 1 1 0) := GD_w1 (hG329) (r := 1) rfl (by omega) rfl (by omega) (by omega)
      refine x_callV 55 hK hmono rfl rfl [.ref 33] [] rfl rfl (Nat.le_of_ble_eq_true rfl) (Nat.le_of_ble_eq_true rfl) rfl (sp_33 (h := h329) hG329) (CLd_le (Nat.le_of_ble_eq_true rfl) (kX1_forgetAll_0 hSP [.ref 33] _ (xOk_ok rfl h329 (wI h329 1 1 0) (FRM_w ((FRM.rf : FRM gRL [(0, 1, 1, 1)] h329 h329)) (r := 1) rfl rfl) (xOk_ok rfl _ h329 hF329 (xOk_ok rfl _ h326 hF326 hX))) ⟨gv_r (by decide) rfl, trivial⟩ hGp330 gov_n)) ?_
      rintro v331 h331 ⟨hG331, hF331, o331, m331, q331, yy331, -⟩
      obtain rfl := List.mem_singleton.mp m331
      obtain rfl := QS_v q331
      have w0 : gi h331 33 2 = 0 := ov_at (r := 27) 0 (by decide) (by decide) yy331 (by decide)
      have w1 : ∀ k, k < 3 → gi h331 36 k = 0 := fun k hk => ov_at (r := 30) 0 (by decide) (by decide) yy331 (by revert k; decide)
      refine x_aload_n 56 hK rfl rfl rfl ?_
      have g332 := gri (0) (8) hG329 (a := 0) (r := 0) (k := 9) rfl rfl
      refine x_getE 59 hK rfl (Or.inl rfl) rfl (sp_0 (h := h331) hG331) (e := (gi h329 0 9)) ((FRM_gi hF331 (r := 0) rfl rfl).trans (gi_a (by decide) _)) ?_
      refine x_iload_n 60 hK rfl rfl rfl ?_
      refine x_isub 61 hK rfl rfl ?_
      have f9 : fltF (gi h 1 1) 39 RR.1 = 0 := cf.1.mp (by omega)
      obtain ⟨y4, y5⟩ := y1 (by omega)
      rw [if_pos (show cfl (gi h 1 1) 39 RR.1 = -1 by omega)] at y0
      have nz : RR.2 ≠ [] := by
        intro z
        obtain ⟨q, hq⟩ : ∃ q : Nat, (8 - gi h 0 9).toNat = q + 1 ∨ (8 - gi h 0 9).toNat = 0 := ⟨(8 - gi h 0 9).toNat - 1, by omega⟩
        have r1 := (fltF_0 (by omega) rp.1 f9).1
        rcases hq with hq | hq
        · rw [hq] at rr
          rw [← rr] at z r1
          unfold rdMs at z r1
          split at z
          · split at z <;> cases z
          · rename_i w; rw [if_neg w] at r1; cases r1
        · rw [hq] at rr
          rw [← rr] at r1
          cases r1
      have q0 : gi h331 0 9 = gi h 0 9 + (RR.2.length : Nat) := ((FRM_gi hF331 (r := 0) rfl rfl).trans (gi_a (by decide) _)).trans y0
      exact x_iret hK rfl ⟨by rw [if_pos f9, show ((gi h329 0 9) - (gi h 0 9)) = ((RR.2.length : Nat) : Int) by omega], hG331, (FRM_w (((hF326).mono rfl).trans ((hF329).mono rfl)) (r := 1) rfl rfl).trans ((hF331).mono rfl), (FRM_gi hF331 (r := 1) rfl rfl).trans (gi_same (by omega)), q0.trans (if_pos f9).symm, fun _ => ⟨(mkL_eq fun j hj => ⟨(FRM_gi hF331 (r := 20) rfl rfl).trans (gi_a (by decide) _), (FRM_gi hF331 (r := 16) rfl rfl).trans (gi_a (by decide) _)⟩).trans y4, fun j hj => ((FRM_gi hF331 (r := 21) rfl rfl).trans (gi_a (by decide) _)).trans (y5 j hj)⟩, (fun j hj => ⟨((FRM_gi hF331 (r := 20) rfl rfl).trans (gi_a (by decide) _)).trans ((y3 j hj).1.trans (FRM_gi hF326 (r := 20) rfl rfl)), ((FRM_gi hF331 (r := 21) rfl rfl).trans (gi_a (by decide) _)).trans ((y3 j hj).2.1.trans (FRM_gi hF326 (r := 21) rfl rfl)), ((FRM_gi hF331 (r := 16) rfl rfl).trans (gi_a (by decide) _)).trans ((y3 j hj).2.2.trans (FRM_gi hF326 (r := 16) rfl rfl))⟩), fun _ => ⟨w0, w1⟩, fun z => absurd ⟨f9, nz⟩ z⟩
    · refine x_iconst 45 hK rfl rfl ?_
      refine x_iload_n 46 hK rfl rfl rfl ?_
      refine x_isub 47 hK rfl rfl ?_
      have f9 : fltF (gi h 1 1) 39 RR.1 ≠ 0 := fun z => by have := cf.1.mpr z; omega
      rw [if_neg (show ¬ cfl (gi h 1 1) 39 RR.1 = -1 by omega)] at y0
      exact x_iret hK rfl ⟨by rw [if_neg f9, ← cf.2 (by omega)], GD_w1 (hG329) (r := 1) rfl (by omega) rfl (by omega) (by omega), FRM_w (((hF326).mono rfl).trans ((hF329).mono rfl)) (r := 1) rfl rfl, gi_same (by omega), ((gi_a (by decide) _).trans y0).trans (if_neg f9).symm, fun z => absurd z f9, (fun j hj => ⟨(gi_a (by decide) _).trans ((y3 j hj).1.trans (FRM_gi hF326 (r := 20) rfl rfl)), (gi_a (by decide) _).trans ((y3 j hj).2.1.trans (FRM_gi hF326 (r := 21) rfl rfl)), (gi_a (by decide) _).trans ((y3 j hj).2.2.trans (FRM_gi hF326 (r := 16) rfl rfl))⟩), fun z => absurd z.1 f9, fun _ => ⟨(gi_a (by decide) _).trans ((FRM_gi hF329 (r := 27) rfl rfl).trans (FRM_gi hF326 (r := 27) rfl rfl)), fun k => (gi_a (by decide) _).trans ((FRM_gi hF329 (r := 30) rfl rfl).trans (FRM_gi hF326 (r := 30) rfl rfl))⟩⟩
  · refine x_iconst 11 hK rfl rfl ?_
    have r0 : RR = ((true, 0), []) := by rw [← hRR]; unfold msR; rw [if_pos (by omega)]
    have f9 : fltF (gi h 1 1) 39 RR.1 = 0 := by rw [r0]; exact (fltF_of (by omega) (by omega)).mpr (by omega)
    exact x_iret hK rfl ⟨by rw [if_pos f9, r0]; rfl, hG, FRM.rf, by omega, by rw [if_pos f9, r0]; exact (Int.add_zero _).symm, fun _ => by rw [r0]; exact ⟨rfl, fun j hj => absurd hj (Nat.not_lt_zero _)⟩, fun j hj => ⟨rfl, rfl, rfl⟩, fun z => absurd (by rw [r0]) z.2, fun _ => ⟨rfl, fun _ => rfl⟩⟩
end
section
/-! POSTS SET OUT, BOYS -/
/-- a boy's next step in a ship L long -/
noncomputable def bst (L : Int) (q : Int × Int) : Int × Int := (q.1 + q.2, if q.1 + q.2 = L - 1 then -1 else if q.1 + q.2 = 0 then 1 else q.2)
noncomputable def bN (L : Int) : Nat → Int × Int
  | 0 => (0, 1)
  | n + 1 => bst L (bN L n)
theorem mod_s {n m : Int} (hm : 0 < m) : (n + 1) % m = if n % m + 1 = m then 0 else n % m + 1 := by
  have h1 := Int.emod_nonneg n (show m ≠ 0 by omega)
  have h2 := Int.emod_lt_of_pos n hm
  have e : n + 1 = (n % m + 1) + m * (n / m) := by have := Int.emod_add_mul_ediv n m; omega
  rw [e, Int.add_mul_emod_self_left]
  split
  · rename_i c; rw [c, Int.emod_self]
  · exact Int.emod_eq_of_lt (by omega) (by omega)
theorem bN_c {L : Int} (hL : 2 ≤ L) : ∀ n : Nat, bN L n = (if (n : Int) % (2 * (L - 1)) < L then (n : Int) % (2 * (L - 1)) else 2 * (L - 1) - (n : Int) % (2 * (L - 1)), if (n : Int) % (2 * (L - 1)) < L - 1 then 1 else -1)
  | 0 => by
    have e : ((0 : Nat) : Int) % (2 * (L - 1)) = 0 := Int.zero_emod _
    rw [e, if_pos (by omega), if_pos (by omega)]; rfl
  | n + 1 => by
    have h1 := Int.emod_nonneg (n : Int) (show 2 * (L - 1) ≠ 0 by omega)
    have h2 := Int.emod_lt_of_pos (n : Int) (show 0 < 2 * (L - 1) by omega)
    show bst L (bN L n) = _
    rw [bN_c hL n, show (((n + 1 : Nat) : Int)) = (n : Int) + 1 from rfl, mod_s (show 0 < 2 * (L - 1) by omega)]
    generalize (n : Int) % (2 * (L - 1)) = r at h1 h2 ⊢
    unfold bst
    by_cases a : r < L - 1
    · rw [if_pos (show r < L by omega), if_pos a, if_neg (show ¬ r + 1 = 2 * (L - 1) by omega), if_pos (show r + 1 < L by omega)]
      by_cases b : r + 1 = L - 1
      · rw [if_pos b, if_neg (by omega)]
      · rw [if_neg b, if_neg (by omega), if_pos (by omega)]
    · rw [if_neg a]
      by_cases b : r < L
      · rw [if_pos b]
        by_cases c : r + 1 = 2 * (L - 1)
        · rw [if_pos c, if_neg (by omega), if_pos (by omega), if_pos (by omega), if_pos (by omega)]
          exact Prod.ext (by show r + -1 = 0; omega) rfl
        · rw [if_neg c, if_neg (by omega), if_neg (by omega), if_neg (by omega), if_neg (by omega)]
          exact Prod.ext (by show r + -1 = 2 * (L - 1) - (r + 1); omega) rfl
      · rw [if_neg b]
        by_cases c : r + 1 = 2 * (L - 1)
        · rw [if_pos c, if_neg (by omega), if_pos (by omega), if_pos (by omega), if_pos (by omega)]
          exact Prod.ext (by show 2 * (L - 1) - r + -1 = 0; omega) rfl
        · rw [if_neg c, if_neg (by omega), if_neg (by omega), if_neg (by omega), if_neg (by omega)]
          exact Prod.ext (by show 2 * (L - 1) - r + -1 = 2 * (L - 1) - (r + 1); omega) rfl
theorem bN_b {L : Int} (hL : 2 ≤ L) (n : Nat) : (0 ≤ (bN L n).1 ∧ (bN L n).1 ≤ L - 1) ∧ ((bN L n).2 = 1 ∨ (bN L n).2 = -1) := by
  have h1 := Int.emod_nonneg (n : Int) (show 2 * (L - 1) ≠ 0 by omega)
  have h2 := Int.emod_lt_of_pos (n : Int) (show 0 < 2 * (L - 1) by omega)
  rw [bN_c hL n]
  refine ⟨?_, ?_⟩
  · show 0 ≤ (if (n : Int) % (2 * (L - 1)) < L then (n : Int) % (2 * (L - 1)) else 2 * (L - 1) - (n : Int) % (2 * (L - 1))) ∧ (if (n : Int) % (2 * (L - 1)) < L then (n : Int) % (2 * (L - 1)) else 2 * (L - 1) - (n : Int) % (2 * (L - 1))) ≤ L - 1
    split <;> omega
  · show (if (n : Int) % (2 * (L - 1)) < L - 1 then (1 : Int) else -1) = 1 ∨ (if (n : Int) % (2 * (L - 1)) < L - 1 then (1 : Int) else -1) = -1
    split <;> omega
/-- the other boy, from the stern -/
theorem bN_o {L : Int} (hL : 2 ≤ L) : bN L (L - 1).toNat = (L - 1, -1) := by
  have e : ((L - 1).toNat : Int) % (2 * (L - 1)) = L - 1 := by rw [show (((L - 1).toNat : Nat) : Int) = L - 1 by omega]; exact Int.emod_eq_of_lt (by omega) (by omega)
  rw [bN_c hL, e, if_pos (by omega), if_neg (by omega)]
/-- how many steps he has gone -/
theorem wk_b {k r : Int} (hk : 0 ≤ k) (hr : 2 ≤ r ∧ r ≤ 9) : 0 ≤ k / r ∧ k / r ≤ k := by
  rcases (show r = 2 ∨ r = 3 ∨ r = 4 ∨ r = 5 ∨ r = 6 ∨ r = 7 ∨ r = 8 ∨ r = 9 by omega) with rfl | rfl | rfl | rfl | rfl | rfl | rfl | rfl <;> omega
theorem wk_s {k r : Int} (hk : 1 ≤ k) (hr : 2 ≤ r ∧ r ≤ 9) : (k % r = 0 → (k - k / r).toNat = (k - 1 - (k - 1) / r).toNat) ∧ (k % r ≠ 0 → (k - k / r).toNat = (k - 1 - (k - 1) / r).toNat + 1) := by
  rcases (show r = 2 ∨ r = 3 ∨ r = 4 ∨ r = 5 ∨ r = 6 ∨ r = 7 ∨ r = 8 ∨ r = 9 by omega) with rfl | rfl | rfl | rfl | rfl | rfl | rfl | rfl <;> omega
noncomputable def mtG (L r : Int) : Nat → Int
  | 0 => -2
  | m + 1 => if (bN L ((999 - (m : Int)) - (999 - (m : Int)) / r).toNat).1 = (bN L (L - 1 + (999 - (m : Int))).toNat).1 then 999 - (m : Int) else mtG L r m
theorem mtG_u {L r k : Int} (hk : 1 ≤ k ∧ k ≤ 999) : mtG L r (1000 - k).toNat = if (bN L (k - k / r).toNat).1 = (bN L (L - 1 + k).toNat).1 then k else mtG L r (1000 - (k + 1)).toNat := by
  obtain ⟨m, hm⟩ : ∃ m : Nat, (1000 - k).toNat = m + 1 := ⟨(1000 - (k + 1)).toNat, by omega⟩
  have e : 999 - (m : Int) = k := by omega
  rw [hm, show (1000 - (k + 1)).toNat = m by omega]
  show (if (bN L ((999 - (m : Int)) - (999 - (m : Int)) / r).toNat).1 = (bN L (L - 1 + (999 - (m : Int))).toNat).1 then 999 - (m : Int) else mtG L r m) = _
  rw [e]
set_option maxRecDepth 4000 in
theorem ctX10_relay {SP : CT} (hSP : MONO SP) {sh : List (Nat × Nat)} {h : aH} (hG : GD gE gRL sh h) {s t : Nat} (hP : PT h) (hw : SW h s t) (hL : 2 ≤ gi h s 0 ∧ gi h s 0 ≤ 40) {k : Int} (rk : r32 k) : CLd SP 4 mX10_relay [.ref 0, .int (I k)] h 0 0 (fun rv h' => rv = some (.int (I (if 0 ≤ k ∧ k ≤ 10 then (if k ≤ gi h s 0 - 2 then (((gi h s 0 - 1) + k) / (k + 1)) else -2) else -1))) ∧ GD gE gRL sh h' ∧ FRM gRL [(0, 3, 1, 1), (1, 4, 0, 29)] h h' ∧ crow h' = if (0 ≤ k ∧ k ≤ 10) ∧ k ≤ gi h s 0 - 2 then rowF (fun n => rlC (gi h s 0 - 1) (((gi h s 0 - 1) + k) / (k + 1)) k (n + 1)) k.toNat else crow h) := by
  refine x_met _ rfl (Nat.le_of_ble_eq_true rfl) (fun K hK => ?_)
  have hmono := MONO_CLd hSP 3
  have h5s : s = 5 ∨ s = 8 := by have := hw.1; omega
  have h5t : t = 5 ∨ t = 8 := by have := hw.1; omega
  have hst := hw.1
  have loopF : ∀ (mz : Nat) (last b : Int) (h4 : aH) (ls : List (Nat × Value)), (b.toNat = mz) → ((0 ≤ k ∧ k ≤ 10) ∧ k ≤ gi h s 0 - 2) → (0 ≤ b ∧ b ≤ k) → (last = rlC (gi h s 0 - 1) (((gi h s 0 - 1) + k) / (k + 1)) k (k - b).toNat) → (gi h4 3 1 = k - b) → (crow h4 = rowF (fun n => rlC (gi h s 0 - 1) (((gi h s 0 - 1) + k) / (k + 1)) k (n + 1)) (k - b).toNat) → lk ls 0 = some (.ref 0) → lk ls 1 = some (.int (I k)) → lk ls 2 = some (.int (I (gi h s 0 - 1))) → lk ls 3 = some (.int (I (((gi h s 0 - 1) + k) / (k + 1)))) → lk ls 4 = some (.int (I last)) → lk ls 5 = some (.int (I b)) → GD gE gRL sh h4 → FRM gRL [(0, 3, 1, 1), (1, 4, 0, 29)] h h4 → K 53 ls [] h4 0 0 := by
    intro mz
    induction mz using Nat.strongRecOn with
    | ind mz ih =>
    intro last b h4 ls hm k0 i0 la r4 e4 l0 l1 l2 l3 l4 l5 hG4 hF4
    have gb := relayB (s := (gi h s 0 - 1)) (k := k) (by omega) (by omega)
    have lb1 := rlC_b (s := (gi h s 0 - 1)) (g := (((gi h s 0 - 1) + k) / (k + 1))) (k := k) (by omega) (by omega) (by omega) (k - b).toNat (by omega)
    rw [← la] at lb1
    have ls1 : 1 ≤ b → max (last + 1) ((gi h s 0 - 1) - (((gi h s 0 - 1) + k) / (k + 1)) * b) = rlC (gi h s 0 - 1) (((gi h s 0 - 1) + k) / (k + 1)) k (k - (b - 1)).toNat := fun z => by
      have q := rlC_s (s := (gi h s 0 - 1)) (g := (((gi h s 0 - 1) + k) / (k + 1))) (k := k) (i := k - (b - 1)) (by omega)
      rw [show k - (k - (b - 1)) + 1 = b by omega, show k - (b - 1) - 1 = k - b by omega, ← la] at q
      exact q
    have gm : 0 ≤ (((gi h s 0 - 1) + k) / (k + 1)) * b ∧ (((gi h s 0 - 1) + k) / (k + 1)) * b ≤ 40 * 10 := ⟨Int.mul_nonneg (by omega) (by omega), Int.mul_le_mul (by omega) (by omega) (by omega) (by omega)⟩
    have lb2 := fun z : 1 ≤ b => rlC_b (s := (gi h s 0 - 1)) (g := (((gi h s 0 - 1) + k) / (k + 1))) (k := k) (by omega) (by omega) (by omega) (k - (b - 1)).toNat (by omega)
    refine x_iload 55 hK rfl rfl l5 ?_
    refine x_iconst 56 hK rfl rfl ?_
    refine x_if_icmp_lt 90 59 hK rfl rfl rfl (by omega) (by omega) (fun c3 => ?_) (fun c3 => ?_)
    · refine x_iload_n 91 hK rfl rfl l3 ?_
      obtain rfl : b = 0 := by omega
      rw [Int.sub_zero] at e4
      exact x_iret hK rfl ⟨by rw [if_pos k0.1, if_pos k0.2], hG4, hF4, by rw [if_pos k0]; exact e4⟩
    · refine x_iload 61 hK rfl rfl l4 ?_
      refine x_iconst 62 hK rfl rfl ?_
      refine x_iadd 63 hK rfl rfl ?_
      refine x_iload_n 64 hK rfl rfl l2 ?_
      refine x_iload_n 65 hK rfl rfl l3 ?_
      refine x_iload 67 hK rfl rfl l5 ?_
      refine x_imul 68 hK rfl rfl ?_
      refine x_isub 69 hK rfl rfl ?_
      refine x_max 72 hK rfl rfl (Nat.le_of_ble_eq_true rfl) (by omega) (by omega) ?_
      have ls2 := ls1 (by omega)
      have lb3 := lb2 (by omega)
      rw [← ls2] at lb3
      refine x_istore 74 hK rfl rfl _ rfl ?_
      refine x_aload_n 75 hK rfl rfl (lk1_n l0 (by decide) (Or.inl rfl)) ?_
      refine x_getR 78 hK rfl rfl (sp_0 (h := h4) hG4) (rf_0_1 (h := h4) hG4) ?_
      refine x_iload 80 hK rfl rfl lk1_s ?_
      refine x_i2l 81 hK rfl rfl (by omega) ?_
      have z297 : gi h4 3 1 = (k - b) := r4
      have z297r : crow h4 = (crow h4) := rfl
      refine x_callV 84 hK hmono rfl rfl [.ref 3, .long (J (max (last + 1) ((gi h s 0 - 1) - ((((gi h s 0 - 1) + k) / (k + 1)) * b))))] [] rfl rfl (Nat.le_of_ble_eq_true rfl) (Nat.le_of_ble_eq_true rfl) rfl (sp_3 (h := h4) hG4) (CLd_le (Nat.le_of_ble_eq_true rfl) (ctX3_add hSP hG4 (by omega) (by omega))) ?_
      rintro v296 h296 ⟨rfl, hG296, hF296, t296, s296⟩
      rw [z297] at t296
      rw [z297r] at s296
      refine x_iinc 87 hK rfl rfl (lk1_n l5 (by decide) (Or.inl rfl)) _ rfl ?_
      refine x_goto 53 hK rfl rfl ?_
      exact ih _ (by omega) (max (last + 1) ((gi h s 0 - 1) - ((((gi h s 0 - 1) + k) / (k + 1)) * b))) (b + (-1)) _ _ rfl (k0) (by omega) ((by rw [show b + (-1) = b - 1 by omega]; exact ls1 (by omega))) ((t296).trans (by omega)) ((by rw [s296, e4, ls1 (by omega), show (k - (b + (-1))).toNat = (k - b).toNat + 1 by omega, rowF_s, show (k - (b - 1)).toNat = (k - b).toNat + 1 by omega])) (lk1_n (lk1_n l0 (by decide) (Or.inl rfl)) (by decide) (Or.inl rfl)) (lk1_n (lk1_n l1 (by decide) (Or.inl rfl)) (by decide) (Or.inl rfl)) (lk1_n (lk1_n l2 (by decide) (Or.inl rfl)) (by decide) (Or.inl rfl)) (lk1_n (lk1_n l3 (by decide) (Or.inl rfl)) (by decide) (Or.inl rfl)) (lk1_n lk1_s (by decide) (Or.inl rfl)) lk1_s (hG296) ((hF4).trans ((hF296).mono rfl))
  refine x_iload_n 1 hK rfl rfl rfl ?_
  refine x_if_lt 10 4 hK rfl rfl rfl (by omega) (fun c2 => ?_) (fun c2 => ?_)
  · refine x_iconst 11 hK rfl rfl ?_
    exact x_iret hK rfl ⟨by rw [if_neg (by omega)], hG, (FRM.rf : FRM gRL [(0, 3, 1, 1), (1, 4, 0, 29)] h h), by rw [if_neg (by omega)]⟩
  · refine x_iload_n 5 hK rfl rfl rfl ?_
    refine x_bipush 7 hK rfl rfl rfl ?_
    refine x_if_icmp_le 12 10 hK rfl rfl rfl (by omega) (by omega) (fun c7 => ?_) (fun c7 => ?_)
    · refine x_aload_n 13 hK rfl rfl rfl ?_
      refine x_getR 16 hK rfl rfl (sp_0 (h := h) hG) (hw.2.1) ?_
      have g298 := gri (-1000000) (1000000) hG (a := s) (r := 5) (k := 0) (ss_r h5s).1 rfl
      refine x_getE 19 hK rfl (Or.inl rfl) rfl (shx (h := h) hG (r := 5) (ss_r h5s).1 rfl) (e := (gi h s 0)) (rfl) ?_
      refine x_iconst 20 hK rfl rfl ?_
      refine x_isub 21 hK rfl rfl ?_
      refine x_istore_n 22 hK rfl rfl [(2, .int (I ((gi h s 0) - 1))), (0, .ref 0), (1, .int (I k))] rfl ?_
      refine x_iload_n 23 hK rfl rfl rfl ?_
      refine x_iload_n 24 hK rfl rfl rfl ?_
      refine x_iconst 25 hK rfl rfl ?_
      refine x_isub 26 hK rfl rfl ?_
      refine x_if_icmp_le 32 29 hK rfl rfl rfl (by omega) (by omega) (fun c18 => ?_) (fun c18 => ?_)
      · refine x_iload_n 33 hK rfl rfl rfl ?_
        refine x_iload_n 34 hK rfl rfl rfl ?_
        refine x_iadd 35 hK rfl rfl ?_
        refine x_iload_n 36 hK rfl rfl rfl ?_
        refine x_iconst 37 hK rfl rfl ?_
        refine x_iadd 38 hK rfl rfl ?_
        have gb := relayB (s := (gi h s 0 - 1)) (k := k) (by omega) (by omega)
        refine x_idivp 39 hK rfl rfl (by omega) (by omega) (by omega) (by omega) ?_
        refine x_istore_n 40 hK rfl rfl [(3, .int (I ((((gi h s 0) - 1) + k) / (k + 1)))), (2, .int (I ((gi h s 0) - 1))), (0, .ref 0), (1, .int (I k))] rfl ?_
        refine x_aload_n 41 hK rfl rfl rfl ?_
        refine x_getR 44 hK rfl rfl (sp_0 (h := h) hG) (rf_0_1 (h := h) hG) ?_
        refine x_callV 47 hK hmono rfl rfl [.ref 3] [] rfl rfl (Nat.le_of_ble_eq_true rfl) (Nat.le_of_ble_eq_true rfl) rfl (sp_3 (h := h) hG) (CLd_le (Nat.le_of_ble_eq_true rfl) (ctX3_clear hSP hG)) ?_
        rintro v299 h299 ⟨rfl, hG299, hF299, t299, s299⟩
        refine x_iconst 48 hK rfl rfl ?_
        refine x_istore 50 hK rfl rfl [(4, .int (I 0)), (3, .int (I ((((gi h s 0) - 1) + k) / (k + 1)))), (2, .int (I ((gi h s 0) - 1))), (0, .ref 0), (1, .int (I k))] rfl ?_
        refine x_iload_n 51 hK rfl rfl rfl ?_
        refine x_istore 53 hK rfl rfl [(5, .int (I k)), (4, .int (I 0)), (3, .int (I ((((gi h s 0) - 1) + k) / (k + 1)))), (2, .int (I ((gi h s 0) - 1))), (0, .ref 0), (1, .int (I k))] rfl ?_
        exact loopF _ 0 k _ _ rfl (by omega) (by omega) ((by rw [Int.sub_self]; rfl)) ((t299).trans (by omega)) ((by rw [s299, Int.sub_self]; rfl)) rfl rfl rfl rfl rfl rfl (hG299) ((hF299).mono rfl)
      · refine x_bipush 31 hK rfl rfl rfl ?_
        exact x_iret hK rfl ⟨by rw [if_pos (by omega), if_neg (by omega)], hG, (FRM.rf : FRM gRL [(0, 3, 1, 1), (1, 4, 0, 29)] h h), by rw [if_neg (by omega)]⟩
    · refine x_iconst 11 hK rfl rfl ?_
      exact x_iret hK rfl ⟨by rw [if_neg (by omega)], hG, (FRM.rf : FRM gRL [(0, 3, 1, 1), (1, 4, 0, 29)] h h), by rw [if_neg (by omega)]⟩
set_option maxRecDepth 4000 in
theorem ctX10_lap {SP : CT} (hSP : MONO SP) {sh : List (Nat × Nat)} {h : aH} (hG : GD gE gRL sh h) {s t : Nat} (hP : PT h) (hw : SW h s t) (hL : 2 ≤ gi h s 0 ∧ gi h s 0 ≤ 40) : CLd SP 1 mX10_lap [.ref 0] h 0 0 (fun rv h' => h' = h ∧ rv = some (.int (I (2 * ((gi h s 0) - 1))))) := by
  refine x_met _ rfl (Nat.le_of_ble_eq_true rfl) (fun K hK => ?_)
  have hmono := MONO_CLd hSP 0
  have h5s : s = 5 ∨ s = 8 := by have := hw.1; omega
  have h5t : t = 5 ∨ t = 8 := by have := hw.1; omega
  have hst := hw.1
  refine x_iconst 1 hK rfl rfl ?_
  refine x_iconst 2 hK rfl rfl ?_
  refine x_aload_n 3 hK rfl rfl rfl ?_
  refine x_getR 6 hK rfl rfl (sp_0 (h := h) hG) (hw.2.1) ?_
  have g300 := gri (-1000000) (1000000) hG (a := s) (r := 5) (k := 0) (ss_r h5s).1 rfl
  refine x_getE 9 hK rfl (Or.inl rfl) rfl (shx (h := h) hG (r := 5) (ss_r h5s).1 rfl) (e := (gi h s 0)) (rfl) ?_
  refine x_iconst 10 hK rfl rfl ?_
  refine x_isub 11 hK rfl rfl ?_
  refine x_max 14 hK rfl rfl (Nat.le_of_ble_eq_true rfl) (by omega) (by omega) ?_
  refine x_imul 15 hK rfl rfl ?_
  exact x_iret hK rfl ⟨rfl, by rw [show max 1 ((gi h s 0) - 1) = (gi h s 0) - 1 by omega]⟩
set_option maxRecDepth 4000 in
theorem ctX10_cellAfter {SP : CT} (hSP : MONO SP) {sh : List (Nat × Nat)} {h : aH} (hG : GD gE gRL sh h) {s t : Nat} (hP : PT h) (hw : SW h s t) (hL : 2 ≤ gi h s 0 ∧ gi h s 0 ≤ 40) {w : Int} (hw0 : 0 ≤ w ∧ w ≤ 1000000) : CLd SP 2 mX10_cellAfter [.ref 0, .int (I w)] h 0 0 (fun rv h' => h' = h ∧ rv = some (.int (I (bN (gi h s 0) w.toNat).1))) := by
  refine x_met _ rfl (Nat.le_of_ble_eq_true rfl) (fun K hK => ?_)
  have hmono := MONO_CLd hSP 1
  have h5s : s = 5 ∨ s = 8 := by have := hw.1; omega
  have h5t : t = 5 ∨ t = 8 := by have := hw.1; omega
  have hst := hw.1
  have m1 := Int.emod_nonneg w (show 2 * ((gi h s 0) - 1) ≠ 0 by omega)
  have m2 := Int.emod_lt_of_pos w (show 0 < 2 * ((gi h s 0) - 1) by omega)
  have bc := bN_c hL.1 w.toNat
  rw [tn_c hw0.1] at bc
  refine x_iload_n 1 hK rfl rfl rfl ?_
  refine x_aload_n 2 hK rfl rfl rfl ?_
  refine x_callV 5 hK hmono rfl rfl [.ref 0] [.int (I w)] rfl rfl (Nat.le_of_ble_eq_true rfl) (Nat.le_of_ble_eq_true rfl) rfl (sp_0 (h := h) hG) (CLd_le (Nat.le_of_ble_eq_true rfl) (ctX10_lap hSP hG hP hw hL)) ?_
  rintro v9 h9 ⟨e9, rfl⟩
  rw [e9]
  clear e9
  refine x_iremp 6 hK rfl rfl (by omega) (by omega) (by omega) (by omega) ?_
  refine x_istore_n 7 hK rfl rfl [(2, .int (I (w % (2 * ((gi h s 0) - 1))))), (0, .ref 0), (1, .int (I w))] rfl ?_
  refine x_iload_n 8 hK rfl rfl rfl ?_
  refine x_aload_n 9 hK rfl rfl rfl ?_
  refine x_getR 12 hK rfl rfl (sp_0 (h := h) hG) (hw.2.1) ?_
  have g301 := gri (-1000000) (1000000) hG (a := s) (r := 5) (k := 0) (ss_r h5s).1 rfl
  refine x_getE 15 hK rfl (Or.inl rfl) rfl (shx (h := h) hG (r := 5) (ss_r h5s).1 rfl) (e := (gi h s 0)) (rfl) ?_
  refine x_if_icmp_ge 22 18 hK rfl rfl rfl (by omega) (by omega) (fun c10 => ?_) (fun c10 => ?_)
  · refine x_aload_n 23 hK rfl rfl rfl ?_
    refine x_callV 26 hK hmono rfl rfl [.ref 0] [] rfl rfl (Nat.le_of_ble_eq_true rfl) (Nat.le_of_ble_eq_true rfl) rfl (sp_0 (h := h) hG) (CLd_le (Nat.le_of_ble_eq_true rfl) (ctX10_lap hSP hG hP hw hL)) ?_
    rintro v9 h9 ⟨e9, rfl⟩
    rw [e9]
    clear e9
    refine x_iload_n 27 hK rfl rfl rfl ?_
    refine x_isub 28 hK rfl rfl ?_
    have e9 : (bN (gi h s 0) w.toNat).1 = ((2 * ((gi h s 0) - 1)) - (w % (2 * ((gi h s 0) - 1)))) := by rw [bc]; exact if_neg (by omega)
    exact x_iret hK rfl ⟨rfl, by rw [e9]⟩
  · refine x_iload_n 19 hK rfl rfl rfl ?_
    refine x_goto 28 hK rfl rfl ?_
    have e9 : (bN (gi h s 0) w.toNat).1 = (w % (2 * ((gi h s 0) - 1))) := by rw [bc]; exact if_pos (by omega)
    exact x_iret hK rfl ⟨rfl, by rw [e9]⟩
set_option maxRecDepth 4000 in
theorem ctX10_boy {SP : CT} (hSP : MONO SP) {sh : List (Nat × Nat)} {h : aH} (hG : GD gE gRL sh h) {s t : Nat} (hP : PT h) (hw : SW h s t) (hL : 2 ≤ gi h s 0 ∧ gi h s 0 ≤ 40) {n r : Int} (rn : r32 n) (rr : r32 r) : CLd SP 4 mX10_boy [.ref 0, .int (I n), .int (I r)] h 0 0 (fun rv h' => rv = some (.int (I (if (0 ≤ n ∧ n ≤ 99999) ∧ 2 ≤ r ∧ r ≤ 9 then (bN (gi h s 0) (n - n / r).toNat).1 else -1))) ∧ GD gE gRL sh h' ∧ FRM gRL [(0, 3, 1, 1), (1, 4, 0, 29)] h h' ∧ crow h' = if (0 ≤ n ∧ n ≤ 99999) ∧ 2 ≤ r ∧ r ≤ 9 then [(bN (gi h s 0) (n - n / r).toNat).2] else crow h) := by
  refine x_met _ rfl (Nat.le_of_ble_eq_true rfl) (fun K hK => ?_)
  have hmono := MONO_CLd hSP 3
  have h5s : s = 5 ∨ s = 8 := by have := hw.1; omega
  have h5t : t = 5 ∨ t = 8 := by have := hw.1; omega
  have hst := hw.1
  have wb := fun (z : (0 ≤ n ∧ n ≤ 99999) ∧ 2 ≤ r ∧ r ≤ 9) => wk_b (k := n) (r := r) z.1.1 z.2
  refine x_iload_n 1 hK rfl rfl rfl ?_
  refine x_if_lt 22 4 hK rfl rfl rfl (by omega) (fun c2 => ?_) (fun c2 => ?_)
  · refine x_iconst 23 hK rfl rfl ?_
    exact x_iret hK rfl ⟨by rw [if_neg (by omega)], hG, (FRM.rf : FRM gRL [(0, 3, 1, 1), (1, 4, 0, 29)] h h), by rw [if_neg (by omega)]⟩
  · refine x_iload_n 5 hK rfl rfl rfl ?_
    refine x_ldc_w 8 hK rfl rfl ?_
    refine x_if_icmp_gt 22 11 hK rfl rfl rfl (by omega) (by omega) (fun c7 => ?_) (fun c7 => ?_)
    · refine x_iconst 23 hK rfl rfl ?_
      exact x_iret hK rfl ⟨by rw [if_neg (by omega)], hG, (FRM.rf : FRM gRL [(0, 3, 1, 1), (1, 4, 0, 29)] h h), by rw [if_neg (by omega)]⟩
    · refine x_iload_n 12 hK rfl rfl rfl ?_
      refine x_iconst 13 hK rfl rfl ?_
      refine x_if_icmp_lt 22 16 hK rfl rfl rfl (by omega) (by omega) (fun c12 => ?_) (fun c12 => ?_)
      · refine x_iconst 23 hK rfl rfl ?_
        exact x_iret hK rfl ⟨by rw [if_neg (by omega)], hG, (FRM.rf : FRM gRL [(0, 3, 1, 1), (1, 4, 0, 29)] h h), by rw [if_neg (by omega)]⟩
      · refine x_iload_n 17 hK rfl rfl rfl ?_
        refine x_bipush 19 hK rfl rfl rfl ?_
        refine x_if_icmp_le 24 22 hK rfl rfl rfl (by omega) (by omega) (fun c17 => ?_) (fun c17 => ?_)
        · refine x_iload_n 25 hK rfl rfl rfl ?_
          refine x_iload_n 26 hK rfl rfl rfl ?_
          refine x_iload_n 27 hK rfl rfl rfl ?_
          replace wb := wb (by omega)
          have m1 := Int.emod_nonneg (n - n / r) (show 2 * ((gi h s 0) - 1) ≠ 0 by omega)
          have m2 := Int.emod_lt_of_pos (n - n / r) (show 0 < 2 * ((gi h s 0) - 1) by omega)
          have bc := bN_c hL.1 (n - n / r).toNat
          rw [tn_c (by omega)] at bc
          refine x_idivp 28 hK rfl rfl (by omega) (by omega) (by omega) (by omega) ?_
          refine x_isub 29 hK rfl rfl ?_
          refine x_istore_n 30 hK rfl rfl [(3, .int (I (n - (n / r)))), (0, .ref 0), (1, .int (I n)), (2, .int (I r))] rfl ?_
          refine x_aload_n 31 hK rfl rfl rfl ?_
          refine x_getR 34 hK rfl rfl (sp_0 (h := h) hG) (rf_0_1 (h := h) hG) ?_
          refine x_iload_n 35 hK rfl rfl rfl ?_
          refine x_aload_n 36 hK rfl rfl rfl ?_
          refine x_callV 39 hK hmono rfl rfl [.ref 0] [.int (I (n - (n / r))), .ref 3] rfl rfl (Nat.le_of_ble_eq_true rfl) (Nat.le_of_ble_eq_true rfl) rfl (sp_0 (h := h) hG) (CLd_le (Nat.le_of_ble_eq_true rfl) (ctX10_lap hSP hG hP hw hL)) ?_
          rintro v9 h9 ⟨e9, rfl⟩
          rw [e9]
          clear e9
          refine x_iremp 40 hK rfl rfl (by omega) (by omega) (by omega) (by omega) ?_
          refine x_aload_n 41 hK rfl rfl rfl ?_
          refine x_getR 44 hK rfl rfl (sp_0 (h := h) hG) (hw.2.1) ?_
          have g302 := gri (-1000000) (1000000) hG (a := s) (r := 5) (k := 0) (ss_r h5s).1 rfl
          refine x_getE 47 hK rfl (Or.inl rfl) rfl (shx (h := h) hG (r := 5) (ss_r h5s).1 rfl) (e := (gi h s 0)) (rfl) ?_
          refine x_iconst 48 hK rfl rfl ?_
          refine x_isub 49 hK rfl rfl ?_
          refine x_if_icmp_ge 56 52 hK rfl rfl rfl (by omega) (by omega) (fun c36 => ?_) (fun c36 => ?_)
          · refine x_ldc2_w 59 hK rfl rfl ?_
            refine x_callV 62 hK hmono rfl rfl [.ref 3, .long (J (-1))] [] rfl rfl (Nat.le_of_ble_eq_true rfl) (Nat.le_of_ble_eq_true rfl) rfl (sp_3 (h := h) hG) (CLd_le (Nat.le_of_ble_eq_true rfl) (ctX3_tellOne hSP hG (by omega))) ?_
            rintro v303 h303 ⟨rfl, hG303, hF303, t303, s303⟩
            refine x_aload_n 63 hK rfl rfl rfl ?_
            refine x_iload_n 64 hK rfl rfl rfl ?_
            have ls304 : gi h303 s 0 = gi h s 0 := FRM_gi hF303 (r := 5) (ss_r h5s).1 rfl
            have sw304 : SW h303 s t := ⟨hw.1, (FRM_aR hF303 (r := 0) rfl rfl).trans hw.2.1, (FRM_aR hF303 (r := 0) rfl rfl).trans hw.2.2⟩
            refine x_callV 67 hK hmono rfl rfl [.ref 0, .int (I (n - (n / r)))] [] rfl rfl (Nat.le_of_ble_eq_true rfl) (Nat.le_of_ble_eq_true rfl) rfl (sp_0 (h := h303) hG303) (CLd_le (Nat.le_of_ble_eq_true rfl) (ctX10_cellAfter hSP hG303 (PT_F hF303 (by decide) hP) sw304 (by rw [ls304]; exact hL) (w := (n - (n / r))) (by omega))) ?_
            rw [ls304]
            rintro v9 h9 ⟨e9, rfl⟩
            rw [e9]
            clear e9
            have bb304 := bN_b hL.1 (n - (n / r)).toNat
            have e9 : (bN (gi h s 0) (n - n / r).toNat).2 = (-1) := by rw [bc]; exact if_neg (by omega)
            exact x_iret hK rfl ⟨by rw [if_pos (by omega)], hG303, hF303, by rw [if_pos (by omega), e9]; exact s303⟩
          · refine x_lconstE 53 1 hK rfl rfl rfl ?_
            refine x_goto 59 hK rfl rfl ?_
            refine x_callV 62 hK hmono rfl rfl [.ref 3, .long (J 1)] [] rfl rfl (Nat.le_of_ble_eq_true rfl) (Nat.le_of_ble_eq_true rfl) rfl (sp_3 (h := h) hG) (CLd_le (Nat.le_of_ble_eq_true rfl) (ctX3_tellOne hSP hG (by omega))) ?_
            rintro v305 h305 ⟨rfl, hG305, hF305, t305, s305⟩
            refine x_aload_n 63 hK rfl rfl rfl ?_
            refine x_iload_n 64 hK rfl rfl rfl ?_
            have ls306 : gi h305 s 0 = gi h s 0 := FRM_gi hF305 (r := 5) (ss_r h5s).1 rfl
            have sw306 : SW h305 s t := ⟨hw.1, (FRM_aR hF305 (r := 0) rfl rfl).trans hw.2.1, (FRM_aR hF305 (r := 0) rfl rfl).trans hw.2.2⟩
            refine x_callV 67 hK hmono rfl rfl [.ref 0, .int (I (n - (n / r)))] [] rfl rfl (Nat.le_of_ble_eq_true rfl) (Nat.le_of_ble_eq_true rfl) rfl (sp_0 (h := h305) hG305) (CLd_le (Nat.le_of_ble_eq_true rfl) (ctX10_cellAfter hSP hG305 (PT_F hF305 (by decide) hP) sw306 (by rw [ls306]; exact hL) (w := (n - (n / r))) (by omega))) ?_
            rw [ls306]
            rintro v9 h9 ⟨e9, rfl⟩
            rw [e9]
            clear e9
            have bb306 := bN_b hL.1 (n - (n / r)).toNat
            have e9 : (bN (gi h s 0) (n - n / r).toNat).2 = 1 := by rw [bc]; exact if_pos (by omega)
            exact x_iret hK rfl ⟨by rw [if_pos (by omega)], hG305, hF305, by rw [if_pos (by omega), e9]; exact s305⟩
        · refine x_iconst 23 hK rfl rfl ?_
          exact x_iret hK rfl ⟨by rw [if_neg (by omega)], hG, (FRM.rf : FRM gRL [(0, 3, 1, 1), (1, 4, 0, 29)] h h), by rw [if_neg (by omega)]⟩
set_option maxRecDepth 4000 in
theorem ctX10_meets {SP : CT} (hSP : MONO SP) {sh : List (Nat × Nat)} {h : aH} (hG : GD gE gRL sh h) {s t : Nat} (hP : PT h) (hw : SW h s t) (hL : 2 ≤ gi h s 0 ∧ gi h s 0 ≤ 40) {r : Int} (rr : r32 r) : CLd SP 4 mX10_meets [.ref 0, .int (I r)] h 0 0 (fun rv h' => rv = some (.int (I (if 2 ≤ r ∧ r ≤ 9 then mtG (gi h s 0) r 999 else -1))) ∧ GD gE gRL sh h' ∧ FRM gRL [(0, 3, 1, 1), (1, 4, 0, 29)] h h' ∧ crow h' = if (2 ≤ r ∧ r ≤ 9) ∧ 0 < mtG (gi h s 0) r 999 then [(bN (gi h s 0) ((gi h s 0) - 1 + mtG (gi h s 0) r 999).toNat).1] else crow h) := by
  refine x_met _ rfl (Nat.le_of_ble_eq_true rfl) (fun K hK => ?_)
  have hmono := MONO_CLd hSP 3
  have h5s : s = 5 ∨ s = 8 := by have := hw.1; omega
  have h5t : t = 5 ∨ t = 8 := by have := hw.1; omega
  have hst := hw.1
  have loop : ∀ (mz : Nat) (k : Int) (ls : List (Nat × Value)), ((1000 - k).toNat = mz) → (2 ≤ r ∧ r ≤ 9) → (1 ≤ k ∧ k ≤ 1000) → (mtG (gi h s 0) r (1000 - k).toNat = mtG (gi h s 0) r 999) → lk ls 0 = some (.ref 0) → lk ls 1 = some (.int (I r)) → lk ls 2 = some (.int (I ((gi h s 0) - 1))) → lk ls 3 = some (.int (I k)) → K 25 ls [] h 0 0 := by
    intro mz
    induction mz using Nat.strongRecOn with
    | ind mz ih =>
    intro k ls hm q0 k0 sv l0 l1 l2 l3
    have wb := wk_b (k := k) (r := r) (by omega) q0
    have u := fun z : k ≤ 999 => mtG_u (L := (gi h s 0)) (r := r) ⟨k0.1, z⟩
    refine x_iload_n 26 hK rfl rfl l3 ?_
    refine x_sipush 29 hK rfl rfl rfl ?_
    refine x_if_icmp_gt 73 32 hK rfl rfl rfl (by omega) (by omega) (fun c3 => ?_) (fun c3 => ?_)
    · refine x_bipush 75 hK rfl rfl rfl ?_
      have e9 : mtG (gi h s 0) r 999 = -2 := by rw [← sv, show (1000 - k).toNat = 0 by omega]; rfl
      exact x_iret hK rfl ⟨by rw [if_pos q0, e9], hG, (FRM.rf : FRM gRL [(0, 3, 1, 1), (1, 4, 0, 29)] h h), by rw [if_neg (by omega)]⟩
    · refine x_aload_n 33 hK rfl rfl l0 ?_
      refine x_iload_n 34 hK rfl rfl l3 ?_
      refine x_iload_n 35 hK rfl rfl l3 ?_
      refine x_iload_n 36 hK rfl rfl l1 ?_
      refine x_idivp 37 hK rfl rfl (by omega) (by omega) (by omega) (by omega) ?_
      refine x_isub 38 hK rfl rfl ?_
      refine x_callV 41 hK hmono rfl rfl [.ref 0, .int (I (k - (k / r)))] [] rfl rfl (Nat.le_of_ble_eq_true rfl) (Nat.le_of_ble_eq_true rfl) rfl (sp_0 (h := h) hG) (CLd_le (Nat.le_of_ble_eq_true rfl) (ctX10_cellAfter hSP hG hP hw hL (w := (k - (k / r))) (by omega))) ?_
      rintro v9 h9 ⟨e9, rfl⟩
      rw [e9]
      clear e9
      have bb307 := bN_b hL.1 (k - (k / r)).toNat
      refine x_istore 43 hK rfl rfl _ rfl ?_
      refine x_iload 45 hK rfl rfl lk1_s ?_
      refine x_aload_n 46 hK rfl rfl (lk1_n l0 (by decide) (Or.inl rfl)) ?_
      refine x_iload_n 47 hK rfl rfl (lk1_n l2 (by decide) (Or.inl rfl)) ?_
      refine x_iload_n 48 hK rfl rfl (lk1_n l3 (by decide) (Or.inl rfl)) ?_
      refine x_iadd 49 hK rfl rfl ?_
      refine x_callV 52 hK hmono rfl rfl [.ref 0, .int (I (((gi h s 0) - 1) + k))] [.int (I (bN (gi h s 0) (k - (k / r)).toNat).1)] rfl rfl (Nat.le_of_ble_eq_true rfl) (Nat.le_of_ble_eq_true rfl) rfl (sp_0 (h := h) hG) (CLd_le (Nat.le_of_ble_eq_true rfl) (ctX10_cellAfter hSP hG hP hw hL (w := (((gi h s 0) - 1) + k)) (by omega))) ?_
      rintro v9 h9 ⟨e9, rfl⟩
      rw [e9]
      clear e9
      have bb308 := bN_b hL.1 (((gi h s 0) - 1) + k).toNat
      refine x_if_icmp_ne 67 55 hK rfl rfl rfl (by omega) (by omega) (fun c20 => ?_) (fun c20 => ?_)
      · refine x_iinc 70 hK rfl rfl (lk1_n l3 (by decide) (Or.inl rfl)) _ rfl ?_
        refine x_goto 25 hK rfl rfl ?_
        exact ih _ (by omega) (k + 1) _ rfl (q0) (by omega) (by rw [← sv, u (by omega), if_neg (by omega)]) (lk1_n (lk1_n l0 (by decide) (Or.inl rfl)) (by decide) (Or.inl rfl)) (lk1_n (lk1_n l1 (by decide) (Or.inl rfl)) (by decide) (Or.inl rfl)) (lk1_n (lk1_n l2 (by decide) (Or.inl rfl)) (by decide) (Or.inl rfl)) lk1_s
      · refine x_aload_n 56 hK rfl rfl (lk1_n l0 (by decide) (Or.inl rfl)) ?_
        refine x_getR 59 hK rfl rfl (sp_0 (h := h) hG) (rf_0_1 (h := h) hG) ?_
        refine x_iload 61 hK rfl rfl lk1_s ?_
        refine x_i2l 62 hK rfl rfl (by omega) ?_
        refine x_callV 65 hK hmono rfl rfl [.ref 3, .long (J (bN (gi h s 0) (k - (k / r)).toNat).1)] [] rfl rfl (Nat.le_of_ble_eq_true rfl) (Nat.le_of_ble_eq_true rfl) rfl (sp_3 (h := h) hG) (CLd_le (Nat.le_of_ble_eq_true rfl) (ctX3_tellOne hSP hG (by omega))) ?_
        rintro v309 h309 ⟨rfl, hG309, hF309, t309, s309⟩
        refine x_iload_n 66 hK rfl rfl (lk1_n l3 (by decide) (Or.inl rfl)) ?_
        have e9 : mtG (gi h s 0) r 999 = k := by rw [← sv, u (by omega), if_pos (by omega)]
        exact x_iret hK rfl ⟨by rw [if_pos q0, e9], hG309, hF309, by rw [if_pos ⟨q0, by omega⟩, e9]; exact (s309).trans (congrArg (fun z => [z]) (by omega))⟩
  refine x_iload_n 1 hK rfl rfl rfl ?_
  refine x_iconst 2 hK rfl rfl ?_
  refine x_if_icmp_lt 11 5 hK rfl rfl rfl (by omega) (by omega) (fun c3 => ?_) (fun c3 => ?_)
  · refine x_iconst 12 hK rfl rfl ?_
    exact x_iret hK rfl ⟨by rw [if_neg (by omega)], hG, (FRM.rf : FRM gRL [(0, 3, 1, 1), (1, 4, 0, 29)] h h), by rw [if_neg (by omega)]⟩
  · refine x_iload_n 6 hK rfl rfl rfl ?_
    refine x_bipush 8 hK rfl rfl rfl ?_
    refine x_if_icmp_le 13 11 hK rfl rfl rfl (by omega) (by omega) (fun c8 => ?_) (fun c8 => ?_)
    · refine x_aload_n 14 hK rfl rfl rfl ?_
      refine x_getR 17 hK rfl rfl (sp_0 (h := h) hG) (hw.2.1) ?_
      have g310 := gri (-1000000) (1000000) hG (a := s) (r := 5) (k := 0) (ss_r h5s).1 rfl
      refine x_getE 20 hK rfl (Or.inl rfl) rfl (shx (h := h) hG (r := 5) (ss_r h5s).1 rfl) (e := (gi h s 0)) (rfl) ?_
      refine x_iconst 21 hK rfl rfl ?_
      refine x_isub 22 hK rfl rfl ?_
      refine x_istore_n 23 hK rfl rfl [(2, .int (I ((gi h s 0) - 1))), (0, .ref 0), (1, .int (I r))] rfl ?_
      refine x_iconst 24 hK rfl rfl ?_
      refine x_istore_n 25 hK rfl rfl [(3, .int (I 1)), (2, .int (I ((gi h s 0) - 1))), (0, .ref 0), (1, .int (I r))] rfl ?_
      exact loop _ 1 _ rfl (by omega) (by omega) (rfl) rfl rfl rfl rfl
    · refine x_iconst 12 hK rfl rfl ?_
      exact x_iret hK rfl ⟨by rw [if_neg (by omega)], hG, (FRM.rf : FRM gRL [(0, 3, 1, 1), (1, 4, 0, 29)] h h), by rw [if_neg (by omega)]⟩
set_option maxRecDepth 4000 in
theorem ctX11_boyGoes {SP : CT} (hSP : MONO SP) {sh : List (Nat × Nat)} {h : aH} (hG : GD gE gRL sh h) {j : Nat} (h1 : gi h 171 48 = (bN (gi h 171 3) j).1) (h2 : gi h 171 49 = (bN (gi h 171 3) j).2) : CLd SP 1 mX11_boyGoes [.ref 171] h 0 0 (fun rv h' => rv = none ∧ GD gE gRL sh h' ∧ FRM gRL [(0, 54, 48, 49)] h h' ∧ gi h' 171 48 = (bN (gi h 171 3) (j + 1)).1 ∧ gi h' 171 49 = (bN (gi h 171 3) (j + 1)).2) := by
  refine x_met _ rfl (Nat.le_of_ble_eq_true rfl) (fun K hK => ?_)
  have hmono := MONO_CLd hSP 0
  have gL := gri 2 40 hG (a := 171) (r := 54) (k := 3) rfl rfl
  have bb := bN_b gL.1 j
  have e1 : (bN (gi h 171 3) (j + 1)).1 = (bN (gi h 171 3) j).1 + (bN (gi h 171 3) j).2 := rfl
  have e2 : (bN (gi h 171 3) (j + 1)).2 = if (bN (gi h 171 3) j).1 + (bN (gi h 171 3) j).2 = (gi h 171 3) - 1 then -1 else if (bN (gi h 171 3) j).1 + (bN (gi h 171 3) j).2 = 0 then 1 else (bN (gi h 171 3) j).2 := rfl
  refine x_aload_n 1 hK rfl rfl rfl ?_
  refine x_dup 2 hK rfl rfl rfl ?_
  refine x_getE 5 hK rfl (Or.inl rfl) rfl (sp_171 (h := h) hG) (e := (bN (gi h 171 3) j).1) (h1) ?_
  refine x_aload_n 6 hK rfl rfl rfl ?_
  refine x_getE 9 hK rfl (Or.inl rfl) rfl (sp_171 (h := h) hG) (e := (bN (gi h 171 3) j).2) (h2) ?_
  refine x_iadd 10 hK rfl rfl ?_
  refine x_putI 13 hK rfl rfl (sp_171 (h := h) hG) ?_
  refine x_aload_n 14 hK rfl rfl rfl ?_
  refine x_aload_n 15 hK rfl rfl rfl ?_
  refine x_getE 18 hK rfl (Or.inl rfl) rfl (sp_171 (h := h) hG) (e := ((bN (gi h 171 3) j).1 + (bN (gi h 171 3) j).2)) (gi_same (by omega)) ?_
  refine x_aload_n 19 hK rfl rfl rfl ?_
  have g311 := gri (2) (40) hG (a := 171) (r := 54) (k := 3) rfl rfl
  refine x_getE 22 hK rfl (Or.inl rfl) rfl (sp_171 (h := h) hG) (e := (gi h 171 3)) (gi_k (by decide) _) ?_
  refine x_iconst 23 hK rfl rfl ?_
  refine x_isub 24 hK rfl rfl ?_
  refine x_if_icmp_ne 31 27 hK rfl rfl rfl (by omega) (by omega) (fun c15 => ?_) (fun c15 => ?_)
  · refine x_aload_n 32 hK rfl rfl rfl ?_
    refine x_getE 35 hK rfl (Or.inl rfl) rfl (sp_171 (h := h) hG) (e := ((bN (gi h 171 3) j).1 + (bN (gi h 171 3) j).2)) (gi_same (by omega)) ?_
    refine x_if_ne 42 38 hK rfl rfl rfl (by omega) (fun c18 => ?_) (fun c18 => ?_)
    · refine x_aload_n 43 hK rfl rfl rfl ?_
      refine x_getE 46 hK rfl (Or.inl rfl) rfl (sp_171 (h := h) hG) (e := (bN (gi h 171 3) j).2) ((gi_k (by decide) _).trans (h2)) ?_
      refine x_putI 49 hK rfl rfl (sp_171 (h := h) hG) ?_
      exact x_vret hK rfl ⟨rfl, GD_w0 (GD_w0 (hG) (r := 54) rfl rfl) (r := 54) rfl rfl, FRM_w (FRM_w ((FRM.rf : FRM gRL [(0, 54, 48, 49)] h h)) (r := 54) rfl rfl) (r := 54) rfl rfl, ((gi_k (by decide) _).trans (gi_same (by omega))).trans e1.symm, (gi_same (by omega)).trans (by rw [e2]; first | rw [if_pos (by omega)] | rw [if_neg (by omega), if_pos (by omega)] | rw [if_neg (by omega), if_neg (by omega)])⟩
    · refine x_iconst 39 hK rfl rfl ?_
      refine x_goto 46 hK rfl rfl ?_
      refine x_putI 49 hK rfl rfl (sp_171 (h := h) hG) ?_
      exact x_vret hK rfl ⟨rfl, GD_w0 (GD_w0 (hG) (r := 54) rfl rfl) (r := 54) rfl rfl, FRM_w (FRM_w ((FRM.rf : FRM gRL [(0, 54, 48, 49)] h h)) (r := 54) rfl rfl) (r := 54) rfl rfl, ((gi_k (by decide) _).trans (gi_same (by omega))).trans e1.symm, (gi_same (by omega)).trans (by rw [e2]; first | rw [if_pos (by omega)] | rw [if_neg (by omega), if_pos (by omega)] | rw [if_neg (by omega), if_neg (by omega)])⟩
  · refine x_iconst 28 hK rfl rfl ?_
    refine x_goto 46 hK rfl rfl ?_
    refine x_putI 49 hK rfl rfl (sp_171 (h := h) hG) ?_
    exact x_vret hK rfl ⟨rfl, GD_w0 (GD_w0 (hG) (r := 54) rfl rfl) (r := 54) rfl rfl, FRM_w (FRM_w ((FRM.rf : FRM gRL [(0, 54, 48, 49)] h h)) (r := 54) rfl rfl) (r := 54) rfl rfl, ((gi_k (by decide) _).trans (gi_same (by omega))).trans e1.symm, (gi_same (by omega)).trans (by rw [e2]; first | rw [if_pos (by omega)] | rw [if_neg (by omega), if_pos (by omega)] | rw [if_neg (by omega), if_neg (by omega)])⟩
set_option maxRecDepth 4000 in
theorem ctX11_boyBegins {SP : CT} (hSP : MONO SP) {sh : List (Nat × Nat)} {h : aH} (hG : GD gE gRL sh h) : CLd SP 1 mX11_boyBegins [.ref 171, .int (I 0), .int (I 1)] h 0 0 (fun rv h' => rv = none ∧ GD gE gRL sh h' ∧ FRM gRL [(0, 54, 48, 49)] h h' ∧ gi h' 171 48 = 0 ∧ gi h' 171 49 = 1) := by
  refine x_met _ rfl (Nat.le_of_ble_eq_true rfl) (fun K hK => ?_)
  have hmono := MONO_CLd hSP 0
  refine x_aload_n 1 hK rfl rfl rfl ?_
  refine x_iload_n 2 hK rfl rfl rfl ?_
  refine x_putI 5 hK rfl rfl (sp_171 (h := h) hG) ?_
  refine x_aload_n 6 hK rfl rfl rfl ?_
  refine x_iload_n 7 hK rfl rfl rfl ?_
  refine x_putI 10 hK rfl rfl (sp_171 (h := h) hG) ?_
  exact x_vret hK rfl ⟨rfl, GD_w0 (GD_w0 (hG) (r := 54) rfl rfl) (r := 54) rfl rfl, FRM_w (FRM_w ((FRM.rf : FRM gRL [(0, 54, 48, 49)] h h)) (r := 54) rfl rfl) (r := 54) rfl rfl, (gi_k (by decide) _).trans (gi_same (by omega)), gi_same (by omega)⟩
set_option maxRecDepth 4000 in
theorem ctX11_canRest {SP : CT} (hSP : MONO SP) {h : aH} {r : Int} (rr : r32 r) : CLd SP 2 mX11_canRest [.int (I r)] h 0 0 (fun rv h' => h' = h ∧ ((rv = some (.int (I 1)) ∧ 2 ≤ r ∧ r ≤ 9) ∨ (rv = some (.int (I 0)) ∧ ¬ (2 ≤ r ∧ r ≤ 9)))) := by
  refine x_met _ rfl (Nat.le_of_ble_eq_true rfl) (fun K hK => ?_)
  have hmono := MONO_CLd hSP 1
  refine x_iload_n 1 hK rfl rfl rfl ?_
  refine x_i2l 2 hK rfl rfl (by omega) ?_
  refine x_ldc2_w 5 hK rfl rfl ?_
  refine x_ldc2_w 8 hK rfl rfl ?_
  refine x_callS 11 hK hmono rfl (Or.inl rfl) rfl [.long (J r), .long (J 2), .long (J 9)] [] rfl rfl (Nat.le_of_ble_eq_true rfl) (Nat.le_of_ble_eq_true rfl) (CLd_le (Nat.le_of_ble_eq_true rfl) (ctX11_in (by omega) (by omega) (by omega))) ?_
  rintro v9 h9 ⟨e9, ⟨rfl, i1312, i2312⟩ | ⟨rfl, i1312⟩⟩ <;> rw [e9] <;> clear e9
  · exact x_zret hK rfl (by omega) ⟨rfl, Or.inl ⟨rfl, by omega⟩⟩
  · exact x_zret hK rfl (by omega) ⟨rfl, Or.inr ⟨rfl, by omega⟩⟩
set_option maxRecDepth 4000 in
theorem ctX11_boy {SP : CT} (hSP : MONO SP) {sh : List (Nat × Nat)} {h : aH} (hG : GD gE gRL sh h) {n r : Int} (rn : r32 n) (rr : r32 r) : CLd SP 4 mX11_boy [.ref 171, .int (I n), .int (I r)] h 0 0 (fun rv h' => rv = some (.int (I (if (0 ≤ n ∧ n ≤ 99999) ∧ 2 ≤ r ∧ r ≤ 9 then (bN (gi h 171 3) (n - n / r).toNat).1 else -1))) ∧ GD gE gRL sh h' ∧ FRM gRL [(0, 54, 0, 0), (0, 54, 1, 1), (0, 54, 48, 49), (1, 55, 0, 39)] h h' ∧ gi h' 171 0 = 0 ∧ mrow h' = if (0 ≤ n ∧ n ≤ 99999) ∧ 2 ≤ r ∧ r ≤ 9 then [(bN (gi h 171 3) (n - n / r).toNat).2] else mrow h) := by
  refine x_met _ rfl (Nat.le_of_ble_eq_true rfl) (fun K hK => ?_)
  have hmono := MONO_CLd hSP 3
  have gL := gri 2 40 hG (a := 171) (r := 54) (k := 3) rfl rfl
  have loop : ∀ (mz : Nat) (k : Int) (h4 : aH) (ls : List (Nat × Value)), ((n + 1 - k).toNat = mz) → ((0 ≤ n ∧ n ≤ 99999) ∧ 2 ≤ r ∧ r ≤ 9) → (1 ≤ k ∧ k ≤ n + 1) → (gi h4 171 0 = 0) → (gi h4 171 48 = (bN (gi h 171 3) ((k - 1) - (k - 1) / r).toNat).1) → (gi h4 171 49 = (bN (gi h 171 3) ((k - 1) - (k - 1) / r).toNat).2) → lk ls 0 = some (.ref 171) → lk ls 1 = some (.int (I n)) → lk ls 2 = some (.int (I r)) → lk ls 3 = some (.int (I k)) → GD gE gRL sh h4 → FRM gRL [(0, 54, 0, 0), (0, 54, 1, 1), (0, 54, 48, 49), (1, 55, 0, 39)] h h4 → K 34 ls [] h4 0 0 := by
    intro mz
    induction mz using Nat.strongRecOn with
    | ind mz ih =>
    intro k h4 ls hm q0 k0 t4 d8 d9 l0 l1 l2 l3 hG4 hF4
    have ws := wk_s (k := k) (r := r) k0.1 q0.2
    have bb := bN_b gL.1 ((k - 1) - (k - 1) / r).toNat
    have e3 : gi h4 171 3 = gi h 171 3 := FRM_gi hF4 (r := 54) rfl rfl
    have km := Int.emod_nonneg k (show r ≠ 0 by omega)
    have kl := Int.emod_lt_of_pos k (show 0 < r by omega)
    refine x_iload_n 35 hK rfl rfl l3 ?_
    refine x_iload_n 36 hK rfl rfl l1 ?_
    refine x_if_icmp_gt 55 39 hK rfl rfl rfl (by omega) (by omega) (fun c3 => ?_) (fun c3 => ?_)
    · refine x_aload_n 56 hK rfl rfl l0 ?_
      refine x_iconst 57 hK rfl rfl ?_
      refine x_putI 60 hK rfl rfl (sp_171 (h := h4) hG4) ?_
      refine x_aload_n 61 hK rfl rfl l0 ?_
      refine x_aload_n 62 hK rfl rfl l0 ?_
      refine x_getE 65 hK rfl (Or.inl rfl) rfl (sp_171 (h := h4) hG4) (e := (bN (gi h 171 3) ((k - 1) - (k - 1) / r).toNat).2) ((gi_k (by decide) _).trans (d9)) ?_
      refine x_i2l 66 hK rfl rfl (by omega) ?_
      have hGp313 : GD gE gRL sh (wI h4 171 1 0) := GD_w1 (hG4) (r := 54) rfl (by omega) rfl (by omega) (by omega)
      have z315 : gi (wI h4 171 1 0) 171 1 = 0 := gi_same (by omega)
      have z315r : mrow (wI h4 171 1 0) = [] := mrow_0 (gi_same (by omega))
      refine x_callV 69 hK hmono rfl rfl [.ref 171, .long (J (bN (gi h 171 3) ((k - 1) - (k - 1) / r).toNat).2)] [] rfl rfl (Nat.le_of_ble_eq_true rfl) (Nat.le_of_ble_eq_true rfl) rfl (sp_171 (h := h4) hG4) (CLd_le (Nat.le_of_ble_eq_true rfl) (ctX11_entersF hSP hGp313 (by omega) (by omega))) ?_
      rintro v314 h314 ⟨rfl, hG314, hF314, t314, s314⟩
      rw [z315] at t314
      rw [z315r] at s314
      replace t314 : gi h314 171 1 = 1 := t314
      change mrow h314 = [(bN (gi h 171 3) ((k - 1) - (k - 1) / r).toNat).2] at s314
      refine x_aload_n 70 hK rfl rfl l0 ?_
      refine x_getE 73 hK rfl (Or.inl rfl) rfl (sp_171 (h := h314) hG314) (e := (bN (gi h 171 3) ((k - 1) - (k - 1) / r).toNat).1) ((FRM_gi hF314 (r := 54) rfl rfl).trans ((gi_k (by decide) _).trans (d8))) ?_
      have kn : k - 1 = n := by omega
      have r9 := s314
      skip
      exact x_iret hK rfl ⟨by rw [if_pos q0, kn], hG314, (FRM_w (hF4) (r := 54) rfl rfl).trans ((hF314).mono rfl), (FRM_gi hF314 (r := 54) rfl rfl).trans ((gi_k (by decide) _).trans (t4)), by rw [if_pos q0, ← kn]; exact r9⟩
    · refine x_iload_n 40 hK rfl rfl l3 ?_
      refine x_iload_n 41 hK rfl rfl l2 ?_
      refine x_iremp 42 hK rfl rfl (by omega) (by omega) (by omega) (by omega) ?_
      refine x_if_eq 49 45 hK rfl rfl rfl (by omega) (fun c18 => ?_) (fun c18 => ?_)
      · refine x_iinc 52 hK rfl rfl l3 _ rfl ?_
        refine x_goto 34 hK rfl rfl ?_
        exact ih _ (by omega) (k + 1) _ _ rfl (q0) (by omega) (t4) ((by rw [show k + 1 - 1 = k by omega, (ws.1 (by omega))]; exact d8)) ((by rw [show k + 1 - 1 = k by omega, (ws.1 (by omega))]; exact d9)) (lk1_n l0 (by decide) (Or.inl rfl)) (lk1_n l1 (by decide) (Or.inl rfl)) (lk1_n l2 (by decide) (Or.inl rfl)) lk1_s (hG4) (hF4)
      · refine x_aload_n 46 hK rfl rfl l0 ?_
        have z48 : gi h4 171 48 = (bN (gi h 171 3) ((k - 1) - (k - 1) / r).toNat).1 := d8
        have z49 : gi h4 171 49 = (bN (gi h 171 3) ((k - 1) - (k - 1) / r).toNat).2 := d9
        have z3 : gi h4 171 3 = (gi h 171 3) := e3
        refine x_callV 49 hK hmono rfl rfl [.ref 171] [] rfl rfl (Nat.le_of_ble_eq_true rfl) (Nat.le_of_ble_eq_true rfl) rfl (sp_171 (h := h4) hG4) (CLd_le (Nat.le_of_ble_eq_true rfl) (ctX11_boyGoes hSP hG4 (j := ((k - 1) - (k - 1) / r).toNat) (by rw [z3]; exact z48) (by rw [z3]; exact z49))) ?_
        rw [z3]
        rintro v316 h316 ⟨rfl, hG316, hF316, a316, b316⟩
        refine x_iinc 52 hK rfl rfl l3 _ rfl ?_
        refine x_goto 34 hK rfl rfl ?_
        exact ih _ (by omega) (k + 1) _ _ rfl (q0) (by omega) ((FRM_gi hF316 (r := 54) rfl rfl).trans (t4)) ((by rw [show k + 1 - 1 = k by omega, (ws.2 (by omega))]; exact a316)) ((by rw [show k + 1 - 1 = k by omega, (ws.2 (by omega))]; exact b316)) (lk1_n l0 (by decide) (Or.inl rfl)) (lk1_n l1 (by decide) (Or.inl rfl)) (lk1_n l2 (by decide) (Or.inl rfl)) lk1_s (hG316) ((hF4).trans ((hF316).mono rfl))
  refine x_aload_n 1 hK rfl rfl rfl ?_
  refine x_iconst 2 hK rfl rfl ?_
  refine x_putI 5 hK rfl rfl (sp_171 (h := h) hG) ?_
  refine x_iload_n 6 hK rfl rfl rfl ?_
  refine x_i2l 7 hK rfl rfl (by omega) ?_
  refine x_lconstE 8 0 hK rfl rfl rfl ?_
  refine x_ldc2_w 11 hK rfl rfl ?_
  have hGp317 : GD gE gRL sh (wI h 171 0 0) := GD_w1 (hG) (r := 54) rfl (by omega) rfl (by omega) (by omega)
  refine x_callS 14 hK hmono rfl (Or.inl rfl) rfl [.long (J n), .long (J 0), .long (J 99999)] [] rfl rfl (Nat.le_of_ble_eq_true rfl) (Nat.le_of_ble_eq_true rfl) (CLd_le (Nat.le_of_ble_eq_true rfl) (ctX11_in (by omega) (by omega) (by omega))) ?_
  rintro v9 h9 ⟨e9, ⟨rfl, i1318, i2318⟩ | ⟨rfl, i1318⟩⟩ <;> rw [e9] <;> clear e9
  · refine x_if_eq 24 17 hK rfl rfl rfl (by omega) (fun c => by omega) (fun _ => ?_)
    refine x_iload_n 18 hK rfl rfl rfl ?_
    have hGp319 : GD gE gRL sh (wI h 171 0 0) := GD_w1 (hG) (r := 54) rfl (by omega) rfl (by omega) (by omega)
    refine x_callS 21 hK hmono rfl (Or.inl rfl) rfl [.int (I r)] [] rfl rfl (Nat.le_of_ble_eq_true rfl) (Nat.le_of_ble_eq_true rfl) (CLd_le (Nat.le_of_ble_eq_true rfl) (ctX11_canRest hSP (by omega))) ?_
    rintro v9 h9 ⟨e9, ⟨rfl, i1320, i2320⟩ | ⟨rfl, i1320⟩⟩ <;> rw [e9] <;> clear e9
    · refine x_if_ne 26 24 hK rfl rfl rfl (by omega) (fun _ => ?_) (fun c => by omega)
      refine x_aload_n 27 hK rfl rfl rfl ?_
      refine x_iconst 28 hK rfl rfl ?_
      refine x_iconst 29 hK rfl rfl ?_
      have hGp321 : GD gE gRL sh (wI h 171 0 0) := GD_w1 (hG) (r := 54) rfl (by omega) rfl (by omega) (by omega)
      refine x_callV 32 hK hmono rfl rfl [.ref 171, .int (I 0), .int (I 1)] [] rfl rfl (Nat.le_of_ble_eq_true rfl) (Nat.le_of_ble_eq_true rfl) rfl (sp_171 (h := h) hG) (CLd_le (Nat.le_of_ble_eq_true rfl) (ctX11_boyBegins hSP hGp321)) ?_
      rintro v322 h322 ⟨rfl, hG322, hF322, a322, b322⟩
      refine x_iconst 33 hK rfl rfl ?_
      refine x_istore_n 34 hK rfl rfl [(3, .int (I 1)), (0, .ref 171), (1, .int (I n)), (2, .int (I r))] rfl ?_
      exact loop _ 1 _ _ rfl (by omega) (by omega) ((FRM_gi hF322 (r := 54) rfl rfl).trans (gi_same (by omega))) ((by rw [show ((1 : Int) - 1 - (1 - 1) / r).toNat = 0 by rw [show (1 : Int) - 1 = 0 from rfl, Int.zero_ediv]; rfl]; exact a322)) ((by rw [show ((1 : Int) - 1 - (1 - 1) / r).toNat = 0 by rw [show (1 : Int) - 1 = 0 from rfl, Int.zero_ediv]; rfl]; exact b322)) rfl rfl rfl rfl (hG322) ((FRM_w ((FRM.rf : FRM gRL [(0, 54, 0, 0), (0, 54, 1, 1), (0, 54, 48, 49), (1, 55, 0, 39)] h h)) (r := 54) rfl rfl).trans ((hF322).mono rfl))
    · refine x_if_ne 26 24 hK rfl rfl rfl (by omega) (fun c => by omega) (fun _ => ?_)
      refine x_iconst 25 hK rfl rfl ?_
      exact x_iret hK rfl ⟨by rw [if_neg (by omega)], GD_w1 (hG) (r := 54) rfl (by omega) rfl (by omega) (by omega), FRM_w ((FRM.rf : FRM gRL [(0, 54, 0, 0), (0, 54, 1, 1), (0, 54, 48, 49), (1, 55, 0, 39)] h h)) (r := 54) rfl rfl, gi_same (by omega), by rw [if_neg (by omega)]; exact mrow_k (by decide)⟩
  · refine x_if_eq 24 17 hK rfl rfl rfl (by omega) (fun _ => ?_) (fun c => by omega)
    refine x_iconst 25 hK rfl rfl ?_
    exact x_iret hK rfl ⟨by rw [if_neg (by omega)], GD_w1 (hG) (r := 54) rfl (by omega) rfl (by omega) (by omega), FRM_w ((FRM.rf : FRM gRL [(0, 54, 0, 0), (0, 54, 1, 1), (0, 54, 48, 49), (1, 55, 0, 39)] h h)) (r := 54) rfl rfl, gi_same (by omega), by rw [if_neg (by omega)]; exact mrow_k (by decide)⟩
set_option maxRecDepth 4000 in
theorem ctX11_meets {SP : CT} (hSP : MONO SP) {sh : List (Nat × Nat)} {h : aH} (hG : GD gE gRL sh h) {r : Int} (rr : r32 r) : CLd SP 4 mX11_meets [.ref 171, .int (I r)] h 0 0 (fun rv h' => rv = some (.int (I (if 2 ≤ r ∧ r ≤ 9 then mtG (gi h 171 3) r 999 else -1))) ∧ GD gE gRL sh h' ∧ FRM gRL [(0, 54, 0, 0), (0, 54, 1, 1), (0, 54, 48, 49), (1, 55, 0, 39)] h h' ∧ gi h' 171 0 = 0 ∧ mrow h' = if (2 ≤ r ∧ r ≤ 9) ∧ 0 < mtG (gi h 171 3) r 999 then [(bN (gi h 171 3) ((gi h 171 3) - 1 + mtG (gi h 171 3) r 999).toNat).1] else mrow h) := by
  refine x_met _ rfl (Nat.le_of_ble_eq_true rfl) (fun K hK => ?_)
  have hmono := MONO_CLd hSP 3
  have gL := gri 2 40 hG (a := 171) (r := 54) (k := 3) rfl rfl
  have loop : ∀ (mz : Nat) (oa ow k : Int) (h4 : aH) (ls : List (Nat × Value)), ((1000 - k).toNat = mz) → (2 ≤ r ∧ r ≤ 9) → (1 ≤ k ∧ k ≤ 1000) → (oa = (bN (gi h 171 3) ((gi h 171 3) - 1 + (k - 1)).toNat).1) → (ow = (bN (gi h 171 3) ((gi h 171 3) - 1 + (k - 1)).toNat).2) → (gi h4 171 0 = 0) → (gi h4 171 48 = (bN (gi h 171 3) ((k - 1) - (k - 1) / r).toNat).1) → (gi h4 171 49 = (bN (gi h 171 3) ((k - 1) - (k - 1) / r).toNat).2) → (mtG (gi h 171 3) r (1000 - k).toNat = mtG (gi h 171 3) r 999) → (mrow h4 = mrow h) → lk ls 0 = some (.ref 171) → lk ls 1 = some (.int (I r)) → lk ls 2 = some (.int (I oa)) → lk ls 3 = some (.int (I ow)) → lk ls 4 = some (.int (I k)) → GD gE gRL sh h4 → FRM gRL [(0, 54, 0, 0), (0, 54, 1, 1), (0, 54, 48, 49), (1, 55, 0, 39)] h h4 → K 32 ls [] h4 0 0 := by
    intro mz
    induction mz using Nat.strongRecOn with
    | ind mz ih =>
    intro oa ow k h4 ls hm q0 k0 oe of t4 d8 d9 sv rw4 l0 l1 l2 l3 l4 hG4 hF4
    have ws := wk_s (k := k) (r := r) k0.1 q0
    have bb := bN_b gL.1 ((k - 1) - (k - 1) / r).toNat
    have bo := bN_b gL.1 ((gi h 171 3) - 1 + (k - 1)).toNat
    rw [← oe, ← of] at bo
    have e3 : gi h4 171 3 = gi h 171 3 := FRM_gi hF4 (r := 54) rfl rfl
    have km := Int.emod_nonneg k (show r ≠ 0 by omega)
    have kl := Int.emod_lt_of_pos k (show 0 < r by omega)
    have u := fun z : k ≤ 999 => mtG_u (L := (gi h 171 3)) (r := r) ⟨k0.1, z⟩
    have on : (bN (gi h 171 3) ((gi h 171 3) - 1 + k).toNat) = (oa + ow, if oa + ow = (gi h 171 3) - 1 then -1 else if oa + ow = 0 then 1 else ow) := by rw [show ((gi h 171 3) - 1 + k).toNat = ((gi h 171 3) - 1 + (k - 1)).toNat + 1 by omega, oe, of]; rfl
    refine x_iload 34 hK rfl rfl l4 ?_
    refine x_sipush 37 hK rfl rfl rfl ?_
    refine x_if_icmp_gt 107 40 hK rfl rfl rfl (by omega) (by omega) (fun c3 => ?_) (fun c3 => ?_)
    · refine x_bipush 109 hK rfl rfl rfl ?_
      have e9 : mtG (gi h 171 3) r 999 = -2 := by rw [← sv, show (1000 - k).toNat = 0 by omega]; rfl
      exact x_iret hK rfl ⟨by rw [if_pos q0, e9], hG4, hF4, t4, by rw [if_neg (by omega)]; exact rw4⟩
    · refine x_iload 42 hK rfl rfl l4 ?_
      refine x_iload_n 43 hK rfl rfl l1 ?_
      refine x_iremp 44 hK rfl rfl (by omega) (by omega) (by omega) (by omega) ?_
      refine x_if_eq 51 47 hK rfl rfl rfl (by omega) (fun c9 => ?_) (fun c9 => ?_)
      · have we := ws.1 (by omega)
        have bk := bN_b gL.1 (k - k / r).toNat
        rw [we] at bk
        refine x_iload_n 52 hK rfl rfl l2 ?_
        refine x_iload_n 53 hK rfl rfl l3 ?_
        refine x_iadd 54 hK rfl rfl ?_
        refine x_istore_n 55 hK rfl rfl _ rfl ?_
        refine x_iload_n 56 hK rfl rfl lk1_s ?_
        refine x_aload_n 57 hK rfl rfl (lk1_n l0 (by decide) (Or.inl rfl)) ?_
        have g323 := gri (2) (40) hG (a := 171) (r := 54) (k := 3) rfl rfl
        refine x_getE 60 hK rfl (Or.inl rfl) rfl (sp_171 (h := h4) hG4) (e := (gi h 171 3)) (e3) ?_
        refine x_iconst 61 hK rfl rfl ?_
        refine x_isub 62 hK rfl rfl ?_
        refine x_if_icmp_ne 69 65 hK rfl rfl rfl (by omega) (by omega) (fun c20 => ?_) (fun c20 => ?_)
        · refine x_iload_n 70 hK rfl rfl lk1_s ?_
          refine x_if_ne 77 73 hK rfl rfl rfl (by omega) (fun c22 => ?_) (fun c22 => ?_)
          · refine x_iload_n 78 hK rfl rfl (lk1_n l3 (by decide) (Or.inl rfl)) ?_
            refine x_istore_n 79 hK rfl rfl _ rfl ?_
            refine x_iload_n 80 hK rfl rfl (lk1_n lk1_s (by decide) (Or.inl rfl)) ?_
            refine x_aload_n 81 hK rfl rfl (lk1_n (lk1_n l0 (by decide) (Or.inl rfl)) (by decide) (Or.inl rfl)) ?_
            refine x_getE 84 hK rfl (Or.inl rfl) rfl (sp_171 (h := h4) hG4) (e := (bN (gi h 171 3) ((k - 1) - (k - 1) / r).toNat).1) (d8) ?_
            refine x_if_icmp_ne 101 87 hK rfl rfl rfl (by omega) (by omega) (fun c28 => ?_) (fun c28 => ?_)
            · refine x_iinc 104 hK rfl rfl (lk1_n (lk1_n l4 (by decide) (Or.inl rfl)) (by decide) (Or.inl rfl)) _ rfl ?_
              refine x_goto 32 hK rfl rfl ?_
              exact ih _ (by omega) (oa + ow) ow (k + 1) _ _ rfl (q0) (by omega) ((by rw [show k + 1 - 1 = k by omega, on])) ((by rw [show k + 1 - 1 = k by omega, on]; show ow = if oa + ow = (gi h 171 3) - 1 then -1 else if oa + ow = 0 then 1 else ow; first | rw [if_pos (by omega)] | rw [if_neg (by omega), if_pos (by omega)] | rw [if_neg (by omega), if_neg (by omega)])) (t4) ((by rw [show k + 1 - 1 = k by omega, we]; exact d8)) ((by rw [show k + 1 - 1 = k by omega, we]; exact d9)) ((by rw [← sv, u (by omega), if_neg (fun z => by rw [we, on] at z; simp only at z; omega)])) (rw4) (lk1_n (lk1_n (lk1_n l0 (by decide) (Or.inl rfl)) (by decide) (Or.inl rfl)) (by decide) (Or.inl rfl)) (lk1_n (lk1_n (lk1_n l1 (by decide) (Or.inl rfl)) (by decide) (Or.inl rfl)) (by decide) (Or.inl rfl)) (lk1_n (lk1_n lk1_s (by decide) (Or.inl rfl)) (by decide) (Or.inl rfl)) (lk1_n lk1_s (by decide) (Or.inl rfl)) lk1_s (hG4) (hF4)
            · refine x_aload_n 88 hK rfl rfl (lk1_n (lk1_n l0 (by decide) (Or.inl rfl)) (by decide) (Or.inl rfl)) ?_
              refine x_iconst 89 hK rfl rfl ?_
              refine x_putI 92 hK rfl rfl (sp_171 (h := h4) hG4) ?_
              refine x_aload_n 93 hK rfl rfl (lk1_n (lk1_n l0 (by decide) (Or.inl rfl)) (by decide) (Or.inl rfl)) ?_
              refine x_iload_n 94 hK rfl rfl (lk1_n lk1_s (by decide) (Or.inl rfl)) ?_
              refine x_i2l 95 hK rfl rfl (by omega) ?_
              have hGp324 : GD gE gRL sh (wI h4 171 1 0) := GD_w1 (hG4) (r := 54) rfl (by omega) rfl (by omega) (by omega)
              have z326 : gi (wI h4 171 1 0) 171 1 = 0 := gi_same (by omega)
              have z326r : mrow (wI h4 171 1 0) = [] := mrow_0 (gi_same (by omega))
              refine x_callV 98 hK hmono rfl rfl [.ref 171, .long (J (oa + ow))] [] rfl rfl (Nat.le_of_ble_eq_true rfl) (Nat.le_of_ble_eq_true rfl) rfl (sp_171 (h := h4) hG4) (CLd_le (Nat.le_of_ble_eq_true rfl) (ctX11_entersF hSP hGp324 (by omega) (by omega))) ?_
              rintro v325 h325 ⟨rfl, hG325, hF325, t325, s325⟩
              rw [z326] at t325
              rw [z326r] at s325
              replace t325 : gi h325 171 1 = 1 := t325
              change mrow h325 = [(oa + ow)] at s325
              refine x_iload 100 hK rfl rfl (lk1_n (lk1_n l4 (by decide) (Or.inl rfl)) (by decide) (Or.inl rfl)) ?_
              have e9 : mtG (gi h 171 3) r 999 = k := by rw [← sv, u (by omega), if_pos (by rw [we, on]; show _ = oa + ow; omega)]
              exact x_iret hK rfl ⟨by rw [if_pos q0, e9], hG325, (FRM_w (hF4) (r := 54) rfl rfl).trans ((hF325).mono rfl), (FRM_gi hF325 (r := 54) rfl rfl).trans ((gi_k (by decide) _).trans (t4)), by rw [if_pos ⟨q0, by omega⟩, e9, on]; exact s325⟩
          · refine x_iconst 74 hK rfl rfl ?_
            refine x_goto 78 hK rfl rfl ?_
            refine x_istore_n 79 hK rfl rfl _ rfl ?_
            refine x_iload_n 80 hK rfl rfl (lk1_n lk1_s (by decide) (Or.inl rfl)) ?_
            refine x_aload_n 81 hK rfl rfl (lk1_n (lk1_n l0 (by decide) (Or.inl rfl)) (by decide) (Or.inl rfl)) ?_
            refine x_getE 84 hK rfl (Or.inl rfl) rfl (sp_171 (h := h4) hG4) (e := (bN (gi h 171 3) ((k - 1) - (k - 1) / r).toNat).1) (d8) ?_
            refine x_if_icmp_ne 101 87 hK rfl rfl rfl (by omega) (by omega) (fun c47 => ?_) (fun c47 => ?_)
            · refine x_iinc 104 hK rfl rfl (lk1_n (lk1_n l4 (by decide) (Or.inl rfl)) (by decide) (Or.inl rfl)) _ rfl ?_
              refine x_goto 32 hK rfl rfl ?_
              exact ih _ (by omega) (oa + ow) 1 (k + 1) _ _ rfl (q0) (by omega) ((by rw [show k + 1 - 1 = k by omega, on])) ((by rw [show k + 1 - 1 = k by omega, on]; show 1 = if oa + ow = (gi h 171 3) - 1 then -1 else if oa + ow = 0 then 1 else ow; first | rw [if_pos (by omega)] | rw [if_neg (by omega), if_pos (by omega)] | rw [if_neg (by omega), if_neg (by omega)])) (t4) ((by rw [show k + 1 - 1 = k by omega, we]; exact d8)) ((by rw [show k + 1 - 1 = k by omega, we]; exact d9)) ((by rw [← sv, u (by omega), if_neg (fun z => by rw [we, on] at z; simp only at z; omega)])) (rw4) (lk1_n (lk1_n (lk1_n l0 (by decide) (Or.inl rfl)) (by decide) (Or.inl rfl)) (by decide) (Or.inl rfl)) (lk1_n (lk1_n (lk1_n l1 (by decide) (Or.inl rfl)) (by decide) (Or.inl rfl)) (by decide) (Or.inl rfl)) (lk1_n (lk1_n lk1_s (by decide) (Or.inl rfl)) (by decide) (Or.inl rfl)) (lk1_n lk1_s (by decide) (Or.inl rfl)) lk1_s (hG4) (hF4)
            · refine x_aload_n 88 hK rfl rfl (lk1_n (lk1_n l0 (by decide) (Or.inl rfl)) (by decide) (Or.inl rfl)) ?_
              refine x_iconst 89 hK rfl rfl ?_
              refine x_putI 92 hK rfl rfl (sp_171 (h := h4) hG4) ?_
              refine x_aload_n 93 hK rfl rfl (lk1_n (lk1_n l0 (by decide) (Or.inl rfl)) (by decide) (Or.inl rfl)) ?_
              refine x_iload_n 94 hK rfl rfl (lk1_n lk1_s (by decide) (Or.inl rfl)) ?_
              refine x_i2l 95 hK rfl rfl (by omega) ?_
              have hGp327 : GD gE gRL sh (wI h4 171 1 0) := GD_w1 (hG4) (r := 54) rfl (by omega) rfl (by omega) (by omega)
              have z329 : gi (wI h4 171 1 0) 171 1 = 0 := gi_same (by omega)
              have z329r : mrow (wI h4 171 1 0) = [] := mrow_0 (gi_same (by omega))
              refine x_callV 98 hK hmono rfl rfl [.ref 171, .long (J (oa + ow))] [] rfl rfl (Nat.le_of_ble_eq_true rfl) (Nat.le_of_ble_eq_true rfl) rfl (sp_171 (h := h4) hG4) (CLd_le (Nat.le_of_ble_eq_true rfl) (ctX11_entersF hSP hGp327 (by omega) (by omega))) ?_
              rintro v328 h328 ⟨rfl, hG328, hF328, t328, s328⟩
              rw [z329] at t328
              rw [z329r] at s328
              replace t328 : gi h328 171 1 = 1 := t328
              change mrow h328 = [(oa + ow)] at s328
              refine x_iload 100 hK rfl rfl (lk1_n (lk1_n l4 (by decide) (Or.inl rfl)) (by decide) (Or.inl rfl)) ?_
              have e9 : mtG (gi h 171 3) r 999 = k := by rw [← sv, u (by omega), if_pos (by rw [we, on]; show _ = oa + ow; omega)]
              exact x_iret hK rfl ⟨by rw [if_pos q0, e9], hG328, (FRM_w (hF4) (r := 54) rfl rfl).trans ((hF328).mono rfl), (FRM_gi hF328 (r := 54) rfl rfl).trans ((gi_k (by decide) _).trans (t4)), by rw [if_pos ⟨q0, by omega⟩, e9, on]; exact s328⟩
        · refine x_iconst 66 hK rfl rfl ?_
          refine x_goto 78 hK rfl rfl ?_
          refine x_istore_n 79 hK rfl rfl _ rfl ?_
          refine x_iload_n 80 hK rfl rfl (lk1_n lk1_s (by decide) (Or.inl rfl)) ?_
          refine x_aload_n 81 hK rfl rfl (lk1_n (lk1_n l0 (by decide) (Or.inl rfl)) (by decide) (Or.inl rfl)) ?_
          refine x_getE 84 hK rfl (Or.inl rfl) rfl (sp_171 (h := h4) hG4) (e := (bN (gi h 171 3) ((k - 1) - (k - 1) / r).toNat).1) (d8) ?_
          refine x_if_icmp_ne 101 87 hK rfl rfl rfl (by omega) (by omega) (fun c66 => ?_) (fun c66 => ?_)
          · refine x_iinc 104 hK rfl rfl (lk1_n (lk1_n l4 (by decide) (Or.inl rfl)) (by decide) (Or.inl rfl)) _ rfl ?_
            refine x_goto 32 hK rfl rfl ?_
            exact ih _ (by omega) (oa + ow) (-1) (k + 1) _ _ rfl (q0) (by omega) ((by rw [show k + 1 - 1 = k by omega, on])) ((by rw [show k + 1 - 1 = k by omega, on]; show (-1) = if oa + ow = (gi h 171 3) - 1 then -1 else if oa + ow = 0 then 1 else ow; first | rw [if_pos (by omega)] | rw [if_neg (by omega), if_pos (by omega)] | rw [if_neg (by omega), if_neg (by omega)])) (t4) ((by rw [show k + 1 - 1 = k by omega, we]; exact d8)) ((by rw [show k + 1 - 1 = k by omega, we]; exact d9)) ((by rw [← sv, u (by omega), if_neg (fun z => by rw [we, on] at z; simp only at z; omega)])) (rw4) (lk1_n (lk1_n (lk1_n l0 (by decide) (Or.inl rfl)) (by decide) (Or.inl rfl)) (by decide) (Or.inl rfl)) (lk1_n (lk1_n (lk1_n l1 (by decide) (Or.inl rfl)) (by decide) (Or.inl rfl)) (by decide) (Or.inl rfl)) (lk1_n (lk1_n lk1_s (by decide) (Or.inl rfl)) (by decide) (Or.inl rfl)) (lk1_n lk1_s (by decide) (Or.inl rfl)) lk1_s (hG4) (hF4)
          · refine x_aload_n 88 hK rfl rfl (lk1_n (lk1_n l0 (by decide) (Or.inl rfl)) (by decide) (Or.inl rfl)) ?_
            refine x_iconst 89 hK rfl rfl ?_
            refine x_putI 92 hK rfl rfl (sp_171 (h := h4) hG4) ?_
            refine x_aload_n 93 hK rfl rfl (lk1_n (lk1_n l0 (by decide) (Or.inl rfl)) (by decide) (Or.inl rfl)) ?_
            refine x_iload_n 94 hK rfl rfl (lk1_n lk1_s (by decide) (Or.inl rfl)) ?_
            refine x_i2l 95 hK rfl rfl (by omega) ?_
            have hGp330 : GD gE gRL sh (wI h4 171 1 0) := GD_w1 (hG4) (r := 54) rfl (by omega) rfl (by omega) (by omega)
            have z332 : gi (wI h4 171 1 0) 171 1 = 0 := gi_same (by omega)
            have z332r : mrow (wI h4 171 1 0) = [] := mrow_0 (gi_same (by omega))
            refine x_callV 98 hK hmono rfl rfl [.ref 171, .long (J (oa + ow))] [] rfl rfl (Nat.le_of_ble_eq_true rfl) (Nat.le_of_ble_eq_true rfl) rfl (sp_171 (h := h4) hG4) (CLd_le (Nat.le_of_ble_eq_true rfl) (ctX11_entersF hSP hGp330 (by omega) (by omega))) ?_
            rintro v331 h331 ⟨rfl, hG331, hF331, t331, s331⟩
            rw [z332] at t331
            rw [z332r] at s331
            replace t331 : gi h331 171 1 = 1 := t331
            change mrow h331 = [(oa + ow)] at s331
            refine x_iload 100 hK rfl rfl (lk1_n (lk1_n l4 (by decide) (Or.inl rfl)) (by decide) (Or.inl rfl)) ?_
            have e9 : mtG (gi h 171 3) r 999 = k := by rw [← sv, u (by omega), if_pos (by rw [we, on]; show _ = oa + ow; omega)]
            exact x_iret hK rfl ⟨by rw [if_pos q0, e9], hG331, (FRM_w (hF4) (r := 54) rfl rfl).trans ((hF331).mono rfl), (FRM_gi hF331 (r := 54) rfl rfl).trans ((gi_k (by decide) _).trans (t4)), by rw [if_pos ⟨q0, by omega⟩, e9, on]; exact s331⟩
      · refine x_aload_n 48 hK rfl rfl l0 ?_
        have z48 : gi h4 171 48 = (bN (gi h 171 3) ((k - 1) - (k - 1) / r).toNat).1 := d8
        have z49 : gi h4 171 49 = (bN (gi h 171 3) ((k - 1) - (k - 1) / r).toNat).2 := d9
        have z3 : gi h4 171 3 = (gi h 171 3) := e3
        refine x_callV 51 hK hmono rfl rfl [.ref 171] [] rfl rfl (Nat.le_of_ble_eq_true rfl) (Nat.le_of_ble_eq_true rfl) rfl (sp_171 (h := h4) hG4) (CLd_le (Nat.le_of_ble_eq_true rfl) (ctX11_boyGoes hSP hG4 (j := ((k - 1) - (k - 1) / r).toNat) (by rw [z3]; exact z48) (by rw [z3]; exact z49))) ?_
        rw [z3]
        rintro v333 h333 ⟨rfl, hG333, hF333, a333, b333⟩
        have we := ws.2 (by omega)
        have bk := bN_b gL.1 (k - k / r).toNat
        rw [we] at bk
        refine x_iload_n 52 hK rfl rfl l2 ?_
        refine x_iload_n 53 hK rfl rfl l3 ?_
        refine x_iadd 54 hK rfl rfl ?_
        refine x_istore_n 55 hK rfl rfl _ rfl ?_
        refine x_iload_n 56 hK rfl rfl lk1_s ?_
        refine x_aload_n 57 hK rfl rfl (lk1_n l0 (by decide) (Or.inl rfl)) ?_
        have g334 := gri (2) (40) hG (a := 171) (r := 54) (k := 3) rfl rfl
        refine x_getE 60 hK rfl (Or.inl rfl) rfl (sp_171 (h := h333) hG333) (e := (gi h 171 3)) ((FRM_gi hF333 (r := 54) rfl rfl).trans (e3)) ?_
        refine x_iconst 61 hK rfl rfl ?_
        refine x_isub 62 hK rfl rfl ?_
        refine x_if_icmp_ne 69 65 hK rfl rfl rfl (by omega) (by omega) (fun c91 => ?_) (fun c91 => ?_)
        · refine x_iload_n 70 hK rfl rfl lk1_s ?_
          refine x_if_ne 77 73 hK rfl rfl rfl (by omega) (fun c93 => ?_) (fun c93 => ?_)
          · refine x_iload_n 78 hK rfl rfl (lk1_n l3 (by decide) (Or.inl rfl)) ?_
            refine x_istore_n 79 hK rfl rfl _ rfl ?_
            refine x_iload_n 80 hK rfl rfl (lk1_n lk1_s (by decide) (Or.inl rfl)) ?_
            refine x_aload_n 81 hK rfl rfl (lk1_n (lk1_n l0 (by decide) (Or.inl rfl)) (by decide) (Or.inl rfl)) ?_
            refine x_getE 84 hK rfl (Or.inl rfl) rfl (sp_171 (h := h333) hG333) (e := (bN (gi h 171 3) (((k - 1) - (k - 1) / r).toNat + 1)).1) (a333) ?_
            refine x_if_icmp_ne 101 87 hK rfl rfl rfl (by omega) (by omega) (fun c99 => ?_) (fun c99 => ?_)
            · refine x_iinc 104 hK rfl rfl (lk1_n (lk1_n l4 (by decide) (Or.inl rfl)) (by decide) (Or.inl rfl)) _ rfl ?_
              refine x_goto 32 hK rfl rfl ?_
              exact ih _ (by omega) (oa + ow) ow (k + 1) _ _ rfl (q0) (by omega) ((by rw [show k + 1 - 1 = k by omega, on])) ((by rw [show k + 1 - 1 = k by omega, on]; show ow = if oa + ow = (gi h 171 3) - 1 then -1 else if oa + ow = 0 then 1 else ow; first | rw [if_pos (by omega)] | rw [if_neg (by omega), if_pos (by omega)] | rw [if_neg (by omega), if_neg (by omega)])) ((FRM_gi hF333 (r := 54) rfl rfl).trans (t4)) ((by rw [show k + 1 - 1 = k by omega, we]; exact a333)) ((by rw [show k + 1 - 1 = k by omega, we]; exact b333)) ((by rw [← sv, u (by omega), if_neg (fun z => by rw [we, on] at z; simp only at z; omega)])) ((mrow_F hF333 rfl rfl).trans (rw4)) (lk1_n (lk1_n (lk1_n l0 (by decide) (Or.inl rfl)) (by decide) (Or.inl rfl)) (by decide) (Or.inl rfl)) (lk1_n (lk1_n (lk1_n l1 (by decide) (Or.inl rfl)) (by decide) (Or.inl rfl)) (by decide) (Or.inl rfl)) (lk1_n (lk1_n lk1_s (by decide) (Or.inl rfl)) (by decide) (Or.inl rfl)) (lk1_n lk1_s (by decide) (Or.inl rfl)) lk1_s (hG333) ((hF4).trans ((hF333).mono rfl))
            · refine x_aload_n 88 hK rfl rfl (lk1_n (lk1_n l0 (by decide) (Or.inl rfl)) (by decide) (Or.inl rfl)) ?_
              refine x_iconst 89 hK rfl rfl ?_
              refine x_putI 92 hK rfl rfl (sp_171 (h := h333) hG333) ?_
              refine x_aload_n 93 hK rfl rfl (lk1_n (lk1_n l0 (by decide) (Or.inl rfl)) (by decide) (Or.inl rfl)) ?_
              refine x_iload_n 94 hK rfl rfl (lk1_n lk1_s (by decide) (Or.inl rfl)) ?_
              refine x_i2l 95 hK rfl rfl (by omega) ?_
              have hGp335 : GD gE gRL sh (wI h333 171 1 0) := GD_w1 (hG333) (r := 54) rfl (by omega) rfl (by omega) (by omega)
              have z337 : gi (wI h333 171 1 0) 171 1 = 0 := gi_same (by omega)
              have z337r : mrow (wI h333 171 1 0) = [] := mrow_0 (gi_same (by omega))
              refine x_callV 98 hK hmono rfl rfl [.ref 171, .long (J (oa + ow))] [] rfl rfl (Nat.le_of_ble_eq_true rfl) (Nat.le_of_ble_eq_true rfl) rfl (sp_171 (h := h333) hG333) (CLd_le (Nat.le_of_ble_eq_true rfl) (ctX11_entersF hSP hGp335 (by omega) (by omega))) ?_
              rintro v336 h336 ⟨rfl, hG336, hF336, t336, s336⟩
              rw [z337] at t336
              rw [z337r] at s336
              replace t336 : gi h336 171 1 = 1 := t336
              change mrow h336 = [(oa + ow)] at s336
              refine x_iload 100 hK rfl rfl (lk1_n (lk1_n l4 (by decide) (Or.inl rfl)) (by decide) (Or.inl rfl)) ?_
              have e9 : mtG (gi h 171 3) r 999 = k := by rw [← sv, u (by omega), if_pos (by rw [we, on]; show _ = oa + ow; omega)]
              exact x_iret hK rfl ⟨by rw [if_pos q0, e9], hG336, (FRM_w ((hF4).trans ((hF333).mono rfl)) (r := 54) rfl rfl).trans ((hF336).mono rfl), (FRM_gi hF336 (r := 54) rfl rfl).trans ((gi_k (by decide) _).trans ((FRM_gi hF333 (r := 54) rfl rfl).trans (t4))), by rw [if_pos ⟨q0, by omega⟩, e9, on]; exact s336⟩
          · refine x_iconst 74 hK rfl rfl ?_
            refine x_goto 78 hK rfl rfl ?_
            refine x_istore_n 79 hK rfl rfl _ rfl ?_
            refine x_iload_n 80 hK rfl rfl (lk1_n lk1_s (by decide) (Or.inl rfl)) ?_
            refine x_aload_n 81 hK rfl rfl (lk1_n (lk1_n l0 (by decide) (Or.inl rfl)) (by decide) (Or.inl rfl)) ?_
            refine x_getE 84 hK rfl (Or.inl rfl) rfl (sp_171 (h := h333) hG333) (e := (bN (gi h 171 3) (((k - 1) - (k - 1) / r).toNat + 1)).1) (a333) ?_
            refine x_if_icmp_ne 101 87 hK rfl rfl rfl (by omega) (by omega) (fun c118 => ?_) (fun c118 => ?_)
            · refine x_iinc 104 hK rfl rfl (lk1_n (lk1_n l4 (by decide) (Or.inl rfl)) (by decide) (Or.inl rfl)) _ rfl ?_
              refine x_goto 32 hK rfl rfl ?_
              exact ih _ (by omega) (oa + ow) 1 (k + 1) _ _ rfl (q0) (by omega) ((by rw [show k + 1 - 1 = k by omega, on])) ((by rw [show k + 1 - 1 = k by omega, on]; show 1 = if oa + ow = (gi h 171 3) - 1 then -1 else if oa + ow = 0 then 1 else ow; first | rw [if_pos (by omega)] | rw [if_neg (by omega), if_pos (by omega)] | rw [if_neg (by omega), if_neg (by omega)])) ((FRM_gi hF333 (r := 54) rfl rfl).trans (t4)) ((by rw [show k + 1 - 1 = k by omega, we]; exact a333)) ((by rw [show k + 1 - 1 = k by omega, we]; exact b333)) ((by rw [← sv, u (by omega), if_neg (fun z => by rw [we, on] at z; simp only at z; omega)])) ((mrow_F hF333 rfl rfl).trans (rw4)) (lk1_n (lk1_n (lk1_n l0 (by decide) (Or.inl rfl)) (by decide) (Or.inl rfl)) (by decide) (Or.inl rfl)) (lk1_n (lk1_n (lk1_n l1 (by decide) (Or.inl rfl)) (by decide) (Or.inl rfl)) (by decide) (Or.inl rfl)) (lk1_n (lk1_n lk1_s (by decide) (Or.inl rfl)) (by decide) (Or.inl rfl)) (lk1_n lk1_s (by decide) (Or.inl rfl)) lk1_s (hG333) ((hF4).trans ((hF333).mono rfl))
            · refine x_aload_n 88 hK rfl rfl (lk1_n (lk1_n l0 (by decide) (Or.inl rfl)) (by decide) (Or.inl rfl)) ?_
              refine x_iconst 89 hK rfl rfl ?_
              refine x_putI 92 hK rfl rfl (sp_171 (h := h333) hG333) ?_
              refine x_aload_n 93 hK rfl rfl (lk1_n (lk1_n l0 (by decide) (Or.inl rfl)) (by decide) (Or.inl rfl)) ?_
              refine x_iload_n 94 hK rfl rfl (lk1_n lk1_s (by decide) (Or.inl rfl)) ?_
              refine x_i2l 95 hK rfl rfl (by omega) ?_
              have hGp338 : GD gE gRL sh (wI h333 171 1 0) := GD_w1 (hG333) (r := 54) rfl (by omega) rfl (by omega) (by omega)
              have z340 : gi (wI h333 171 1 0) 171 1 = 0 := gi_same (by omega)
              have z340r : mrow (wI h333 171 1 0) = [] := mrow_0 (gi_same (by omega))
              refine x_callV 98 hK hmono rfl rfl [.ref 171, .long (J (oa + ow))] [] rfl rfl (Nat.le_of_ble_eq_true rfl) (Nat.le_of_ble_eq_true rfl) rfl (sp_171 (h := h333) hG333) (CLd_le (Nat.le_of_ble_eq_true rfl) (ctX11_entersF hSP hGp338 (by omega) (by omega))) ?_
              rintro v339 h339 ⟨rfl, hG339, hF339, t339, s339⟩
              rw [z340] at t339
              rw [z340r] at s339
              replace t339 : gi h339 171 1 = 1 := t339
              change mrow h339 = [(oa + ow)] at s339
              refine x_iload 100 hK rfl rfl (lk1_n (lk1_n l4 (by decide) (Or.inl rfl)) (by decide) (Or.inl rfl)) ?_
              have e9 : mtG (gi h 171 3) r 999 = k := by rw [← sv, u (by omega), if_pos (by rw [we, on]; show _ = oa + ow; omega)]
              exact x_iret hK rfl ⟨by rw [if_pos q0, e9], hG339, (FRM_w ((hF4).trans ((hF333).mono rfl)) (r := 54) rfl rfl).trans ((hF339).mono rfl), (FRM_gi hF339 (r := 54) rfl rfl).trans ((gi_k (by decide) _).trans ((FRM_gi hF333 (r := 54) rfl rfl).trans (t4))), by rw [if_pos ⟨q0, by omega⟩, e9, on]; exact s339⟩
        · refine x_iconst 66 hK rfl rfl ?_
          refine x_goto 78 hK rfl rfl ?_
          refine x_istore_n 79 hK rfl rfl _ rfl ?_
          refine x_iload_n 80 hK rfl rfl (lk1_n lk1_s (by decide) (Or.inl rfl)) ?_
          refine x_aload_n 81 hK rfl rfl (lk1_n (lk1_n l0 (by decide) (Or.inl rfl)) (by decide) (Or.inl rfl)) ?_
          refine x_getE 84 hK rfl (Or.inl rfl) rfl (sp_171 (h := h333) hG333) (e := (bN (gi h 171 3) (((k - 1) - (k - 1) / r).toNat + 1)).1) (a333) ?_
          refine x_if_icmp_ne 101 87 hK rfl rfl rfl (by omega) (by omega) (fun c137 => ?_) (fun c137 => ?_)
          · refine x_iinc 104 hK rfl rfl (lk1_n (lk1_n l4 (by decide) (Or.inl rfl)) (by decide) (Or.inl rfl)) _ rfl ?_
            refine x_goto 32 hK rfl rfl ?_
            exact ih _ (by omega) (oa + ow) (-1) (k + 1) _ _ rfl (q0) (by omega) ((by rw [show k + 1 - 1 = k by omega, on])) ((by rw [show k + 1 - 1 = k by omega, on]; show (-1) = if oa + ow = (gi h 171 3) - 1 then -1 else if oa + ow = 0 then 1 else ow; first | rw [if_pos (by omega)] | rw [if_neg (by omega), if_pos (by omega)] | rw [if_neg (by omega), if_neg (by omega)])) ((FRM_gi hF333 (r := 54) rfl rfl).trans (t4)) ((by rw [show k + 1 - 1 = k by omega, we]; exact a333)) ((by rw [show k + 1 - 1 = k by omega, we]; exact b333)) ((by rw [← sv, u (by omega), if_neg (fun z => by rw [we, on] at z; simp only at z; omega)])) ((mrow_F hF333 rfl rfl).trans (rw4)) (lk1_n (lk1_n (lk1_n l0 (by decide) (Or.inl rfl)) (by decide) (Or.inl rfl)) (by decide) (Or.inl rfl)) (lk1_n (lk1_n (lk1_n l1 (by decide) (Or.inl rfl)) (by decide) (Or.inl rfl)) (by decide) (Or.inl rfl)) (lk1_n (lk1_n lk1_s (by decide) (Or.inl rfl)) (by decide) (Or.inl rfl)) (lk1_n lk1_s (by decide) (Or.inl rfl)) lk1_s (hG333) ((hF4).trans ((hF333).mono rfl))
          · refine x_aload_n 88 hK rfl rfl (lk1_n (lk1_n l0 (by decide) (Or.inl rfl)) (by decide) (Or.inl rfl)) ?_
            refine x_iconst 89 hK rfl rfl ?_
            refine x_putI 92 hK rfl rfl (sp_171 (h := h333) hG333) ?_
            refine x_aload_n 93 hK rfl rfl (lk1_n (lk1_n l0 (by decide) (Or.inl rfl)) (by decide) (Or.inl rfl)) ?_
            refine x_iload_n 94 hK rfl rfl (lk1_n lk1_s (by decide) (Or.inl rfl)) ?_
            refine x_i2l 95 hK rfl rfl (by omega) ?_
            have hGp341 : GD gE gRL sh (wI h333 171 1 0) := GD_w1 (hG333) (r := 54) rfl (by omega) rfl (by omega) (by omega)
            have z343 : gi (wI h333 171 1 0) 171 1 = 0 := gi_same (by omega)
            have z343r : mrow (wI h333 171 1 0) = [] := mrow_0 (gi_same (by omega))
            refine x_callV 98 hK hmono rfl rfl [.ref 171, .long (J (oa + ow))] [] rfl rfl (Nat.le_of_ble_eq_true rfl) (Nat.le_of_ble_eq_true rfl) rfl (sp_171 (h := h333) hG333) (CLd_le (Nat.le_of_ble_eq_true rfl) (ctX11_entersF hSP hGp341 (by omega) (by omega))) ?_
            rintro v342 h342 ⟨rfl, hG342, hF342, t342, s342⟩
            rw [z343] at t342
            rw [z343r] at s342
            replace t342 : gi h342 171 1 = 1 := t342
            change mrow h342 = [(oa + ow)] at s342
            refine x_iload 100 hK rfl rfl (lk1_n (lk1_n l4 (by decide) (Or.inl rfl)) (by decide) (Or.inl rfl)) ?_
            have e9 : mtG (gi h 171 3) r 999 = k := by rw [← sv, u (by omega), if_pos (by rw [we, on]; show _ = oa + ow; omega)]
            exact x_iret hK rfl ⟨by rw [if_pos q0, e9], hG342, (FRM_w ((hF4).trans ((hF333).mono rfl)) (r := 54) rfl rfl).trans ((hF342).mono rfl), (FRM_gi hF342 (r := 54) rfl rfl).trans ((gi_k (by decide) _).trans ((FRM_gi hF333 (r := 54) rfl rfl).trans (t4))), by rw [if_pos ⟨q0, by omega⟩, e9, on]; exact s342⟩
  refine x_aload_n 1 hK rfl rfl rfl ?_
  refine x_iconst 2 hK rfl rfl ?_
  refine x_putI 5 hK rfl rfl (sp_171 (h := h) hG) ?_
  refine x_iload_n 6 hK rfl rfl rfl ?_
  have hGp344 : GD gE gRL sh (wI h 171 0 0) := GD_w1 (hG) (r := 54) rfl (by omega) rfl (by omega) (by omega)
  refine x_callS 9 hK hmono rfl (Or.inl rfl) rfl [.int (I r)] [] rfl rfl (Nat.le_of_ble_eq_true rfl) (Nat.le_of_ble_eq_true rfl) (CLd_le (Nat.le_of_ble_eq_true rfl) (ctX11_canRest hSP (by omega))) ?_
  rintro v9 h9 ⟨e9, ⟨rfl, i1345, i2345⟩ | ⟨rfl, i1345⟩⟩ <;> rw [e9] <;> clear e9
  · refine x_if_ne 14 12 hK rfl rfl rfl (by omega) (fun _ => ?_) (fun c => by omega)
    refine x_aload_n 15 hK rfl rfl rfl ?_
    have g346 := gri (2) (40) hG (a := 171) (r := 54) (k := 3) rfl rfl
    refine x_getE 18 hK rfl (Or.inl rfl) rfl (sp_171 (h := h) hG) (e := (gi h 171 3)) (gi_k (by decide) _) ?_
    refine x_iconst 19 hK rfl rfl ?_
    refine x_isub 20 hK rfl rfl ?_
    refine x_istore_n 21 hK rfl rfl [(2, .int (I ((gi h 171 3) - 1))), (0, .ref 171), (1, .int (I r))] rfl ?_
    refine x_iconst 22 hK rfl rfl ?_
    refine x_istore_n 23 hK rfl rfl [(3, .int (I (-1))), (2, .int (I ((gi h 171 3) - 1))), (0, .ref 171), (1, .int (I r))] rfl ?_
    refine x_aload_n 24 hK rfl rfl rfl ?_
    refine x_iconst 25 hK rfl rfl ?_
    refine x_iconst 26 hK rfl rfl ?_
    have hGp347 : GD gE gRL sh (wI h 171 0 0) := GD_w1 (hG) (r := 54) rfl (by omega) rfl (by omega) (by omega)
    refine x_callV 29 hK hmono rfl rfl [.ref 171, .int (I 0), .int (I 1)] [] rfl rfl (Nat.le_of_ble_eq_true rfl) (Nat.le_of_ble_eq_true rfl) rfl (sp_171 (h := h) hG) (CLd_le (Nat.le_of_ble_eq_true rfl) (ctX11_boyBegins hSP hGp347)) ?_
    rintro v348 h348 ⟨rfl, hG348, hF348, a348, b348⟩
    refine x_iconst 30 hK rfl rfl ?_
    refine x_istore 32 hK rfl rfl [(4, .int (I 1)), (3, .int (I (-1))), (2, .int (I ((gi h 171 3) - 1))), (0, .ref 171), (1, .int (I r))] rfl ?_
    exact loop _ ((gi h 171 3) - 1) (-1) 1 _ _ rfl (by omega) (by omega) ((by rw [show (gi h 171 3) - 1 + (1 - 1) = (gi h 171 3) - 1 by omega, bN_o gL.1])) ((by rw [show (gi h 171 3) - 1 + (1 - 1) = (gi h 171 3) - 1 by omega, bN_o gL.1])) ((FRM_gi hF348 (r := 54) rfl rfl).trans (gi_same (by omega))) ((by rw [show ((1 : Int) - 1 - (1 - 1) / r).toNat = 0 by rw [show (1 : Int) - 1 = 0 from rfl, Int.zero_ediv]; rfl]; exact a348)) ((by rw [show ((1 : Int) - 1 - (1 - 1) / r).toNat = 0 by rw [show (1 : Int) - 1 = 0 from rfl, Int.zero_ediv]; rfl]; exact b348)) (rfl) ((mrow_F hF348 rfl rfl).trans (mrow_k (by decide))) rfl rfl rfl rfl rfl (hG348) ((FRM_w ((FRM.rf : FRM gRL [(0, 54, 0, 0), (0, 54, 1, 1), (0, 54, 48, 49), (1, 55, 0, 39)] h h)) (r := 54) rfl rfl).trans ((hF348).mono rfl))
  · refine x_if_ne 14 12 hK rfl rfl rfl (by omega) (fun c => by omega) (fun _ => ?_)
    refine x_iconst 13 hK rfl rfl ?_
    exact x_iret hK rfl ⟨by rw [if_neg (by omega)], GD_w1 (hG) (r := 54) rfl (by omega) rfl (by omega) (by omega), FRM_w ((FRM.rf : FRM gRL [(0, 54, 0, 0), (0, 54, 1, 1), (0, 54, 48, 49), (1, 55, 0, 39)] h h)) (r := 54) rfl rfl, gi_same (by omega), by rw [if_neg (by omega)]; exact mrow_k (by decide)⟩
end
section
/-! ORDERED: the class's answer is the reference's -/
theorem cwF_ext {f g : Int → Int} {last : Int} (h : ∀ k, 0 ≤ k → k ≤ last → f k = g k) (h0 : 0 ≤ last) : ∀ (d : Nat) (l : Int), (d : Int) ≤ last → cwF f last d l = cwF g last d l
  | 0, l, _ => by
    show (if f last = -1 ∨ f last = l then (1 : Int) else 0) = if g last = -1 ∨ g last = l then 1 else 0
    rw [h last h0 (Int.le_refl _)]
  | d + 1, l, hd => by
    have ih := cwF_ext h h0 d
    show (if f (last - (d + 1)) = -1 ∨ f (last - (d + 1)) = l then s3 (cwF f last d) l 2 else 0) = if g (last - (d + 1)) = -1 ∨ g (last - (d + 1)) = l then s3 (cwF g last d) l 2 else 0
    rw [h (last - (d + 1)) (by omega) (by omega), s3_ext fun q _ _ => ih q (by omega)]
theorem snF_none {st la : Nat → Int} {k : Int} : ∀ n : Nat, (∀ i, i < n → st i ≠ k) → snF st la k n = -1
  | 0, _ => rfl
  | n + 1, h => by
    show (if st n = k then la n else snF st la k n) = -1
    rw [if_neg (h n (by omega))]
    exact snF_none n fun i hi => h i (by omega)
theorem snF_hit {st la : Nat → Int} {k : Int} : ∀ n : Nat, (∀ i, i < n → 0 ≤ la i) → (∃ i, i < n ∧ st i = k) → 0 ≤ snF st la k n
  | 0, _, ⟨i, hi, _⟩ => absurd hi (by omega)
  | n + 1, h, ⟨i, hi, e⟩ => by
    show 0 ≤ if st n = k then la n else snF st la k n
    by_cases c : st n = k
    · rw [if_pos c]; exact h n (by omega)
    · rw [if_neg c]
      exact snF_hit n (fun j hj => h j (by omega)) ⟨i, by have : i ≠ n := fun z => c (z ▸ e); omega, e⟩
theorem lsF_le {st : Nat → Int} : ∀ n i : Nat, i < n → st i ≤ lsF st n
  | 0, i, hi => absurd hi (by omega)
  | n + 1, i, hi => by
    show st i ≤ max (lsF st n) (st n)
    by_cases c : i = n
    · subst c; omega
    · have := lsF_le (st := st) n i (by omega); omega
theorem lsF_at {st : Nat → Int} : ∀ n : Nat, 0 < n → (∀ i, i < n → 0 ≤ st i) → ∃ i, i < n ∧ st i = lsF st n
  | 0, h, _ => absurd h (by omega)
  | n + 1, _, h => by
    show ∃ i, i < n + 1 ∧ st i = max (lsF st n) (st n)
    by_cases c : 0 < n ∧ st n < lsF st n
    · obtain ⟨i, hi, e⟩ := lsF_at n c.1 fun i hi => h i (by omega)
      exact ⟨i, by omega, by omega⟩
    · refine ⟨n, by omega, ?_⟩
      have := h n (by omega)
      by_cases d : 0 < n
      · omega
      · obtain rfl : n = 0 := by omega
        show st 0 = max (-1) (st 0)
        omega
theorem ls_lc {st la f : Nat → Int} {n : Nat} (h0 : 0 < n) (hs : ∀ i, i < n → 0 ≤ st i ∧ st i ≤ 24) (hl : ∀ i, i < n → 0 ≤ la i) (hf : ∀ k : Nat, k ≤ 24 → f k = snF st la k n) : lcF f 24 = lsF st n := by
  obtain ⟨-, b2, b3⟩ := lsF_b n hs
  have b3 := b3 h0
  refine lcF_eq b3 ?_ 24 b2 fun k a b => ?_
  · rw [hf _ (by omega), show (((lsF st n).toNat : Nat) : Int) = lsF st n by omega]
    have := snF_hit n hl (lsF_at n h0 fun i hi => (hs i hi).1)
    omega
  · rw [hf k b]
    exact snF_none n fun i hi z => by have := lsF_le (st := st) n i hi; omega
theorem ord_eq {sh : List (Nat × Nat)} {h : aH} (hG : GD gE gRL sh h) (hc : ∀ k : Nat, k ≤ 24 → gi h 134 k = snF (gi h 193) (gi h 194) k (gi h 171 42).toNat) (hn : 0 < gi h 171 42) : sMn (fun k => snF (gi h 193) (gi h 194) k (gi h 171 42).toNat) (lsF (gi h 193) (gi h 171 42).toNat) (lsF (gi h 193) (gi h 171 42).toNat).toNat 4 = min 1000000 (cwF (fun k : Int => gi h 134 k.toNat) (lcF (gi h 134) 24) (lcF (gi h 134) 24).toNat 4) := by
  have gn := gri 0 12 hG (a := 171) (r := 54) (k := 42) rfl rfl
  have hs : ∀ i, i < (gi h 171 42).toNat → 0 ≤ gi h 193 i ∧ gi h 193 i ≤ 24 := fun i hi => grn 0 24 hG (a := 193) (r := 76) rfl rfl (by omega)
  have hl : ∀ i, i < (gi h 171 42).toNat → 0 ≤ gi h 194 i ∧ gi h 194 i ≤ 8 := fun i hi => grn 0 8 hG (a := 194) (r := 77) rfl rfl (by omega)
  obtain ⟨-, b2, b3⟩ := lsF_b (gi h 171 42).toNat hs
  have b3 := b3 (by omega)
  rw [ls_lc (by omega) hs (fun i hi => (hl i hi).1) hc]
  rw [cw_mn (f := fun k => snF (gi h 193) (gi h 194) k (gi h 171 42).toNat) (fun k => (snF_b _ hl).1) _ _ _ (Or.inr ⟨by omega, rfl⟩)]
  congr 1
  refine cwF_ext (fun k k0 k1 => ?_) b3 _ _ (by omega)
  show snF (gi h 193) (gi h 194) k (gi h 171 42).toNat = gi h 134 k.toNat
  rw [hc _ (by omega), show ((k.toNat : Nat) : Int) = k by omega]
end
section
/-! SHIPS AND TEXTS, the same of both -/
theorem mpL_eq {h h' : aH} {n : Nat} (h3 : ∀ j, j < n → gi h' 173 j = gi h 173 j ∧ gi h' 174 j = gi h 174 j) : mpL h' n = mpL h n := by
  unfold mpL
  exact List.map_congr_left fun j hj => by rw [(h3 j (List.mem_range.mp hj)).1, (h3 j (List.mem_range.mp hj)).2]
theorem txF_eq {t t' : Nat → Int} {n m : Int} (h : ∀ j : Nat, (j : Int) < n → t j = t' j) : txF t (min n m) = txF t' (min n m) := funext fun a => by
  unfold txF
  split
  · exact h _ (by omega)
  · rfl
end
section
/-! POSTS, ROCKS as the reference tells them -/
set_option maxRecDepth 4000 in
theorem ctX11_thrown {SP : CT} (hSP : MONO SP) {sh : List (Nat × Nat)} {h : aH} (hG : GD gE gRL sh h) : CLd SP 1 mX11_thrown [.ref 171] h 0 0 (fun rv h' => h' = h ∧ rv = some (.int (I (gi h 171 0)))) := by
  refine x_met _ rfl (Nat.le_of_ble_eq_true rfl) (fun K hK => ?_)
  have hmono := MONO_CLd hSP 0
  refine x_aload_n 1 hK rfl rfl rfl ?_
  have g64 := gri (0) (1) hG (a := 171) (r := 54) (k := 0) rfl rfl
  refine x_getE 4 hK rfl (Or.inl rfl) rfl (sp_171 (h := h) hG) (e := (gi h 171 0)) (rfl) ?_
  exact x_iret hK rfl ⟨rfl, by rw [show gi h 171 0 = (gi h 171 0) from rfl]⟩
end
section
/-! THE RULE: two ways of reading, the same codes -/
/-- where the class is: place, what came, what waits, depth, compared, wants a thing -/
noncomputable abbrev RdS := Int × List Int × List Int × Nat × (Nat → Bool) × Bool
noncomputable def rkI (s : Int) : Nat := if s = 60 ∨ s = 62 ∨ s = 61 then 1 else if s = 43 ∨ s = 45 then 2 else if s = 42 ∨ s = 47 then 3 else if s = 256 then 4 else 0
noncomputable def popS (r : Nat) : List Int → List Int
  | [] => []
  | s :: t => if r ≤ rkI s then s :: popS r t else []
noncomputable def rstS (r : Nat) : List Int → List Int
  | [] => []
  | s :: t => if r ≤ rkI s then rstS r t else s :: t
noncomputable def ngs (l : List Int) : List Int := l.map fun s => -s
noncomputable abbrev askI (s : Int) : Prop := s = 108 ∨ s = 112 ∨ s = 120 ∨ s = 110
noncomputable def upB (c : Nat → Bool) (d : Nat) (v : Bool) (i : Nat) : Bool := if i = d then v else c i
/-- a thing is taken -/
noncomputable def mthg (f : Int → Int) (p : Int) (o s : List Int) (d : Nat) (c : Nat → Bool) : Option RdS :=
  if 48 ≤ f p ∧ f p ≤ 57 then some ((nmF f 3 p).2, o ++ [(nmF f 3 p).1], s, d, c, false)
  else if askI (f p) then some (p + 1, o ++ [-(f p)], s, d, c, false)
  else if f p = 45 then some (p + 1, o, 256 :: s, d, c, true)
  else if f p = 40 ∧ d < 4 then some (p + 1, o, 40 :: s, d + 1, upB c (d + 1) false, true) else none
/-- an operator, or ) -/
noncomputable def mopr (f : Int → Int) (p : Int) (o s : List Int) (d : Nat) (c : Nat → Bool) : Option RdS :=
  if f p = 41 ∧ 0 < d then some (p + 1, o ++ ngs (popS 1 s), (rstS 1 s).tail, d - 1, c, false)
  else if rkI (f p) = 0 ∨ (rkI (f p) = 1 ∧ c d = true) then none
  else some (p + 1, o ++ ngs (popS (rkI (f p)) s), f p :: rstS (rkI (f p)) s, d, if rkI (f p) = 1 then upB c d true else c, true)
noncomputable def mstp (f : Int → Int) (x : RdS) : Option RdS := if x.2.2.2.2.2 = true then mthg f x.1 x.2.1 x.2.2.1 x.2.2.2.1 x.2.2.2.2.1 else mopr f x.1 x.2.1 x.2.2.1 x.2.2.2.1 x.2.2.2.2.1
noncomputable def mitr (f : Int → Int) : Nat → RdS → Option RdS
  | 0, x => some x
  | n + 1, x => (mstp f x).bind (mitr f n)
noncomputable def GoR (f : Int → Int) (x y : RdS) : Prop := ∃ n, mitr f n x = some y
theorem GoR.rf {f : Int → Int} (x : RdS) : GoR f x x := ⟨0, rfl⟩
theorem GoR.st {f : Int → Int} {x y z : RdS} (e : mstp f x = some y) (h : GoR f y z) : GoR f x z := by
  obtain ⟨n, h⟩ := h
  refine ⟨n + 1, ?_⟩
  show (mstp f x).bind (mitr f n) = _
  rw [e]
  exact h
theorem mitr_tr {f : Int → Int} {z : RdS} : ∀ (n : Nat) {x y : RdS}, mitr f n x = some y → GoR f y z → GoR f x z
  | 0, x, y, h, g => by cases h; exact g
  | n + 1, x, y, h, g => by
    have h : (mstp f x).bind (mitr f n) = some y := h
    cases e : mstp f x with
    | none => rw [e] at h; cases h
    | some w =>
      rw [e] at h
      exact GoR.st e (mitr_tr n h g)
theorem GoR.tr {f : Int → Int} {x y z : RdS} (h : GoR f x y) (g : GoR f y z) : GoR f x z := by
  obtain ⟨n, h⟩ := h
  exact mitr_tr n h g
theorem GoR.one {f : Int → Int} {x y : RdS} (e : mstp f x = some y) : GoR f x y := .st e (.rf _)
theorem mitr_det {f : Int → Int} {y z : RdS} (hy : mstp f y = none) (hz : mstp f z = none) : ∀ (n m : Nat) {x : RdS}, mitr f n x = some y → mitr f m x = some z → y = z
  | 0, 0, x, h, g => by cases h; cases g; rfl
  | 0, m + 1, x, h, g => by
    cases h
    have g : (mstp f y).bind (mitr f m) = some z := g
    rw [hy] at g; cases g
  | n + 1, 0, x, h, g => by
    cases g
    have h : (mstp f z).bind (mitr f n) = some y := h
    rw [hz] at h; cases h
  | n + 1, m + 1, x, h, g => by
    have h : (mstp f x).bind (mitr f n) = some y := h
    have g : (mstp f x).bind (mitr f m) = some z := g
    cases e : mstp f x with
    | none => rw [e] at h; cases h
    | some w =>
      rw [e] at h g
      exact mitr_det hy hz n m h g
/-- from here the end is the same, whichever way -/
theorem GoR.det {f : Int → Int} {x y z : RdS} (h : GoR f x y) (hy : mstp f y = none) (g : GoR f x z) (hz : mstp f z = none) : y = z := by
  obtain ⟨n, h⟩ := h
  obtain ⟨m, g⟩ := g
  exact mitr_det hy hz n m h g
/-- how the reference reads: 3 a thing, 0 .. 2 what binds so much, 4 .. 6 its loop; codes as the class has them -/
noncomputable def PRc (f : Int → Int) (R : Nat → Nat → Int → Bool → Int → List Int → Prop) : Prop :=
  (∀ (d : Nat) (p q : Int) (ok : Bool) (L : List Int), f p = 45 → R 3 d (p + 1) ok q L → R 3 d p ok q (L ++ [-256])) ∧
  (∀ (d : Nat) (p : Int), (48 ≤ f p ∧ f p ≤ 57) → R 3 d p true (nmF f 3 p).2 [(nmF f 3 p).1]) ∧
  (∀ (d : Nat) (p : Int), askI (f p) → R 3 d p true (p + 1) [-(f p)]) ∧
  (∀ (d : Nat) (p : Int), f p ≠ 45 → ¬ (48 ≤ f p ∧ f p ≤ 57) → ¬ askI (f p) → ¬ (f p = 40 ∧ d < 4) → R 3 d p false p []) ∧
  (∀ (d : Nat) (p q : Int) (L : List Int), f p = 40 → d < 4 → R 0 (d + 1) (p + 1) false q L → R 3 d p false q L) ∧
  (∀ (d : Nat) (p q : Int) (L : List Int), f p = 40 → d < 4 → R 0 (d + 1) (p + 1) true q L → f q ≠ 41 → R 3 d p false q L) ∧
  (∀ (d : Nat) (p q : Int) (L : List Int), f p = 40 → d < 4 → R 0 (d + 1) (p + 1) true q L → f q = 41 → R 3 d p true (q + 1) L) ∧
  (∀ (r d : Nat) (p q : Int) (L : List Int), r < 3 → R (r + 1) d p false q L → R r d p false q L) ∧
  (∀ (r d : Nat) (p q q' : Int) (ok : Bool) (L L' : List Int), r < 3 → R (r + 1) d p true q L → R (4 + r) d q ok q' L' → R r d p ok q' (L ++ L')) ∧
  (∀ (r d : Nat) (p : Int), r < 3 → rkI (f p) ≠ r + 1 → R (4 + r) d p true p []) ∧
  (∀ (r d : Nat) (p q : Int) (L : List Int), r < 3 → rkI (f p) = r + 1 → R (r + 1) d (p + 1) false q L → R (4 + r) d p false q L) ∧
  (∀ (d : Nat) (p q : Int) (L : List Int), rkI (f p) = 1 → R 1 d (p + 1) true q L → R 4 d p true q (L ++ [-(f p)])) ∧
  (∀ (r d : Nat) (p q q' : Int) (ok : Bool) (L L' : List Int), 1 ≤ r → r < 3 → rkI (f p) = r + 1 → R (r + 1) d (p + 1) true q L → R (4 + r) d q ok q' L' → R (4 + r) d p ok q' (L ++ [-(f p)] ++ L'))
noncomputable def PR (f : Int → Int) (m d : Nat) (p : Int) (ok : Bool) (q : Int) (L : List Int) : Prop := ∀ R : Nat → Nat → Int → Bool → Int → List Int → Prop, PRc f R → R m d p ok q L
theorem PR_neg {f : Int → Int} {d : Nat} {p q : Int} {ok : Bool} {L : List Int} (h0 : f p = 45) (h1 : PR f 3 d (p + 1) ok q L) : PR f 3 d p ok q (L ++ [-256]) := fun R hR => hR.1 _ _ _ _ _ h0 (h1 R hR)
theorem PR_num {f : Int → Int} {d : Nat} {p : Int} (h0 : (48 ≤ f p ∧ f p ≤ 57)) : PR f 3 d p true (nmF f 3 p).2 [(nmF f 3 p).1] := fun R hR => hR.2.1 _ _ h0
theorem PR_ask {f : Int → Int} {d : Nat} {p : Int} (h0 : askI (f p)) : PR f 3 d p true (p + 1) [-(f p)] := fun R hR => hR.2.2.1 _ _ h0
theorem PR_no {f : Int → Int} {d : Nat} {p : Int} (h0 : f p ≠ 45) (h1 : ¬ (48 ≤ f p ∧ f p ≤ 57)) (h2 : ¬ askI (f p)) (h3 : ¬ (f p = 40 ∧ d < 4)) : PR f 3 d p false p [] := fun R hR => hR.2.2.2.1 _ _ h0 h1 h2 h3
theorem PR_brF {f : Int → Int} {d : Nat} {p q : Int} {L : List Int} (h0 : f p = 40) (h1 : d < 4) (h2 : PR f 0 (d + 1) (p + 1) false q L) : PR f 3 d p false q L := fun R hR => hR.2.2.2.2.1 _ _ _ _ h0 h1 (h2 R hR)
theorem PR_brN {f : Int → Int} {d : Nat} {p q : Int} {L : List Int} (h0 : f p = 40) (h1 : d < 4) (h2 : PR f 0 (d + 1) (p + 1) true q L) (h3 : f q ≠ 41) : PR f 3 d p false q L := fun R hR => hR.2.2.2.2.2.1 _ _ _ _ h0 h1 (h2 R hR) h3
theorem PR_brT {f : Int → Int} {d : Nat} {p q : Int} {L : List Int} (h0 : f p = 40) (h1 : d < 4) (h2 : PR f 0 (d + 1) (p + 1) true q L) (h3 : f q = 41) : PR f 3 d p true (q + 1) L := fun R hR => hR.2.2.2.2.2.2.1 _ _ _ _ h0 h1 (h2 R hR) h3
theorem PR_rkF {f : Int → Int} {r d : Nat} {p q : Int} {L : List Int} (h0 : r < 3) (h1 : PR f (r + 1) d p false q L) : PR f r d p false q L := fun R hR => hR.2.2.2.2.2.2.2.1 _ _ _ _ _ h0 (h1 R hR)
theorem PR_rkT {f : Int → Int} {r d : Nat} {p q q' : Int} {ok : Bool} {L L' : List Int} (h0 : r < 3) (h1 : PR f (r + 1) d p true q L) (h2 : PR f (4 + r) d q ok q' L') : PR f r d p ok q' (L ++ L') := fun R hR => hR.2.2.2.2.2.2.2.2.1 _ _ _ _ _ _ _ _ h0 (h1 R hR) (h2 R hR)
theorem PR_lpE {f : Int → Int} {r d : Nat} {p : Int} (h0 : r < 3) (h1 : rkI (f p) ≠ r + 1) : PR f (4 + r) d p true p [] := fun R hR => hR.2.2.2.2.2.2.2.2.2.1 _ _ _ h0 h1
theorem PR_lpF {f : Int → Int} {r d : Nat} {p q : Int} {L : List Int} (h0 : r < 3) (h1 : rkI (f p) = r + 1) (h2 : PR f (r + 1) d (p + 1) false q L) : PR f (4 + r) d p false q L := fun R hR => hR.2.2.2.2.2.2.2.2.2.2.1 _ _ _ _ _ h0 h1 (h2 R hR)
theorem PR_lpC {f : Int → Int} {d : Nat} {p q : Int} {L : List Int} (h0 : rkI (f p) = 1) (h1 : PR f 1 d (p + 1) true q L) : PR f 4 d p true q (L ++ [-(f p)]) := fun R hR => hR.2.2.2.2.2.2.2.2.2.2.2.1 _ _ _ _ h0 (h1 R hR)
theorem PR_lpM {f : Int → Int} {r d : Nat} {p q q' : Int} {ok : Bool} {L L' : List Int} (h0 : 1 ≤ r) (h1 : r < 3) (h2 : rkI (f p) = r + 1) (h3 : PR f (r + 1) d (p + 1) true q L) (h4 : PR f (4 + r) d q ok q' L') : PR f (4 + r) d p ok q' (L ++ [-(f p)] ++ L') := fun R hR => hR.2.2.2.2.2.2.2.2.2.2.2.2 _ _ _ _ _ _ _ _ h0 h1 h2 (h3 R hR) (h4 R hR)
theorem ngs_a (a b : List Int) : ngs (a ++ b) = ngs a ++ ngs b := List.map_append
theorem pop_a {r : Nat} {s : List Int} (hs : ∀ x, s.head? = some x → rkI x < r) : ∀ {pd : List Int}, (∀ x ∈ pd, r ≤ rkI x) → popS r (pd ++ s) = pd ∧ rstS r (pd ++ s) = s
  | [], _ => by
    cases s with
    | nil => exact ⟨rfl, rfl⟩
    | cons x t =>
      have := hs x rfl
      constructor
      · show (if r ≤ rkI x then _ else []) = []
        rw [if_neg (by omega)]
      · show (if r ≤ rkI x then _ else x :: t) = x :: t
        rw [if_neg (by omega)]
  | y :: pd, h => by
    have hy := h y List.mem_cons_self
    obtain ⟨i1, i2⟩ := pop_a hs (pd := pd) fun x hx => h x (List.mem_cons_of_mem _ hx)
    constructor
    · show (if r ≤ rkI y then y :: popS r (pd ++ s) else []) = _
      rw [if_pos hy, i1]
    · show (if r ≤ rkI y then rstS r (pd ++ s) else _) = _
      rw [if_pos hy, i2]
noncomputable def blkS (s : List Int) (r : Nat) : Prop := ∀ x, s.head? = some x → rkI x ≤ r
/-- it ends where it can't go on -/
noncomputable def FLR (f : Int → Int) (x : RdS) (q : Int) : Prop := ∃ y, GoR f x y ∧ mstp f y = none ∧ y.1 = q ∧ (y.2.2.2.2.2 = true ∨ 0 < y.2.2.2.1)
theorem FLR.pre {f : Int → Int} {x y : RdS} {q : Int} (g : GoR f x y) (h : FLR f y q) : FLR f x q := by
  obtain ⟨z, h1, h2⟩ := h
  exact ⟨z, g.tr h1, h2⟩
/-- what is so of a thing that is taken -/
noncomputable def SpT (f : Int → Int) (d : Nat) (p : Int) (ok : Bool) (q : Int) (L : List Int) : Prop := ∀ (o s : List Int) (c : Nat → Bool), (ok = true → ∃ (o' pd : List Int) (c' : Nat → Bool), GoR f (p, o, s, d, c, true) (q, o', pd ++ s, d, c', false) ∧ o' ++ ngs pd = o ++ L ∧ (∀ x ∈ pd, 4 ≤ rkI x) ∧ ∀ i, i ≤ d → c' i = c i) ∧ (ok = false → FLR f (p, o, s, d, c, true) q)
noncomputable def nxR (f : Int → Int) (r d : Nat) (q : Int) (c : Nat → Bool) : Prop := (∀ j, r ≤ j → j < 3 → rkI (f q) ≠ j + 1) ∨ (r = 0 ∧ c d = true ∧ rkI (f q) ≠ 2 ∧ rkI (f q) ≠ 3)
noncomputable def SpR (f : Int → Int) (r d : Nat) (p : Int) (ok : Bool) (q : Int) (L : List Int) : Prop := ∀ (o s : List Int) (c : Nat → Bool), blkS s r → (r = 0 → c d = false) → (ok = true → ∃ (o' pd : List Int) (c' : Nat → Bool), GoR f (p, o, s, d, c, true) (q, o', pd ++ s, d, c', false) ∧ o' ++ ngs pd = o ++ L ∧ (∀ x ∈ pd, r + 1 ≤ rkI x) ∧ (∀ i, i < d → c' i = c i) ∧ (1 ≤ r → c' d = c d) ∧ nxR f r d q c') ∧ (ok = false → FLR f (p, o, s, d, c, true) q)
noncomputable def SpL (f : Int → Int) (r d : Nat) (p : Int) (ok : Bool) (q : Int) (L : List Int) : Prop := ∀ (o s p0 : List Int) (c : Nat → Bool), blkS s r → (r = 0 → c d = false) → (∀ x ∈ p0, r + 1 ≤ rkI x) → (∀ j, r < j → j < 3 → rkI (f p) ≠ j + 1) → (ok = true → ∃ (o' pd : List Int) (c' : Nat → Bool), GoR f (p, o, p0 ++ s, d, c, false) (q, o', pd ++ s, d, c', false) ∧ o' ++ ngs pd = o ++ ngs p0 ++ L ∧ (∀ x ∈ pd, r + 1 ≤ rkI x) ∧ (∀ i, i < d → c' i = c i) ∧ (1 ≤ r → c' d = c d) ∧ nxR f r d q c') ∧ (ok = false → FLR f (p, o, p0 ++ s, d, c, false) q)
/-- what binds more, or a thing, as an operand -/
noncomputable def SpU (f : Int → Int) (r d : Nat) (p : Int) (ok : Bool) (q : Int) (L : List Int) : Prop := ∀ (o s : List Int) (c : Nat → Bool), blkS s (r + 1) → (ok = true → ∃ (o' pd : List Int) (c' : Nat → Bool), GoR f (p, o, s, d, c, true) (q, o', pd ++ s, d, c', false) ∧ o' ++ ngs pd = o ++ L ∧ (∀ x ∈ pd, r + 2 ≤ rkI x) ∧ (∀ i, i ≤ d → c' i = c i) ∧ (∀ j, r < j → j < 3 → rkI (f q) ≠ j + 1)) ∧ (ok = false → FLR f (p, o, s, d, c, true) q)
theorem SpU_of {f : Int → Int} {r d : Nat} {p : Int} {ok : Bool} {q : Int} {L : List Int} (hr : r < 3) (ht : r + 1 = 3 → SpT f d p ok q L) (hx : r + 1 < 3 → SpR f (r + 1) d p ok q L) : SpU f r d p ok q L := by
  intro o s c hb
  by_cases e : r + 1 = 3
  · obtain ⟨a1, a2⟩ := ht e o s c
    refine ⟨fun z => ?_, a2⟩
    obtain ⟨o', pd, c', g, g1, g2, g3⟩ := a1 z
    exact ⟨o', pd, c', g, g1, fun x hx => by have := g2 x hx; omega, g3, fun j h1 h2 => by omega⟩
  · obtain ⟨a1, a2⟩ := hx (by omega) o s c hb (fun z => by omega)
    refine ⟨fun z => ?_, a2⟩
    obtain ⟨o', pd, c', g, g1, g2, g3, g4, g5⟩ := a1 z
    refine ⟨o', pd, c', g, g1, fun x hx => by have := g2 x hx; omega, fun i hi => ?_, ?_⟩
    · by_cases e2 : i = d
      · rw [e2]; exact g4 (by omega)
      · exact g3 i (by omega)
    · rcases g5 with g5 | g5
      · exact fun j h1 h2 => g5 j (by omega) h2
      · exact absurd g5.1 (by omega)
/-- an operator is taken -/
theorem op_st {f : Int → Int} {r d : Nat} {p : Int} {o s p0 : List Int} {c : Nat → Bool} (hr : r < 3) (hk : rkI (f p) = r + 1) (hb : blkS s r) (hc : r = 0 → c d = false) (hp : ∀ x ∈ p0, r + 1 ≤ rkI x) : mstp f (p, o, p0 ++ s, d, c, false) = some (p + 1, o ++ ngs p0, f p :: s, d, if r = 0 then upB c d true else c, true) := by
  have hx := pop_a (r := r + 1) (s := s) (fun x hx => by have := hb x hx; omega) hp
  show mopr f p o (p0 ++ s) d c = _
  unfold mopr
  have h41 : f p ≠ 41 := fun z => by rw [z] at hk; have : rkI 41 = 0 := rfl; omega
  rw [if_neg (fun z => h41 z.1), hk, if_neg (fun z => by
    rcases z with z | z
    · omega
    · have := hc (by omega); rw [this] at z; exact absurd z.2 (by decide)), hx.1, hx.2]
  by_cases e : r = 0
  · rw [if_pos (by omega), if_pos e]
  · rw [if_neg (by omega), if_neg e]
theorem rk_le {f : Int → Int} {q : Int} (hf : ∀ p, f p ≤ 255) : rkI (f q) ≤ 3 := by
  have := hf q
  unfold rkI
  split
  · omega
  · split
    · omega
    · split
      · omega
      · rw [if_neg (by omega)]; omega
theorem nx_none {f : Int → Int} {d : Nat} {q : Int} {o s : List Int} {c : Nat → Bool} (hf : ∀ p, f p ≤ 255) (h : nxR f 0 d q c) (h41 : f q ≠ 41 ∨ d = 0) : mstp f (q, o, s, d, c, false) = none := by
  show mopr f q o s d c = none
  unfold mopr
  have := rk_le (q := q) hf
  rw [if_neg (fun z => by rcases h41 with h | h; exact h z.1; omega), if_pos]
  rcases h with h | h
  · have a := h 0 (by omega) (by omega)
    have b := h 1 (by omega) (by omega)
    have e := h 2 (by omega) (by omega)
    omega
  · by_cases z : rkI (f q) = 0
    · exact Or.inl z
    · exact Or.inr ⟨by omega, h.2.1⟩
theorem pr_sp {f : Int → Int} (hf : ∀ p, f p ≤ 255) {m d : Nat} {p q : Int} {ok : Bool} {L : List Int} (h : PR f m d p ok q L) : (m = 3 → SpT f d p ok q L) ∧ (m < 3 → SpR f m d p ok q L) ∧ (∀ r, m = 4 + r → r < 3 → SpL f r d p ok q L) := by
  refine h (fun m d p ok q L => (m = 3 → SpT f d p ok q L) ∧ (m < 3 → SpR f m d p ok q L) ∧ (∀ r, m = 4 + r → r < 3 → SpL f r d p ok q L)) ⟨?_, ?_, ?_, ?_, ?_, ?_, ?_, ?_, ?_, ?_, ?_, ?_, ?_⟩
  · intro d p q ok L h1 ih
    refine ⟨fun _ o s c => ?_, fun z => absurd z (by omega), fun r z => absurd z (by omega)⟩
    have e1 : mstp f (p, o, s, d, c, true) = some (p + 1, o, 256 :: s, d, c, true) := by
      show mthg f p o s d c = _
      unfold mthg
      rw [if_neg (by omega), if_neg (by unfold askI; omega), if_pos h1]
    obtain ⟨a1, a2⟩ := ih.1 rfl o (256 :: s) c
    refine ⟨fun z => ?_, fun z => (a2 z).pre (.one e1)⟩
    obtain ⟨o', pd, c', g, g1, g2, g3⟩ := a1 z
    refine ⟨o', pd ++ [256], c', ?_, ?_, fun x hx => ?_, g3⟩
    · rw [List.append_assoc]; exact .st e1 g
    · rw [ngs_a, ← List.append_assoc, g1, List.append_assoc]; rfl
    · rcases List.mem_append.mp hx with hx | hx
      · exact g2 x hx
      · rw [List.mem_singleton.mp hx]; decide
  · intro d p h1
    refine ⟨fun _ o s c => ⟨fun _ => ⟨_, [], c, .one ?_, List.append_nil _, fun x hx => absurd hx List.not_mem_nil, fun _ _ => rfl⟩, nofun⟩, fun z => absurd z (by omega), fun r z => absurd z (by omega)⟩
    show mthg f p o s d c = _
    unfold mthg
    rw [if_pos h1]
    rfl
  · intro d p h1
    refine ⟨fun _ o s c => ⟨fun _ => ⟨_, [], c, .one ?_, List.append_nil _, fun x hx => absurd hx List.not_mem_nil, fun _ _ => rfl⟩, nofun⟩, fun z => absurd z (by omega), fun r z => absurd z (by omega)⟩
    show mthg f p o s d c = _
    unfold mthg
    rw [if_neg (by unfold askI at h1; omega), if_pos h1]
    rfl
  · intro d p h1 h2 h3 h4
    refine ⟨fun _ o s c => ⟨nofun, fun _ => ⟨_, .rf _, ?_, rfl, Or.inl rfl⟩⟩, fun z => absurd z (by omega), fun r z => absurd z (by omega)⟩
    show mthg f p o s d c = _
    unfold mthg
    rw [if_neg h2, if_neg h3, if_neg h1, if_neg h4]
  · intro d p q L h1 h2 ih
    refine ⟨fun _ o s c => ⟨nofun, fun _ => ?_⟩, fun z => absurd z (by omega), fun r z => absurd z (by omega)⟩
    have e1 : mstp f (p, o, s, d, c, true) = some (p + 1, o, 40 :: s, d + 1, upB c (d + 1) false, true) := by
      show mthg f p o s d c = _
      unfold mthg
      rw [if_neg (by omega), if_neg (by unfold askI; omega), if_neg (by omega), if_pos ⟨h1, h2⟩]
    exact ((ih.2.1 (by omega) o (40 :: s) (upB c (d + 1) false) (fun x hx => by cases hx; exact Nat.le_refl 0) (fun _ => if_pos rfl)).2 rfl).pre (.one e1)
  · intro d p q L h1 h2 ih h3
    refine ⟨fun _ o s c => ⟨nofun, fun _ => ?_⟩, fun z => absurd z (by omega), fun r z => absurd z (by omega)⟩
    have e1 : mstp f (p, o, s, d, c, true) = some (p + 1, o, 40 :: s, d + 1, upB c (d + 1) false, true) := by
      show mthg f p o s d c = _
      unfold mthg
      rw [if_neg (by omega), if_neg (by unfold askI; omega), if_neg (by omega), if_pos ⟨h1, h2⟩]
    obtain ⟨o', pd, c', g, g1, g2, g3, g4, g5⟩ := (ih.2.1 (by omega) o (40 :: s) (upB c (d + 1) false) (fun x hx => by cases hx; exact Nat.le_refl 0) (fun _ => if_pos rfl)).1 rfl
    exact ⟨_, .st e1 g, nx_none hf g5 (Or.inl h3), rfl, Or.inr (Nat.succ_pos d)⟩
  · intro d p q L h1 h2 ih h3
    refine ⟨fun _ o s c => ⟨fun _ => ?_, nofun⟩, fun z => absurd z (by omega), fun r z => absurd z (by omega)⟩
    have e1 : mstp f (p, o, s, d, c, true) = some (p + 1, o, 40 :: s, d + 1, upB c (d + 1) false, true) := by
      show mthg f p o s d c = _
      unfold mthg
      rw [if_neg (by omega), if_neg (by unfold askI; omega), if_neg (by omega), if_pos ⟨h1, h2⟩]
    obtain ⟨o', pd, c', g, g1, g2, g3, g4, g5⟩ := (ih.2.1 (by omega) o (40 :: s) (upB c (d + 1) false) (fun x hx => by cases hx; exact Nat.le_refl 0) (fun _ => if_pos rfl)).1 rfl
    have hx := pop_a (r := 1) (s := 40 :: s) (fun x hx => by cases hx; exact Nat.one_pos) g2
    refine ⟨o' ++ ngs pd, [], c', .st e1 (g.tr (.one ?_)), by rw [g1]; exact List.append_nil _, fun x hx => absurd hx List.not_mem_nil, fun i hi => ?_⟩
    · show mopr f q o' (pd ++ 40 :: s) (d + 1) c' = _
      unfold mopr
      rw [if_pos ⟨h3, Nat.succ_pos d⟩, hx.1, hx.2]
      rfl
    · rw [g3 i (by omega)]
      exact if_neg (by omega)
  · intro r d p q L h1 ih
    refine ⟨fun z => absurd z (by omega), fun _ o s c hb hc => ⟨nofun, fun _ => ?_⟩, fun r' z => absurd z (by omega)⟩
    exact (SpU_of h1 (fun e => ih.1 e) (fun e => ih.2.1 e) o s c (fun x hx => by have := hb x hx; omega)).2 rfl
  · intro r d p q q' ok L L' h1 ih1 ih2
    refine ⟨fun z => absurd z (by omega), fun _ o s c hb hc => ?_, fun r' z => absurd z (by omega)⟩
    obtain ⟨o1, pd1, c1, g, g1, g2, g3, g4⟩ := (SpU_of h1 (fun e => ih1.1 e) (fun e => ih1.2.1 e) o s c (fun x hx => by have := hb x hx; omega)).1 rfl
    obtain ⟨a1, a2⟩ := ih2.2.2 r rfl h1 o1 s pd1 c1 hb (fun z => by rw [g3 d (Nat.le_refl d)]; exact hc z) (fun x hx => by have := g2 x hx; omega) g4
    refine ⟨fun z => ?_, fun z => (a2 z).pre g⟩
    obtain ⟨o', pd, c', k, k1, k2, k3, k4, k5⟩ := a1 z
    exact ⟨o', pd, c', g.tr k, by rw [k1, g1, List.append_assoc], k2, fun i hi => (k3 i hi).trans (g3 i (by omega)), fun z => (k4 z).trans (g3 d (Nat.le_refl d)), k5⟩
  · intro r d p h1 h2
    refine ⟨fun z => absurd z (by omega), fun z => absurd z (by omega), fun r' z hr o s p0 c hb hc hp hn => ?_⟩
    obtain rfl : r' = r := by omega
    refine ⟨fun _ => ⟨o, p0, c, .rf _, (List.append_nil _).symm, hp, fun _ _ => rfl, fun _ => rfl, Or.inl fun j h3 h4 => ?_⟩, nofun⟩
    by_cases e : j = r'
    · rw [e]; exact h2
    · exact hn j (by omega) h4
  · intro r d p q L h1 h2 ih
    refine ⟨fun z => absurd z (by omega), fun z => absurd z (by omega), fun r' z hr o s p0 c hb hc hp hn => ?_⟩
    obtain rfl : r' = r := by omega
    refine ⟨nofun, fun _ => ?_⟩
    exact ((SpU_of h1 (fun e => ih.1 e) (fun e => ih.2.1 e) (o ++ ngs p0) (f p :: s) _ (fun x hx => by cases hx; omega)).2 rfl).pre (.one (op_st h1 h2 hb hc hp))
  · intro d p q L h2 ih
    refine ⟨fun z => absurd z (by omega), fun z => absurd z (by omega), fun r' z hr o s p0 c hb hc hp hn => ?_⟩
    obtain rfl : r' = 0 := by omega
    refine ⟨fun _ => ?_, nofun⟩
    obtain ⟨o', pd, c', g, g1, g2, g3, g4⟩ := (SpU_of (r := 0) (by omega) (fun e => by omega) (fun e => ih.2.1 e) (o ++ ngs p0) (f p :: s) (upB c d true) (fun x hx => by cases hx; omega)).1 rfl
    refine ⟨o', pd ++ [f p], c', ?_, ?_, fun x hx => ?_, fun i hi => ?_, fun z => absurd z (by omega), Or.inr ⟨rfl, ?_, g4 1 (by omega) (by omega), g4 2 (by omega) (by omega)⟩⟩
    · rw [List.append_assoc]
      exact .st (op_st (by omega) h2 hb hc hp) g
    · rw [ngs_a, ← List.append_assoc, g1, ← List.append_assoc]; rfl
    · rcases List.mem_append.mp hx with hx | hx
      · have := g2 x hx; omega
      · rw [List.mem_singleton.mp hx]; omega
    · rw [g3 i (by omega)]; exact if_neg (by omega)
    · rw [g3 d (Nat.le_refl d)]; exact if_pos rfl
  · intro r d p q q' ok L L' h0 h1 h2 ih1 ih2
    refine ⟨fun z => absurd z (by omega), fun z => absurd z (by omega), fun r' z hr o s p0 c hb hc hp hn => ?_⟩
    obtain rfl : r' = r := by omega
    obtain ⟨o1, pd1, c1, g, g1, g2, g3, g4⟩ := (SpU_of h1 (fun e => ih1.1 e) (fun e => ih1.2.1 e) (o ++ ngs p0) (f p :: s) c (fun x hx => by cases hx; omega)).1 rfl
    have e1 := op_st (o := o) h1 h2 hb hc hp
    rw [if_neg (by omega)] at e1
    obtain ⟨a1, a2⟩ := ih2.2.2 r' rfl h1 o1 s (pd1 ++ [f p]) c1 hb (fun z => absurd z (by omega)) (fun x hx => by
      rcases List.mem_append.mp hx with hx | hx
      · have := g2 x hx; omega
      · rw [List.mem_singleton.mp hx]; omega) g4
    rw [List.append_assoc] at a1 a2
    refine ⟨fun z => ?_, fun z => (a2 z).pre (.st e1 g)⟩
    obtain ⟨o', pd, c', k, k1, k2, k3, k4, k5⟩ := a1 z
    refine ⟨o', pd, c', .st e1 (g.tr k), ?_, k2, fun i hi => (k3 i hi).trans (g3 i (by omega)), fun z => (k4 z).trans (g3 d (Nat.le_refl d)), k5⟩
    rw [k1, ngs_a, ← List.append_assoc o1, g1, List.append_assoc (o ++ ngs p0) L, List.append_assoc]
    rfl
/-- the whole: the reference's reading, and where the class ends -/
theorem pr_all {f : Int → Int} (hf : ∀ p, f p ≤ 255) {q : Int} {ok : Bool} {L : List Int} (h : PR f 0 0 0 ok q L) {y : RdS} (g : GoR f (0, [], [], 0, fun _ => false, true) y) (hy : mstp f y = none) : y.1 = q ∧ (ok = true → y.2.2.2.2.2 = false ∧ y.2.2.2.1 = 0 ∧ y.2.1 ++ ngs (popS 1 y.2.2.1) = L) ∧ (ok = false → y.2.2.2.2.2 = true ∨ 0 < y.2.2.2.1) := by
  have hs := (pr_sp hf h).2.1 (by omega) [] [] (fun _ => false) (fun x hx => by cases hx) (fun _ => rfl)
  cases ok with
  | true =>
    obtain ⟨o', pd, c', k, k1, k2, k3, k4, k5⟩ := hs.1 rfl
    have e := GoR.det g hy k (nx_none hf k5 (Or.inr rfl))
    rw [e]
    refine ⟨rfl, fun _ => ⟨rfl, rfl, ?_⟩, nofun⟩
    show o' ++ ngs (popS 1 (pd ++ [])) = L
    rw [(pop_a (r := 1) (s := []) (fun x hx => by cases hx) k2).1, k1]
    rfl
  | false =>
    obtain ⟨z, k, k1, k2, k3⟩ := hs.2 rfl
    have e := GoR.det g hy k k1
    rw [e]
    exact ⟨k2, nofun, fun _ => k3⟩
end
