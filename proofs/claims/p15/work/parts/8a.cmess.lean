/-! MESSES TOLD (the class) -/
/-- MESSES of the class from number c on: FOOD, EATS -/
def mkL (h : aH) (c n : Nat) : List (Int × Int) := (List.range n).map fun j => (gi h 26 (c + j), gi h 22 (c + j))
theorem mkL_l (h : aH) (c n : Nat) : (mkL h c n).length = n := by unfold mkL; rw [List.length_map, List.length_range]
theorem mkL_s {h h' : aH} {c n : Nat} {a b : Int} (h1 : gi h' 26 (c + n) = a) (h2 : gi h' 22 (c + n) = b) (h3 : ∀ j, j < c + n → gi h' 26 j = gi h 26 j ∧ gi h' 22 j = gi h 22 j) : mkL h' c (n + 1) = mkL h c n ++ [(a, b)] := by
  unfold mkL
  rw [List.range_succ, List.map_append, List.map_cons, List.map_nil, h1, h2]
  congr 1
  exact List.map_congr_left fun j hj => by have := List.mem_range.mp hj; rw [(h3 (c + j) (by omega)).1, (h3 (c + j) (by omega)).2]
theorem mkL_eq {h h' : aH} {c n : Nat} (h3 : ∀ j, j < c + n → gi h' 26 j = gi h 26 j ∧ gi h' 22 j = gi h 22 j) : mkL h' c n = mkL h c n := by
  unfold mkL
  exact List.map_congr_left fun j hj => by have := List.mem_range.mp hj; rw [(h3 (c + j) (by omega)).1, (h3 (c + j) (by omega)).2]
theorem mkL_get {h : aH} {c : Nat} {L : List (Int × Int)} (e : mkL h c L.length = L) {j : Nat} (hj : j < L.length) : gi h 26 (c + j) = (L.getD j (0, 0)).1 ∧ gi h 22 (c + j) = (L.getD j (0, 0)).2 := by
  have z : (mkL h c L.length).getD j (0, 0) = L.getD j (0, 0) := by rw [e]
  rw [← z]
  unfold mkL
  rw [List.getD_eq_getElem?_getD, List.getElem?_map, List.getElem?_range hj]
  exact ⟨rfl, rfl⟩
theorem rkL_get {h : aH} {c : Nat} {L : List (Int × Int)} (e : rkL h c L.length = L) {j : Nat} (hj : j < L.length) : gi h 20 (c + j) = (L.getD j (0, 0)).1 ∧ gi h 21 (c + j) = (L.getD j (0, 0)).2 := by
  have z : (rkL h c L.length).getD j (0, 0) = L.getD j (0, 0) := by rw [e]
  rw [← z]
  unfold rkL
  rw [List.getD_eq_getElem?_getD, List.getElem?_map, List.getElem?_range hj]
  exact ⟨rfl, rfl⟩
theorem rdMess_p {f : Int → Int} {p stop : Int} (hf : ∀ a, stop ≤ a → f a = -1) (hp : p ≤ stop) : p ≤ (rdMess f p).1.2 ∧ (rdMess f p).1.2 ≤ stop ∧ ((rdMess f p).1.1 = true → p < (rdMess f p).1.2) := by
  have a := nmF_p (f := f) (n := 2) (p := p)
  have b : (nmF f 2 p).2 ≤ stop := tkv_sp hf 2 p 0 hp
  unfold rdMess
  by_cases c : (nmF f 2 p).1 < 0
  · rw [if_pos c]; exact ⟨a, b, fun z => absurd (show false = true from z) (by decide)⟩
  · rw [if_neg c]
    by_cases d : f (nmF f 2 p).2 ≠ 42
    · rw [if_pos d]; exact ⟨a, b, fun z => absurd (show false = true from z) (by decide)⟩
    · have l1 : (nmF f 2 p).2 < stop := by
        by_cases z : stop ≤ (nmF f 2 p).2
        · have := hf _ z; omega
        · omega
      have a2 := nmF_p (f := f) (n := 1) (p := (nmF f 2 p).2 + 1)
      have b2 : (nmF f 1 ((nmF f 2 p).2 + 1)).2 ≤ stop := tkv_sp hf 1 _ 0 (by omega)
      rw [if_neg d]
      split
      · exact ⟨by show p ≤ (nmF f 1 ((nmF f 2 p).2 + 1)).2; omega, b2, fun z => absurd (show false = true from z) (by decide)⟩
      · exact ⟨by show p ≤ (nmF f 1 ((nmF f 2 p).2 + 1)).2; omega, b2, fun _ => by show p < (nmF f 1 ((nmF f 2 p).2 + 1)).2; omega⟩
theorem rdMs_p {f : Int → Int} {stop : Int} (hf : ∀ a, stop ≤ a → f a = -1) : ∀ (n : Nat) (p : Int), p ≤ stop → p ≤ (rdMs f n p).1.2 ∧ (rdMs f n p).1.2 ≤ stop
  | 0, p, h => ⟨Int.le_refl _, h⟩
  | n + 1, p, h => by
    have b := rdMess_p hf h
    unfold rdMs
    split
    · split
      · rename_i d
        have l1 : (rdMess f p).1.2 < stop := by
          by_cases z : stop ≤ (rdMess f p).1.2
          · have := hf _ z; omega
          · omega
        have ih := rdMs_p hf n ((rdMess f p).1.2 + 1) (by omega)
        exact ⟨by show p ≤ (rdMs f n ((rdMess f p).1.2 + 1)).1.2; omega, ih.2⟩
      · exact ⟨b.1, b.2.1⟩
    · exact ⟨b.1, b.2.1⟩
theorem cfl_f {n most p : Int} : cfl n most (false, p) = p := if_neg (fun z => absurd (show false = true from z.1) (by decide))
theorem cfl_l {n most p : Int} (h : p ≠ min n most) : cfl n most (true, p) = p := if_neg (fun z => h z.2)
theorem cfl_e {n most p : Int} (h : p = min n most) : cfl n most (true, p) = if most < n then min n most else -1 := if_pos ⟨rfl, h⟩
set_option maxRecDepth 4000 in
theorem ctX10_readMesses {SP : CT} (hSP : MONO SP) {sh : List (Nat × Nat)} {h : aH} (hG : GD gE gRL sh h) {n : Int} (h12 : gi h 1 2 = 0) (h13 : gi h 1 3 = min n 39) (h14 : gi h 1 4 = if 39 < n then 1 else 0) (hn : 0 ≤ n ∧ n ≤ 80) : CLd SP 4 mX10_readMesses [.ref 0] h 0 0 (fun rv h' => rv = some (.int (I (cfl n 39 (rdMs (fx h) (8 - gi h 0 9).toNat 0).1))) ∧ GD gE gRL sh h' ∧ FRM gRL [(0, 0, 9, 9), (0, 1, 2, 2), (0, 1, 5, 5), (0, 16, 0, 7), (0, 20, 0, 7), (0, 21, 0, 7)] h h' ∧ gi h' 0 9 = (if (cfl n 39 (rdMs (fx h) (8 - gi h 0 9).toNat 0).1) = -1 then gi h 0 9 + ((rdMs (fx h) (8 - gi h 0 9).toNat 0).2.length : Nat) else gi h 0 9) ∧ ((cfl n 39 (rdMs (fx h) (8 - gi h 0 9).toNat 0).1) = -1 → mkL h' (gi h 0 9).toNat (rdMs (fx h) (8 - gi h 0 9).toNat 0).2.length = (rdMs (fx h) (8 - gi h 0 9).toNat 0).2 ∧ ∀ j, j < (rdMs (fx h) (8 - gi h 0 9).toNat 0).2.length → gi h' 27 ((gi h 0 9).toNat + j) = 0) ∧ ∀ j : Nat, (j : Int) < gi h 0 9 → gi h' 26 j = gi h 26 j ∧ gi h' 27 j = gi h 27 j ∧ gi h' 22 j = gi h 22 j) := by
  refine x_met _ rfl (Nat.le_of_ble_eq_true rfl) (fun K hK => ?_)
  have hmono := MONO_CLd hSP 3
  have gc := gri 0 8 hG (a := 0) (r := 0) (k := 9) rfl rfl
  obtain ⟨c, hc⟩ : ∃ c, gi h 0 9 = c := ⟨_, rfl⟩
  rw [hc] at gc hK
  have fe0 : ∀ a, min n 39 ≤ a → fx h a = -1 := fun a ha => fx_end h a (by rw [h13]; exact ha)
  obtain ⟨RR, hRR⟩ : ∃ RR, rdMs (fx h) (8 - c).toNat 0 = RR := ⟨_, rfl⟩
  rw [hRR] at hK
  have loop : ∀ (mz : Nat) (m i p : Int) (h4 : aH) (ls : List (Nat × Value)), ((9 - i).toNat = mz) → (0 ≤ i ∧ i ≤ 8) → (m = c + i ∧ m ≤ 8) → (0 ≤ p ∧ p ≤ min n 39) → (gi h4 1 2 = p) → (gi h4 0 9 = c) → (RR.1 = (rdMs (fx h) (8 - c - i).toNat p).1) → (RR.2 = mkL h4 c.toNat i.toNat ++ (rdMs (fx h) (8 - c - i).toNat p).2) → (∀ j : Nat, j < i.toNat → gi h4 27 (c.toNat + j) = 0) → (∀ j : Nat, (j : Int) < c → gi h4 26 j = gi h 26 j ∧ gi h4 27 j = gi h 27 j ∧ gi h4 22 j = gi h 22 j) → lk ls 0 = some (.ref 0) → lk ls 1 = some (.int (I m)) → lk ls 2 = some (.int (I i)) → GD gE gRL sh h4 → FRM gRL [(0, 0, 9, 9), (0, 1, 2, 2), (0, 1, 5, 5), (0, 16, 0, 7), (0, 20, 0, 7), (0, 21, 0, 7)] h h4 → K 7 ls [] h4 0 0 := by
    intro mz
    induction mz using Nat.strongRecOn with
    | ind mz ih =>
    intro m i p h4 ls hm i0 m0 p0 d2 d3 e1 e2 hz ol l0 l1 l2 hG4 hF4
    have s3 : gi h4 1 3 = min n 39 := (FRM_gi hF4 (r := 1) rfl rfl).trans h13
    have s4 : gi h4 1 4 = (if 39 < n then (1 : Int) else 0) := (FRM_gi hF4 (r := 1) rfl rfl).trans h14
    have sF : fx h4 = fx h := fx_F hF4 rfl rfl
    refine x_iload_n 8 hK rfl rfl l2 ?_
    refine x_bipush 10 hK rfl rfl rfl ?_
    refine x_if_icmp_gt 155 13 hK rfl rfl rfl (by omega) (by omega) (fun c3 => ?_) (fun c3 => ?_)
    · exfalso
      omega
    · refine x_iload_n 14 hK rfl rfl l1 ?_
      refine x_bipush 16 hK rfl rfl rfl ?_
      refine x_if_icmp_lt 27 19 hK rfl rfl rfl (by omega) (by omega) (fun c7 => ?_) (fun c7 => ?_)
      · refine x_aload_n 28 hK rfl rfl l0 ?_
        refine x_getR 31 hK rfl rfl (sp_0 (h := h4) hG4) (rf_0_0 (h := h4) hG4) ?_
        refine x_iconst 32 hK rfl rfl ?_
        have at316 : gi h4 1 2 = p := d2
        have fe316 : fx h4 = (fx h) := fx_F hF4 rfl rfl
        have to316 : gi h4 1 3 = (min n 39) := s3
        have mo316 : gi h4 1 4 = (if 39 < n then (1 : Int) else 0) := s4
        refine x_callV 35 hK hmono rfl rfl [.ref 1, .int (I 2)] [] rfl rfl (Nat.le_of_ble_eq_true rfl) (Nat.le_of_ble_eq_true rfl) rfl (sp_1 (h := h4) hG4) (CLd_le (Nat.le_of_ble_eq_true rfl) (ctX9_takeNumber hSP hG4 (n := 2) (by omega))) ?_
        rw [fe316, at316, to316, mo316]
        rintro v316 h316 ⟨⟨e316, rfl, nu316, ne316⟩, hG316, hF316, np316, nc316, nd316⟩
        have nm316 : nmF (fx h) 2 p = (e316, gi h316 1 2) := by rw [nu316, np316]; rfl
        have nb316 : p ≤ gi h316 1 2 ∧ gi h316 1 2 ≤ (min n 39) := by rw [np316]; exact ⟨(tkv_lb _ _ _ _).1, tkv_sp fe0 _ _ _ (by first | omega | (have q := fe0 p; omega))⟩
        have nz316 : 0 ≤ e316 → p < gi h316 1 2 := fun z => by have := nmF_n (f := (fx h)) (n := 2) (p := p) (by rw [nm316]; exact z); rw [nm316] at this; exact this
        have ny316 : e316 = -1 → gi h316 1 2 = p := fun z => by
          rw [np316]
          by_cases c : (tkv (fx h) (Int.toNat 2) p 0).2 = p
          · exact c
          · rw [if_neg c] at nu316
            have := tkv_nn (f := (fx h)) (Int.toNat 2) p 0 (by omega)
            omega
        clear nu316 np316
        generalize eq316 : gi h316 1 2 = p316 at *
        refine x_istore_n 36 hK rfl rfl _ rfl ?_
        refine x_iload_n 37 hK rfl rfl lk1_s ?_
        refine x_iconst 38 hK rfl rfl ?_
        refine x_if_icmp_eq 53 41 hK rfl rfl rfl (by omega) (by omega) (fun c15 => ?_) (fun c15 => ?_)
        · refine x_aload_n 54 hK rfl rfl (lk1_n l0 (by decide) (Or.inl rfl)) ?_
          refine x_getR 57 hK rfl rfl (sp_0 (h := h316) hG316) (rf_0_0 (h := h316) hG316) ?_
          refine x_getE 60 hK rfl (Or.inl rfl) rfl (sp_1 (h := h316) hG316) (e := p316) (eq316) ?_
          obtain ⟨q, hq⟩ : ∃ q : Nat, (8 - c - i).toNat = q + 1 := ⟨(8 - c - i).toNat - 1, by omega⟩
          rw [hq] at e1 e2
          unfold rdMs at e1 e2
          have er : rdMess (fx h) p = ((false, p316), 0, 0) := by unfold rdMess; rw [nm316, if_pos (show e316 < 0 by omega)]
          rw [er, if_neg (show ¬ false = true by decide)] at e1 e2
          have c9 : cfl n 39 RR.1 = p316 := by rw [e1]; exact cfl_f
          exact x_iret hK rfl ⟨by rw [c9], hG316, (hF4).trans ((hF316).mono rfl), ((FRM_gi hF316 (r := 0) rfl rfl).trans (d3)).trans (if_neg (by rw [c9]; omega)).symm, fun z => by rw [c9] at z; omega, (fun j hj => ⟨(FRM_gi hF316 (r := 20) rfl rfl).trans (ol j hj).1, (FRM_gi hF316 (r := 21) rfl rfl).trans (ol j hj).2.1, (FRM_gi hF316 (r := 16) rfl rfl).trans (ol j hj).2.2⟩)⟩
        · refine x_aload_n 42 hK rfl rfl (lk1_n l0 (by decide) (Or.inl rfl)) ?_
          refine x_getR 45 hK rfl rfl (sp_0 (h := h316) hG316) (rf_0_0 (h := h316) hG316) ?_
          refine x_bipush 47 hK rfl rfl rfl ?_
          have at317 : gi h316 1 2 = p316 := eq316
          have fe317 : fx h316 = (fx h) := (fx_F hF316 rfl rfl).trans (fx_F hF4 rfl rfl)
          refine x_callV 50 hK hmono rfl rfl [.ref 1, .int (I 42)] [] rfl rfl (Nat.le_of_ble_eq_true rfl) (Nat.le_of_ble_eq_true rfl) rfl (sp_1 (h := h316) hG316) (CLd_le (Nat.le_of_ble_eq_true rfl) (ctX9_take hSP hG316 (s := 42) (by omega) (by omega))) ?_
          rw [fe317, at317]
          rintro v317 h317 ⟨hG317, hF317, ⟨rfl, tk317, eq317⟩ | ⟨rfl, tk317, eq317⟩⟩
          · refine x_if_ne 61 53 hK rfl rfl rfl (by omega) (fun _ => ?_) (fun c => by omega)
            refine x_aload_n 62 hK rfl rfl (lk1_n l0 (by decide) (Or.inl rfl)) ?_
            refine x_getR 65 hK rfl rfl (sp_0 (h := h317) hG317) (rf_0_0 (h := h317) hG317) ?_
            refine x_iconst 66 hK rfl rfl ?_
            have at318 : gi h317 1 2 = (p316 + 1) := eq317
            have fe318 : fx h317 = (fx h) := (fx_F hF317 rfl rfl).trans ((fx_F hF316 rfl rfl).trans (fx_F hF4 rfl rfl))
            have to318 : gi h317 1 3 = (min n 39) := (FRM_gi hF317 (r := 1) rfl rfl).trans ((FRM_gi hF316 (r := 1) rfl rfl).trans (s3))
            have mo318 : gi h317 1 4 = (if 39 < n then (1 : Int) else 0) := (FRM_gi hF317 (r := 1) rfl rfl).trans ((FRM_gi hF316 (r := 1) rfl rfl).trans (s4))
            refine x_callV 69 hK hmono rfl rfl [.ref 1, .int (I 1)] [] rfl rfl (Nat.le_of_ble_eq_true rfl) (Nat.le_of_ble_eq_true rfl) rfl (sp_1 (h := h317) hG317) (CLd_le (Nat.le_of_ble_eq_true rfl) (ctX9_takeNumber hSP hG317 (n := 1) (by omega))) ?_
            rw [fe318, at318, to318, mo318]
            rintro v318 h318 ⟨⟨e318, rfl, nu318, ne318⟩, hG318, hF318, np318, nc318, nd318⟩
            have nm318 : nmF (fx h) 1 (p316 + 1) = (e318, gi h318 1 2) := by rw [nu318, np318]; rfl
            have nb318 : (p316 + 1) ≤ gi h318 1 2 ∧ gi h318 1 2 ≤ (min n 39) := by rw [np318]; exact ⟨(tkv_lb _ _ _ _).1, tkv_sp fe0 _ _ _ (by first | omega | (have q := fe0 p316; omega))⟩
            have nz318 : 0 ≤ e318 → (p316 + 1) < gi h318 1 2 := fun z => by have := nmF_n (f := (fx h)) (n := 1) (p := (p316 + 1)) (by rw [nm318]; exact z); rw [nm318] at this; exact this
            have ny318 : e318 = -1 → gi h318 1 2 = (p316 + 1) := fun z => by
              rw [np318]
              by_cases c : (tkv (fx h) (Int.toNat 1) (p316 + 1) 0).2 = (p316 + 1)
              · exact c
              · rw [if_neg c] at nu318
                have := tkv_nn (f := (fx h)) (Int.toNat 1) (p316 + 1) 0 (by omega)
                omega
            clear nu318 np318
            generalize eq318 : gi h318 1 2 = p318 at *
            refine x_istore 71 hK rfl rfl _ rfl ?_
            refine x_iload 73 hK rfl rfl lk1_s ?_
            refine x_iconst 74 hK rfl rfl ?_
            refine x_if_icmp_ne 85 77 hK rfl rfl rfl (by omega) (by omega) (fun c32 => ?_) (fun c32 => ?_)
            · refine x_aload_n 86 hK rfl rfl (lk1_n (lk1_n l0 (by decide) (Or.inl rfl)) (by decide) (Or.inl rfl)) ?_
              refine x_getR 89 hK rfl rfl (sp_0 (h := h318) hG318) (rf_0_10 (h := h318) hG318) ?_
              refine x_getR 92 hK rfl rfl (sp_23 (h := h318) hG318) (rf_23_7 (h := h318) hG318) ?_
              refine x_iload_n 93 hK rfl rfl (lk1_n (lk1_n l1 (by decide) (Or.inl rfl)) (by decide) (Or.inl rfl)) ?_
              refine x_iload_n 94 hK rfl rfl (lk1_n lk1_s (by decide) (Or.inl rfl)) ?_
              refine x_iastore 95 hK rfl rfl (sp_26 (h := h318) hG318) (by omega) (by omega) (by omega) ?_
              refine x_aload_n 96 hK rfl rfl (lk1_n (lk1_n l0 (by decide) (Or.inl rfl)) (by decide) (Or.inl rfl)) ?_
              refine x_getR 99 hK rfl rfl (sp_0 (h := h318) hG318) (rf_0_10 (h := h318) hG318) ?_
              refine x_getR 102 hK rfl rfl (sp_23 (h := h318) hG318) (rf_23_8 (h := h318) hG318) ?_
              refine x_iload_n 103 hK rfl rfl (lk1_n (lk1_n l1 (by decide) (Or.inl rfl)) (by decide) (Or.inl rfl)) ?_
              refine x_iconst 104 hK rfl rfl ?_
              refine x_iastore 105 hK rfl rfl (sp_27 (h := h318) hG318) (by omega) (by omega) (by omega) ?_
              refine x_aload_n 106 hK rfl rfl (lk1_n (lk1_n l0 (by decide) (Or.inl rfl)) (by decide) (Or.inl rfl)) ?_
              refine x_getR 109 hK rfl rfl (sp_0 (h := h318) hG318) (rf_0_8 (h := h318) hG318) ?_
              refine x_iload_n 110 hK rfl rfl (lk1_n (lk1_n l1 (by decide) (Or.inl rfl)) (by decide) (Or.inl rfl)) ?_
              refine x_iload 112 hK rfl rfl lk1_s ?_
              refine x_iastore 113 hK rfl rfl (sp_22 (h := h318) hG318) (by omega) (by omega) (by omega) ?_
              obtain ⟨q, hq⟩ : ∃ q : Nat, (8 - c - i).toNat = q + 1 := ⟨(8 - c - i).toNat - 1, by omega⟩
              rw [hq] at e1 e2
              unfold rdMs at e1 e2
              have er : rdMess (fx h) p = ((true, p318), e316, e318) := by unfold rdMess; rw [nm316]; show (if e316 < 0 then _ else if fx h p316 ≠ 42 then _ else if (nmF (fx h) 1 (p316 + 1)).1 < 0 then _ else _) = _; rw [if_neg (by omega), if_neg (by omega), nm318, if_neg (show ¬ e318 < 0 by omega)]
              rw [er, if_pos (show true = true from rfl)] at e1 e2
              have yr : mkL (wI (wI (wI h318 26 m.toNat e316) 27 m.toNat 0) 22 m.toNat e318) c.toNat (i + 1).toNat = mkL h4 c.toNat i.toNat ++ [(e316, e318)] := by
                rw [tn_s i0.1]
                exact mkL_s ((gi_to (show c.toNat + i.toNat = m.toNat by omega)).trans ((gi_a (by decide) _).trans ((gi_a (by decide) _).trans (gi_same (by omega))))) ((gi_to (show c.toNat + i.toNat = m.toNat by omega)).trans (gi_same (by omega))) fun j hj => ⟨(gi_a (by decide) _).trans ((gi_a (by decide) _).trans ((gi_k (by omega) _).trans ((FRM_gi hF318 (r := 20) rfl rfl).trans ((FRM_gi hF317 (r := 20) rfl rfl).trans (FRM_gi hF316 (r := 20) rfl rfl))))), (gi_k (by omega) _).trans ((gi_a (by decide) _).trans ((gi_a (by decide) _).trans ((FRM_gi hF318 (r := 16) rfl rfl).trans ((FRM_gi hF317 (r := 16) rfl rfl).trans (FRM_gi hF316 (r := 16) rfl rfl)))))⟩
              have yz : ∀ j : Nat, j < (i + 1).toNat → gi (wI (wI (wI h318 26 m.toNat e316) 27 m.toNat 0) 22 m.toNat e318) 27 (c.toNat + j) = 0 := by
                intro j hj
                by_cases z : j = i.toNat
                · rw [show c.toNat + j = m.toNat by omega]; exact (gi_a (by decide) _).trans (gi_same (by omega))
                · exact ((gi_a (by decide) _).trans ((gi_k (by omega) _).trans ((gi_a (by decide) _).trans ((FRM_gi hF318 (r := 21) rfl rfl).trans ((FRM_gi hF317 (r := 21) rfl rfl).trans (FRM_gi hF316 (r := 21) rfl rfl)))))).trans (hz j (by omega))
              have yo : ∀ j : Nat, (j : Int) < c → gi (wI (wI (wI h318 26 m.toNat e316) 27 m.toNat 0) 22 m.toNat e318) 26 j = gi h 26 j ∧ gi (wI (wI (wI h318 26 m.toNat e316) 27 m.toNat 0) 22 m.toNat e318) 27 j = gi h 27 j ∧ gi (wI (wI (wI h318 26 m.toNat e316) 27 m.toNat 0) 22 m.toNat e318) 22 j = gi h 22 j := (fun j hj => ⟨((gi_a (by decide) _).trans ((gi_a (by decide) _).trans ((gi_k (by omega) _).trans ((FRM_gi hF318 (r := 20) rfl rfl).trans ((FRM_gi hF317 (r := 20) rfl rfl).trans (FRM_gi hF316 (r := 20) rfl rfl)))))).trans (ol j hj).1, ((gi_a (by decide) _).trans ((gi_k (by omega) _).trans ((gi_a (by decide) _).trans ((FRM_gi hF318 (r := 21) rfl rfl).trans ((FRM_gi hF317 (r := 21) rfl rfl).trans (FRM_gi hF316 (r := 21) rfl rfl)))))).trans (ol j hj).2.1, ((gi_k (by omega) _).trans ((gi_a (by decide) _).trans ((gi_a (by decide) _).trans ((FRM_gi hF318 (r := 16) rfl rfl).trans ((FRM_gi hF317 (r := 16) rfl rfl).trans (FRM_gi hF316 (r := 16) rfl rfl)))))).trans (ol j hj).2.2⟩)
              refine x_iinc 116 hK rfl rfl (lk1_n (lk1_n l1 (by decide) (Or.inl rfl)) (by decide) (Or.inl rfl)) _ rfl ?_
              refine x_aload_n 117 hK rfl rfl (lk1_n (lk1_n (lk1_n l0 (by decide) (Or.inl rfl)) (by decide) (Or.inl rfl)) (by decide) (Or.inl rfl)) ?_
              refine x_getR 120 hK rfl rfl (sp_0 (h := h318) hG318) (rf_0_0 (h := h318) hG318) ?_
              have hGp319 : GD gE gRL sh (wI (wI (wI h318 26 m.toNat e316) 27 m.toNat 0) 22 m.toNat e318) := GD_wu (GD_wn (GD_wn (hG318) (r := 20) rfl rfl) (r := 21) rfl rfl) (r := 16) rfl (by omega) rfl (by omega) (by omega)
              have at320 : gi (wI (wI (wI h318 26 m.toNat e316) 27 m.toNat 0) 22 m.toNat e318) 1 2 = p318 := (gi_a (by decide) _).trans ((gi_a (by decide) _).trans ((gi_a (by decide) _).trans (eq318)))
              have to320 : gi (wI (wI (wI h318 26 m.toNat e316) 27 m.toNat 0) 22 m.toNat e318) 1 3 = (min n 39) := (gi_a (by decide) _).trans ((gi_a (by decide) _).trans ((gi_a (by decide) _).trans ((FRM_gi hF318 (r := 1) rfl rfl).trans ((FRM_gi hF317 (r := 1) rfl rfl).trans ((FRM_gi hF316 (r := 1) rfl rfl).trans (s3))))))
              refine x_callV 123 hK hmono rfl rfl [.ref 1] [] rfl rfl (Nat.le_of_ble_eq_true rfl) (Nat.le_of_ble_eq_true rfl) rfl (sp_1 (h := h318) hG318) (CLd_le (Nat.le_of_ble_eq_true rfl) (ctX9_ended hSP hGp319)) ?_
              rw [at320, to320]
              rintro v9 h9 ⟨e9, ⟨rfl, en320⟩ | ⟨rfl, en320⟩⟩ <;> rw [e9] <;> clear e9
              · refine x_if_eq 129 126 hK rfl rfl rfl (by omega) (fun c => by omega) (fun _ => ?_)
                refine x_goto 155 hK rfl rfl ?_
                rw [if_neg (show ¬ fx h p318 = 59 by rw [fe0 p318 (by omega)]; decide)] at e1 e2
                have yq : mkL (wI (wI (wI h318 26 m.toNat e316) 27 m.toNat 0) 22 m.toNat e318) c.toNat (i + 1).toNat = mkL (wI (wI (wI h318 26 m.toNat e316) 27 m.toNat 0) 22 m.toNat e318) c.toNat (i + 1).toNat := mkL_eq fun j hj => ⟨rfl, rfl⟩
                have e3 : RR.2 = mkL (wI (wI (wI h318 26 m.toNat e316) 27 m.toNat 0) 22 m.toNat e318) c.toNat (i + 1).toNat := by rw [e2, yq, yr]
                have ln : RR.2.length = (i + 1).toNat := by rw [e3, mkL_l]
                have c9 : cfl n 39 RR.1 = if 39 < n then min n 39 else -1 := by rw [e1]; exact cfl_e (show p318 = _ by omega)
                refine x_aload_n 156 hK rfl rfl (lk1_n (lk1_n (lk1_n l0 (by decide) (Or.inl rfl)) (by decide) (Or.inl rfl)) (by decide) (Or.inl rfl)) ?_
                refine x_getR 159 hK rfl rfl (sp_0 (h := h318) hG318) (rf_0_0 (h := h318) hG318) ?_
                have hGp321 : GD gE gRL sh (wI (wI (wI h318 26 m.toNat e316) 27 m.toNat 0) 22 m.toNat e318) := GD_wu (GD_wn (GD_wn (hG318) (r := 20) rfl rfl) (r := 21) rfl rfl) (r := 16) rfl (by omega) rfl (by omega) (by omega)
                have to322 : gi (wI (wI (wI h318 26 m.toNat e316) 27 m.toNat 0) 22 m.toNat e318) 1 3 = (min n 39) := (gi_a (by decide) _).trans ((gi_a (by decide) _).trans ((gi_a (by decide) _).trans ((FRM_gi hF318 (r := 1) rfl rfl).trans ((FRM_gi hF317 (r := 1) rfl rfl).trans ((FRM_gi hF316 (r := 1) rfl rfl).trans (s3))))))
                have mo322 : gi (wI (wI (wI h318 26 m.toNat e316) 27 m.toNat 0) 22 m.toNat e318) 1 4 = (if 39 < n then (1 : Int) else 0) := (gi_a (by decide) _).trans ((gi_a (by decide) _).trans ((gi_a (by decide) _).trans ((FRM_gi hF318 (r := 1) rfl rfl).trans ((FRM_gi hF317 (r := 1) rfl rfl).trans ((FRM_gi hF316 (r := 1) rfl rfl).trans (s4))))))
                refine x_callV 162 hK hmono rfl rfl [.ref 1] [] rfl rfl (Nat.le_of_ble_eq_true rfl) (Nat.le_of_ble_eq_true rfl) rfl (sp_1 (h := h318) hG318) (CLd_le (Nat.le_of_ble_eq_true rfl) (ctX9_faultAtEnd hSP hGp321)) ?_
                rw [to322, mo322]
                rintro v9 h9 ⟨e9, rfl⟩
                rw [e9]
                clear e9
                refine x_istore_n 163 hK rfl rfl _ rfl ?_
                refine x_aload_n 164 hK rfl rfl (lk1_n (lk1_n (lk1_n (lk1_n l0 (by decide) (Or.inl rfl)) (by decide) (Or.inl rfl)) (by decide) (Or.inl rfl)) (by decide) (Or.inl rfl)) ?_
                refine x_iload_n 165 hK rfl rfl lk1_s ?_
                refine x_iconst 166 hK rfl rfl ?_
                refine x_if_icmp_ne 173 169 hK rfl rfl rfl (by omega) (by omega) (fun c65 => ?_) (fun c65 => ?_)
                · refine x_aload_n 174 hK rfl rfl (lk1_n (lk1_n (lk1_n (lk1_n l0 (by decide) (Or.inl rfl)) (by decide) (Or.inl rfl)) (by decide) (Or.inl rfl)) (by decide) (Or.inl rfl)) ?_
                  refine x_getE 177 hK rfl (Or.inl rfl) rfl (sp_0 (h := h318) hG318) (e := c) ((gi_a (by decide) _).trans ((gi_a (by decide) _).trans ((gi_a (by decide) _).trans ((FRM_gi hF318 (r := 0) rfl rfl).trans ((FRM_gi hF317 (r := 0) rfl rfl).trans ((FRM_gi hF316 (r := 0) rfl rfl).trans (d3))))))) ?_
                  refine x_putI 180 hK rfl rfl (sp_0 (h := h318) hG318) ?_
                  refine x_iload_n 181 hK rfl rfl lk1_s ?_
                  have ce : cfl n 39 RR.1 = (if (if 39 < n then (1 : Int) else 0) = 1 then (min n 39) else -1) := by
                    rw [c9]
                    by_cases z : 39 < n
                    · rw [if_pos z, if_pos z, if_pos rfl]
                    · rw [if_neg z, if_neg z, if_neg (by decide)]
                  have yw : mkL (wI (wI (wI (wI h318 26 m.toNat e316) 27 m.toNat 0) 22 m.toNat e318) 0 9 c) c.toNat RR.2.length = RR.2 := by
                    rw [ln, e3]
                    exact mkL_eq fun j hj => ⟨gi_a (by decide) _, gi_a (by decide) _⟩
                  exact x_iret hK rfl ⟨by rw [ce], GD_w1 (GD_wu (GD_wn (GD_wn (hG318) (r := 20) rfl rfl) (r := 21) rfl rfl) (r := 16) rfl (by omega) rfl (by omega) (by omega)) (r := 0) rfl (by omega) rfl (by omega) (by omega), FRM_w (FRM_wn 0 7 (FRM_wn 0 7 (FRM_wn 0 7 ((((hF4).trans ((hF316).mono rfl)).trans ((hF317).mono rfl)).trans ((hF318).mono rfl)) (r := 20) rfl rfl rfl (by omega) (by omega)) (r := 21) rfl rfl rfl (by omega) (by omega)) (r := 16) rfl rfl rfl (by omega) (by omega)) (r := 0) rfl rfl, (gi_same (by omega)).trans (if_neg (by omega)).symm, fun z => absurd z (by omega), (fun j hj => ⟨((gi_a (by decide) _).trans ((gi_a (by decide) _).trans ((gi_a (by decide) _).trans ((gi_k (by omega) _).trans ((FRM_gi hF318 (r := 20) rfl rfl).trans ((FRM_gi hF317 (r := 20) rfl rfl).trans (FRM_gi hF316 (r := 20) rfl rfl))))))).trans (ol j hj).1, ((gi_a (by decide) _).trans ((gi_a (by decide) _).trans ((gi_k (by omega) _).trans ((gi_a (by decide) _).trans ((FRM_gi hF318 (r := 21) rfl rfl).trans ((FRM_gi hF317 (r := 21) rfl rfl).trans (FRM_gi hF316 (r := 21) rfl rfl))))))).trans (ol j hj).2.1, ((gi_a (by decide) _).trans ((gi_k (by omega) _).trans ((gi_a (by decide) _).trans ((gi_a (by decide) _).trans ((FRM_gi hF318 (r := 16) rfl rfl).trans ((FRM_gi hF317 (r := 16) rfl rfl).trans (FRM_gi hF316 (r := 16) rfl rfl))))))).trans (ol j hj).2.2⟩)⟩
                · refine x_iload_n 170 hK rfl rfl (lk1_n lk1_s (by decide) (Or.inl rfl)) ?_
                  refine x_goto 177 hK rfl rfl ?_
                  refine x_putI 180 hK rfl rfl (sp_0 (h := h318) hG318) ?_
                  refine x_iload_n 181 hK rfl rfl lk1_s ?_
                  have ce : cfl n 39 RR.1 = (if (if 39 < n then (1 : Int) else 0) = 1 then (min n 39) else -1) := by
                    rw [c9]
                    by_cases z : 39 < n
                    · rw [if_pos z, if_pos z, if_pos rfl]
                    · rw [if_neg z, if_neg z, if_neg (by decide)]
                  have yw : mkL (wI (wI (wI (wI h318 26 m.toNat e316) 27 m.toNat 0) 22 m.toNat e318) 0 9 (m + 1)) c.toNat RR.2.length = RR.2 := by
                    rw [ln, e3]
                    exact mkL_eq fun j hj => ⟨gi_a (by decide) _, gi_a (by decide) _⟩
                  exact x_iret hK rfl ⟨by rw [ce], GD_w1 (GD_wu (GD_wn (GD_wn (hG318) (r := 20) rfl rfl) (r := 21) rfl rfl) (r := 16) rfl (by omega) rfl (by omega) (by omega)) (r := 0) rfl (by omega) rfl (by omega) (by omega), FRM_w (FRM_wn 0 7 (FRM_wn 0 7 (FRM_wn 0 7 ((((hF4).trans ((hF316).mono rfl)).trans ((hF317).mono rfl)).trans ((hF318).mono rfl)) (r := 20) rfl rfl rfl (by omega) (by omega)) (r := 21) rfl rfl rfl (by omega) (by omega)) (r := 16) rfl rfl rfl (by omega) (by omega)) (r := 0) rfl rfl, ((gi_same (by omega)).trans (by omega)).trans (if_pos (by omega)).symm, fun _ => ⟨yw, fun j hj => (gi_a (by decide) _).trans (yz j (by omega))⟩, (fun j hj => ⟨((gi_a (by decide) _).trans ((gi_a (by decide) _).trans ((gi_a (by decide) _).trans ((gi_k (by omega) _).trans ((FRM_gi hF318 (r := 20) rfl rfl).trans ((FRM_gi hF317 (r := 20) rfl rfl).trans (FRM_gi hF316 (r := 20) rfl rfl))))))).trans (ol j hj).1, ((gi_a (by decide) _).trans ((gi_a (by decide) _).trans ((gi_k (by omega) _).trans ((gi_a (by decide) _).trans ((FRM_gi hF318 (r := 21) rfl rfl).trans ((FRM_gi hF317 (r := 21) rfl rfl).trans (FRM_gi hF316 (r := 21) rfl rfl))))))).trans (ol j hj).2.1, ((gi_a (by decide) _).trans ((gi_k (by omega) _).trans ((gi_a (by decide) _).trans ((gi_a (by decide) _).trans ((FRM_gi hF318 (r := 16) rfl rfl).trans ((FRM_gi hF317 (r := 16) rfl rfl).trans (FRM_gi hF316 (r := 16) rfl rfl))))))).trans (ol j hj).2.2⟩)⟩
              · refine x_if_eq 129 126 hK rfl rfl rfl (by omega) (fun _ => ?_) (fun c => by omega)
                refine x_aload_n 130 hK rfl rfl (lk1_n (lk1_n (lk1_n l0 (by decide) (Or.inl rfl)) (by decide) (Or.inl rfl)) (by decide) (Or.inl rfl)) ?_
                refine x_getR 133 hK rfl rfl (sp_0 (h := h318) hG318) (rf_0_0 (h := h318) hG318) ?_
                refine x_bipush 135 hK rfl rfl rfl ?_
                have hGp324 : GD gE gRL sh (wI (wI (wI h318 26 m.toNat e316) 27 m.toNat 0) 22 m.toNat e318) := GD_wu (GD_wn (GD_wn (hG318) (r := 20) rfl rfl) (r := 21) rfl rfl) (r := 16) rfl (by omega) rfl (by omega) (by omega)
                have at323 : gi (wI (wI (wI h318 26 m.toNat e316) 27 m.toNat 0) 22 m.toNat e318) 1 2 = p318 := (gi_a (by decide) _).trans ((gi_a (by decide) _).trans ((gi_a (by decide) _).trans (eq318)))
                have fe323 : fx (wI (wI (wI h318 26 m.toNat e316) 27 m.toNat 0) 22 m.toNat e318) = (fx h) := (fx_wI (by decide) (Or.inl (by decide))).trans ((fx_wI (by decide) (Or.inl (by decide))).trans ((fx_wI (by decide) (Or.inl (by decide))).trans ((fx_F hF318 rfl rfl).trans ((fx_F hF317 rfl rfl).trans ((fx_F hF316 rfl rfl).trans (fx_F hF4 rfl rfl))))))
                refine x_callV 138 hK hmono rfl rfl [.ref 1, .int (I 59)] [] rfl rfl (Nat.le_of_ble_eq_true rfl) (Nat.le_of_ble_eq_true rfl) rfl (sp_1 (h := h318) hG318) (CLd_le (Nat.le_of_ble_eq_true rfl) (ctX9_take hSP hGp324 (s := 59) (by omega) (by omega))) ?_
                rw [fe323, at323]
                rintro v323 h323 ⟨hG323, hF323, ⟨rfl, tk323, eq323⟩ | ⟨rfl, tk323, eq323⟩⟩
                · refine x_if_ne 149 141 hK rfl rfl rfl (by omega) (fun _ => ?_) (fun c => by omega)
                  refine x_iinc 152 hK rfl rfl (lk1_n (lk1_n (lk1_n l2 (by decide) (Or.inl rfl)) (by decide) (Or.inl rfl)) (by decide) (Or.inl rfl)) _ rfl ?_
                  refine x_goto 7 hK rfl rfl ?_
                  rw [if_pos (show fx h p318 = 59 by omega)] at e1 e2
                  have lt3 : p318 < min n 39 := by
                    by_cases z : min n 39 ≤ p318
                    · have := fe0 p318 z; omega
                    · omega
                  have yq : mkL h323 c.toNat (i + 1).toNat = mkL (wI (wI (wI h318 26 m.toNat e316) 27 m.toNat 0) 22 m.toNat e318) c.toNat (i + 1).toNat := mkL_eq fun j hj => ⟨FRM_gi hF323 (r := 20) rfl rfl, FRM_gi hF323 (r := 16) rfl rfl⟩
                  exact ih _ (by omega) (m + 1) (i + 1) (p318 + 1) _ _ rfl (by omega) (by omega) (by omega) (eq323) ((FRM_gi hF323 (r := 0) rfl rfl).trans ((gi_a (by decide) _).trans ((gi_a (by decide) _).trans ((gi_a (by decide) _).trans ((FRM_gi hF318 (r := 0) rfl rfl).trans ((FRM_gi hF317 (r := 0) rfl rfl).trans ((FRM_gi hF316 (r := 0) rfl rfl).trans (d3)))))))) ((by rw [e1, show (8 - c - (i + 1)).toNat = q by omega])) ((by rw [e2, yq, yr, show (8 - c - (i + 1)).toNat = q by omega, List.append_assoc]; rfl)) ((fun j hj => (FRM_gi hF323 (r := 21) rfl rfl).trans (yz j hj))) ((fun j hj => ⟨((FRM_gi hF323 (r := 20) rfl rfl).trans ((gi_a (by decide) _).trans ((gi_a (by decide) _).trans ((gi_k (by omega) _).trans ((FRM_gi hF318 (r := 20) rfl rfl).trans ((FRM_gi hF317 (r := 20) rfl rfl).trans (FRM_gi hF316 (r := 20) rfl rfl))))))).trans (ol j hj).1, ((FRM_gi hF323 (r := 21) rfl rfl).trans ((gi_a (by decide) _).trans ((gi_k (by omega) _).trans ((gi_a (by decide) _).trans ((FRM_gi hF318 (r := 21) rfl rfl).trans ((FRM_gi hF317 (r := 21) rfl rfl).trans (FRM_gi hF316 (r := 21) rfl rfl))))))).trans (ol j hj).2.1, ((FRM_gi hF323 (r := 16) rfl rfl).trans ((gi_k (by omega) _).trans ((gi_a (by decide) _).trans ((gi_a (by decide) _).trans ((FRM_gi hF318 (r := 16) rfl rfl).trans ((FRM_gi hF317 (r := 16) rfl rfl).trans (FRM_gi hF316 (r := 16) rfl rfl))))))).trans (ol j hj).2.2⟩)) (lk1_n (lk1_n (lk1_n (lk1_n l0 (by decide) (Or.inl rfl)) (by decide) (Or.inl rfl)) (by decide) (Or.inl rfl)) (by decide) (Or.inl rfl)) (lk1_n lk1_s (by decide) (Or.inl rfl)) lk1_s (hG323) ((FRM_wn 0 7 (FRM_wn 0 7 (FRM_wn 0 7 ((((hF4).trans ((hF316).mono rfl)).trans ((hF317).mono rfl)).trans ((hF318).mono rfl)) (r := 20) rfl rfl rfl (by omega) (by omega)) (r := 21) rfl rfl rfl (by omega) (by omega)) (r := 16) rfl rfl rfl (by omega) (by omega)).trans ((hF323).mono rfl))
                · refine x_if_ne 149 141 hK rfl rfl rfl (by omega) (fun c => by omega) (fun _ => ?_)
                  refine x_aload_n 142 hK rfl rfl (lk1_n (lk1_n (lk1_n l0 (by decide) (Or.inl rfl)) (by decide) (Or.inl rfl)) (by decide) (Or.inl rfl)) ?_
                  refine x_getR 145 hK rfl rfl (sp_0 (h := h323) hG323) (rf_0_0 (h := h323) hG323) ?_
                  refine x_getE 148 hK rfl (Or.inl rfl) rfl (sp_1 (h := h323) hG323) (e := p318) (eq323) ?_
                  rw [if_neg (show ¬ fx h p318 = 59 by omega)] at e1 e2
                  have c9 : cfl n 39 RR.1 = p318 := by rw [e1]; exact cfl_l (show p318 ≠ _ by omega)
                  exact x_iret hK rfl ⟨by rw [c9], hG323, (FRM_wn 0 7 (FRM_wn 0 7 (FRM_wn 0 7 ((((hF4).trans ((hF316).mono rfl)).trans ((hF317).mono rfl)).trans ((hF318).mono rfl)) (r := 20) rfl rfl rfl (by omega) (by omega)) (r := 21) rfl rfl rfl (by omega) (by omega)) (r := 16) rfl rfl rfl (by omega) (by omega)).trans ((hF323).mono rfl), ((FRM_gi hF323 (r := 0) rfl rfl).trans ((gi_a (by decide) _).trans ((gi_a (by decide) _).trans ((gi_a (by decide) _).trans ((FRM_gi hF318 (r := 0) rfl rfl).trans ((FRM_gi hF317 (r := 0) rfl rfl).trans ((FRM_gi hF316 (r := 0) rfl rfl).trans (d3)))))))).trans (if_neg (by rw [c9]; omega)).symm, fun z => by rw [c9] at z; omega, (fun j hj => ⟨((FRM_gi hF323 (r := 20) rfl rfl).trans ((gi_a (by decide) _).trans ((gi_a (by decide) _).trans ((gi_k (by omega) _).trans ((FRM_gi hF318 (r := 20) rfl rfl).trans ((FRM_gi hF317 (r := 20) rfl rfl).trans (FRM_gi hF316 (r := 20) rfl rfl))))))).trans (ol j hj).1, ((FRM_gi hF323 (r := 21) rfl rfl).trans ((gi_a (by decide) _).trans ((gi_k (by omega) _).trans ((gi_a (by decide) _).trans ((FRM_gi hF318 (r := 21) rfl rfl).trans ((FRM_gi hF317 (r := 21) rfl rfl).trans (FRM_gi hF316 (r := 21) rfl rfl))))))).trans (ol j hj).2.1, ((FRM_gi hF323 (r := 16) rfl rfl).trans ((gi_k (by omega) _).trans ((gi_a (by decide) _).trans ((gi_a (by decide) _).trans ((FRM_gi hF318 (r := 16) rfl rfl).trans ((FRM_gi hF317 (r := 16) rfl rfl).trans (FRM_gi hF316 (r := 16) rfl rfl))))))).trans (ol j hj).2.2⟩)⟩
            · refine x_aload_n 78 hK rfl rfl (lk1_n (lk1_n l0 (by decide) (Or.inl rfl)) (by decide) (Or.inl rfl)) ?_
              refine x_getR 81 hK rfl rfl (sp_0 (h := h318) hG318) (rf_0_0 (h := h318) hG318) ?_
              refine x_getE 84 hK rfl (Or.inl rfl) rfl (sp_1 (h := h318) hG318) (e := p318) (eq318) ?_
              obtain ⟨q, hq⟩ : ∃ q : Nat, (8 - c - i).toNat = q + 1 := ⟨(8 - c - i).toNat - 1, by omega⟩
              rw [hq] at e1 e2
              unfold rdMs at e1 e2
              have er : rdMess (fx h) p = ((false, p318), 0, 0) := by unfold rdMess; rw [nm316]; show (if e316 < 0 then _ else if fx h p316 ≠ 42 then _ else if (nmF (fx h) 1 (p316 + 1)).1 < 0 then _ else _) = _; rw [if_neg (by omega), if_neg (by omega), nm318, if_pos (show e318 < 0 by omega)]
              rw [er, if_neg (show ¬ false = true by decide)] at e1 e2
              have c9 : cfl n 39 RR.1 = p318 := by rw [e1]; exact cfl_f
              exact x_iret hK rfl ⟨by rw [c9], hG318, (((hF4).trans ((hF316).mono rfl)).trans ((hF317).mono rfl)).trans ((hF318).mono rfl), ((FRM_gi hF318 (r := 0) rfl rfl).trans ((FRM_gi hF317 (r := 0) rfl rfl).trans ((FRM_gi hF316 (r := 0) rfl rfl).trans (d3)))).trans (if_neg (by rw [c9]; omega)).symm, fun z => by rw [c9] at z; omega, (fun j hj => ⟨((FRM_gi hF318 (r := 20) rfl rfl).trans ((FRM_gi hF317 (r := 20) rfl rfl).trans (FRM_gi hF316 (r := 20) rfl rfl))).trans (ol j hj).1, ((FRM_gi hF318 (r := 21) rfl rfl).trans ((FRM_gi hF317 (r := 21) rfl rfl).trans (FRM_gi hF316 (r := 21) rfl rfl))).trans (ol j hj).2.1, ((FRM_gi hF318 (r := 16) rfl rfl).trans ((FRM_gi hF317 (r := 16) rfl rfl).trans (FRM_gi hF316 (r := 16) rfl rfl))).trans (ol j hj).2.2⟩)⟩
          · refine x_if_ne 61 53 hK rfl rfl rfl (by omega) (fun c => by omega) (fun _ => ?_)
            refine x_aload_n 54 hK rfl rfl (lk1_n l0 (by decide) (Or.inl rfl)) ?_
            refine x_getR 57 hK rfl rfl (sp_0 (h := h317) hG317) (rf_0_0 (h := h317) hG317) ?_
            refine x_getE 60 hK rfl (Or.inl rfl) rfl (sp_1 (h := h317) hG317) (e := p316) (eq317) ?_
            obtain ⟨q, hq⟩ : ∃ q : Nat, (8 - c - i).toNat = q + 1 := ⟨(8 - c - i).toNat - 1, by omega⟩
            rw [hq] at e1 e2
            unfold rdMs at e1 e2
            have er : rdMess (fx h) p = ((false, p316), 0, 0) := by unfold rdMess; rw [nm316, if_neg (show ¬ e316 < 0 by omega), if_pos (show fx h p316 ≠ 42 by omega)]
            rw [er, if_neg (show ¬ false = true by decide)] at e1 e2
            have c9 : cfl n 39 RR.1 = p316 := by rw [e1]; exact cfl_f
            exact x_iret hK rfl ⟨by rw [c9], hG317, ((hF4).trans ((hF316).mono rfl)).trans ((hF317).mono rfl), ((FRM_gi hF317 (r := 0) rfl rfl).trans ((FRM_gi hF316 (r := 0) rfl rfl).trans (d3))).trans (if_neg (by rw [c9]; omega)).symm, fun z => by rw [c9] at z; omega, (fun j hj => ⟨((FRM_gi hF317 (r := 20) rfl rfl).trans (FRM_gi hF316 (r := 20) rfl rfl)).trans (ol j hj).1, ((FRM_gi hF317 (r := 21) rfl rfl).trans (FRM_gi hF316 (r := 21) rfl rfl)).trans (ol j hj).2.1, ((FRM_gi hF317 (r := 16) rfl rfl).trans (FRM_gi hF316 (r := 16) rfl rfl)).trans (ol j hj).2.2⟩)⟩
      · refine x_aload_n 20 hK rfl rfl l0 ?_
        refine x_getR 23 hK rfl rfl (sp_0 (h := h4) hG4) (rf_0_0 (h := h4) hG4) ?_
        refine x_getE 26 hK rfl (Or.inl rfl) rfl (sp_1 (h := h4) hG4) (e := p) (d2) ?_
        have z0 : (8 - c - i).toNat = 0 := by omega
        rw [z0] at e1 e2
        have c9 : cfl n 39 RR.1 = p := by rw [e1]; exact cfl_f
        exact x_iret hK rfl ⟨by rw [c9], hG4, hF4, (d3).trans (if_neg (by rw [c9]; omega)).symm, fun z => by rw [c9] at z; omega, (fun j hj => ⟨(rfl).trans (ol j hj).1, (rfl).trans (ol j hj).2.1, (rfl).trans (ol j hj).2.2⟩)⟩
  refine x_aload_n 1 hK rfl rfl rfl ?_
  refine x_getE 4 hK rfl (Or.inl rfl) rfl (sp_0 (h := h) hG) (e := c) (hc) ?_
  refine x_istore_n 5 hK rfl rfl [(1, .int (I c)), (0, .ref 0)] rfl ?_
  refine x_iconst 6 hK rfl rfl ?_
  refine x_istore_n 7 hK rfl rfl [(2, .int (I 0)), (1, .int (I c)), (0, .ref 0)] rfl ?_
  exact loop _ c 0 0 _ _ rfl (by omega) (by omega) (by omega) (h12) (hc) ((by rw [← hRR, show 8 - c - 0 = 8 - c by omega])) ((by rw [← hRR, show 8 - c - 0 = 8 - c by omega]; rfl)) ((fun j hj => absurd hj (by show ¬ j < 0; omega))) ((fun j hj => ⟨rfl, rfl, rfl⟩)) rfl rfl rfl (hG) ((FRM.rf : FRM gRL [(0, 0, 9, 9), (0, 1, 2, 2), (0, 1, 5, 5), (0, 16, 0, 7), (0, 20, 0, 7), (0, 21, 0, 7)] h h))
set_option maxRecDepth 4000 in
theorem ctX10_messes {SP : CT} (hSP : MONO SP) {sh : List (Nat × Nat)} {h : aH} (hG : GD gE gRL sh h) (hX : XI h) : CLd SP 6 mX10_messes [.ref 0] h 0 0 (fun rv h' => rv = some (.int (I (if (fltF (gi h 1 1) 39 (msR (txF (gi h 2) (min (gi h 1 1) 39)) (gi h 1 1) (gi h 0 9)).1) = 0 then ((msR (txF (gi h 2) (min (gi h 1 1) 39)) (gi h 1 1) (gi h 0 9)).2.length : Nat) else (fltF (gi h 1 1) 39 (msR (txF (gi h 2) (min (gi h 1 1) 39)) (gi h 1 1) (gi h 0 9)).1)))) ∧ GD gE gRL sh h' ∧ FRM gRL [(0, 0, 9, 9), (0, 1, 1, 5), (0, 16, 0, 7), (0, 20, 0, 7), (0, 21, 0, 7), (0, 27, 2, 2), (0, 30, 0, 2)] h h' ∧ gi h' 1 1 = 0 ∧ gi h' 0 9 = (if (fltF (gi h 1 1) 39 (msR (txF (gi h 2) (min (gi h 1 1) 39)) (gi h 1 1) (gi h 0 9)).1) = 0 then gi h 0 9 + ((msR (txF (gi h 2) (min (gi h 1 1) 39)) (gi h 1 1) (gi h 0 9)).2.length : Nat) else gi h 0 9) ∧ ((fltF (gi h 1 1) 39 (msR (txF (gi h 2) (min (gi h 1 1) 39)) (gi h 1 1) (gi h 0 9)).1) = 0 → mkL h' (gi h 0 9).toNat (msR (txF (gi h 2) (min (gi h 1 1) 39)) (gi h 1 1) (gi h 0 9)).2.length = (msR (txF (gi h 2) (min (gi h 1 1) 39)) (gi h 1 1) (gi h 0 9)).2 ∧ ∀ j, j < (msR (txF (gi h 2) (min (gi h 1 1) 39)) (gi h 1 1) (gi h 0 9)).2.length → gi h' 27 ((gi h 0 9).toNat + j) = 0) ∧ (∀ j : Nat, (j : Int) < gi h 0 9 → gi h' 26 j = gi h 26 j ∧ gi h' 27 j = gi h 27 j ∧ gi h' 22 j = gi h 22 j) ∧ ((fltF (gi h 1 1) 39 (msR (txF (gi h 2) (min (gi h 1 1) 39)) (gi h 1 1) (gi h 0 9)).1) = 0 ∧ (msR (txF (gi h 2) (min (gi h 1 1) 39)) (gi h 1 1) (gi h 0 9)).2 ≠ [] → gi h' 33 2 = 0 ∧ ∀ k, k < 3 → gi h' 36 k = 0) ∧ (¬ ((fltF (gi h 1 1) 39 (msR (txF (gi h 2) (min (gi h 1 1) 39)) (gi h 1 1) (gi h 0 9)).1) = 0 ∧ (msR (txF (gi h 2) (min (gi h 1 1) 39)) (gi h 1 1) (gi h 0 9)).2 ≠ []) → gi h' 33 2 = gi h 33 2 ∧ ∀ k, gi h' 36 k = gi h 36 k)) := by
  refine x_met _ rfl (Nat.le_of_ble_eq_true rfl) (fun K hK => ?_)
  have hmono := MONO_CLd hSP 5
  have gs := gri 0 80 hG (a := 1) (r := 1) (k := 1) rfl rfl
  have gc := gri 0 8 hG (a := 0) (r := 0) (k := 9) rfl rfl
  obtain ⟨T, hT⟩ : ∃ T, (txF (gi h 2) (min (gi h 1 1) 39)) = T := ⟨_, rfl⟩
  obtain ⟨RR, hRR⟩ : ∃ RR, msR T (gi h 1 1) (gi h 0 9) = RR := ⟨_, rfl⟩
  rw [hT, hRR] at hK
  have fe0 : ∀ a, min (gi h 1 1) 39 ≤ a → T a = -1 := fun a ha => by rw [← hT]; exact if_neg (by omega)
  refine x_aload_n 1 hK rfl rfl rfl ?_
  refine x_getR 4 hK rfl rfl (sp_0 (h := h) hG) (rf_0_0 (h := h) hG) ?_
  have g325 := gri (0) (80) hG (a := 1) (r := 1) (k := 1) rfl rfl
  refine x_getE 7 hK rfl (Or.inl rfl) rfl (sp_1 (h := h) hG) (e := (gi h 1 1)) (rfl) ?_
  refine x_if_ne 12 10 hK rfl rfl rfl (by omega) (fun c4 => ?_) (fun c4 => ?_)
  · refine x_aload_n 13 hK rfl rfl rfl ?_
    refine x_getR 16 hK rfl rfl (sp_0 (h := h) hG) (rf_0_0 (h := h) hG) ?_
    refine x_bipush 18 hK rfl rfl rfl ?_
    have z327 : gi h 1 1 = (gi h 1 1) := rfl
    refine x_callV 21 hK hmono rfl rfl [.ref 1, .int (I 39)] [] rfl rfl (Nat.le_of_ble_eq_true rfl) (Nat.le_of_ble_eq_true rfl) rfl (sp_1 (h := h) hG) (CLd_le (Nat.le_of_ble_eq_true rfl) (ctX9_open hSP hG (by omega))) ?_
    rintro v326 h326 ⟨rfl, hG326, hF326, o326, p326, q326, r326⟩
    rw [z327] at p326 q326
    refine x_aload_n 22 hK rfl rfl rfl ?_
    have g328 := gri (0) (8) hG (a := 0) (r := 0) (k := 9) rfl rfl
    refine x_getE 25 hK rfl (Or.inl rfl) rfl (sp_0 (h := h326) hG326) (e := (gi h 0 9)) (FRM_gi hF326 (r := 0) rfl rfl) ?_
    refine x_istore_n 26 hK rfl rfl [(1, .int (I (gi h 0 9))), (0, .ref 0)] rfl ?_
    refine x_aload_n 27 hK rfl rfl rfl ?_
    have z2 : gi h326 1 2 = 0 := o326
    have z3 : gi h326 1 3 = min (gi h 1 1) 39 := p326
    have z4 : gi h326 1 4 = (if 39 < gi h 1 1 then (1 : Int) else 0) := q326
    have zc : gi h326 0 9 = gi h 0 9 := FRM_gi hF326 (r := 0) rfl rfl
    have zt : fx h326 = T := by rw [fx_tx, z3, ← hT, show gi h326 2 = gi h 2 from funext fun k => FRM_gi hF326 (r := 2) rfl rfl]
    have rr : rdMs T (8 - gi h 0 9).toNat 0 = RR := by rw [← hRR]; unfold msR; rw [if_neg (by omega)]
    have rp := rdMs_p fe0 (8 - gi h 0 9).toNat 0 (by omega)
    rw [rr] at rp
    have cf := cfl_flt (n := gi h 1 1) (most := 39) (r := RR.1) (by omega) (by omega) rp.1 rp.2
    have cb : -1 ≤ cfl (gi h 1 1) 39 RR.1 ∧ cfl (gi h 1 1) 39 RR.1 ≤ 39 := by unfold cfl; (repeat' split) <;> omega
    refine x_callV 30 hK hmono rfl rfl [.ref 0] [] rfl rfl (Nat.le_of_ble_eq_true rfl) (Nat.le_of_ble_eq_true rfl) rfl (sp_0 (h := h326) hG326) (CLd_le (Nat.le_of_ble_eq_true rfl) (ctX10_readMesses hSP hG326 (n := gi h 1 1) z2 z3 z4 (by omega))) ?_
    rw [zt, zc, rr]
    rintro v329 h329 ⟨rfl, hG329, hF329, y0, y1, y3⟩
    refine x_istore_n 31 hK rfl rfl [(2, .int (I (cfl (gi h 1 1) 39 RR.1))), (1, .int (I (gi h 0 9))), (0, .ref 0)] rfl ?_
    refine x_aload_n 32 hK rfl rfl rfl ?_
    refine x_getR 35 hK rfl rfl (sp_0 (h := h329) hG329) (rf_0_0 (h := h329) hG329) ?_
    refine x_iconst 36 hK rfl rfl ?_
    refine x_putI 39 hK rfl rfl (sp_1 (h := h329) hG329) ?_
    refine x_iload_n 40 hK rfl rfl rfl ?_
    refine x_iconst 41 hK rfl rfl ?_
    refine x_if_icmp_eq 48 44 hK rfl rfl rfl (by omega) (by omega) (fun c21 => ?_) (fun c21 => ?_)
    · refine x_aload_n 49 hK rfl rfl rfl ?_
      refine x_getR 52 hK rfl rfl (sp_0 (h := h329) hG329) (rf_0_12 (h := h329) hG329) ?_
      have hGp330 : GD gE gRL sh (wI h329 1 1 0) := GD_w1 (hG329) (r := 1) rfl (by omega) rfl (by omega) (by omega)
      refine x_callV 55 hK hmono rfl rfl [.ref 33] [] rfl rfl (Nat.le_of_ble_eq_true rfl) (Nat.le_of_ble_eq_true rfl) rfl (sp_33 (h := h329) hG329) (CLd_le (Nat.le_of_ble_eq_true rfl) (kX1_forgetAll_0 hSP [.ref 33] _ (xOk_ok rfl h329 (wI h329 1 1 0) (FRM_w ((FRM.rf : FRM gRL [(0, 1, 1, 1)] h329 h329)) (r := 1) rfl rfl) (xOk_ok rfl _ h329 hF329 (xOk_ok rfl _ h326 hF326 hX))) ⟨gv_r (by decide) rfl, trivial⟩ hGp330 gov_n)) ?_
      rintro v331 h331 ⟨hG331, hF331, o331, m331, q331, yy331, -⟩
      obtain rfl := List.mem_singleton.mp m331
      obtain rfl := QS_v q331
      have w0 : gi h331 33 2 = 0 := ov_at (r := 27) 0 (by decide) (by decide) yy331 (by decide)
      have w1 : ∀ k, k < 3 → gi h331 36 k = 0 := fun k hk => ov_at (r := 30) 0 (by decide) (by decide) yy331 (by revert k; decide)
      refine x_aload_n 56 hK rfl rfl rfl ?_
      have g332 := gri (0) (8) hG329 (a := 0) (r := 0) (k := 9) rfl rfl
      refine x_getE 59 hK rfl (Or.inl rfl) rfl (sp_0 (h := h331) hG331) (e := (gi h329 0 9)) ((FRM_gi hF331 (r := 0) rfl rfl).trans (gi_a (by decide) _)) ?_
      refine x_iload_n 60 hK rfl rfl rfl ?_
      refine x_isub 61 hK rfl rfl ?_
      have f9 : fltF (gi h 1 1) 39 RR.1 = 0 := cf.1.mp (by omega)
      obtain ⟨y4, y5⟩ := y1 (by omega)
      rw [if_pos (show cfl (gi h 1 1) 39 RR.1 = -1 by omega)] at y0
      have nz : RR.2 ≠ [] := by
        intro z
        obtain ⟨q, hq⟩ : ∃ q : Nat, (8 - gi h 0 9).toNat = q + 1 ∨ (8 - gi h 0 9).toNat = 0 := ⟨(8 - gi h 0 9).toNat - 1, by omega⟩
        have r1 := (fltF_0 (by omega) rp.1 f9).1
        rcases hq with hq | hq
        · rw [hq] at rr
          rw [← rr] at z r1
          unfold rdMs at z r1
          split at z
          · split at z <;> cases z
          · rename_i w; rw [if_neg w] at r1; cases r1
        · rw [hq] at rr
          rw [← rr] at r1
          cases r1
      have q0 : gi h331 0 9 = gi h 0 9 + (RR.2.length : Nat) := ((FRM_gi hF331 (r := 0) rfl rfl).trans (gi_a (by decide) _)).trans y0
      exact x_iret hK rfl ⟨by rw [if_pos f9, show ((gi h329 0 9) - (gi h 0 9)) = ((RR.2.length : Nat) : Int) by omega], hG331, (FRM_w (((hF326).mono rfl).trans ((hF329).mono rfl)) (r := 1) rfl rfl).trans ((hF331).mono rfl), (FRM_gi hF331 (r := 1) rfl rfl).trans (gi_same (by omega)), q0.trans (if_pos f9).symm, fun _ => ⟨(mkL_eq fun j hj => ⟨(FRM_gi hF331 (r := 20) rfl rfl).trans (gi_a (by decide) _), (FRM_gi hF331 (r := 16) rfl rfl).trans (gi_a (by decide) _)⟩).trans y4, fun j hj => ((FRM_gi hF331 (r := 21) rfl rfl).trans (gi_a (by decide) _)).trans (y5 j hj)⟩, (fun j hj => ⟨((FRM_gi hF331 (r := 20) rfl rfl).trans (gi_a (by decide) _)).trans ((y3 j hj).1.trans (FRM_gi hF326 (r := 20) rfl rfl)), ((FRM_gi hF331 (r := 21) rfl rfl).trans (gi_a (by decide) _)).trans ((y3 j hj).2.1.trans (FRM_gi hF326 (r := 21) rfl rfl)), ((FRM_gi hF331 (r := 16) rfl rfl).trans (gi_a (by decide) _)).trans ((y3 j hj).2.2.trans (FRM_gi hF326 (r := 16) rfl rfl))⟩), fun _ => ⟨w0, w1⟩, fun z => absurd ⟨f9, nz⟩ z⟩
    · refine x_iconst 45 hK rfl rfl ?_
      refine x_iload_n 46 hK rfl rfl rfl ?_
      refine x_isub 47 hK rfl rfl ?_
      have f9 : fltF (gi h 1 1) 39 RR.1 ≠ 0 := fun z => by have := cf.1.mpr z; omega
      rw [if_neg (show ¬ cfl (gi h 1 1) 39 RR.1 = -1 by omega)] at y0
      exact x_iret hK rfl ⟨by rw [if_neg f9, ← cf.2 (by omega)], GD_w1 (hG329) (r := 1) rfl (by omega) rfl (by omega) (by omega), FRM_w (((hF326).mono rfl).trans ((hF329).mono rfl)) (r := 1) rfl rfl, gi_same (by omega), ((gi_a (by decide) _).trans y0).trans (if_neg f9).symm, fun z => absurd z f9, (fun j hj => ⟨(gi_a (by decide) _).trans ((y3 j hj).1.trans (FRM_gi hF326 (r := 20) rfl rfl)), (gi_a (by decide) _).trans ((y3 j hj).2.1.trans (FRM_gi hF326 (r := 21) rfl rfl)), (gi_a (by decide) _).trans ((y3 j hj).2.2.trans (FRM_gi hF326 (r := 16) rfl rfl))⟩), fun z => absurd z.1 f9, fun _ => ⟨(gi_a (by decide) _).trans ((FRM_gi hF329 (r := 27) rfl rfl).trans (FRM_gi hF326 (r := 27) rfl rfl)), fun k => (gi_a (by decide) _).trans ((FRM_gi hF329 (r := 30) rfl rfl).trans (FRM_gi hF326 (r := 30) rfl rfl))⟩⟩
  · refine x_iconst 11 hK rfl rfl ?_
    have r0 : RR = ((true, 0), []) := by rw [← hRR]; unfold msR; rw [if_pos (by omega)]
    have f9 : fltF (gi h 1 1) 39 RR.1 = 0 := by rw [r0]; exact (fltF_of (by omega) (by omega)).mpr (by omega)
    exact x_iret hK rfl ⟨by rw [if_pos f9, r0]; rfl, hG, FRM.rf, by omega, by rw [if_pos f9, r0]; exact (Int.add_zero _).symm, fun _ => by rw [r0]; exact ⟨rfl, fun j hj => absurd hj (Nat.not_lt_zero _)⟩, fun j hj => ⟨rfl, rfl, rfl⟩, fun z => absurd (by rw [r0]) z.2, fun _ => ⟨rfl, fun _ => rfl⟩⟩
