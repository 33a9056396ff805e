/-! THE RULE, read by the class -/
set_option maxRecDepth 4000 in
theorem ctX5_readFromF {SP : CT} (hSP : MONO SP) {sh : List (Nat × Nat)} {h : aH} (hG : GD gE gRL sh h) {u : Nat} (hP : PT h) (hu : u = 11 ∨ u = 14) {n : Int} (h12 : gi h 1 2 = 0) (h13 : gi h 1 3 = min n 40) (h14 : gi h 1 4 = if 40 < n then 1 else 0) (hn : 0 ≤ n ∧ n ≤ 80) : CLd SP 7 mX5_readFrom [.ref 17, .ref 1, .ref u] h 0 0 (fun rv h' => (∃ (p : Int) (q s : List Int) (d : Nat) (c : Nat → Bool) (w : Bool), GoR (fx h) (0, [], [], 0, fun _ => false, true) (p, q, s, d, c, w) ∧ mstp (fx h) (p, q, s, d, c, w) = none ∧ (0 ≤ p ∧ p ≤ min n 40) ∧ rv = some (.int (I (cfl n 40 (!w && decide (d = 0), p)))) ∧ ((cfl n 40 (!w && decide (d = 0), p)) = -1 → cdL h' u (gi h' u 1).toNat = q ++ ngs (popS 1 s))) ∧ GD gE gRL sh h' ∧ FRM gRL [(0, 1, 2, 2), (0, 1, 5, 5), (0, 8, 1, 1), (0, 9, 0, 39), (0, 11, 1, 4), (0, 12, 0, 39)] h h' ∧ ∀ a k : Nat, a ≠ 1 → a ≠ 17 → a ≠ 18 → a ≠ u → a ≠ u + 1 → gi h' a k = gi h a k) := by
  refine x_met _ rfl (Nat.le_of_ble_eq_true rfl) (fun K hK => ?_)
  have hmono := MONO_CLd hSP 6
  have fe0 : ∀ a, min n 40 ≤ a → fx h a = -1 := fun a ha => fx_end h a (by rw [h13]; exact ha)
  have loop : ∀ (mz : Nat) (i p : Int) (h4 : aH) (ls : List (Nat × Value)), ((40 - i).toNat = mz) → (0 ≤ i ∧ i ≤ 40) → (i ≤ p ∧ p ≤ min n 40) → (∃ (q s : List Int) (d : Nat) (c : Nat → Bool) (w : Bool), GoR (fx h) (0, [], [], 0, fun _ => false, true) (p, q, s, d, c, w) ∧ RdH h4 u p q s d c w) → (∀ a k : Nat, a ≠ 1 → a ≠ 17 → a ≠ 18 → a ≠ u → a ≠ u + 1 → gi h4 a k = gi h a k) → lk ls 0 = some (.ref 17) → lk ls 1 = some (.ref 1) → lk ls 2 = some (.ref u) → lk ls 3 = some (.int (I i)) → GD gE gRL sh h4 → FRM gRL [(0, 1, 2, 2), (0, 1, 5, 5), (0, 8, 1, 1), (0, 9, 0, 39), (0, 11, 1, 4), (0, 12, 0, 39)] h h4 → K 27 ls [] h4 0 0 := by
    intro mz
    induction mz using Nat.strongRecOn with
    | ind mz ih =>
    intro i p h4 ls hm i0 pi hq oa l0 l1 l2 l3 hG4 hF4
    obtain ⟨q, s, d, c, w, hgo, hR⟩ := hq
    have hR2 := hR
    obtain ⟨e1, e2, e3, e4, e5, e6, hc, en, ew, eb⟩ := hR2
    have s3 : gi h4 1 3 = min n 40 := (FRM_gi hF4 (r := 1) rfl rfl).trans h13
    have s4 : gi h4 1 4 = (if 40 < n then (1 : Int) else 0) := (FRM_gi hF4 (r := 1) rfl rfl).trans h14
    have sF : fx h4 = fx h := fx_F hF4 rfl rfl
    have gn := gri 0 40 hG4 (a := u) (r := 8) (k := 1) (su_r hu).1 rfl
    have gw0 := gri 0 40 hG4 (a := 17) (r := 11) (k := 1) rfl rfl
    have gd0 := gri 0 4 hG4 (a := 17) (r := 11) (k := 2) rfl rfl
    have stop : min n 40 ≤ p → mstp (fx h) (p, q, s, d, c, w) = none := fun z => by
      have z2 := fe0 p z
      cases w with
      | true =>
        show mthg (fx h) p q s d c = none
        unfold mthg
        rw [if_neg (by omega), if_neg (by unfold askI; omega), if_neg (by omega), if_neg (by omega)]
      | false =>
        show mopr (fx h) p q s d c = none
        unfold mopr
        rw [if_neg (by omega), if_pos (Or.inl (by rw [z2]; rfl))]
    refine x_iload_n 28 hK rfl rfl l3 ?_
    refine x_bipush 30 hK rfl rfl rfl ?_
    refine x_if_icmp_ge 80 33 hK rfl rfl rfl (by omega) (by omega) (fun c3 => ?_) (fun c3 => ?_)
    · refine x_aload_n 81 hK rfl rfl l0 ?_
      have g358 := gri (0) (1) hG4 (a := 17) (r := 11) (k := 4) rfl rfl
      refine x_getE 84 hK rfl (Or.inr rfl) rfl (sp_17 (h := h4) hG4) (e := (gi h4 17 4)) (rfl) ?_
      obtain wv | wv : w = true ∨ w = false := Bool.eq_false_or_eq_true w
      · rw [show (gi h4 17 4) = 1 from by rw [e6, wv]; rfl]
        refine x_if_ne 94 87 hK rfl rfl rfl (by omega) (fun _ => ?_) (fun c => by omega)
        refine x_aload_n 95 hK rfl rfl l1 ?_
        refine x_getE 98 hK rfl (Or.inl rfl) rfl (sp_1 (h := h4) hG4) (e := p) (e1) ?_
        have e9 : (cfl n 40 (!w && decide (d = 0), p)) = p := by unfold cfl; exact if_neg (fun z => by have z1 : (!w && decide (d = 0)) = true := z.1; first | (simp [wv] at z1; done) | (simp [wv] at z1; omega))
        exact x_iret hK rfl ⟨⟨p, q, s, d, c, w, hgo, stop (by omega), ⟨by omega, by omega⟩, by rw [e9], fun z => by rw [e9] at z; omega⟩, hG4, hF4, fun a k n1 n2 n3 n4 n5 => oa a k n1 n2 n3 n4 n5⟩
      · rw [show (gi h4 17 4) = 0 from by rw [e6, wv]; rfl]
        refine x_if_ne 94 87 hK rfl rfl rfl (by omega) (fun c => by omega) (fun _ => ?_)
        refine x_aload_n 88 hK rfl rfl l0 ?_
        refine x_getE 91 hK rfl (Or.inl rfl) rfl (sp_17 (h := h4) hG4) (e := (d : Int)) (e4) ?_
        refine x_if_le 99 94 hK rfl rfl rfl (by omega) (fun c14 => ?_) (fun c14 => ?_)
        · refine x_aload_n 100 hK rfl rfl l0 ?_
          refine x_iconst 101 hK rfl rfl ?_
          refine x_aload_n 102 hK rfl rfl l2 ?_
          refine x_callV 105 hK hmono rfl rfl [.ref 17, .int (I 1), .ref u] [] rfl rfl (Nat.le_of_ble_eq_true rfl) (Nat.le_of_ble_eq_true rfl) rfl (sp_17 (h := h4) hG4) (CLd_le (Nat.le_of_ble_eq_true rfl) (ctX5_releaseF hSP hG4 (show PT h4 from (PT_F hF4 (by decide) hP)) hu (r := 1) (by omega) (by omega) (fun j hj => wt_at ew e3 j (by omega)))) ?_
          rw [e2, e3]
          rintro v359 h359 ⟨rfl, hG359, hF359, o359, w359, t359, oa359⟩
          refine x_aload_n 106 hK rfl rfl l1 ?_
          have to360 : gi h359 1 3 = (min n 40) := (FRM_gi hF359 (r := 1) rfl rfl).trans (s3)
          have mo360 : gi h359 1 4 = (if 40 < n then (1 : Int) else 0) := (FRM_gi hF359 (r := 1) rfl rfl).trans (s4)
          refine x_callV 109 hK hmono rfl rfl [.ref 1] [] rfl rfl (Nat.le_of_ble_eq_true rfl) (Nat.le_of_ble_eq_true rfl) rfl (sp_1 (h := h359) hG359) (CLd_le (Nat.le_of_ble_eq_true rfl) (ctX9_faultAtEnd hSP hG359)) ?_
          rw [to360, mo360]
          rintro v9 h9 ⟨e9, rfl⟩
          rw [e9]
          clear e9
          have e9 : (cfl n 40 (!w && decide (d = 0), p)) = (if (if 40 < n then (1 : Int) else 0) = 1 then (min n 40) else -1) := by
            unfold cfl
            rw [wv, show d = 0 by omega, show p = min n 40 by omega]
            refine (if_pos ⟨rfl, rfl⟩).trans ?_
            by_cases z : 40 < n
            · rw [if_pos z, if_pos z, if_pos rfl]
            · rw [if_neg z, if_neg z, if_neg (by decide)]
          exact x_iret hK rfl ⟨⟨p, q, s, d, c, w, hgo, stop (by omega), ⟨by omega, by omega⟩, by rw [e9], fun _ => o359⟩, hG359, (hF4).trans ((hF359).mono rfl), fun a k n1 n2 n3 n4 n5 => (oa359 a k n2 n4 n5).trans (oa a k n1 n2 n3 n4 n5)⟩
        · refine x_aload_n 95 hK rfl rfl l1 ?_
          refine x_getE 98 hK rfl (Or.inl rfl) rfl (sp_1 (h := h4) hG4) (e := p) (e1) ?_
          have e9 : (cfl n 40 (!w && decide (d = 0), p)) = p := by unfold cfl; exact if_neg (fun z => by have z1 : (!w && decide (d = 0)) = true := z.1; first | (simp [wv] at z1; done) | (simp [wv] at z1; omega))
          exact x_iret hK rfl ⟨⟨p, q, s, d, c, w, hgo, stop (by omega), ⟨by omega, by omega⟩, by rw [e9], fun z => by rw [e9] at z; omega⟩, hG4, hF4, fun a k n1 n2 n3 n4 n5 => oa a k n1 n2 n3 n4 n5⟩
    · refine x_aload_n 34 hK rfl rfl l1 ?_
      have at361 : gi h4 1 2 = p := e1
      have to361 : gi h4 1 3 = (min n 40) := s3
      refine x_callV 37 hK hmono rfl rfl [.ref 1] [] rfl rfl (Nat.le_of_ble_eq_true rfl) (Nat.le_of_ble_eq_true rfl) rfl (sp_1 (h := h4) hG4) (CLd_le (Nat.le_of_ble_eq_true rfl) (ctX9_ended hSP hG4)) ?_
      rw [at361, to361]
      rintro v9 h9 ⟨e9, ⟨rfl, en361⟩ | ⟨rfl, en361⟩⟩ <;> rw [e9] <;> clear e9
      · refine x_if_ne 80 40 hK rfl rfl rfl (by omega) (fun _ => ?_) (fun c => by omega)
        refine x_aload_n 81 hK rfl rfl l0 ?_
        have g362 := gri (0) (1) hG4 (a := 17) (r := 11) (k := 4) rfl rfl
        refine x_getE 84 hK rfl (Or.inr rfl) rfl (sp_17 (h := h4) hG4) (e := (gi h4 17 4)) (rfl) ?_
        obtain wv | wv : w = true ∨ w = false := Bool.eq_false_or_eq_true w
        · rw [show (gi h4 17 4) = 1 from by rw [e6, wv]; rfl]
          refine x_if_ne 94 87 hK rfl rfl rfl (by omega) (fun _ => ?_) (fun c => by omega)
          refine x_aload_n 95 hK rfl rfl l1 ?_
          refine x_getE 98 hK rfl (Or.inl rfl) rfl (sp_1 (h := h4) hG4) (e := p) (e1) ?_
          have e9 : (cfl n 40 (!w && decide (d = 0), p)) = p := by unfold cfl; exact if_neg (fun z => by have z1 : (!w && decide (d = 0)) = true := z.1; first | (simp [wv] at z1; done) | (simp [wv] at z1; omega))
          exact x_iret hK rfl ⟨⟨p, q, s, d, c, w, hgo, stop (by omega), ⟨by omega, by omega⟩, by rw [e9], fun z => by rw [e9] at z; omega⟩, hG4, hF4, fun a k n1 n2 n3 n4 n5 => oa a k n1 n2 n3 n4 n5⟩
        · rw [show (gi h4 17 4) = 0 from by rw [e6, wv]; rfl]
          refine x_if_ne 94 87 hK rfl rfl rfl (by omega) (fun c => by omega) (fun _ => ?_)
          refine x_aload_n 88 hK rfl rfl l0 ?_
          refine x_getE 91 hK rfl (Or.inl rfl) rfl (sp_17 (h := h4) hG4) (e := (d : Int)) (e4) ?_
          refine x_if_le 99 94 hK rfl rfl rfl (by omega) (fun c38 => ?_) (fun c38 => ?_)
          · refine x_aload_n 100 hK rfl rfl l0 ?_
            refine x_iconst 101 hK rfl rfl ?_
            refine x_aload_n 102 hK rfl rfl l2 ?_
            refine x_callV 105 hK hmono rfl rfl [.ref 17, .int (I 1), .ref u] [] rfl rfl (Nat.le_of_ble_eq_true rfl) (Nat.le_of_ble_eq_true rfl) rfl (sp_17 (h := h4) hG4) (CLd_le (Nat.le_of_ble_eq_true rfl) (ctX5_releaseF hSP hG4 (show PT h4 from (PT_F hF4 (by decide) hP)) hu (r := 1) (by omega) (by omega) (fun j hj => wt_at ew e3 j (by omega)))) ?_
            rw [e2, e3]
            rintro v363 h363 ⟨rfl, hG363, hF363, o363, w363, t363, oa363⟩
            refine x_aload_n 106 hK rfl rfl l1 ?_
            have to364 : gi h363 1 3 = (min n 40) := (FRM_gi hF363 (r := 1) rfl rfl).trans (s3)
            have mo364 : gi h363 1 4 = (if 40 < n then (1 : Int) else 0) := (FRM_gi hF363 (r := 1) rfl rfl).trans (s4)
            refine x_callV 109 hK hmono rfl rfl [.ref 1] [] rfl rfl (Nat.le_of_ble_eq_true rfl) (Nat.le_of_ble_eq_true rfl) rfl (sp_1 (h := h363) hG363) (CLd_le (Nat.le_of_ble_eq_true rfl) (ctX9_faultAtEnd hSP hG363)) ?_
            rw [to364, mo364]
            rintro v9 h9 ⟨e9, rfl⟩
            rw [e9]
            clear e9
            have e9 : (cfl n 40 (!w && decide (d = 0), p)) = (if (if 40 < n then (1 : Int) else 0) = 1 then (min n 40) else -1) := by
              unfold cfl
              rw [wv, show d = 0 by omega, show p = min n 40 by omega]
              refine (if_pos ⟨rfl, rfl⟩).trans ?_
              by_cases z : 40 < n
              · rw [if_pos z, if_pos z, if_pos rfl]
              · rw [if_neg z, if_neg z, if_neg (by decide)]
            exact x_iret hK rfl ⟨⟨p, q, s, d, c, w, hgo, stop (by omega), ⟨by omega, by omega⟩, by rw [e9], fun _ => o363⟩, hG363, (hF4).trans ((hF363).mono rfl), fun a k n1 n2 n3 n4 n5 => (oa363 a k n2 n4 n5).trans (oa a k n1 n2 n3 n4 n5)⟩
          · refine x_aload_n 95 hK rfl rfl l1 ?_
            refine x_getE 98 hK rfl (Or.inl rfl) rfl (sp_1 (h := h4) hG4) (e := p) (e1) ?_
            have e9 : (cfl n 40 (!w && decide (d = 0), p)) = p := by unfold cfl; exact if_neg (fun z => by have z1 : (!w && decide (d = 0)) = true := z.1; first | (simp [wv] at z1; done) | (simp [wv] at z1; omega))
            exact x_iret hK rfl ⟨⟨p, q, s, d, c, w, hgo, stop (by omega), ⟨by omega, by omega⟩, by rw [e9], fun z => by rw [e9] at z; omega⟩, hG4, hF4, fun a k n1 n2 n3 n4 n5 => oa a k n1 n2 n3 n4 n5⟩
      · refine x_if_ne 80 40 hK rfl rfl rfl (by omega) (fun c => by omega) (fun _ => ?_)
        refine x_aload_n 41 hK rfl rfl l0 ?_
        have g365 := gri (0) (1) hG4 (a := 17) (r := 11) (k := 4) rfl rfl
        refine x_getE 44 hK rfl (Or.inr rfl) rfl (sp_17 (h := h4) hG4) (e := (gi h4 17 4)) (rfl) ?_
        obtain wv | wv : w = true ∨ w = false := Bool.eq_false_or_eq_true w
        · rw [show (gi h4 17 4) = 1 from by rw [e6, wv]; rfl]
          refine x_if_eq 56 47 hK rfl rfl rfl (by omega) (fun c => by omega) (fun _ => ?_)
          refine x_aload_n 48 hK rfl rfl l0 ?_
          refine x_aload_n 49 hK rfl rfl l1 ?_
          refine x_aload_n 50 hK rfl rfl l2 ?_
          rw [wv] at hR hgo stop
          refine x_callV 53 hK hmono rfl rfl [.ref 17, .ref 1, .ref u] [] rfl rfl (Nat.le_of_ble_eq_true rfl) (Nat.le_of_ble_eq_true rfl) rfl (sp_17 (h := h4) hG4) (CLd_le (Nat.le_of_ble_eq_true rfl) (ctX5_takeThingF hSP hG4 (show PT h4 from (PT_F hF4 (by decide) hP)) hu hR (by omega) (by omega))) ?_
          rw [sF, s3]
          rintro v366 h366 ⟨⟨p366, q366, s366, d366, c366, w366, st366, rfl, hR366, lt366, le366⟩ | ⟨st366, rfl, e9366⟩, hG366, hF366, oa366⟩
          · refine x_goto 62 hK rfl rfl ?_
            refine x_istore 64 hK rfl rfl _ rfl ?_
            refine x_iload 66 hK rfl rfl lk1_s ?_
            refine x_if_ne 74 69 hK rfl rfl rfl (by omega) (fun _ => ?_) (fun c => by omega)
            refine x_iinc 77 hK rfl rfl (lk1_n l3 (by decide) (Or.inl rfl)) _ rfl ?_
            refine x_goto 27 hK rfl rfl ?_
            exact ih _ (by omega) (i + 1) p366 _ _ rfl (by omega) (⟨by omega, by omega⟩) (⟨_, _, _, _, _, hgo.tr (GoR.one st366), hR366⟩) ((fun a k n1 n2 n3 n4 n5 => (oa366 a k n1 n2 n3 n4 n5).trans (oa a k n1 n2 n3 n4 n5))) (lk1_n (lk1_n l0 (by decide) (Or.inl rfl)) (by decide) (Or.inl rfl)) (lk1_n (lk1_n l1 (by decide) (Or.inl rfl)) (by decide) (Or.inl rfl)) (lk1_n (lk1_n l2 (by decide) (Or.inl rfl)) (by decide) (Or.inl rfl)) lk1_s (hG366) ((hF4).trans ((hF366).mono rfl))
          · rw [e9366]
            have st9 := st366
            refine x_goto 62 hK rfl rfl ?_
            refine x_istore 64 hK rfl rfl _ rfl ?_
            refine x_iload 66 hK rfl rfl lk1_s ?_
            refine x_if_ne 74 69 hK rfl rfl rfl (by omega) (fun c => by omega) (fun _ => ?_)
            refine x_aload_n 70 hK rfl rfl (lk1_n l1 (by decide) (Or.inl rfl)) ?_
            refine x_getE 73 hK rfl (Or.inl rfl) rfl (sp_1 (h := h4) hG4) (e := p) (e1) ?_
            have pl : p < min n 40 := by omega
            have e9 : (cfl n 40 (!w && decide (d = 0), p)) = p := by unfold cfl; exact if_neg (fun z => by have z2 : p = min n 40 := z.2; omega)
            exact x_iret hK rfl ⟨⟨p, q, s, d, c, w, by rw [wv]; exact hgo, by rw [wv]; exact st9, ⟨by omega, by omega⟩, by rw [e9], fun z => by rw [e9] at z; omega⟩, hG4, hF4, fun a k n1 n2 n3 n4 n5 => oa a k n1 n2 n3 n4 n5⟩
        · rw [show (gi h4 17 4) = 0 from by rw [e6, wv]; rfl]
          refine x_if_eq 56 47 hK rfl rfl rfl (by omega) (fun _ => ?_) (fun c => by omega)
          refine x_aload_n 57 hK rfl rfl l0 ?_
          refine x_aload_n 58 hK rfl rfl l1 ?_
          refine x_aload_n 59 hK rfl rfl l2 ?_
          rw [wv] at hR hgo stop
          refine x_callV 62 hK hmono rfl rfl [.ref 17, .ref 1, .ref u] [] rfl rfl (Nat.le_of_ble_eq_true rfl) (Nat.le_of_ble_eq_true rfl) rfl (sp_17 (h := h4) hG4) (CLd_le (Nat.le_of_ble_eq_true rfl) (ctX5_takeOperatorF hSP hG4 (show PT h4 from (PT_F hF4 (by decide) hP)) hu hR (by omega) (by omega))) ?_
          rw [sF, s3]
          rintro v367 h367 ⟨⟨p367, q367, s367, d367, c367, w367, st367, rfl, hR367, lt367, le367⟩ | ⟨st367, rfl, e9367⟩, hG367, hF367, oa367⟩
          · refine x_istore 64 hK rfl rfl _ rfl ?_
            refine x_iload 66 hK rfl rfl lk1_s ?_
            refine x_if_ne 74 69 hK rfl rfl rfl (by omega) (fun _ => ?_) (fun c => by omega)
            refine x_iinc 77 hK rfl rfl (lk1_n l3 (by decide) (Or.inl rfl)) _ rfl ?_
            refine x_goto 27 hK rfl rfl ?_
            exact ih _ (by omega) (i + 1) p367 _ _ rfl (by omega) (⟨by omega, by omega⟩) (⟨_, _, _, _, _, hgo.tr (GoR.one st367), hR367⟩) ((fun a k n1 n2 n3 n4 n5 => (oa367 a k n1 n2 n3 n4 n5).trans (oa a k n1 n2 n3 n4 n5))) (lk1_n (lk1_n l0 (by decide) (Or.inl rfl)) (by decide) (Or.inl rfl)) (lk1_n (lk1_n l1 (by decide) (Or.inl rfl)) (by decide) (Or.inl rfl)) (lk1_n (lk1_n l2 (by decide) (Or.inl rfl)) (by decide) (Or.inl rfl)) lk1_s (hG367) ((hF4).trans ((hF367).mono rfl))
          · rw [e9367]
            have st9 := st367
            refine x_istore 64 hK rfl rfl _ rfl ?_
            refine x_iload 66 hK rfl rfl lk1_s ?_
            refine x_if_ne 74 69 hK rfl rfl rfl (by omega) (fun c => by omega) (fun _ => ?_)
            refine x_aload_n 70 hK rfl rfl (lk1_n l1 (by decide) (Or.inl rfl)) ?_
            refine x_getE 73 hK rfl (Or.inl rfl) rfl (sp_1 (h := h4) hG4) (e := p) (e1) ?_
            have pl : p < min n 40 := by omega
            have e9 : (cfl n 40 (!w && decide (d = 0), p)) = p := by unfold cfl; exact if_neg (fun z => by have z2 : p = min n 40 := z.2; omega)
            exact x_iret hK rfl ⟨⟨p, q, s, d, c, w, by rw [wv]; exact hgo, by rw [wv]; exact st9, ⟨by omega, by omega⟩, by rw [e9], fun z => by rw [e9] at z; omega⟩, hG4, hF4, fun a k n1 n2 n3 n4 n5 => oa a k n1 n2 n3 n4 n5⟩
  refine x_aload_n 1 hK rfl rfl rfl ?_
  refine x_iconst 2 hK rfl rfl ?_
  refine x_putI 5 hK rfl rfl (shx (h := h) hG (r := 8) (su_r hu).1 rfl) ?_
  refine x_aload_n 6 hK rfl rfl rfl ?_
  refine x_iconst 7 hK rfl rfl ?_
  refine x_putI 10 hK rfl rfl (sp_17 (h := h) hG) ?_
  refine x_aload_n 11 hK rfl rfl rfl ?_
  refine x_iconst 12 hK rfl rfl ?_
  refine x_putI 15 hK rfl rfl (sp_17 (h := h) hG) ?_
  refine x_aload_n 16 hK rfl rfl rfl ?_
  refine x_iconst 17 hK rfl rfl ?_
  refine x_putI 20 hK rfl rfl (sp_17 (h := h) hG) ?_
  refine x_aload_n 21 hK rfl rfl rfl ?_
  refine x_iconst 22 hK rfl rfl ?_
  refine x_putZ 25 hK rfl rfl (sp_17 (h := h) hG) (by omega) ?_
  refine x_iconst 26 hK rfl rfl ?_
  refine x_istore_n 27 hK rfl rfl [(3, .int (I 0)), (0, .ref 17), (1, .ref 1), (2, .ref u)] rfl ?_
  exact loop _ 0 0 _ _ rfl (by omega) (⟨by omega, by omega⟩) (⟨[], [], 0, fun _ => false, true, GoR.rf _, (gi_a (by decide) _).trans ((gi_a (by decide) _).trans ((gi_a (by decide) _).trans ((gi_a (by decide) _).trans ((gi_a (by omega) _).trans (h12))))), by rw [show gi (wI (wI (wI (wI (wI h u 1 0) 17 1 0) 17 2 0) 17 3 0) 17 4 1) u 1 = 0 from (gi_a (by omega) _).trans ((gi_a (by omega) _).trans ((gi_a (by omega) _).trans ((gi_a (by omega) _).trans (gi_same (by omega)))))]; rfl, by rw [show gi (wI (wI (wI (wI (wI h u 1 0) 17 1 0) 17 2 0) 17 3 0) 17 4 1) 17 1 = 0 from (gi_k (by decide) _).trans ((gi_k (by decide) _).trans ((gi_k (by decide) _).trans (gi_same (by omega))))]; rfl, (gi_k (by decide) _).trans ((gi_k (by decide) _).trans (gi_same (by omega))), by rw [show gi (wI (wI (wI (wI (wI h u 1 0) 17 1 0) 17 2 0) 17 3 0) 17 4 1) 17 3 = 0 from (gi_k (by decide) _).trans (gi_same (by omega))]; exact cBt_0, gi_same (by omega), by rw [show gi (wI (wI (wI (wI (wI h u 1 0) 17 1 0) 17 2 0) 17 3 0) 17 4 1) 17 3 = 0 from (gi_k (by decide) _).trans (gi_same (by omega))]; omega, by rw [show gi (wI (wI (wI (wI (wI h u 1 0) 17 1 0) 17 2 0) 17 3 0) 17 4 1) 17 1 = 0 from (gi_k (by decide) _).trans ((gi_k (by decide) _).trans ((gi_k (by decide) _).trans (gi_same (by omega)))), show gi (wI (wI (wI (wI (wI h u 1 0) 17 1 0) 17 2 0) 17 3 0) 17 4 1) u 1 = 0 from (gi_a (by omega) _).trans ((gi_a (by omega) _).trans ((gi_a (by omega) _).trans ((gi_a (by omega) _).trans (gi_same (by omega)))))]; omega, fun x hx => absurd hx List.not_mem_nil, rfl⟩) ((fun a k n1 n2 n3 n4 n5 => (gi_a (by omega) _).trans ((gi_a (by omega) _).trans ((gi_a (by omega) _).trans ((gi_a (by omega) _).trans (gi_a (by omega) _)))))) rfl rfl rfl rfl (GD_w1 (GD_w0 (GD_w1 (GD_w1 (GD_w1 (hG) (r := 8) (su_r hu).1 (by omega) rfl (by omega) (by omega)) (r := 11) rfl (by omega) rfl (by omega) (by omega)) (r := 11) rfl (by omega) rfl (by omega) (by omega)) (r := 11) rfl rfl) (r := 11) rfl (by omega) rfl (by omega) (by omega)) (FRM_w (FRM_w (FRM_w (FRM_w (FRM_w ((FRM.rf : FRM gRL [(0, 1, 2, 2), (0, 1, 5, 5), (0, 8, 1, 1), (0, 9, 0, 39), (0, 11, 1, 4), (0, 12, 0, 39)] h h)) (r := 8) (su_r hu).1 rfl) (r := 11) rfl rfl) (r := 11) rfl rfl) (r := 11) rfl rfl) (r := 11) rfl rfl)
/-- the law at u, the other one at v -/
def LW (h : aH) (u v : Nat) : Prop := ((u = 11 ∧ v = 14) ∨ (u = 14 ∧ v = 11)) ∧ aR h 0 4 = some u ∧ aR h 0 5 = some v
set_option maxRecDepth 4000 in
theorem ctX10_ruleF {SP : CT} (hSP : MONO SP) {sh : List (Nat × Nat)} {h : aH} (hG : GD gE gRL sh h) {u v : Nat} (hP : PT h) (hw : LW h u v) : CLd SP 9 mX10_rule [.ref 0] h 0 0 (fun rv h' => ((gi h 1 1 = 0 ∧ rv = some (.int (I 0)) ∧ aR h' 0 4 = some u ∧ aR h' 0 5 = some v ∧ gi h' u 1 = 0) ∨ (gi h 1 1 ≠ 0 ∧ ∃ (p : Int) (q s : List Int) (d : Nat) (c : Nat → Bool) (w : Bool), GoR (txF (gi h 2) (min (gi h 1 1) 40)) (0, [], [], 0, fun _ => false, true) (p, q, s, d, c, w) ∧ mstp (txF (gi h 2) (min (gi h 1 1) 40)) (p, q, s, d, c, w) = none ∧ (0 ≤ p ∧ p ≤ min (gi h 1 1) 40) ∧ (((cfl (gi h 1 1) 40 (!w && decide (d = 0), p)) ≠ -1 ∧ rv = some (.int (I (-1 - (cfl (gi h 1 1) 40 (!w && decide (d = 0), p))))) ∧ aR h' 0 4 = some u ∧ aR h' 0 5 = some v ∧ gi h' u 1 = gi h u 1 ∧ ∀ j, gi h' (u + 1) j = gi h (u + 1) j) ∨ ((cfl (gi h 1 1) 40 (!w && decide (d = 0), p)) = -1 ∧ rv = some (.int (I 0)) ∧ aR h' 0 4 = some v ∧ aR h' 0 5 = some u ∧ cdL h' v (gi h' v 1).toNat = q ++ ngs (popS 1 s))))) ∧ GD gE gRL sh h' ∧ FRM gRL [(0, 1, 1, 5), (0, 8, 1, 1), (0, 9, 0, 39), (0, 11, 1, 4), (0, 12, 0, 39), (2, 0, 4, 5)] h h' ∧ gi h' 1 1 = 0) := by
  refine x_met _ rfl (Nat.le_of_ble_eq_true rfl) (fun K hK => ?_)
  have hmono := MONO_CLd hSP 8
  have h5u : u = 11 ∨ u = 14 := by have := hw.1; omega
  have h5v : v = 11 ∨ v = 14 := by have := hw.1; omega
  have huv := hw.1
  have gs := gri 0 80 hG (a := 1) (r := 1) (k := 1) rfl rfl
  obtain ⟨T, hT⟩ : ∃ T, (txF (gi h 2) (min (gi h 1 1) 40)) = T := ⟨_, rfl⟩
  rw [hT] at hK
  refine x_aload_n 1 hK rfl rfl rfl ?_
  refine x_getR 4 hK rfl rfl (sp_0 (h := h) hG) (rf_0_0 (h := h) hG) ?_
  have g368 := gri (0) (80) hG (a := 1) (r := 1) (k := 1) rfl rfl
  refine x_getE 7 hK rfl (Or.inl rfl) rfl (sp_1 (h := h) hG) (e := (gi h 1 1)) (rfl) ?_
  refine x_if_ne 20 10 hK rfl rfl rfl (by omega) (fun c4 => ?_) (fun c4 => ?_)
  · refine x_aload_n 21 hK rfl rfl rfl ?_
    refine x_getR 24 hK rfl rfl (sp_0 (h := h) hG) (rf_0_0 (h := h) hG) ?_
    refine x_bipush 26 hK rfl rfl rfl ?_
    have z370 : gi h 1 1 = (gi h 1 1) := rfl
    refine x_callV 29 hK hmono rfl rfl [.ref 1, .int (I 40)] [] rfl rfl (Nat.le_of_ble_eq_true rfl) (Nat.le_of_ble_eq_true rfl) rfl (sp_1 (h := h) hG) (CLd_le (Nat.le_of_ble_eq_true rfl) (ctX9_open hSP hG (by omega))) ?_
    rintro v369 h369 ⟨rfl, hG369, hF369, o369, p369, q369, r369⟩
    rw [z370] at p369 q369
    refine x_aload_n 30 hK rfl rfl rfl ?_
    refine x_getR 33 hK rfl rfl (sp_0 (h := h369) hG369) (rf_0_6 (h := h369) hG369) ?_
    refine x_aload_n 34 hK rfl rfl rfl ?_
    refine x_getR 37 hK rfl rfl (sp_0 (h := h369) hG369) (rf_0_0 (h := h369) hG369) ?_
    refine x_aload_n 38 hK rfl rfl rfl ?_
    refine x_getR 41 hK rfl rfl (sp_0 (h := h369) hG369) ((FRM_aR hF369 (r := 0) rfl rfl).trans (hw.2.2)) ?_
    have z2 : gi h369 1 2 = 0 := o369
    have z3 : gi h369 1 3 = min (gi h 1 1) 40 := p369
    have z4 : gi h369 1 4 = (if 40 < gi h 1 1 then (1 : Int) else 0) := q369
    have zt : fx h369 = T := by rw [fx_tx, z3, ← hT, show gi h369 2 = gi h 2 from funext fun k => FRM_gi hF369 (r := 2) rfl rfl]
    refine x_callV 44 hK hmono rfl rfl [.ref 17, .ref 1, .ref v] [] rfl rfl (Nat.le_of_ble_eq_true rfl) (Nat.le_of_ble_eq_true rfl) rfl (sp_17 (h := h369) hG369) (CLd_le (Nat.le_of_ble_eq_true rfl) (ctX5_readFromF hSP hG369 (u := v) (PT_F hF369 (by decide) hP) h5v (n := gi h 1 1) z2 z3 z4 (by omega))) ?_
    rw [zt]
    rintro v371 h371 ⟨⟨p, q, s, d, c, w, hgo, hst, hp, rfl, hcd⟩, hG371, hF371, oa371⟩
    have cb : -1 ≤ (cfl (gi h 1 1) 40 (!w && decide (d = 0), p)) ∧ (cfl (gi h 1 1) 40 (!w && decide (d = 0), p)) ≤ 40 := by unfold cfl; (try dsimp only); (repeat' split) <;> omega
    refine x_istore_n 45 hK rfl rfl [(1, .int (I (cfl (gi h 1 1) 40 (!w && decide (d = 0), p)))), (0, .ref 0)] rfl ?_
    refine x_aload_n 46 hK rfl rfl rfl ?_
    refine x_getR 49 hK rfl rfl (sp_0 (h := h371) hG371) (rf_0_0 (h := h371) hG371) ?_
    refine x_iconst 50 hK rfl rfl ?_
    refine x_putI 53 hK rfl rfl (sp_1 (h := h371) hG371) ?_
    refine x_iload_n 54 hK rfl rfl rfl ?_
    refine x_iconst 55 hK rfl rfl ?_
    refine x_if_icmp_eq 62 58 hK rfl rfl rfl (by omega) (by omega) (fun c23 => ?_) (fun c23 => ?_)
    · refine x_aload_n 63 hK rfl rfl rfl ?_
      refine x_getR 66 hK rfl rfl (sp_0 (h := h371) hG371) ((FRM_aR hF371 (r := 0) rfl rfl).trans ((FRM_aR hF369 (r := 0) rfl rfl).trans (hw.2.1))) ?_
      refine x_astore_n 67 hK rfl rfl [(2, .ref u), (1, .int (I (cfl (gi h 1 1) 40 (!w && decide (d = 0), p)))), (0, .ref 0)] rfl ?_
      refine x_aload_n 68 hK rfl rfl rfl ?_
      refine x_aload_n 69 hK rfl rfl rfl ?_
      refine x_getR 72 hK rfl rfl (sp_0 (h := h371) hG371) ((FRM_aR hF371 (r := 0) rfl rfl).trans ((FRM_aR hF369 (r := 0) rfl rfl).trans (hw.2.2))) ?_
      refine x_putR 75 hK rfl rfl (sp_0 (h := h371) hG371) (List.getElem?_eq_some_iff.mp (shx (h := h371) hG371 (r := 8) (su_r h5v).1 rfl)).1 ?_
      obtain ⟨h91, e91⟩ : ∃ z, z = sR (wI h371 1 1 0) 0 4 (some v) := ⟨_, rfl⟩
      rw [← e91]
      have hG91 : GD gE gRL sh h91 := by rw [e91]; exact GD_R (GD_w1 (hG371) (r := 1) rfl (by omega) rfl (by omega) (by omega)) (r := 0) rfl (rb := 8) (by decide +kernel) (su_r h5v).1
      have hF91 : FRM gRL [(2, 0, 4, 4)] (wI h371 1 1 0) h91 := by rw [e91]; exact FRM_R FRM.rf (r := 0) rfl rfl
      have r491 : aR h91 0 4 = some v := by rw [e91]; exact aR_s
      have r591 : aR h91 0 5 = some v := by rw [e91]; exact (aR_n (Or.inr (by decide))).trans ((FRM_aR hF371 (r := 0) rfl rfl).trans ((FRM_aR hF369 (r := 0) rfl rfl).trans (hw.2.2)))
      refine x_aload_n 76 hK rfl rfl rfl ?_
      refine x_aload_n 77 hK rfl rfl rfl ?_
      refine x_putR 80 hK rfl rfl (sp_0 (h := h91) hG91) (List.getElem?_eq_some_iff.mp (shx (h := h91) hG91 (r := 8) (su_r h5u).1 rfl)).1 ?_
      obtain ⟨h92, e92⟩ : ∃ z, z = sR h91 0 5 (some u) := ⟨_, rfl⟩
      rw [← e92]
      have hG92 : GD gE gRL sh h92 := by rw [e92]; exact GD_R (hG91) (r := 0) rfl (rb := 8) (by decide +kernel) (su_r h5u).1
      have hF92 : FRM gRL [(2, 0, 5, 5)] h91 h92 := by rw [e92]; exact FRM_R FRM.rf (r := 0) rfl rfl
      have r592 : aR h92 0 5 = some u := by rw [e92]; exact aR_s
      have r492 : aR h92 0 4 = some v := by rw [e92]; exact (aR_n (Or.inr (by decide))).trans (r491)
      refine x_iconst 81 hK rfl rfl ?_
      have nv : gi h92 v 1 = gi h371 v 1 := (FRM_gi hF92 (r := 8) (su_r h5v).1 rfl).trans ((FRM_gi hF91 (r := 8) (su_r h5v).1 rfl).trans (gi_a (by omega) _))
      exact x_iret hK rfl ⟨Or.inr ⟨by omega, p, q, s, d, c, w, hgo, hst, hp, Or.inr ⟨by omega, rfl, (r492), (r592), by rw [nv]; exact (cdL_e fun j hj => (FRM_gi hF92 (r := 9) (su_r h5v).2 rfl).trans ((FRM_gi hF91 (r := 9) (su_r h5v).2 rfl).trans (gi_a (by omega) _))).trans (hcd (by omega))⟩⟩, hG92, ((FRM_w (((hF369).mono rfl).trans ((hF371).mono rfl)) (r := 1) rfl rfl).trans ((hF91).mono rfl)).trans ((hF92).mono rfl), (FRM_gi hF92 (r := 1) rfl rfl).trans ((FRM_gi hF91 (r := 1) rfl rfl).trans (gi_same (by omega)))⟩
    · refine x_iconst 59 hK rfl rfl ?_
      refine x_iload_n 60 hK rfl rfl rfl ?_
      refine x_isub 61 hK rfl rfl ?_
      exact x_iret hK rfl ⟨Or.inr ⟨by omega, p, q, s, d, c, w, hgo, hst, hp, Or.inl ⟨by omega, rfl, ((FRM_aR hF371 (r := 0) rfl rfl).trans ((FRM_aR hF369 (r := 0) rfl rfl).trans (hw.2.1))), ((FRM_aR hF371 (r := 0) rfl rfl).trans ((FRM_aR hF369 (r := 0) rfl rfl).trans (hw.2.2))), (gi_a (by omega) _).trans ((oa371 u 1 (by omega) (by omega) (by omega) (by omega) (by omega)).trans (FRM_gi hF369 (r := 8) (su_r h5u).1 rfl)), fun j => (gi_a (by omega) _).trans ((oa371 (u + 1) j (by omega) (by omega) (by omega) (by omega) (by omega)).trans (FRM_gi hF369 (r := 9) (su_r h5u).2 rfl))⟩⟩, GD_w1 (hG371) (r := 1) rfl (by omega) rfl (by omega) (by omega), FRM_w (((hF369).mono rfl).trans ((hF371).mono rfl)) (r := 1) rfl rfl, gi_same (by omega)⟩
  · refine x_aload_n 11 hK rfl rfl rfl ?_
    refine x_getR 14 hK rfl rfl (sp_0 (h := h) hG) (hw.2.1) ?_
    refine x_iconst 15 hK rfl rfl ?_
    refine x_putI 18 hK rfl rfl (shx (h := h) hG (r := 8) (su_r h5u).1 rfl) ?_
    refine x_iconst 19 hK rfl rfl ?_
    exact x_iret hK rfl ⟨Or.inl ⟨by omega, rfl, (hw.2.1), (hw.2.2), gi_same (by omega)⟩, GD_w1 (hG) (r := 8) (su_r h5u).1 (by omega) rfl (by omega) (by omega), FRM_w ((FRM.rf : FRM gRL [(0, 1, 1, 5), (0, 8, 1, 1), (0, 9, 0, 39), (0, 11, 1, 4), (0, 12, 0, 39), (2, 0, 4, 5)] h h)) (r := 8) (su_r h5u).1 rfl, (gi_a (by omega) _).trans (by omega)⟩
