/-! A SIGN OF THE RULE -/
def cBt (c : Int) (i : Nat) : Bool := decide (i ≤ 4) && decide (bAnd (bShr c i) 1 = 1)
theorem cB_clr : ∀ c : Nat, c < 32 → ∀ k : Nat, k < 5 → (0 ≤ bAnd c (bXor (bShl 1 k) (-1)) ∧ bAnd c (bXor (bShl 1 k) (-1)) ≤ 31) ∧ ∀ i : Nat, i < 5 → cBt (bAnd c (bXor (bShl 1 k) (-1))) i = if i = k then false else cBt c i := by decide +kernel
theorem cB_set : ∀ c : Nat, c < 32 → ∀ k : Nat, k < 5 → (0 ≤ bOr c (bShl 1 k) ∧ bOr c (bShl 1 k) ≤ 31) ∧ ∀ i : Nat, i < 5 → cBt (bOr c (bShl 1 k)) i = if i = k then true else cBt c i := by decide +kernel
theorem cB_or0 : ∀ c : Nat, c < 32 → bOr c 0 = c := by decide +kernel
theorem bOr_0 {c : Int} (hc : 0 ≤ c ∧ c ≤ 31) : bOr c 0 = c := by
  obtain ⟨n, rfl⟩ : ∃ n : Nat, c = n := ⟨c.toNat, by omega⟩
  exact cB_or0 n (by omega)
theorem cBt_no {c : Int} {i : Nat} (h : ¬ i ≤ 4) : cBt c i = false := by
  unfold cBt
  rw [decide_eq_false h]
  rfl
theorem cBt_0 : cBt 0 = fun _ => false := funext fun i => by
  by_cases h : i ≤ 4
  · have : ∀ i : Nat, i < 5 → cBt 0 i = false := by decide
    exact this i (by omega)
  · exact cBt_no h
theorem cBt_clr {c k : Int} (hc : 0 ≤ c ∧ c ≤ 31) (hk : 0 ≤ k ∧ k ≤ 4) : (0 ≤ bAnd c (bXor (bShl 1 k) (-1)) ∧ bAnd c (bXor (bShl 1 k) (-1)) ≤ 31) ∧ cBt (bAnd c (bXor (bShl 1 k) (-1))) = upB (cBt c) k.toNat false := by
  obtain ⟨n, rfl⟩ : ∃ n : Nat, c = n := ⟨c.toNat, by omega⟩
  obtain ⟨m, rfl⟩ : ∃ m : Nat, k = m := ⟨k.toNat, by omega⟩
  obtain ⟨h1, h2⟩ := cB_clr n (by omega) m (by omega)
  refine ⟨h1, funext fun i => ?_⟩
  by_cases h : i ≤ 4
  · exact h2 i (by omega)
  · rw [cBt_no h]
    unfold upB
    rw [if_neg (by omega), cBt_no h]
theorem cBt_set {c k : Int} (hc : 0 ≤ c ∧ c ≤ 31) (hk : 0 ≤ k ∧ k ≤ 4) : (0 ≤ bOr c (bShl 1 k) ∧ bOr c (bShl 1 k) ≤ 31) ∧ cBt (bOr c (bShl 1 k)) = upB (cBt c) k.toNat true := by
  obtain ⟨n, rfl⟩ : ∃ n : Nat, c = n := ⟨c.toNat, by omega⟩
  obtain ⟨m, rfl⟩ : ∃ m : Nat, k = m := ⟨k.toNat, by omega⟩
  obtain ⟨h1, h2⟩ := cB_set n (by omega) m (by omega)
  refine ⟨h1, funext fun i => ?_⟩
  by_cases h : i ≤ 4
  · exact h2 i (by omega)
  · rw [cBt_no h]
    unfold upB
    rw [if_neg (by omega), cBt_no h]
/-- how many brackets wait -/
def brS : List Int → Nat
  | [] => 0
  | x :: t => (if x = 40 then 1 else 0) + brS t
/-- what may wait -/
def wtP (x : Int) : Prop := x = 40 ∨ (0 < rkI x ∧ 0 ≤ x ∧ x ≤ 65535)
theorem rk40 {x : Int} (h : 0 < rkI x) : x ≠ 40 ∧ 0 ≤ x := by
  unfold rkI at h
  (repeat' split at h) <;> omega
theorem wtP_r {x : Int} (h : wtP x) : 0 ≤ x ∧ x ≤ 65535 := by
  rcases h with h | h
  · omega
  · exact h.2
theorem rst_sub {r : Nat} : ∀ {s : List Int}, (∀ x ∈ s, wtP x) → ∀ x ∈ rstS r s, wtP x
  | [], h => h
  | y :: t, h => by
    unfold rstS
    split
    · exact rst_sub fun x hx => h x (List.mem_cons_of_mem _ hx)
    · exact h
theorem rst_br {r : Nat} (hr : 1 ≤ r) : ∀ s : List Int, brS (rstS r s) = brS s
  | [] => rfl
  | y :: t => by
    unfold rstS
    split
    · rename_i c
      rw [rst_br hr t]
      show _ = (if y = 40 then 1 else 0) + brS t
      rw [if_neg (rk40 (by omega)).1, Nat.zero_add]
    · rfl
theorem rst_1 : ∀ {s : List Int}, (∀ x ∈ s, wtP x) → 0 < brS s → ∃ t, rstS 1 s = 40 :: t ∧ brS t + 1 = brS s
  | [], _, h => absurd h (by decide)
  | y :: t, h, hb => by
    unfold rstS
    have hb : 0 < (if y = 40 then 1 else 0) + brS t := hb
    by_cases c : y = 40
    · refine ⟨t, ?_, ?_⟩
      · rw [if_neg (by rw [c]; decide), c]
      · show _ = (if y = 40 then 1 else 0) + brS t
        rw [if_pos c]; omega
    · rw [if_neg c, Nat.zero_add] at hb
      have hy := (h y List.mem_cons_self).resolve_left c
      obtain ⟨u, e1, e2⟩ := rst_1 (fun x hx => h x (List.mem_cons_of_mem _ hx)) hb
      refine ⟨u, ?_, ?_⟩
      · rw [if_pos (by omega), e1]
      · show _ = (if y = 40 then 1 else 0) + brS t
        rw [if_neg c, Nat.zero_add, e2]
theorem wt_tl {h : aH} {n : Nat} {x : Int} {t : List Int} (e : wtL h n = x :: t) : 1 ≤ n ∧ wtL h (n - 1) = t := by
  cases n with
  | zero => exact absurd e (by show ¬ ([] : List Int) = x :: t; exact nofun)
  | succ m =>
    have e : gi h 18 m :: wtL h m = x :: t := e
    exact ⟨by omega, (List.cons.inj e).2⟩
theorem wt_at {h : aH} {s : List Int} (hs : ∀ x ∈ s, wtP x) : ∀ {n : Nat}, wtL h n = s → ∀ j, j < n → 0 ≤ gi h 18 j ∧ gi h 18 j ≤ 65535 := by
  have key : ∀ n j, j < n → gi h 18 j ∈ wtL h n := by
    intro n
    induction n with
    | zero => intro j hj; omega
    | succ n ih =>
      intro j hj
      show _ ∈ gi h 18 n :: wtL h n
      by_cases c : j = n
      · rw [c]; exact List.mem_cons_self
      · exact List.mem_cons_of_mem _ (ih j (by omega))
  intro n e j hj
  exact wtP_r (hs _ (e ▸ key n j hj))
/-- the heap stands for where the reader is -/
def RdH (h : aH) (u : Nat) (p : Int) (q s : List Int) (d : Nat) (c : Nat → Bool) (w : Bool) : Prop := gi h 1 2 = p ∧ cdL h u (gi h u 1).toNat = q ∧ wtL h (gi h 17 1).toNat = s ∧ gi h 17 2 = (d : Int) ∧ cBt (gi h 17 3) = c ∧ gi h 17 4 = b2i w ∧ (0 ≤ gi h 17 3 ∧ gi h 17 3 ≤ 31) ∧ gi h 17 1 + gi h u 1 ≤ p ∧ (∀ x ∈ s, wtP x) ∧ brS s = d
set_option maxRecDepth 4000 in
theorem ctX5_takeThingF {SP : CT} (hSP : MONO SP) {sh : List (Nat × Nat)} {h : aH} (hG : GD gE gRL sh h) {u : Nat} (hP : PT h) (hu : u = 11 ∨ u = 14) {p : Int} {q s : List Int} {d : Nat} {c : Nat → Bool} (hR : RdH h u p q s d c true) (h40 : gi h 1 3 ≤ 40) (hp : 0 ≤ p) : CLd SP 5 mX5_takeThing [.ref 17, .ref 1, .ref u] h 0 0 (fun rv h' => ((∃ (p' : Int) (q' s' : List Int) (d' : Nat) (c' : Nat → Bool) (w' : Bool), mthg (fx h) p q s d c = some (p', q', s', d', c', w') ∧ rv = some (.int (I 1)) ∧ RdH h' u p' q' s' d' c' w' ∧ p < p' ∧ p' ≤ gi h 1 3) ∨ (mthg (fx h) p q s d c = none ∧ rv = some (.int (I 0)) ∧ h' = h)) ∧ GD gE gRL sh h' ∧ FRM gRL [(0, 1, 2, 2), (0, 1, 5, 5), (0, 8, 1, 1), (0, 9, 0, 39), (0, 11, 1, 4), (0, 12, 0, 39)] h h' ∧ ∀ a k : Nat, a ≠ 1 → a ≠ 17 → a ≠ 18 → a ≠ u → a ≠ u + 1 → gi h' a k = gi h a k) := by
  refine x_met _ rfl (Nat.le_of_ble_eq_true rfl) (fun K hK => ?_)
  have hmono := MONO_CLd hSP 4
  obtain ⟨e1, e2, e3, e4, e5, e6, hc, en, ew, eb⟩ := hR
  have fe0 := fx_end h
  have pl : fx h p < 0 ∨ p < gi h 1 3 := by
    by_cases z : gi h 1 3 ≤ p
    · have := fx_end h p z; omega
    · omega
  have gn := gri 0 40 hG (a := u) (r := 8) (k := 1) (su_r hu).1 rfl
  have gw0 := gri 0 40 hG (a := 17) (r := 11) (k := 1) rfl rfl
  have gd0 := gri 0 4 hG (a := 17) (r := 11) (k := 2) rfl rfl
  refine x_aload_n 1 hK rfl rfl rfl ?_
  have at298 : gi h 1 2 = p := e1
  have fe298 : fx h = (fx h) := rfl
  refine x_callV 4 hK hmono rfl rfl [.ref 1] [] rfl rfl (Nat.le_of_ble_eq_true rfl) (Nat.le_of_ble_eq_true rfl) rfl (sp_1 (h := h) hG) (CLd_le (Nat.le_of_ble_eq_true rfl) (ctX9_next hSP hG)) ?_
  rw [fe298, at298]
  rintro v9 h9 ⟨e9, rfl⟩
  rw [e9]
  clear e9
  have fr298 := fx_r hG p
  refine x_istore_n 5 hK rfl rfl [(3, .int (I ((fx h) p))), (0, .ref 17), (1, .ref 1), (2, .ref u)] rfl ?_
  refine x_iload_n 6 hK rfl rfl rfl ?_
  refine x_callS 9 hK hmono rfl (Or.inr rfl) rfl [.int (I ((fx h) p))] [] rfl rfl (Nat.le_of_ble_eq_true rfl) (Nat.le_of_ble_eq_true rfl) (CLd_le (Nat.le_of_ble_eq_true rfl) (ctX10_isDigit hSP (by omega))) ?_
  rintro v9 h9 ⟨e9, ⟨rfl, i1, i2⟩ | ⟨rfl, i1⟩⟩ <;> rw [e9] <;> clear e9
  · refine x_if_eq 28 12 hK rfl rfl rfl (by omega) (fun c => by omega) (fun _ => ?_)
    refine x_aload_n 13 hK rfl rfl rfl ?_
    refine x_aload_n 14 hK rfl rfl rfl ?_
    refine x_iconst 15 hK rfl rfl ?_
    have at299 : gi h 1 2 = p := e1
    have fe299 : fx h = (fx h) := rfl
    have to299 : gi h 1 3 = (gi h 1 3) := rfl
    have mo299 : gi h 1 4 = (gi h 1 4) := rfl
    refine x_callV 18 hK hmono rfl rfl [.ref 1, .int (I 3)] [.ref u] rfl rfl (Nat.le_of_ble_eq_true rfl) (Nat.le_of_ble_eq_true rfl) rfl (sp_1 (h := h) hG) (CLd_le (Nat.le_of_ble_eq_true rfl) (ctX9_takeNumber hSP hG (n := 3) (by omega))) ?_
    rw [fe299, at299, to299, mo299]
    rintro v299 h299 ⟨⟨e299, rfl, nu299, ne299⟩, hG299, hF299, np299, nc299, nd299⟩
    have nm299 : nmF (fx h) 3 p = (e299, gi h299 1 2) := by rw [nu299, np299]; rfl
    have nb299 : p ≤ gi h299 1 2 ∧ gi h299 1 2 ≤ (gi h 1 3) := by rw [np299]; exact ⟨(tkv_lb _ _ _ _).1, tkv_sp fe0 _ _ _ (by first | omega | (have q := fe0 p; omega))⟩
    have nz299 : 0 ≤ e299 → p < gi h299 1 2 := fun z => by have := nmF_n (f := (fx h)) (n := 3) (p := p) (by rw [nm299]; exact z); rw [nm299] at this; exact this
    have ny299 : e299 = -1 → gi h299 1 2 = p := fun z => by
      rw [np299]
      by_cases c : (tkv (fx h) (Int.toNat 3) p 0).2 = p
      · exact c
      · rw [if_neg c] at nu299
        have := tkv_nn (f := (fx h)) (Int.toNat 3) p 0 (by omega)
        omega
    clear nu299 np299
    generalize eq299 : gi h299 1 2 = p299 at *
    have g301 := gri (0) (40) hG (a := u) (r := 8) (k := 1) (su_r hu).1 rfl
    have nn300 : gi h299 u 1 = (gi h u 1) := FRM_gi hF299 (r := 8) (su_r hu).1 rfl
    have lo300 : cdL h299 u ((gi h u 1)).toNat = q := (cdL_e (h := h) fun j hj => FRM_gi hF299 (r := 9) (su_r hu).2 rfl).trans e2
    refine x_callV 21 hK hmono rfl rfl [.ref u, .int (I e299)] [] rfl rfl (Nat.le_of_ble_eq_true rfl) (Nat.le_of_ble_eq_true rfl) rfl (shx (h := h299) hG299 (r := 8) (su_r hu).1 rfl) (CLd_le (Nat.le_of_ble_eq_true rfl) (ctX4_add hSP hG299 (show PT h299 from (PT_F hF299 (by decide) hP)) hu (by omega) (by omega))) ?_
    rw [nn300]
    rintro v300 h300 ⟨rfl, hG300, hF300, t300, s300, o300, oa300⟩
    have ol300 : cdL h300 u ((gi h u 1) + 1).toNat = q ++ [e299] := by
      rw [tn_s (by omega), ← lo300]
      exact cdL_s (h := h299) s300 o300
    refine x_aload_n 22 hK rfl rfl rfl ?_
    refine x_iconst 23 hK rfl rfl ?_
    refine x_putZ 26 hK rfl rfl (sp_17 (h := h300) hG300) (by omega) ?_
    refine x_iconst 27 hK rfl rfl ?_
    have m5 : p + 1 ≤ p299 := by
      have z : (nmF (fx h) 3 p).2 = p299 := by rw [nm299]
      rw [← z]
      show _ ≤ (tkv (fx h) 3 p 0).2
      rw [tkv_step ⟨i1, i2⟩]
      exact tkv_le _ _ _ _
    have z1 : gi (wI h300 17 4 0) 1 2 = p299 := (gi_a (by decide) _).trans ((FRM_gi hF300 (r := 1) rfl rfl).trans (eq299))
    have z2 : gi (wI h300 17 4 0) u 1 = ((gi h u 1) + 1) := (gi_a (by omega) _).trans (t300)
    have z3 : gi (wI h300 17 4 0) 17 1 = (gi h 17 1) := (gi_k (by decide) _).trans ((FRM_gi hF300 (r := 11) rfl rfl).trans (FRM_gi hF299 (r := 11) rfl rfl))
    have z4 : gi (wI h300 17 4 0) 17 2 = (d : Int) := (gi_k (by decide) _).trans ((FRM_gi hF300 (r := 11) rfl rfl).trans ((FRM_gi hF299 (r := 11) rfl rfl).trans (e4)))
    have z5 : gi (wI h300 17 4 0) 17 3 = (gi h 17 3) := (gi_k (by decide) _).trans ((FRM_gi hF300 (r := 11) rfl rfl).trans (FRM_gi hF299 (r := 11) rfl rfl))
    have z6 : gi (wI h300 17 4 0) 17 4 = (b2i false) := gi_same (by omega)
    have y1 : cdL (wI h300 17 4 0) u (((gi h u 1) + 1)).toNat = (q ++ [e299]) := (cdL_e (h := h300) fun j hj => gi_a (by first | decide | omega) _).trans ol300
    have y2 : wtL (wI h300 17 4 0) ((gi h 17 1)).toNat = s := (wtL_e (h := h) fun j hj => (gi_a (by first | decide | omega) _).trans ((FRM_gi hF300 (r := 12) rfl rfl).trans (FRM_gi hF299 (r := 12) rfl rfl))).trans e3
    have zr : 0 ≤ (gi h 17 3) ∧ (gi h 17 3) ≤ 31 := hc
    have zc : cBt (gi h 17 3) = c := e5
    exact x_zret hK rfl (by omega) ⟨Or.inl ⟨p299, (q ++ [e299]), s, d, c, false, by unfold mthg; rw [if_pos ⟨i1, i2⟩, nm299], rfl, ⟨z1, by rw [z2]; exact y1, by rw [z3]; exact y2, z4.trans (by omega), by rw [z5]; exact zc, z6, by rw [z5]; exact zr, by omega, ew, eb⟩, by omega, by omega⟩, GD_w1 (hG300) (r := 11) rfl (by omega) rfl (by omega) (by omega), FRM_w (((hF299).mono rfl).trans ((hF300).mono rfl)) (r := 11) rfl rfl, (fun a k n1 n2 n3 n4 n5 => (gi_a (by omega) _).trans ((oa300 a k n4 n5).trans (frm_o hF299 [1] (by decide +kernel) (by simp only [List.mem_cons, List.not_mem_nil, or_false]; omega) k)))⟩
  · refine x_if_eq 28 12 hK rfl rfl rfl (by omega) (fun _ => ?_) (fun c => by omega)
    refine x_iload_n 29 hK rfl rfl rfl ?_
    refine x_bipush 31 hK rfl rfl rfl ?_
    refine x_if_icmp_eq 52 34 hK rfl rfl rfl (by omega) (by omega) (fun c20 => ?_) (fun c20 => ?_)
    · refine x_aload_n 53 hK rfl rfl rfl ?_
      refine x_iload_n 54 hK rfl rfl rfl ?_
      refine x_ineg 55 hK rfl rfl ?_
      have g303 := gri (0) (40) hG (a := u) (r := 8) (k := 1) (su_r hu).1 rfl
      have nn302 : gi h u 1 = (gi h u 1) := rfl
      have lo302 : cdL h u ((gi h u 1)).toNat = q := (cdL_e (h := h) fun j hj => rfl).trans e2
      refine x_callV 58 hK hmono rfl rfl [.ref u, .int (I (-((fx h) p)))] [] rfl rfl (Nat.le_of_ble_eq_true rfl) (Nat.le_of_ble_eq_true rfl) rfl (shx (h := h) hG (r := 8) (su_r hu).1 rfl) (CLd_le (Nat.le_of_ble_eq_true rfl) (ctX4_add hSP hG (show PT h from hP) hu (by omega) (by omega))) ?_
      rw [nn302]
      rintro v302 h302 ⟨rfl, hG302, hF302, t302, s302, o302, oa302⟩
      have ol302 : cdL h302 u ((gi h u 1) + 1).toNat = q ++ [(-((fx h) p))] := by
        rw [tn_s (by omega), ← lo302]
        exact cdL_s (h := h) s302 o302
      refine x_aload_n 59 hK rfl rfl rfl ?_
      refine x_iconst 60 hK rfl rfl ?_
      refine x_putZ 63 hK rfl rfl (sp_17 (h := h302) hG302) (by omega) ?_
      refine x_goto 133 hK rfl rfl ?_
      refine x_aload_n 134 hK rfl rfl rfl ?_
      refine x_dup 135 hK rfl rfl rfl ?_
      refine x_getE 138 hK rfl (Or.inl rfl) rfl (sp_1 (h := h302) hG302) (e := p) ((gi_a (by decide) _).trans ((FRM_gi hF302 (r := 1) rfl rfl).trans (e1))) ?_
      refine x_iconst 139 hK rfl rfl ?_
      refine x_iadd 140 hK rfl rfl ?_
      refine x_putI 143 hK rfl rfl (sp_1 (h := h302) hG302) ?_
      refine x_iconst 144 hK rfl rfl ?_
      have z1 : gi (wI (wI h302 17 4 0) 1 2 (p + 1)) 1 2 = (p + 1) := gi_same (by omega)
      have z2 : gi (wI (wI h302 17 4 0) 1 2 (p + 1)) u 1 = ((gi h u 1) + 1) := (gi_a (by omega) _).trans ((gi_a (by omega) _).trans (t302))
      have z3 : gi (wI (wI h302 17 4 0) 1 2 (p + 1)) 17 1 = (gi h 17 1) := (gi_a (by decide) _).trans ((gi_k (by decide) _).trans (FRM_gi hF302 (r := 11) rfl rfl))
      have z4 : gi (wI (wI h302 17 4 0) 1 2 (p + 1)) 17 2 = (d : Int) := (gi_a (by decide) _).trans ((gi_k (by decide) _).trans ((FRM_gi hF302 (r := 11) rfl rfl).trans (e4)))
      have z5 : gi (wI (wI h302 17 4 0) 1 2 (p + 1)) 17 3 = (gi h 17 3) := (gi_a (by decide) _).trans ((gi_k (by decide) _).trans (FRM_gi hF302 (r := 11) rfl rfl))
      have z6 : gi (wI (wI h302 17 4 0) 1 2 (p + 1)) 17 4 = (b2i false) := (gi_a (by decide) _).trans (gi_same (by omega))
      have y1 : cdL (wI (wI h302 17 4 0) 1 2 (p + 1)) u (((gi h u 1) + 1)).toNat = (q ++ [(-((fx h) p))]) := (cdL_e (h := h302) fun j hj => (gi_a (by first | decide | omega) _).trans (gi_a (by first | decide | omega) _)).trans ol302
      have y2 : wtL (wI (wI h302 17 4 0) 1 2 (p + 1)) ((gi h 17 1)).toNat = s := (wtL_e (h := h) fun j hj => (gi_a (by first | decide | omega) _).trans ((gi_a (by first | decide | omega) _).trans (FRM_gi hF302 (r := 12) rfl rfl))).trans e3
      have zr : 0 ≤ (gi h 17 3) ∧ (gi h 17 3) ≤ 31 := hc
      have zc : cBt (gi h 17 3) = c := e5
      exact x_zret hK rfl (by omega) ⟨Or.inl ⟨(p + 1), (q ++ [(-((fx h) p))]), s, d, c, false, by unfold mthg; rw [if_neg (by omega), if_pos (by unfold askI; omega)], rfl, ⟨z1, by rw [z2]; exact y1, by rw [z3]; exact y2, z4.trans (by omega), by rw [z5]; exact zc, z6, by rw [z5]; exact zr, by omega, ew, eb⟩, by omega, by omega⟩, GD_w0 (GD_w1 (hG302) (r := 11) rfl (by omega) rfl (by omega) (by omega)) (r := 1) rfl rfl, FRM_w (FRM_w ((hF302).mono rfl) (r := 11) rfl rfl) (r := 1) rfl rfl, (fun a k n1 n2 n3 n4 n5 => (gi_a (by omega) _).trans ((gi_a (by omega) _).trans (oa302 a k n4 n5)))⟩
    · refine x_iload_n 35 hK rfl rfl rfl ?_
      refine x_bipush 37 hK rfl rfl rfl ?_
      refine x_if_icmp_eq 52 40 hK rfl rfl rfl (by omega) (by omega) (fun c39 => ?_) (fun c39 => ?_)
      · refine x_aload_n 53 hK rfl rfl rfl ?_
        refine x_iload_n 54 hK rfl rfl rfl ?_
        refine x_ineg 55 hK rfl rfl ?_
        have g305 := gri (0) (40) hG (a := u) (r := 8) (k := 1) (su_r hu).1 rfl
        have nn304 : gi h u 1 = (gi h u 1) := rfl
        have lo304 : cdL h u ((gi h u 1)).toNat = q := (cdL_e (h := h) fun j hj => rfl).trans e2
        refine x_callV 58 hK hmono rfl rfl [.ref u, .int (I (-((fx h) p)))] [] rfl rfl (Nat.le_of_ble_eq_true rfl) (Nat.le_of_ble_eq_true rfl) rfl (shx (h := h) hG (r := 8) (su_r hu).1 rfl) (CLd_le (Nat.le_of_ble_eq_true rfl) (ctX4_add hSP hG (show PT h from hP) hu (by omega) (by omega))) ?_
        rw [nn304]
        rintro v304 h304 ⟨rfl, hG304, hF304, t304, s304, o304, oa304⟩
        have ol304 : cdL h304 u ((gi h u 1) + 1).toNat = q ++ [(-((fx h) p))] := by
          rw [tn_s (by omega), ← lo304]
          exact cdL_s (h := h) s304 o304
        refine x_aload_n 59 hK rfl rfl rfl ?_
        refine x_iconst 60 hK rfl rfl ?_
        refine x_putZ 63 hK rfl rfl (sp_17 (h := h304) hG304) (by omega) ?_
        refine x_goto 133 hK rfl rfl ?_
        refine x_aload_n 134 hK rfl rfl rfl ?_
        refine x_dup 135 hK rfl rfl rfl ?_
        refine x_getE 138 hK rfl (Or.inl rfl) rfl (sp_1 (h := h304) hG304) (e := p) ((gi_a (by decide) _).trans ((FRM_gi hF304 (r := 1) rfl rfl).trans (e1))) ?_
        refine x_iconst 139 hK rfl rfl ?_
        refine x_iadd 140 hK rfl rfl ?_
        refine x_putI 143 hK rfl rfl (sp_1 (h := h304) hG304) ?_
        refine x_iconst 144 hK rfl rfl ?_
        have z1 : gi (wI (wI h304 17 4 0) 1 2 (p + 1)) 1 2 = (p + 1) := gi_same (by omega)
        have z2 : gi (wI (wI h304 17 4 0) 1 2 (p + 1)) u 1 = ((gi h u 1) + 1) := (gi_a (by omega) _).trans ((gi_a (by omega) _).trans (t304))
        have z3 : gi (wI (wI h304 17 4 0) 1 2 (p + 1)) 17 1 = (gi h 17 1) := (gi_a (by decide) _).trans ((gi_k (by decide) _).trans (FRM_gi hF304 (r := 11) rfl rfl))
        have z4 : gi (wI (wI h304 17 4 0) 1 2 (p + 1)) 17 2 = (d : Int) := (gi_a (by decide) _).trans ((gi_k (by decide) _).trans ((FRM_gi hF304 (r := 11) rfl rfl).trans (e4)))
        have z5 : gi (wI (wI h304 17 4 0) 1 2 (p + 1)) 17 3 = (gi h 17 3) := (gi_a (by decide) _).trans ((gi_k (by decide) _).trans (FRM_gi hF304 (r := 11) rfl rfl))
        have z6 : gi (wI (wI h304 17 4 0) 1 2 (p + 1)) 17 4 = (b2i false) := (gi_a (by decide) _).trans (gi_same (by omega))
        have y1 : cdL (wI (wI h304 17 4 0) 1 2 (p + 1)) u (((gi h u 1) + 1)).toNat = (q ++ [(-((fx h) p))]) := (cdL_e (h := h304) fun j hj => (gi_a (by first | decide | omega) _).trans (gi_a (by first | decide | omega) _)).trans ol304
        have y2 : wtL (wI (wI h304 17 4 0) 1 2 (p + 1)) ((gi h 17 1)).toNat = s := (wtL_e (h := h) fun j hj => (gi_a (by first | decide | omega) _).trans ((gi_a (by first | decide | omega) _).trans (FRM_gi hF304 (r := 12) rfl rfl))).trans e3
        have zr : 0 ≤ (gi h 17 3) ∧ (gi h 17 3) ≤ 31 := hc
        have zc : cBt (gi h 17 3) = c := e5
        exact x_zret hK rfl (by omega) ⟨Or.inl ⟨(p + 1), (q ++ [(-((fx h) p))]), s, d, c, false, by unfold mthg; rw [if_neg (by omega), if_pos (by unfold askI; omega)], rfl, ⟨z1, by rw [z2]; exact y1, by rw [z3]; exact y2, z4.trans (by omega), by rw [z5]; exact zc, z6, by rw [z5]; exact zr, by omega, ew, eb⟩, by omega, by omega⟩, GD_w0 (GD_w1 (hG304) (r := 11) rfl (by omega) rfl (by omega) (by omega)) (r := 1) rfl rfl, FRM_w (FRM_w ((hF304).mono rfl) (r := 11) rfl rfl) (r := 1) rfl rfl, (fun a k n1 n2 n3 n4 n5 => (gi_a (by omega) _).trans ((gi_a (by omega) _).trans (oa304 a k n4 n5)))⟩
      · refine x_iload_n 41 hK rfl rfl rfl ?_
        refine x_bipush 43 hK rfl rfl rfl ?_
        refine x_if_icmp_eq 52 46 hK rfl rfl rfl (by omega) (by omega) (fun c58 => ?_) (fun c58 => ?_)
        · refine x_aload_n 53 hK rfl rfl rfl ?_
          refine x_iload_n 54 hK rfl rfl rfl ?_
          refine x_ineg 55 hK rfl rfl ?_
          have g307 := gri (0) (40) hG (a := u) (r := 8) (k := 1) (su_r hu).1 rfl
          have nn306 : gi h u 1 = (gi h u 1) := rfl
          have lo306 : cdL h u ((gi h u 1)).toNat = q := (cdL_e (h := h) fun j hj => rfl).trans e2
          refine x_callV 58 hK hmono rfl rfl [.ref u, .int (I (-((fx h) p)))] [] rfl rfl (Nat.le_of_ble_eq_true rfl) (Nat.le_of_ble_eq_true rfl) rfl (shx (h := h) hG (r := 8) (su_r hu).1 rfl) (CLd_le (Nat.le_of_ble_eq_true rfl) (ctX4_add hSP hG (show PT h from hP) hu (by omega) (by omega))) ?_
          rw [nn306]
          rintro v306 h306 ⟨rfl, hG306, hF306, t306, s306, o306, oa306⟩
          have ol306 : cdL h306 u ((gi h u 1) + 1).toNat = q ++ [(-((fx h) p))] := by
            rw [tn_s (by omega), ← lo306]
            exact cdL_s (h := h) s306 o306
          refine x_aload_n 59 hK rfl rfl rfl ?_
          refine x_iconst 60 hK rfl rfl ?_
          refine x_putZ 63 hK rfl rfl (sp_17 (h := h306) hG306) (by omega) ?_
          refine x_goto 133 hK rfl rfl ?_
          refine x_aload_n 134 hK rfl rfl rfl ?_
          refine x_dup 135 hK rfl rfl rfl ?_
          refine x_getE 138 hK rfl (Or.inl rfl) rfl (sp_1 (h := h306) hG306) (e := p) ((gi_a (by decide) _).trans ((FRM_gi hF306 (r := 1) rfl rfl).trans (e1))) ?_
          refine x_iconst 139 hK rfl rfl ?_
          refine x_iadd 140 hK rfl rfl ?_
          refine x_putI 143 hK rfl rfl (sp_1 (h := h306) hG306) ?_
          refine x_iconst 144 hK rfl rfl ?_
          have z1 : gi (wI (wI h306 17 4 0) 1 2 (p + 1)) 1 2 = (p + 1) := gi_same (by omega)
          have z2 : gi (wI (wI h306 17 4 0) 1 2 (p + 1)) u 1 = ((gi h u 1) + 1) := (gi_a (by omega) _).trans ((gi_a (by omega) _).trans (t306))
          have z3 : gi (wI (wI h306 17 4 0) 1 2 (p + 1)) 17 1 = (gi h 17 1) := (gi_a (by decide) _).trans ((gi_k (by decide) _).trans (FRM_gi hF306 (r := 11) rfl rfl))
          have z4 : gi (wI (wI h306 17 4 0) 1 2 (p + 1)) 17 2 = (d : Int) := (gi_a (by decide) _).trans ((gi_k (by decide) _).trans ((FRM_gi hF306 (r := 11) rfl rfl).trans (e4)))
          have z5 : gi (wI (wI h306 17 4 0) 1 2 (p + 1)) 17 3 = (gi h 17 3) := (gi_a (by decide) _).trans ((gi_k (by decide) _).trans (FRM_gi hF306 (r := 11) rfl rfl))
          have z6 : gi (wI (wI h306 17 4 0) 1 2 (p + 1)) 17 4 = (b2i false) := (gi_a (by decide) _).trans (gi_same (by omega))
          have y1 : cdL (wI (wI h306 17 4 0) 1 2 (p + 1)) u (((gi h u 1) + 1)).toNat = (q ++ [(-((fx h) p))]) := (cdL_e (h := h306) fun j hj => (gi_a (by first | decide | omega) _).trans (gi_a (by first | decide | omega) _)).trans ol306
          have y2 : wtL (wI (wI h306 17 4 0) 1 2 (p + 1)) ((gi h 17 1)).toNat = s := (wtL_e (h := h) fun j hj => (gi_a (by first | decide | omega) _).trans ((gi_a (by first | decide | omega) _).trans (FRM_gi hF306 (r := 12) rfl rfl))).trans e3
          have zr : 0 ≤ (gi h 17 3) ∧ (gi h 17 3) ≤ 31 := hc
          have zc : cBt (gi h 17 3) = c := e5
          exact x_zret hK rfl (by omega) ⟨Or.inl ⟨(p + 1), (q ++ [(-((fx h) p))]), s, d, c, false, by unfold mthg; rw [if_neg (by omega), if_pos (by unfold askI; omega)], rfl, ⟨z1, by rw [z2]; exact y1, by rw [z3]; exact y2, z4.trans (by omega), by rw [z5]; exact zc, z6, by rw [z5]; exact zr, by omega, ew, eb⟩, by omega, by omega⟩, GD_w0 (GD_w1 (hG306) (r := 11) rfl (by omega) rfl (by omega) (by omega)) (r := 1) rfl rfl, FRM_w (FRM_w ((hF306).mono rfl) (r := 11) rfl rfl) (r := 1) rfl rfl, (fun a k n1 n2 n3 n4 n5 => (gi_a (by omega) _).trans ((gi_a (by omega) _).trans (oa306 a k n4 n5)))⟩
        · refine x_iload_n 47 hK rfl rfl rfl ?_
          refine x_bipush 49 hK rfl rfl rfl ?_
          refine x_if_icmp_ne 66 52 hK rfl rfl rfl (by omega) (by omega) (fun c77 => ?_) (fun c77 => ?_)
          · refine x_iload_n 67 hK rfl rfl rfl ?_
            refine x_bipush 69 hK rfl rfl rfl ?_
            refine x_if_icmp_ne 82 72 hK rfl rfl rfl (by omega) (by omega) (fun c80 => ?_) (fun c80 => ?_)
            · refine x_iload_n 83 hK rfl rfl rfl ?_
              refine x_bipush 85 hK rfl rfl rfl ?_
              refine x_if_icmp_ne 131 88 hK rfl rfl rfl (by omega) (by omega) (fun c83 => ?_) (fun c83 => ?_)
              · refine x_iconst 132 hK rfl rfl ?_
                exact x_zret hK rfl (by omega) ⟨Or.inr ⟨by unfold mthg; rw [if_neg (by omega), if_neg (by unfold askI; omega), if_neg (by omega), if_neg (by omega)], rfl, rfl⟩, hG, FRM.rf, fun _ _ _ _ _ _ _ => rfl⟩
              · refine x_aload_n 89 hK rfl rfl rfl ?_
                refine x_getE 92 hK rfl (Or.inl rfl) rfl (sp_17 (h := h) hG) (e := (d : Int)) (e4) ?_
                refine x_iconst 93 hK rfl rfl ?_
                refine x_if_icmp_ge 131 96 hK rfl rfl rfl (by omega) (by omega) (fun c89 => ?_) (fun c89 => ?_)
                · refine x_iconst 132 hK rfl rfl ?_
                  exact x_zret hK rfl (by omega) ⟨Or.inr ⟨by unfold mthg; rw [if_neg (by omega), if_neg (by unfold askI; omega), if_neg (by omega), if_neg (by omega)], rfl, rfl⟩, hG, FRM.rf, fun _ _ _ _ _ _ _ => rfl⟩
                · refine x_aload_n 97 hK rfl rfl rfl ?_
                  refine x_dup 98 hK rfl rfl rfl ?_
                  refine x_getE 101 hK rfl (Or.inl rfl) rfl (sp_17 (h := h) hG) (e := (d : Int)) (e4) ?_
                  refine x_iconst 102 hK rfl rfl ?_
                  refine x_iadd 103 hK rfl rfl ?_
                  refine x_putI 106 hK rfl rfl (sp_17 (h := h) hG) ?_
                  refine x_aload_n 107 hK rfl rfl rfl ?_
                  refine x_dup 108 hK rfl rfl rfl ?_
                  have g308 := gi_r h 17 3
                  refine x_getE 111 hK rfl (Or.inl rfl) rfl (sp_17 (h := h) hG) (e := (gi h 17 3)) (gi_k (by decide) _) ?_
                  refine x_iconst 112 hK rfl rfl ?_
                  refine x_aload_n 113 hK rfl rfl rfl ?_
                  refine x_getE 116 hK rfl (Or.inl rfl) rfl (sp_17 (h := h) hG) (e := ((d : Int) + 1)) (gi_same (by omega)) ?_
                  have g309 := bShl_r 1 ((d : Int) + 1)
                  refine x_ishlF 117 hK rfl rfl ?_
                  refine x_iconst 118 hK rfl rfl ?_
                  have g310 := bXor_r (bShl 1 ((d : Int) + 1)) (-1)
                  refine x_ixorF 119 hK rfl rfl ?_
                  have g311 := bAnd_r (gi h 17 3) (bXor (bShl 1 ((d : Int) + 1)) (-1))
                  refine x_iandF 120 hK rfl rfl ?_
                  refine x_putI 123 hK rfl rfl (sp_17 (h := h) hG) ?_
                  refine x_aload_n 124 hK rfl rfl rfl ?_
                  refine x_iload_n 125 hK rfl rfl rfl ?_
                  have g314 := gri (0) (40) hG (a := 17) (r := 11) (k := 1) rfl rfl
                  have hGp312 : GD gE gRL sh (wI (wI h 17 2 ((d : Int) + 1)) 17 3 (bAnd (gi h 17 3) (bXor (bShl 1 ((d : Int) + 1)) (-1)))) := GD_w0 (GD_w1 (hG) (r := 11) rfl (by omega) rfl (by omega) (by omega)) (r := 11) rfl rfl
                  have nn313 : gi (wI (wI h 17 2 ((d : Int) + 1)) 17 3 (bAnd (gi h 17 3) (bXor (bShl 1 ((d : Int) + 1)) (-1)))) 17 1 = (gi h 17 1) := (gi_k (by decide) _).trans (gi_k (by decide) _)
                  have lw313 : wtL (wI (wI h 17 2 ((d : Int) + 1)) 17 3 (bAnd (gi h 17 3) (bXor (bShl 1 ((d : Int) + 1)) (-1)))) ((gi h 17 1)).toNat = s := (wtL_e (h := h) fun j hj => (gi_a (by first | decide | omega) _).trans (gi_a (by first | decide | omega) _)).trans e3
                  refine x_callV 128 hK hmono rfl rfl [.ref 17, .int (I ((fx h) p))] [] rfl rfl (Nat.le_of_ble_eq_true rfl) (Nat.le_of_ble_eq_true rfl) rfl (sp_17 (h := h) hG) (CLd_le (Nat.le_of_ble_eq_true rfl) (ctX5_holdF hSP hGp312 (by omega) (by omega))) ?_
                  rw [nn313, lw313]
                  rintro v313 h313 ⟨rfl, hG313, hF313, t313, s313⟩
                  refine x_goto 133 hK rfl rfl ?_
                  refine x_aload_n 134 hK rfl rfl rfl ?_
                  refine x_dup 135 hK rfl rfl rfl ?_
                  refine x_getE 138 hK rfl (Or.inl rfl) rfl (sp_1 (h := h313) hG313) (e := p) ((FRM_gi hF313 (r := 1) rfl rfl).trans ((gi_a (by decide) _).trans ((gi_a (by decide) _).trans (e1)))) ?_
                  refine x_iconst 139 hK rfl rfl ?_
                  refine x_iadd 140 hK rfl rfl ?_
                  refine x_putI 143 hK rfl rfl (sp_1 (h := h313) hG313) ?_
                  refine x_iconst 144 hK rfl rfl ?_
                  have cl := cBt_clr hc (k := (d : Int) + 1) (by omega)
                  rw [show ((d : Int) + 1).toNat = d + 1 by omega, e5] at cl
                  have s40 : fx h p = 40 := by omega
                  have z1 : gi (wI h313 1 2 (p + 1)) 1 2 = (p + 1) := gi_same (by omega)
                  have z2 : gi (wI h313 1 2 (p + 1)) u 1 = (gi h u 1) := (gi_a (by omega) _).trans ((FRM_gi hF313 (r := 8) (su_r hu).1 rfl).trans ((gi_a (by omega) _).trans (gi_a (by omega) _)))
                  have z3 : gi (wI h313 1 2 (p + 1)) 17 1 = ((gi h 17 1) + 1) := (gi_a (by decide) _).trans (t313)
                  have z4 : gi (wI h313 1 2 (p + 1)) 17 2 = ((d : Int) + 1) := (gi_a (by decide) _).trans ((FRM_gi hF313 (r := 11) rfl rfl).trans ((gi_k (by decide) _).trans (gi_same (by omega))))
                  have z5 : gi (wI h313 1 2 (p + 1)) 17 3 = (bAnd (gi h 17 3) (bXor (bShl 1 ((d : Int) + 1)) (-1))) := (gi_a (by decide) _).trans ((FRM_gi hF313 (r := 11) rfl rfl).trans (gi_same (by omega)))
                  have z6 : gi (wI h313 1 2 (p + 1)) 17 4 = (b2i true) := ((gi_a (by decide) _).trans ((FRM_gi hF313 (r := 11) rfl rfl).trans ((gi_k (by decide) _).trans (gi_k (by decide) _)))).trans (e6)
                  have y1 : cdL (wI h313 1 2 (p + 1)) u ((gi h u 1)).toNat = q := (cdL_e (h := h) fun j hj => (gi_a (by first | decide | omega) _).trans ((FRM_gi hF313 (r := 9) (su_r hu).2 rfl).trans ((gi_a (by first | decide | omega) _).trans (gi_a (by first | decide | omega) _)))).trans e2
                  have y2 : wtL (wI h313 1 2 (p + 1)) (((gi h 17 1) + 1)).toNat = (((fx h) p) :: s) := (wtL_e (h := h313) fun j hj => gi_a (by first | decide | omega) _).trans s313
                  have zr : 0 ≤ (bAnd (gi h 17 3) (bXor (bShl 1 ((d : Int) + 1)) (-1))) ∧ (bAnd (gi h 17 3) (bXor (bShl 1 ((d : Int) + 1)) (-1))) ≤ 31 := cl.1
                  have zc : cBt (bAnd (gi h 17 3) (bXor (bShl 1 ((d : Int) + 1)) (-1))) = (upB c (d + 1) false) := cl.2
                  exact x_zret hK rfl (by omega) ⟨Or.inl ⟨(p + 1), q, (40 :: s), (d + 1), (upB c (d + 1) false), true, by unfold mthg; rw [if_neg (by omega), if_neg (by unfold askI; omega), if_neg (by omega), if_pos (by omega)], rfl, ⟨z1, by rw [z2]; exact y1, by rw [z3]; exact (y2.trans (by rw [s40])), z4.trans (by omega), by rw [z5]; exact zc, z6, by rw [z5]; exact zr, by omega, List.forall_mem_cons.mpr ⟨Or.inl rfl, ew⟩, (by show (if (40 : Int) = 40 then 1 else 0) + brS s = d + 1; rw [if_pos rfl, eb, Nat.add_comm])⟩, by omega, by omega⟩, GD_w0 (hG313) (r := 1) rfl rfl, FRM_w ((FRM_w (FRM_w ((FRM.rf : FRM gRL [(0, 1, 2, 2), (0, 1, 5, 5), (0, 8, 1, 1), (0, 9, 0, 39), (0, 11, 1, 4), (0, 12, 0, 39)] h h)) (r := 11) rfl rfl) (r := 11) rfl rfl).trans ((hF313).mono rfl)) (r := 1) rfl rfl, (fun a k n1 n2 n3 n4 n5 => (gi_a (by omega) _).trans ((frm_o hF313 [17, 18] (by decide +kernel) (by simp only [List.mem_cons, List.not_mem_nil, or_false]; omega) k).trans ((gi_a (by omega) _).trans (gi_a (by omega) _))))⟩
            · refine x_aload_n 73 hK rfl rfl rfl ?_
              refine x_sipush 76 hK rfl rfl rfl ?_
              have g316 := gri (0) (40) hG (a := 17) (r := 11) (k := 1) rfl rfl
              have nn315 : gi h 17 1 = (gi h 17 1) := rfl
              have lw315 : wtL h ((gi h 17 1)).toNat = s := (wtL_e (h := h) fun j hj => rfl).trans e3
              refine x_callV 79 hK hmono rfl rfl [.ref 17, .int (I 256)] [] rfl rfl (Nat.le_of_ble_eq_true rfl) (Nat.le_of_ble_eq_true rfl) rfl (sp_17 (h := h) hG) (CLd_le (Nat.le_of_ble_eq_true rfl) (ctX5_holdF hSP hG (by omega) (by omega))) ?_
              rw [nn315, lw315]
              rintro v315 h315 ⟨rfl, hG315, hF315, t315, s315⟩
              refine x_goto 133 hK rfl rfl ?_
              refine x_aload_n 134 hK rfl rfl rfl ?_
              refine x_dup 135 hK rfl rfl rfl ?_
              refine x_getE 138 hK rfl (Or.inl rfl) rfl (sp_1 (h := h315) hG315) (e := p) ((FRM_gi hF315 (r := 1) rfl rfl).trans (e1)) ?_
              refine x_iconst 139 hK rfl rfl ?_
              refine x_iadd 140 hK rfl rfl ?_
              refine x_putI 143 hK rfl rfl (sp_1 (h := h315) hG315) ?_
              refine x_iconst 144 hK rfl rfl ?_
              have z1 : gi (wI h315 1 2 (p + 1)) 1 2 = (p + 1) := gi_same (by omega)
              have z2 : gi (wI h315 1 2 (p + 1)) u 1 = (gi h u 1) := (gi_a (by omega) _).trans (FRM_gi hF315 (r := 8) (su_r hu).1 rfl)
              have z3 : gi (wI h315 1 2 (p + 1)) 17 1 = ((gi h 17 1) + 1) := (gi_a (by decide) _).trans (t315)
              have z4 : gi (wI h315 1 2 (p + 1)) 17 2 = (d : Int) := (gi_a (by decide) _).trans ((FRM_gi hF315 (r := 11) rfl rfl).trans (e4))
              have z5 : gi (wI h315 1 2 (p + 1)) 17 3 = (gi h 17 3) := (gi_a (by decide) _).trans (FRM_gi hF315 (r := 11) rfl rfl)
              have z6 : gi (wI h315 1 2 (p + 1)) 17 4 = (b2i true) := ((gi_a (by decide) _).trans (FRM_gi hF315 (r := 11) rfl rfl)).trans (e6)
              have y1 : cdL (wI h315 1 2 (p + 1)) u ((gi h u 1)).toNat = q := (cdL_e (h := h) fun j hj => (gi_a (by first | decide | omega) _).trans (FRM_gi hF315 (r := 9) (su_r hu).2 rfl)).trans e2
              have y2 : wtL (wI h315 1 2 (p + 1)) (((gi h 17 1) + 1)).toNat = (256 :: s) := (wtL_e (h := h315) fun j hj => gi_a (by first | decide | omega) _).trans s315
              have zr : 0 ≤ (gi h 17 3) ∧ (gi h 17 3) ≤ 31 := hc
              have zc : cBt (gi h 17 3) = c := e5
              exact x_zret hK rfl (by omega) ⟨Or.inl ⟨(p + 1), q, (256 :: s), d, c, true, by unfold mthg; rw [if_neg (by omega), if_neg (by unfold askI; omega), if_pos (by omega)], rfl, ⟨z1, by rw [z2]; exact y1, by rw [z3]; exact y2, z4.trans (by omega), by rw [z5]; exact zc, z6, by rw [z5]; exact zr, by omega, List.forall_mem_cons.mpr ⟨Or.inr (by decide), ew⟩, (by show (if (256 : Int) = 40 then 1 else 0) + brS s = d; rw [if_neg (by decide), eb, Nat.zero_add])⟩, by omega, by omega⟩, GD_w0 (hG315) (r := 1) rfl rfl, FRM_w ((hF315).mono rfl) (r := 1) rfl rfl, (fun a k n1 n2 n3 n4 n5 => (gi_a (by omega) _).trans (frm_o hF315 [17, 18] (by decide +kernel) (by simp only [List.mem_cons, List.not_mem_nil, or_false]; omega) k))⟩
          · refine x_aload_n 53 hK rfl rfl rfl ?_
            refine x_iload_n 54 hK rfl rfl rfl ?_
            refine x_ineg 55 hK rfl rfl ?_
            have g318 := gri (0) (40) hG (a := u) (r := 8) (k := 1) (su_r hu).1 rfl
            have nn317 : gi h u 1 = (gi h u 1) := rfl
            have lo317 : cdL h u ((gi h u 1)).toNat = q := (cdL_e (h := h) fun j hj => rfl).trans e2
            refine x_callV 58 hK hmono rfl rfl [.ref u, .int (I (-((fx h) p)))] [] rfl rfl (Nat.le_of_ble_eq_true rfl) (Nat.le_of_ble_eq_true rfl) rfl (shx (h := h) hG (r := 8) (su_r hu).1 rfl) (CLd_le (Nat.le_of_ble_eq_true rfl) (ctX4_add hSP hG (show PT h from hP) hu (by omega) (by omega))) ?_
            rw [nn317]
            rintro v317 h317 ⟨rfl, hG317, hF317, t317, s317, o317, oa317⟩
            have ol317 : cdL h317 u ((gi h u 1) + 1).toNat = q ++ [(-((fx h) p))] := by
              rw [tn_s (by omega), ← lo317]
              exact cdL_s (h := h) s317 o317
            refine x_aload_n 59 hK rfl rfl rfl ?_
            refine x_iconst 60 hK rfl rfl ?_
            refine x_putZ 63 hK rfl rfl (sp_17 (h := h317) hG317) (by omega) ?_
            refine x_goto 133 hK rfl rfl ?_
            refine x_aload_n 134 hK rfl rfl rfl ?_
            refine x_dup 135 hK rfl rfl rfl ?_
            refine x_getE 138 hK rfl (Or.inl rfl) rfl (sp_1 (h := h317) hG317) (e := p) ((gi_a (by decide) _).trans ((FRM_gi hF317 (r := 1) rfl rfl).trans (e1))) ?_
            refine x_iconst 139 hK rfl rfl ?_
            refine x_iadd 140 hK rfl rfl ?_
            refine x_putI 143 hK rfl rfl (sp_1 (h := h317) hG317) ?_
            refine x_iconst 144 hK rfl rfl ?_
            have z1 : gi (wI (wI h317 17 4 0) 1 2 (p + 1)) 1 2 = (p + 1) := gi_same (by omega)
            have z2 : gi (wI (wI h317 17 4 0) 1 2 (p + 1)) u 1 = ((gi h u 1) + 1) := (gi_a (by omega) _).trans ((gi_a (by omega) _).trans (t317))
            have z3 : gi (wI (wI h317 17 4 0) 1 2 (p + 1)) 17 1 = (gi h 17 1) := (gi_a (by decide) _).trans ((gi_k (by decide) _).trans (FRM_gi hF317 (r := 11) rfl rfl))
            have z4 : gi (wI (wI h317 17 4 0) 1 2 (p + 1)) 17 2 = (d : Int) := (gi_a (by decide) _).trans ((gi_k (by decide) _).trans ((FRM_gi hF317 (r := 11) rfl rfl).trans (e4)))
            have z5 : gi (wI (wI h317 17 4 0) 1 2 (p + 1)) 17 3 = (gi h 17 3) := (gi_a (by decide) _).trans ((gi_k (by decide) _).trans (FRM_gi hF317 (r := 11) rfl rfl))
            have z6 : gi (wI (wI h317 17 4 0) 1 2 (p + 1)) 17 4 = (b2i false) := (gi_a (by decide) _).trans (gi_same (by omega))
            have y1 : cdL (wI (wI h317 17 4 0) 1 2 (p + 1)) u (((gi h u 1) + 1)).toNat = (q ++ [(-((fx h) p))]) := (cdL_e (h := h317) fun j hj => (gi_a (by first | decide | omega) _).trans (gi_a (by first | decide | omega) _)).trans ol317
            have y2 : wtL (wI (wI h317 17 4 0) 1 2 (p + 1)) ((gi h 17 1)).toNat = s := (wtL_e (h := h) fun j hj => (gi_a (by first | decide | omega) _).trans ((gi_a (by first | decide | omega) _).trans (FRM_gi hF317 (r := 12) rfl rfl))).trans e3
            have zr : 0 ≤ (gi h 17 3) ∧ (gi h 17 3) ≤ 31 := hc
            have zc : cBt (gi h 17 3) = c := e5
            exact x_zret hK rfl (by omega) ⟨Or.inl ⟨(p + 1), (q ++ [(-((fx h) p))]), s, d, c, false, by unfold mthg; rw [if_neg (by omega), if_pos (by unfold askI; omega)], rfl, ⟨z1, by rw [z2]; exact y1, by rw [z3]; exact y2, z4.trans (by omega), by rw [z5]; exact zc, z6, by rw [z5]; exact zr, by omega, ew, eb⟩, by omega, by omega⟩, GD_w0 (GD_w1 (hG317) (r := 11) rfl (by omega) rfl (by omega) (by omega)) (r := 1) rfl rfl, FRM_w (FRM_w ((hF317).mono rfl) (r := 11) rfl rfl) (r := 1) rfl rfl, (fun a k n1 n2 n3 n4 n5 => (gi_a (by omega) _).trans ((gi_a (by omega) _).trans (oa317 a k n4 n5)))⟩
set_option maxRecDepth 4000 in
theorem ctX5_takeOperatorF {SP : CT} (hSP : MONO SP) {sh : List (Nat × Nat)} {h : aH} (hG : GD gE gRL sh h) {u : Nat} (hP : PT h) (hu : u = 11 ∨ u = 14) {p : Int} {q s : List Int} {d : Nat} {c : Nat → Bool} (hR : RdH h u p q s d c false) (h40 : gi h 1 3 ≤ 40) (hp : 0 ≤ p) : CLd SP 5 mX5_takeOperator [.ref 17, .ref 1, .ref u] h 0 0 (fun rv h' => ((∃ (p' : Int) (q' s' : List Int) (d' : Nat) (c' : Nat → Bool) (w' : Bool), mopr (fx h) p q s d c = some (p', q', s', d', c', w') ∧ rv = some (.int (I 1)) ∧ RdH h' u p' q' s' d' c' w' ∧ p < p' ∧ p' ≤ gi h 1 3) ∨ (mopr (fx h) p q s d c = none ∧ rv = some (.int (I 0)) ∧ h' = h)) ∧ GD gE gRL sh h' ∧ FRM gRL [(0, 1, 2, 2), (0, 1, 5, 5), (0, 8, 1, 1), (0, 9, 0, 39), (0, 11, 1, 4), (0, 12, 0, 39)] h h' ∧ ∀ a k : Nat, a ≠ 1 → a ≠ 17 → a ≠ 18 → a ≠ u → a ≠ u + 1 → gi h' a k = gi h a k) := by
  refine x_met _ rfl (Nat.le_of_ble_eq_true rfl) (fun K hK => ?_)
  have hmono := MONO_CLd hSP 4
  obtain ⟨e1, e2, e3, e4, e5, e6, hc, en, ew, eb⟩ := hR
  have fe0 := fx_end h
  have pl : fx h p < 0 ∨ p < gi h 1 3 := by
    by_cases z : gi h 1 3 ≤ p
    · have := fx_end h p z; omega
    · omega
  have gn := gri 0 40 hG (a := u) (r := 8) (k := 1) (su_r hu).1 rfl
  have gw0 := gri 0 40 hG (a := 17) (r := 11) (k := 1) rfl rfl
  have gd0 := gri 0 4 hG (a := 17) (r := 11) (k := 2) rfl rfl
  refine x_aload_n 1 hK rfl rfl rfl ?_
  have at319 : gi h 1 2 = p := e1
  have fe319 : fx h = (fx h) := rfl
  refine x_callV 4 hK hmono rfl rfl [.ref 1] [] rfl rfl (Nat.le_of_ble_eq_true rfl) (Nat.le_of_ble_eq_true rfl) rfl (sp_1 (h := h) hG) (CLd_le (Nat.le_of_ble_eq_true rfl) (ctX9_next hSP hG)) ?_
  rw [fe319, at319]
  rintro v9 h9 ⟨e9, rfl⟩
  rw [e9]
  clear e9
  have fr319 := fx_r hG p
  refine x_istore_n 5 hK rfl rfl [(3, .int (I ((fx h) p))), (0, .ref 17), (1, .ref 1), (2, .ref u)] rfl ?_
  refine x_iload_n 6 hK rfl rfl rfl ?_
  refine x_callS 9 hK hmono rfl (Or.inl rfl) rfl [.int (I ((fx h) p))] [] rfl rfl (Nat.le_of_ble_eq_true rfl) (Nat.le_of_ble_eq_true rfl) (CLd_le (Nat.le_of_ble_eq_true rfl) (ctX5_rankF hSP (by omega))) ?_
  rintro v9 h9 ⟨e9, rfl⟩
  rw [e9]
  clear e9
  have rk320 := rkI_b ((fx h) p)
  refine x_istore 11 hK rfl rfl [(4, .int (I (rkI ((fx h) p) : Int))), (3, .int (I ((fx h) p))), (0, .ref 17), (1, .ref 1), (2, .ref u)] rfl ?_
  refine x_iload_n 12 hK rfl rfl rfl ?_
  refine x_bipush 14 hK rfl rfl rfl ?_
  refine x_if_icmp_ne 53 17 hK rfl rfl rfl (by omega) (by omega) (fun c9 => ?_) (fun c9 => ?_)
  · refine x_iload 55 hK rfl rfl rfl ?_
    refine x_if_eq 79 58 hK rfl rfl rfl (by omega) (fun c11 => ?_) (fun c11 => ?_)
    · refine x_iconst 80 hK rfl rfl ?_
      have cd : cBt (gi h 17 3) d = c d := by rw [e5]
      unfold cBt at cd
      rw [decide_eq_true (show d ≤ 4 by omega), Bool.true_and] at cd
      exact x_zret hK rfl (by omega) ⟨Or.inr ⟨by unfold mopr; rw [if_neg (by omega), if_pos (by first | exact Or.inl (by omega) | exact Or.inr ⟨by omega, by rw [← cd]; exact decide_eq_true (by omega)⟩)], rfl, rfl⟩, hG, FRM.rf, fun _ _ _ _ _ _ _ => rfl⟩
    · refine x_iload 60 hK rfl rfl rfl ?_
      refine x_iconst 61 hK rfl rfl ?_
      refine x_if_icmp_ne 81 64 hK rfl rfl rfl (by omega) (by omega) (fun c16 => ?_) (fun c16 => ?_)
      · refine x_aload_n 82 hK rfl rfl rfl ?_
        refine x_dup 83 hK rfl rfl rfl ?_
        have g321 := gi_r h 17 3
        refine x_getE 86 hK rfl (Or.inl rfl) rfl (sp_17 (h := h) hG) (e := (gi h 17 3)) (rfl) ?_
        refine x_iload 88 hK rfl rfl rfl ?_
        refine x_iconst 89 hK rfl rfl ?_
        refine x_if_icmp_ne 101 92 hK rfl rfl rfl (by omega) (by omega) (fun _ => ?_) (fun c => by omega)
        refine x_iconst 102 hK rfl rfl ?_
        have g322 := bOr_r (gi h 17 3) 0
        refine x_iorF 103 hK rfl rfl ?_
        refine x_putI 106 hK rfl rfl (sp_17 (h := h) hG) ?_
        refine x_aload_n 107 hK rfl rfl rfl ?_
        refine x_iload 109 hK rfl rfl rfl ?_
        refine x_aload_n 110 hK rfl rfl rfl ?_
        have hGp323 : GD gE gRL sh (wI h 17 3 (bOr (gi h 17 3) 0)) := GD_w0 (hG) (r := 11) rfl rfl
        have rz324 := rk40 (x := fx h p) (by omega)
        have nu324 : gi (wI h 17 3 (bOr (gi h 17 3) 0)) u 1 = (gi h u 1) := gi_a (by omega) _
        have nw324 : gi (wI h 17 3 (bOr (gi h 17 3) 0)) 17 1 = (gi h 17 1) := gi_k (by decide) _
        have lo324 : cdL (wI h 17 3 (bOr (gi h 17 3) 0)) u ((gi h u 1)).toNat = q := (cdL_e (h := h) fun j hj => gi_a (by first | decide | omega) _).trans e2
        have lw324 : wtL (wI h 17 3 (bOr (gi h 17 3) 0)) ((gi h 17 1)).toNat = s := (wtL_e (h := h) fun j hj => gi_a (by first | decide | omega) _).trans e3
        refine x_callV 113 hK hmono rfl rfl [.ref 17, .int (I (rkI ((fx h) p) : Int)), .ref u] [] rfl rfl (Nat.le_of_ble_eq_true rfl) (Nat.le_of_ble_eq_true rfl) rfl (sp_17 (h := h) hG) (CLd_le (Nat.le_of_ble_eq_true rfl) (ctX5_releaseF hSP hGp323 (show PT h from hP) hu (r := (rkI ((fx h) p))) (by omega) (by rw [nu324, nw324]; omega) (fun j hj => wt_at (n := ((gi h 17 1)).toNat) ew lw324 j (by rw [nw324] at hj; omega)))) ?_
        rw [nu324, nw324, lo324, lw324]
        rintro v324 h324 ⟨rfl, hG324, hF324, o324, w324, t324, oa324⟩
        have gu324 := gri 0 40 hG324 (a := u) (r := 8) (k := 1) (su_r hu).1 rfl
        have gw324 := gri 0 40 hG324 (a := 17) (r := 11) (k := 1) rfl rfl
        refine x_aload_n 114 hK rfl rfl rfl ?_
        refine x_iload_n 115 hK rfl rfl rfl ?_
        have g326 := gri (0) (40) hG324 (a := 17) (r := 11) (k := 1) rfl rfl
        have nn325 : gi h324 17 1 = (gi h324 17 1) := rfl
        have lw325 : wtL h324 ((gi h324 17 1)).toNat = (rstS (rkI ((fx h) p)) s) := (wtL_e (h := h324) fun j hj => rfl).trans w324
        refine x_callV 118 hK hmono rfl rfl [.ref 17, .int (I ((fx h) p))] [] rfl rfl (Nat.le_of_ble_eq_true rfl) (Nat.le_of_ble_eq_true rfl) rfl (sp_17 (h := h324) hG324) (CLd_le (Nat.le_of_ble_eq_true rfl) (ctX5_holdF hSP hG324 (by omega) (by omega))) ?_
        rw [nn325, lw325]
        rintro v325 h325 ⟨rfl, hG325, hF325, t325, s325⟩
        refine x_aload_n 119 hK rfl rfl rfl ?_
        refine x_iconst 120 hK rfl rfl ?_
        refine x_putZ 123 hK rfl rfl (sp_17 (h := h325) hG325) (by omega) ?_
        refine x_aload_n 124 hK rfl rfl rfl ?_
        refine x_dup 125 hK rfl rfl rfl ?_
        refine x_getE 128 hK rfl (Or.inl rfl) rfl (sp_1 (h := h325) hG325) (e := p) ((gi_a (by decide) _).trans ((FRM_gi hF325 (r := 1) rfl rfl).trans ((FRM_gi hF324 (r := 1) rfl rfl).trans ((gi_a (by decide) _).trans (e1))))) ?_
        refine x_iconst 129 hK rfl rfl ?_
        refine x_iadd 130 hK rfl rfl ?_
        refine x_putI 133 hK rfl rfl (sp_1 (h := h325) hG325) ?_
        refine x_iconst 134 hK rfl rfl ?_
        have cd : cBt (gi h 17 3) d = c d := by rw [e5]
        unfold cBt at cd
        rw [decide_eq_true (show d ≤ 4 by omega), Bool.true_and] at cd
        have r40 := rk40 (x := fx h p) (by omega)
        have c0 := bOr_0 hc
        have mt : mopr (fx h) p q s d c = some (p + 1, q ++ ngs (popS (rkI (fx h p)) s), fx h p :: rstS (rkI (fx h p)) s, d, c, true) := by unfold mopr; rw [if_neg (by omega), if_neg (by first | omega | exact fun z => z.elim (fun y => absurd y (by omega)) (fun y => by have y := y.2; rw [← cd] at y; exact absurd (of_decide_eq_true y) (by omega))), if_neg (by omega)]
        have z1 : gi (wI (wI h325 17 4 1) 1 2 (p + 1)) 1 2 = (p + 1) := gi_same (by omega)
        have z2 : gi (wI (wI h325 17 4 1) 1 2 (p + 1)) u 1 = (gi h324 u 1) := (gi_a (by omega) _).trans ((gi_a (by omega) _).trans (FRM_gi hF325 (r := 8) (su_r hu).1 rfl))
        have z3 : gi (wI (wI h325 17 4 1) 1 2 (p + 1)) 17 1 = ((gi h324 17 1) + 1) := (gi_a (by decide) _).trans ((gi_k (by decide) _).trans (t325))
        have z4 : gi (wI (wI h325 17 4 1) 1 2 (p + 1)) 17 2 = (d : Int) := (gi_a (by decide) _).trans ((gi_k (by decide) _).trans ((FRM_gi hF325 (r := 11) rfl rfl).trans ((FRM_gi hF324 (r := 11) rfl rfl).trans ((gi_k (by decide) _).trans (e4)))))
        have z5 : gi (wI (wI h325 17 4 1) 1 2 (p + 1)) 17 3 = (bOr (gi h 17 3) 0) := (gi_a (by decide) _).trans ((gi_k (by decide) _).trans ((FRM_gi hF325 (r := 11) rfl rfl).trans ((FRM_gi hF324 (r := 11) rfl rfl).trans (gi_same (by omega)))))
        have z6 : gi (wI (wI h325 17 4 1) 1 2 (p + 1)) 17 4 = (b2i true) := (gi_a (by decide) _).trans (gi_same (by omega))
        have y1 : cdL (wI (wI h325 17 4 1) 1 2 (p + 1)) u ((gi h324 u 1)).toNat = (q ++ ngs (popS (rkI ((fx h) p)) s)) := (cdL_e (h := h324) fun j hj => (gi_a (by first | decide | omega) _).trans ((gi_a (by first | decide | omega) _).trans (FRM_gi hF325 (r := 9) (su_r hu).2 rfl))).trans o324
        have y2 : wtL (wI (wI h325 17 4 1) 1 2 (p + 1)) (((gi h324 17 1) + 1)).toNat = (((fx h) p) :: (rstS (rkI ((fx h) p)) s)) := (wtL_e (h := h325) fun j hj => (gi_a (by first | decide | omega) _).trans (gi_a (by first | decide | omega) _)).trans s325
        have zr : 0 ≤ (bOr (gi h 17 3) 0) ∧ (bOr (gi h 17 3) 0) ≤ 31 := (by rw [c0]; exact hc)
        have zc : cBt (bOr (gi h 17 3) 0) = c := (by rw [c0]; exact e5)
        exact x_zret hK rfl (by omega) ⟨Or.inl ⟨(p + 1), (q ++ ngs (popS (rkI ((fx h) p)) s)), (((fx h) p) :: (rstS (rkI ((fx h) p)) s)), d, c, true, mt, rfl, ⟨z1, by rw [z2]; exact y1, by rw [z3]; exact y2, z4.trans (by omega), by rw [z5]; exact zc, z6, by rw [z5]; exact zr, by omega, List.forall_mem_cons.mpr ⟨Or.inr ⟨by omega, by omega, by omega⟩, rst_sub ew⟩, (by show (if fx h p = 40 then 1 else 0) + brS (rstS (rkI (fx h p)) s) = d; rw [if_neg r40.1, rst_br (by omega), eb, Nat.zero_add])⟩, by omega, by omega⟩, GD_w0 (GD_w1 (hG325) (r := 11) rfl (by omega) rfl (by omega) (by omega)) (r := 1) rfl rfl, FRM_w (FRM_w (((FRM_w ((FRM.rf : FRM gRL [(0, 1, 2, 2), (0, 1, 5, 5), (0, 8, 1, 1), (0, 9, 0, 39), (0, 11, 1, 4), (0, 12, 0, 39)] h h)) (r := 11) rfl rfl).trans ((hF324).mono rfl)).trans ((hF325).mono rfl)) (r := 11) rfl rfl) (r := 1) rfl rfl, (fun a k n1 n2 n3 n4 n5 => (gi_a (by omega) _).trans ((gi_a (by omega) _).trans ((frm_o hF325 [17, 18] (by decide +kernel) (by simp only [List.mem_cons, List.not_mem_nil, or_false]; omega) k).trans ((oa324 a k n2 n4 n5).trans (gi_a (by omega) _)))))⟩
      · refine x_aload_n 65 hK rfl rfl rfl ?_
        have g327 := gi_r h 17 3
        refine x_getE 68 hK rfl (Or.inl rfl) rfl (sp_17 (h := h) hG) (e := (gi h 17 3)) (rfl) ?_
        refine x_aload_n 69 hK rfl rfl rfl ?_
        refine x_getE 72 hK rfl (Or.inl rfl) rfl (sp_17 (h := h) hG) (e := (d : Int)) (e4) ?_
        have g328 := bShr_r (gi h 17 3) (d : Int)
        refine x_ishrF 73 hK rfl rfl ?_
        refine x_iconst 74 hK rfl rfl ?_
        have g329 := bAnd_r (bShr (gi h 17 3) (d : Int)) 1
        refine x_iandF 75 hK rfl rfl ?_
        refine x_iconst 76 hK rfl rfl ?_
        refine x_if_icmp_ne 81 79 hK rfl rfl rfl (by omega) (by omega) (fun c52 => ?_) (fun c52 => ?_)
        · refine x_aload_n 82 hK rfl rfl rfl ?_
          refine x_dup 83 hK rfl rfl rfl ?_
          refine x_getE 86 hK rfl (Or.inl rfl) rfl (sp_17 (h := h) hG) (e := (gi h 17 3)) (rfl) ?_
          refine x_iload 88 hK rfl rfl rfl ?_
          refine x_iconst 89 hK rfl rfl ?_
          refine x_if_icmp_ne 101 92 hK rfl rfl rfl (by omega) (by omega) (fun c => by omega) (fun _ => ?_)
          refine x_iconst 93 hK rfl rfl ?_
          refine x_aload_n 94 hK rfl rfl rfl ?_
          refine x_getE 97 hK rfl (Or.inl rfl) rfl (sp_17 (h := h) hG) (e := (d : Int)) (e4) ?_
          have g330 := bShl_r 1 (d : Int)
          refine x_ishlF 98 hK rfl rfl ?_
          refine x_goto 102 hK rfl rfl ?_
          have g331 := bOr_r (gi h 17 3) (bShl 1 (d : Int))
          refine x_iorF 103 hK rfl rfl ?_
          refine x_putI 106 hK rfl rfl (sp_17 (h := h) hG) ?_
          refine x_aload_n 107 hK rfl rfl rfl ?_
          refine x_iload 109 hK rfl rfl rfl ?_
          refine x_aload_n 110 hK rfl rfl rfl ?_
          have hGp332 : GD gE gRL sh (wI h 17 3 (bOr (gi h 17 3) (bShl 1 (d : Int)))) := GD_w0 (hG) (r := 11) rfl rfl
          have rz333 := rk40 (x := fx h p) (by omega)
          have nu333 : gi (wI h 17 3 (bOr (gi h 17 3) (bShl 1 (d : Int)))) u 1 = (gi h u 1) := gi_a (by omega) _
          have nw333 : gi (wI h 17 3 (bOr (gi h 17 3) (bShl 1 (d : Int)))) 17 1 = (gi h 17 1) := gi_k (by decide) _
          have lo333 : cdL (wI h 17 3 (bOr (gi h 17 3) (bShl 1 (d : Int)))) u ((gi h u 1)).toNat = q := (cdL_e (h := h) fun j hj => gi_a (by first | decide | omega) _).trans e2
          have lw333 : wtL (wI h 17 3 (bOr (gi h 17 3) (bShl 1 (d : Int)))) ((gi h 17 1)).toNat = s := (wtL_e (h := h) fun j hj => gi_a (by first | decide | omega) _).trans e3
          refine x_callV 113 hK hmono rfl rfl [.ref 17, .int (I (rkI ((fx h) p) : Int)), .ref u] [] rfl rfl (Nat.le_of_ble_eq_true rfl) (Nat.le_of_ble_eq_true rfl) rfl (sp_17 (h := h) hG) (CLd_le (Nat.le_of_ble_eq_true rfl) (ctX5_releaseF hSP hGp332 (show PT h from hP) hu (r := (rkI ((fx h) p))) (by omega) (by rw [nu333, nw333]; omega) (fun j hj => wt_at (n := ((gi h 17 1)).toNat) ew lw333 j (by rw [nw333] at hj; omega)))) ?_
          rw [nu333, nw333, lo333, lw333]
          rintro v333 h333 ⟨rfl, hG333, hF333, o333, w333, t333, oa333⟩
          have gu333 := gri 0 40 hG333 (a := u) (r := 8) (k := 1) (su_r hu).1 rfl
          have gw333 := gri 0 40 hG333 (a := 17) (r := 11) (k := 1) rfl rfl
          refine x_aload_n 114 hK rfl rfl rfl ?_
          refine x_iload_n 115 hK rfl rfl rfl ?_
          have g335 := gri (0) (40) hG333 (a := 17) (r := 11) (k := 1) rfl rfl
          have nn334 : gi h333 17 1 = (gi h333 17 1) := rfl
          have lw334 : wtL h333 ((gi h333 17 1)).toNat = (rstS (rkI ((fx h) p)) s) := (wtL_e (h := h333) fun j hj => rfl).trans w333
          refine x_callV 118 hK hmono rfl rfl [.ref 17, .int (I ((fx h) p))] [] rfl rfl (Nat.le_of_ble_eq_true rfl) (Nat.le_of_ble_eq_true rfl) rfl (sp_17 (h := h333) hG333) (CLd_le (Nat.le_of_ble_eq_true rfl) (ctX5_holdF hSP hG333 (by omega) (by omega))) ?_
          rw [nn334, lw334]
          rintro v334 h334 ⟨rfl, hG334, hF334, t334, s334⟩
          refine x_aload_n 119 hK rfl rfl rfl ?_
          refine x_iconst 120 hK rfl rfl ?_
          refine x_putZ 123 hK rfl rfl (sp_17 (h := h334) hG334) (by omega) ?_
          refine x_aload_n 124 hK rfl rfl rfl ?_
          refine x_dup 125 hK rfl rfl rfl ?_
          refine x_getE 128 hK rfl (Or.inl rfl) rfl (sp_1 (h := h334) hG334) (e := p) ((gi_a (by decide) _).trans ((FRM_gi hF334 (r := 1) rfl rfl).trans ((FRM_gi hF333 (r := 1) rfl rfl).trans ((gi_a (by decide) _).trans (e1))))) ?_
          refine x_iconst 129 hK rfl rfl ?_
          refine x_iadd 130 hK rfl rfl ?_
          refine x_putI 133 hK rfl rfl (sp_1 (h := h334) hG334) ?_
          refine x_iconst 134 hK rfl rfl ?_
          have cd : cBt (gi h 17 3) d = c d := by rw [e5]
          unfold cBt at cd
          rw [decide_eq_true (show d ≤ 4 by omega), Bool.true_and] at cd
          have r40 := rk40 (x := fx h p) (by omega)
          have cl := cBt_set hc (k := (d : Int)) (by omega)
          rw [show ((d : Int)).toNat = d by omega, e5] at cl
          have mt : mopr (fx h) p q s d c = some (p + 1, q ++ ngs (popS (rkI (fx h p)) s), fx h p :: rstS (rkI (fx h p)) s, d, upB c d true, true) := by unfold mopr; rw [if_neg (by omega), if_neg (by first | omega | exact fun z => z.elim (fun y => absurd y (by omega)) (fun y => by have y := y.2; rw [← cd] at y; exact absurd (of_decide_eq_true y) (by omega))), if_pos (by omega)]
          have z1 : gi (wI (wI h334 17 4 1) 1 2 (p + 1)) 1 2 = (p + 1) := gi_same (by omega)
          have z2 : gi (wI (wI h334 17 4 1) 1 2 (p + 1)) u 1 = (gi h333 u 1) := (gi_a (by omega) _).trans ((gi_a (by omega) _).trans (FRM_gi hF334 (r := 8) (su_r hu).1 rfl))
          have z3 : gi (wI (wI h334 17 4 1) 1 2 (p + 1)) 17 1 = ((gi h333 17 1) + 1) := (gi_a (by decide) _).trans ((gi_k (by decide) _).trans (t334))
          have z4 : gi (wI (wI h334 17 4 1) 1 2 (p + 1)) 17 2 = (d : Int) := (gi_a (by decide) _).trans ((gi_k (by decide) _).trans ((FRM_gi hF334 (r := 11) rfl rfl).trans ((FRM_gi hF333 (r := 11) rfl rfl).trans ((gi_k (by decide) _).trans (e4)))))
          have z5 : gi (wI (wI h334 17 4 1) 1 2 (p + 1)) 17 3 = (bOr (gi h 17 3) (bShl 1 (d : Int))) := (gi_a (by decide) _).trans ((gi_k (by decide) _).trans ((FRM_gi hF334 (r := 11) rfl rfl).trans ((FRM_gi hF333 (r := 11) rfl rfl).trans (gi_same (by omega)))))
          have z6 : gi (wI (wI h334 17 4 1) 1 2 (p + 1)) 17 4 = (b2i true) := (gi_a (by decide) _).trans (gi_same (by omega))
          have y1 : cdL (wI (wI h334 17 4 1) 1 2 (p + 1)) u ((gi h333 u 1)).toNat = (q ++ ngs (popS (rkI ((fx h) p)) s)) := (cdL_e (h := h333) fun j hj => (gi_a (by first | decide | omega) _).trans ((gi_a (by first | decide | omega) _).trans (FRM_gi hF334 (r := 9) (su_r hu).2 rfl))).trans o333
          have y2 : wtL (wI (wI h334 17 4 1) 1 2 (p + 1)) (((gi h333 17 1) + 1)).toNat = (((fx h) p) :: (rstS (rkI ((fx h) p)) s)) := (wtL_e (h := h334) fun j hj => (gi_a (by first | decide | omega) _).trans (gi_a (by first | decide | omega) _)).trans s334
          have zr : 0 ≤ (bOr (gi h 17 3) (bShl 1 (d : Int))) ∧ (bOr (gi h 17 3) (bShl 1 (d : Int))) ≤ 31 := cl.1
          have zc : cBt (bOr (gi h 17 3) (bShl 1 (d : Int))) = (upB c d true) := cl.2
          exact x_zret hK rfl (by omega) ⟨Or.inl ⟨(p + 1), (q ++ ngs (popS (rkI ((fx h) p)) s)), (((fx h) p) :: (rstS (rkI ((fx h) p)) s)), d, (upB c d true), true, mt, rfl, ⟨z1, by rw [z2]; exact y1, by rw [z3]; exact y2, z4.trans (by omega), by rw [z5]; exact zc, z6, by rw [z5]; exact zr, by omega, List.forall_mem_cons.mpr ⟨Or.inr ⟨by omega, by omega, by omega⟩, rst_sub ew⟩, (by show (if fx h p = 40 then 1 else 0) + brS (rstS (rkI (fx h p)) s) = d; rw [if_neg r40.1, rst_br (by omega), eb, Nat.zero_add])⟩, by omega, by omega⟩, GD_w0 (GD_w1 (hG334) (r := 11) rfl (by omega) rfl (by omega) (by omega)) (r := 1) rfl rfl, FRM_w (FRM_w (((FRM_w ((FRM.rf : FRM gRL [(0, 1, 2, 2), (0, 1, 5, 5), (0, 8, 1, 1), (0, 9, 0, 39), (0, 11, 1, 4), (0, 12, 0, 39)] h h)) (r := 11) rfl rfl).trans ((hF333).mono rfl)).trans ((hF334).mono rfl)) (r := 11) rfl rfl) (r := 1) rfl rfl, (fun a k n1 n2 n3 n4 n5 => (gi_a (by omega) _).trans ((gi_a (by omega) _).trans ((frm_o hF334 [17, 18] (by decide +kernel) (by simp only [List.mem_cons, List.not_mem_nil, or_false]; omega) k).trans ((oa333 a k n2 n4 n5).trans (gi_a (by omega) _)))))⟩
        · refine x_iconst 80 hK rfl rfl ?_
          have cd : cBt (gi h 17 3) d = c d := by rw [e5]
          unfold cBt at cd
          rw [decide_eq_true (show d ≤ 4 by omega), Bool.true_and] at cd
          exact x_zret hK rfl (by omega) ⟨Or.inr ⟨by unfold mopr; rw [if_neg (by omega), if_pos (by first | exact Or.inl (by omega) | exact Or.inr ⟨by omega, by rw [← cd]; exact decide_eq_true (by omega)⟩)], rfl, rfl⟩, hG, FRM.rf, fun _ _ _ _ _ _ _ => rfl⟩
  · refine x_aload_n 18 hK rfl rfl rfl ?_
    refine x_getE 21 hK rfl (Or.inl rfl) rfl (sp_17 (h := h) hG) (e := (d : Int)) (e4) ?_
    refine x_if_le 53 24 hK rfl rfl rfl (by omega) (fun c88 => ?_) (fun c88 => ?_)
    · refine x_iload 55 hK rfl rfl rfl ?_
      refine x_if_eq 79 58 hK rfl rfl rfl (by omega) (fun c90 => ?_) (fun c90 => ?_)
      · refine x_iconst 80 hK rfl rfl ?_
        have cd : cBt (gi h 17 3) d = c d := by rw [e5]
        unfold cBt at cd
        rw [decide_eq_true (show d ≤ 4 by omega), Bool.true_and] at cd
        exact x_zret hK rfl (by omega) ⟨Or.inr ⟨by unfold mopr; rw [if_neg (by omega), if_pos (by first | exact Or.inl (by omega) | exact Or.inr ⟨by omega, by rw [← cd]; exact decide_eq_true (by omega)⟩)], rfl, rfl⟩, hG, FRM.rf, fun _ _ _ _ _ _ _ => rfl⟩
      · refine x_iload 60 hK rfl rfl rfl ?_
        refine x_iconst 61 hK rfl rfl ?_
        refine x_if_icmp_ne 81 64 hK rfl rfl rfl (by omega) (by omega) (fun c95 => ?_) (fun c95 => ?_)
        · refine x_aload_n 82 hK rfl rfl rfl ?_
          refine x_dup 83 hK rfl rfl rfl ?_
          have g336 := gi_r h 17 3
          refine x_getE 86 hK rfl (Or.inl rfl) rfl (sp_17 (h := h) hG) (e := (gi h 17 3)) (rfl) ?_
          refine x_iload 88 hK rfl rfl rfl ?_
          refine x_iconst 89 hK rfl rfl ?_
          refine x_if_icmp_ne 101 92 hK rfl rfl rfl (by omega) (by omega) (fun _ => ?_) (fun c => by omega)
          refine x_iconst 102 hK rfl rfl ?_
          have g337 := bOr_r (gi h 17 3) 0
          refine x_iorF 103 hK rfl rfl ?_
          refine x_putI 106 hK rfl rfl (sp_17 (h := h) hG) ?_
          refine x_aload_n 107 hK rfl rfl rfl ?_
          refine x_iload 109 hK rfl rfl rfl ?_
          refine x_aload_n 110 hK rfl rfl rfl ?_
          have hGp338 : GD gE gRL sh (wI h 17 3 (bOr (gi h 17 3) 0)) := GD_w0 (hG) (r := 11) rfl rfl
          have rz339 := rk40 (x := fx h p) (by omega)
          have nu339 : gi (wI h 17 3 (bOr (gi h 17 3) 0)) u 1 = (gi h u 1) := gi_a (by omega) _
          have nw339 : gi (wI h 17 3 (bOr (gi h 17 3) 0)) 17 1 = (gi h 17 1) := gi_k (by decide) _
          have lo339 : cdL (wI h 17 3 (bOr (gi h 17 3) 0)) u ((gi h u 1)).toNat = q := (cdL_e (h := h) fun j hj => gi_a (by first | decide | omega) _).trans e2
          have lw339 : wtL (wI h 17 3 (bOr (gi h 17 3) 0)) ((gi h 17 1)).toNat = s := (wtL_e (h := h) fun j hj => gi_a (by first | decide | omega) _).trans e3
          refine x_callV 113 hK hmono rfl rfl [.ref 17, .int (I (rkI ((fx h) p) : Int)), .ref u] [] rfl rfl (Nat.le_of_ble_eq_true rfl) (Nat.le_of_ble_eq_true rfl) rfl (sp_17 (h := h) hG) (CLd_le (Nat.le_of_ble_eq_true rfl) (ctX5_releaseF hSP hGp338 (show PT h from hP) hu (r := (rkI ((fx h) p))) (by omega) (by rw [nu339, nw339]; omega) (fun j hj => wt_at (n := ((gi h 17 1)).toNat) ew lw339 j (by rw [nw339] at hj; omega)))) ?_
          rw [nu339, nw339, lo339, lw339]
          rintro v339 h339 ⟨rfl, hG339, hF339, o339, w339, t339, oa339⟩
          have gu339 := gri 0 40 hG339 (a := u) (r := 8) (k := 1) (su_r hu).1 rfl
          have gw339 := gri 0 40 hG339 (a := 17) (r := 11) (k := 1) rfl rfl
          refine x_aload_n 114 hK rfl rfl rfl ?_
          refine x_iload_n 115 hK rfl rfl rfl ?_
          have g341 := gri (0) (40) hG339 (a := 17) (r := 11) (k := 1) rfl rfl
          have nn340 : gi h339 17 1 = (gi h339 17 1) := rfl
          have lw340 : wtL h339 ((gi h339 17 1)).toNat = (rstS (rkI ((fx h) p)) s) := (wtL_e (h := h339) fun j hj => rfl).trans w339
          refine x_callV 118 hK hmono rfl rfl [.ref 17, .int (I ((fx h) p))] [] rfl rfl (Nat.le_of_ble_eq_true rfl) (Nat.le_of_ble_eq_true rfl) rfl (sp_17 (h := h339) hG339) (CLd_le (Nat.le_of_ble_eq_true rfl) (ctX5_holdF hSP hG339 (by omega) (by omega))) ?_
          rw [nn340, lw340]
          rintro v340 h340 ⟨rfl, hG340, hF340, t340, s340⟩
          refine x_aload_n 119 hK rfl rfl rfl ?_
          refine x_iconst 120 hK rfl rfl ?_
          refine x_putZ 123 hK rfl rfl (sp_17 (h := h340) hG340) (by omega) ?_
          refine x_aload_n 124 hK rfl rfl rfl ?_
          refine x_dup 125 hK rfl rfl rfl ?_
          refine x_getE 128 hK rfl (Or.inl rfl) rfl (sp_1 (h := h340) hG340) (e := p) ((gi_a (by decide) _).trans ((FRM_gi hF340 (r := 1) rfl rfl).trans ((FRM_gi hF339 (r := 1) rfl rfl).trans ((gi_a (by decide) _).trans (e1))))) ?_
          refine x_iconst 129 hK rfl rfl ?_
          refine x_iadd 130 hK rfl rfl ?_
          refine x_putI 133 hK rfl rfl (sp_1 (h := h340) hG340) ?_
          refine x_iconst 134 hK rfl rfl ?_
          have cd : cBt (gi h 17 3) d = c d := by rw [e5]
          unfold cBt at cd
          rw [decide_eq_true (show d ≤ 4 by omega), Bool.true_and] at cd
          have r40 := rk40 (x := fx h p) (by omega)
          have c0 := bOr_0 hc
          have mt : mopr (fx h) p q s d c = some (p + 1, q ++ ngs (popS (rkI (fx h p)) s), fx h p :: rstS (rkI (fx h p)) s, d, c, true) := by unfold mopr; rw [if_neg (by omega), if_neg (by first | omega | exact fun z => z.elim (fun y => absurd y (by omega)) (fun y => by have y := y.2; rw [← cd] at y; exact absurd (of_decide_eq_true y) (by omega))), if_neg (by omega)]
          have z1 : gi (wI (wI h340 17 4 1) 1 2 (p + 1)) 1 2 = (p + 1) := gi_same (by omega)
          have z2 : gi (wI (wI h340 17 4 1) 1 2 (p + 1)) u 1 = (gi h339 u 1) := (gi_a (by omega) _).trans ((gi_a (by omega) _).trans (FRM_gi hF340 (r := 8) (su_r hu).1 rfl))
          have z3 : gi (wI (wI h340 17 4 1) 1 2 (p + 1)) 17 1 = ((gi h339 17 1) + 1) := (gi_a (by decide) _).trans ((gi_k (by decide) _).trans (t340))
          have z4 : gi (wI (wI h340 17 4 1) 1 2 (p + 1)) 17 2 = (d : Int) := (gi_a (by decide) _).trans ((gi_k (by decide) _).trans ((FRM_gi hF340 (r := 11) rfl rfl).trans ((FRM_gi hF339 (r := 11) rfl rfl).trans ((gi_k (by decide) _).trans (e4)))))
          have z5 : gi (wI (wI h340 17 4 1) 1 2 (p + 1)) 17 3 = (bOr (gi h 17 3) 0) := (gi_a (by decide) _).trans ((gi_k (by decide) _).trans ((FRM_gi hF340 (r := 11) rfl rfl).trans ((FRM_gi hF339 (r := 11) rfl rfl).trans (gi_same (by omega)))))
          have z6 : gi (wI (wI h340 17 4 1) 1 2 (p + 1)) 17 4 = (b2i true) := (gi_a (by decide) _).trans (gi_same (by omega))
          have y1 : cdL (wI (wI h340 17 4 1) 1 2 (p + 1)) u ((gi h339 u 1)).toNat = (q ++ ngs (popS (rkI ((fx h) p)) s)) := (cdL_e (h := h339) fun j hj => (gi_a (by first | decide | omega) _).trans ((gi_a (by first | decide | omega) _).trans (FRM_gi hF340 (r := 9) (su_r hu).2 rfl))).trans o339
          have y2 : wtL (wI (wI h340 17 4 1) 1 2 (p + 1)) (((gi h339 17 1) + 1)).toNat = (((fx h) p) :: (rstS (rkI ((fx h) p)) s)) := (wtL_e (h := h340) fun j hj => (gi_a (by first | decide | omega) _).trans (gi_a (by first | decide | omega) _)).trans s340
          have zr : 0 ≤ (bOr (gi h 17 3) 0) ∧ (bOr (gi h 17 3) 0) ≤ 31 := (by rw [c0]; exact hc)
          have zc : cBt (bOr (gi h 17 3) 0) = c := (by rw [c0]; exact e5)
          exact x_zret hK rfl (by omega) ⟨Or.inl ⟨(p + 1), (q ++ ngs (popS (rkI ((fx h) p)) s)), (((fx h) p) :: (rstS (rkI ((fx h) p)) s)), d, c, true, mt, rfl, ⟨z1, by rw [z2]; exact y1, by rw [z3]; exact y2, z4.trans (by omega), by rw [z5]; exact zc, z6, by rw [z5]; exact zr, by omega, List.forall_mem_cons.mpr ⟨Or.inr ⟨by omega, by omega, by omega⟩, rst_sub ew⟩, (by show (if fx h p = 40 then 1 else 0) + brS (rstS (rkI (fx h p)) s) = d; rw [if_neg r40.1, rst_br (by omega), eb, Nat.zero_add])⟩, by omega, by omega⟩, GD_w0 (GD_w1 (hG340) (r := 11) rfl (by omega) rfl (by omega) (by omega)) (r := 1) rfl rfl, FRM_w (FRM_w (((FRM_w ((FRM.rf : FRM gRL [(0, 1, 2, 2), (0, 1, 5, 5), (0, 8, 1, 1), (0, 9, 0, 39), (0, 11, 1, 4), (0, 12, 0, 39)] h h)) (r := 11) rfl rfl).trans ((hF339).mono rfl)).trans ((hF340).mono rfl)) (r := 11) rfl rfl) (r := 1) rfl rfl, (fun a k n1 n2 n3 n4 n5 => (gi_a (by omega) _).trans ((gi_a (by omega) _).trans ((frm_o hF340 [17, 18] (by decide +kernel) (by simp only [List.mem_cons, List.not_mem_nil, or_false]; omega) k).trans ((oa339 a k n2 n4 n5).trans (gi_a (by omega) _)))))⟩
        · refine x_aload_n 65 hK rfl rfl rfl ?_
          have g342 := gi_r h 17 3
          refine x_getE 68 hK rfl (Or.inl rfl) rfl (sp_17 (h := h) hG) (e := (gi h 17 3)) (rfl) ?_
          refine x_aload_n 69 hK rfl rfl rfl ?_
          refine x_getE 72 hK rfl (Or.inl rfl) rfl (sp_17 (h := h) hG) (e := (d : Int)) (e4) ?_
          have g343 := bShr_r (gi h 17 3) (d : Int)
          refine x_ishrF 73 hK rfl rfl ?_
          refine x_iconst 74 hK rfl rfl ?_
          have g344 := bAnd_r (bShr (gi h 17 3) (d : Int)) 1
          refine x_iandF 75 hK rfl rfl ?_
          refine x_iconst 76 hK rfl rfl ?_
          refine x_if_icmp_ne 81 79 hK rfl rfl rfl (by omega) (by omega) (fun c131 => ?_) (fun c131 => ?_)
          · refine x_aload_n 82 hK rfl rfl rfl ?_
            refine x_dup 83 hK rfl rfl rfl ?_
            refine x_getE 86 hK rfl (Or.inl rfl) rfl (sp_17 (h := h) hG) (e := (gi h 17 3)) (rfl) ?_
            refine x_iload 88 hK rfl rfl rfl ?_
            refine x_iconst 89 hK rfl rfl ?_
            refine x_if_icmp_ne 101 92 hK rfl rfl rfl (by omega) (by omega) (fun c => by omega) (fun _ => ?_)
            refine x_iconst 93 hK rfl rfl ?_
            refine x_aload_n 94 hK rfl rfl rfl ?_
            refine x_getE 97 hK rfl (Or.inl rfl) rfl (sp_17 (h := h) hG) (e := (d : Int)) (e4) ?_
            have g345 := bShl_r 1 (d : Int)
            refine x_ishlF 98 hK rfl rfl ?_
            refine x_goto 102 hK rfl rfl ?_
            have g346 := bOr_r (gi h 17 3) (bShl 1 (d : Int))
            refine x_iorF 103 hK rfl rfl ?_
            refine x_putI 106 hK rfl rfl (sp_17 (h := h) hG) ?_
            refine x_aload_n 107 hK rfl rfl rfl ?_
            refine x_iload 109 hK rfl rfl rfl ?_
            refine x_aload_n 110 hK rfl rfl rfl ?_
            have hGp347 : GD gE gRL sh (wI h 17 3 (bOr (gi h 17 3) (bShl 1 (d : Int)))) := GD_w0 (hG) (r := 11) rfl rfl
            have rz348 := rk40 (x := fx h p) (by omega)
            have nu348 : gi (wI h 17 3 (bOr (gi h 17 3) (bShl 1 (d : Int)))) u 1 = (gi h u 1) := gi_a (by omega) _
            have nw348 : gi (wI h 17 3 (bOr (gi h 17 3) (bShl 1 (d : Int)))) 17 1 = (gi h 17 1) := gi_k (by decide) _
            have lo348 : cdL (wI h 17 3 (bOr (gi h 17 3) (bShl 1 (d : Int)))) u ((gi h u 1)).toNat = q := (cdL_e (h := h) fun j hj => gi_a (by first | decide | omega) _).trans e2
            have lw348 : wtL (wI h 17 3 (bOr (gi h 17 3) (bShl 1 (d : Int)))) ((gi h 17 1)).toNat = s := (wtL_e (h := h) fun j hj => gi_a (by first | decide | omega) _).trans e3
            refine x_callV 113 hK hmono rfl rfl [.ref 17, .int (I (rkI ((fx h) p) : Int)), .ref u] [] rfl rfl (Nat.le_of_ble_eq_true rfl) (Nat.le_of_ble_eq_true rfl) rfl (sp_17 (h := h) hG) (CLd_le (Nat.le_of_ble_eq_true rfl) (ctX5_releaseF hSP hGp347 (show PT h from hP) hu (r := (rkI ((fx h) p))) (by omega) (by rw [nu348, nw348]; omega) (fun j hj => wt_at (n := ((gi h 17 1)).toNat) ew lw348 j (by rw [nw348] at hj; omega)))) ?_
            rw [nu348, nw348, lo348, lw348]
            rintro v348 h348 ⟨rfl, hG348, hF348, o348, w348, t348, oa348⟩
            have gu348 := gri 0 40 hG348 (a := u) (r := 8) (k := 1) (su_r hu).1 rfl
            have gw348 := gri 0 40 hG348 (a := 17) (r := 11) (k := 1) rfl rfl
            refine x_aload_n 114 hK rfl rfl rfl ?_
            refine x_iload_n 115 hK rfl rfl rfl ?_
            have g350 := gri (0) (40) hG348 (a := 17) (r := 11) (k := 1) rfl rfl
            have nn349 : gi h348 17 1 = (gi h348 17 1) := rfl
            have lw349 : wtL h348 ((gi h348 17 1)).toNat = (rstS (rkI ((fx h) p)) s) := (wtL_e (h := h348) fun j hj => rfl).trans w348
            refine x_callV 118 hK hmono rfl rfl [.ref 17, .int (I ((fx h) p))] [] rfl rfl (Nat.le_of_ble_eq_true rfl) (Nat.le_of_ble_eq_true rfl) rfl (sp_17 (h := h348) hG348) (CLd_le (Nat.le_of_ble_eq_true rfl) (ctX5_holdF hSP hG348 (by omega) (by omega))) ?_
            rw [nn349, lw349]
            rintro v349 h349 ⟨rfl, hG349, hF349, t349, s349⟩
            refine x_aload_n 119 hK rfl rfl rfl ?_
            refine x_iconst 120 hK rfl rfl ?_
            refine x_putZ 123 hK rfl rfl (sp_17 (h := h349) hG349) (by omega) ?_
            refine x_aload_n 124 hK rfl rfl rfl ?_
            refine x_dup 125 hK rfl rfl rfl ?_
            refine x_getE 128 hK rfl (Or.inl rfl) rfl (sp_1 (h := h349) hG349) (e := p) ((gi_a (by decide) _).trans ((FRM_gi hF349 (r := 1) rfl rfl).trans ((FRM_gi hF348 (r := 1) rfl rfl).trans ((gi_a (by decide) _).trans (e1))))) ?_
            refine x_iconst 129 hK rfl rfl ?_
            refine x_iadd 130 hK rfl rfl ?_
            refine x_putI 133 hK rfl rfl (sp_1 (h := h349) hG349) ?_
            refine x_iconst 134 hK rfl rfl ?_
            have cd : cBt (gi h 17 3) d = c d := by rw [e5]
            unfold cBt at cd
            rw [decide_eq_true (show d ≤ 4 by omega), Bool.true_and] at cd
            have r40 := rk40 (x := fx h p) (by omega)
            have cl := cBt_set hc (k := (d : Int)) (by omega)
            rw [show ((d : Int)).toNat = d by omega, e5] at cl
            have mt : mopr (fx h) p q s d c = some (p + 1, q ++ ngs (popS (rkI (fx h p)) s), fx h p :: rstS (rkI (fx h p)) s, d, upB c d true, true) := by unfold mopr; rw [if_neg (by omega), if_neg (by first | omega | exact fun z => z.elim (fun y => absurd y (by omega)) (fun y => by have y := y.2; rw [← cd] at y; exact absurd (of_decide_eq_true y) (by omega))), if_pos (by omega)]
            have z1 : gi (wI (wI h349 17 4 1) 1 2 (p + 1)) 1 2 = (p + 1) := gi_same (by omega)
            have z2 : gi (wI (wI h349 17 4 1) 1 2 (p + 1)) u 1 = (gi h348 u 1) := (gi_a (by omega) _).trans ((gi_a (by omega) _).trans (FRM_gi hF349 (r := 8) (su_r hu).1 rfl))
            have z3 : gi (wI (wI h349 17 4 1) 1 2 (p + 1)) 17 1 = ((gi h348 17 1) + 1) := (gi_a (by decide) _).trans ((gi_k (by decide) _).trans (t349))
            have z4 : gi (wI (wI h349 17 4 1) 1 2 (p + 1)) 17 2 = (d : Int) := (gi_a (by decide) _).trans ((gi_k (by decide) _).trans ((FRM_gi hF349 (r := 11) rfl rfl).trans ((FRM_gi hF348 (r := 11) rfl rfl).trans ((gi_k (by decide) _).trans (e4)))))
            have z5 : gi (wI (wI h349 17 4 1) 1 2 (p + 1)) 17 3 = (bOr (gi h 17 3) (bShl 1 (d : Int))) := (gi_a (by decide) _).trans ((gi_k (by decide) _).trans ((FRM_gi hF349 (r := 11) rfl rfl).trans ((FRM_gi hF348 (r := 11) rfl rfl).trans (gi_same (by omega)))))
            have z6 : gi (wI (wI h349 17 4 1) 1 2 (p + 1)) 17 4 = (b2i true) := (gi_a (by decide) _).trans (gi_same (by omega))
            have y1 : cdL (wI (wI h349 17 4 1) 1 2 (p + 1)) u ((gi h348 u 1)).toNat = (q ++ ngs (popS (rkI ((fx h) p)) s)) := (cdL_e (h := h348) fun j hj => (gi_a (by first | decide | omega) _).trans ((gi_a (by first | decide | omega) _).trans (FRM_gi hF349 (r := 9) (su_r hu).2 rfl))).trans o348
            have y2 : wtL (wI (wI h349 17 4 1) 1 2 (p + 1)) (((gi h348 17 1) + 1)).toNat = (((fx h) p) :: (rstS (rkI ((fx h) p)) s)) := (wtL_e (h := h349) fun j hj => (gi_a (by first | decide | omega) _).trans (gi_a (by first | decide | omega) _)).trans s349
            have zr : 0 ≤ (bOr (gi h 17 3) (bShl 1 (d : Int))) ∧ (bOr (gi h 17 3) (bShl 1 (d : Int))) ≤ 31 := cl.1
            have zc : cBt (bOr (gi h 17 3) (bShl 1 (d : Int))) = (upB c d true) := cl.2
            exact x_zret hK rfl (by omega) ⟨Or.inl ⟨(p + 1), (q ++ ngs (popS (rkI ((fx h) p)) s)), (((fx h) p) :: (rstS (rkI ((fx h) p)) s)), d, (upB c d true), true, mt, rfl, ⟨z1, by rw [z2]; exact y1, by rw [z3]; exact y2, z4.trans (by omega), by rw [z5]; exact zc, z6, by rw [z5]; exact zr, by omega, List.forall_mem_cons.mpr ⟨Or.inr ⟨by omega, by omega, by omega⟩, rst_sub ew⟩, (by show (if fx h p = 40 then 1 else 0) + brS (rstS (rkI (fx h p)) s) = d; rw [if_neg r40.1, rst_br (by omega), eb, Nat.zero_add])⟩, by omega, by omega⟩, GD_w0 (GD_w1 (hG349) (r := 11) rfl (by omega) rfl (by omega) (by omega)) (r := 1) rfl rfl, FRM_w (FRM_w (((FRM_w ((FRM.rf : FRM gRL [(0, 1, 2, 2), (0, 1, 5, 5), (0, 8, 1, 1), (0, 9, 0, 39), (0, 11, 1, 4), (0, 12, 0, 39)] h h)) (r := 11) rfl rfl).trans ((hF348).mono rfl)).trans ((hF349).mono rfl)) (r := 11) rfl rfl) (r := 1) rfl rfl, (fun a k n1 n2 n3 n4 n5 => (gi_a (by omega) _).trans ((gi_a (by omega) _).trans ((frm_o hF349 [17, 18] (by decide +kernel) (by simp only [List.mem_cons, List.not_mem_nil, or_false]; omega) k).trans ((oa348 a k n2 n4 n5).trans (gi_a (by omega) _)))))⟩
          · refine x_iconst 80 hK rfl rfl ?_
            have cd : cBt (gi h 17 3) d = c d := by rw [e5]
            unfold cBt at cd
            rw [decide_eq_true (show d ≤ 4 by omega), Bool.true_and] at cd
            exact x_zret hK rfl (by omega) ⟨Or.inr ⟨by unfold mopr; rw [if_neg (by omega), if_pos (by first | exact Or.inl (by omega) | exact Or.inr ⟨by omega, by rw [← cd]; exact decide_eq_true (by omega)⟩)], rfl, rfl⟩, hG, FRM.rf, fun _ _ _ _ _ _ _ => rfl⟩
    · refine x_aload_n 25 hK rfl rfl rfl ?_
      refine x_iconst 26 hK rfl rfl ?_
      refine x_aload_n 27 hK rfl rfl rfl ?_
      have nu351 : gi h u 1 = (gi h u 1) := rfl
      have nw351 : gi h 17 1 = (gi h 17 1) := rfl
      have lo351 : cdL h u ((gi h u 1)).toNat = q := (cdL_e (h := h) fun j hj => rfl).trans e2
      have lw351 : wtL h ((gi h 17 1)).toNat = s := (wtL_e (h := h) fun j hj => rfl).trans e3
      refine x_callV 30 hK hmono rfl rfl [.ref 17, .int (I 1), .ref u] [] rfl rfl (Nat.le_of_ble_eq_true rfl) (Nat.le_of_ble_eq_true rfl) rfl (sp_17 (h := h) hG) (CLd_le (Nat.le_of_ble_eq_true rfl) (ctX5_releaseF hSP hG (show PT h from hP) hu (r := 1) (by omega) (by rw [nu351, nw351]; omega) (fun j hj => wt_at (n := ((gi h 17 1)).toNat) ew lw351 j (by rw [nw351] at hj; omega)))) ?_
      rw [nu351, nw351, lo351, lw351]
      rintro v351 h351 ⟨rfl, hG351, hF351, o351, w351, t351, oa351⟩
      have gu351 := gri 0 40 hG351 (a := u) (r := 8) (k := 1) (su_r hu).1 rfl
      have gw351 := gri 0 40 hG351 (a := 17) (r := 11) (k := 1) rfl rfl
      obtain ⟨tl, tl0, tl2⟩ := rst_1 ew (by omega)
      obtain ⟨wl1, wl2⟩ := wt_tl (w351.trans tl0)
      have tl1 : (rstS 1 s).tail = tl := by rw [tl0]; rfl
      refine x_aload_n 31 hK rfl rfl rfl ?_
      refine x_dup 32 hK rfl rfl rfl ?_
      have g352 := gri (0) (40) hG351 (a := 17) (r := 11) (k := 1) rfl rfl
      refine x_getE 35 hK rfl (Or.inl rfl) rfl (sp_17 (h := h351) hG351) (e := (gi h351 17 1)) (rfl) ?_
      refine x_iconst 36 hK rfl rfl ?_
      refine x_isub 37 hK rfl rfl ?_
      refine x_putI 40 hK rfl rfl (sp_17 (h := h351) hG351) ?_
      refine x_aload_n 41 hK rfl rfl rfl ?_
      refine x_dup 42 hK rfl rfl rfl ?_
      refine x_getE 45 hK rfl (Or.inl rfl) rfl (sp_17 (h := h351) hG351) (e := (d : Int)) ((gi_k (by decide) _).trans ((FRM_gi hF351 (r := 11) rfl rfl).trans (e4))) ?_
      refine x_iconst 46 hK rfl rfl ?_
      refine x_isub 47 hK rfl rfl ?_
      refine x_putI 50 hK rfl rfl (sp_17 (h := h351) hG351) ?_
      refine x_goto 123 hK rfl rfl ?_
      refine x_aload_n 124 hK rfl rfl rfl ?_
      refine x_dup 125 hK rfl rfl rfl ?_
      refine x_getE 128 hK rfl (Or.inl rfl) rfl (sp_1 (h := h351) hG351) (e := p) ((gi_a (by decide) _).trans ((gi_a (by decide) _).trans ((FRM_gi hF351 (r := 1) rfl rfl).trans (e1)))) ?_
      refine x_iconst 129 hK rfl rfl ?_
      refine x_iadd 130 hK rfl rfl ?_
      refine x_putI 133 hK rfl rfl (sp_1 (h := h351) hG351) ?_
      refine x_iconst 134 hK rfl rfl ?_
      have z1 : gi (wI (wI (wI h351 17 1 ((gi h351 17 1) - 1)) 17 2 ((d : Int) - 1)) 1 2 (p + 1)) 1 2 = (p + 1) := gi_same (by omega)
      have z2 : gi (wI (wI (wI h351 17 1 ((gi h351 17 1) - 1)) 17 2 ((d : Int) - 1)) 1 2 (p + 1)) u 1 = (gi h351 u 1) := (gi_a (by omega) _).trans ((gi_a (by omega) _).trans (gi_a (by omega) _))
      have z3 : gi (wI (wI (wI h351 17 1 ((gi h351 17 1) - 1)) 17 2 ((d : Int) - 1)) 1 2 (p + 1)) 17 1 = ((gi h351 17 1) - 1) := (gi_a (by decide) _).trans ((gi_k (by decide) _).trans (gi_same (by omega)))
      have z4 : gi (wI (wI (wI h351 17 1 ((gi h351 17 1) - 1)) 17 2 ((d : Int) - 1)) 1 2 (p + 1)) 17 2 = ((d : Int) - 1) := (gi_a (by decide) _).trans (gi_same (by omega))
      have z5 : gi (wI (wI (wI h351 17 1 ((gi h351 17 1) - 1)) 17 2 ((d : Int) - 1)) 1 2 (p + 1)) 17 3 = (gi h 17 3) := (gi_a (by decide) _).trans ((gi_k (by decide) _).trans ((gi_k (by decide) _).trans (FRM_gi hF351 (r := 11) rfl rfl)))
      have z6 : gi (wI (wI (wI h351 17 1 ((gi h351 17 1) - 1)) 17 2 ((d : Int) - 1)) 1 2 (p + 1)) 17 4 = (b2i false) := ((gi_a (by decide) _).trans ((gi_k (by decide) _).trans ((gi_k (by decide) _).trans (FRM_gi hF351 (r := 11) rfl rfl)))).trans (e6)
      have y1 : cdL (wI (wI (wI h351 17 1 ((gi h351 17 1) - 1)) 17 2 ((d : Int) - 1)) 1 2 (p + 1)) u ((gi h351 u 1)).toNat = (q ++ ngs (popS 1 s)) := (cdL_e (h := h351) fun j hj => (gi_a (by first | decide | omega) _).trans ((gi_a (by first | decide | omega) _).trans (gi_a (by first | decide | omega) _))).trans o351
      have y2 : wtL (wI (wI (wI h351 17 1 ((gi h351 17 1) - 1)) 17 2 ((d : Int) - 1)) 1 2 (p + 1)) (((gi h351 17 1) - 1)).toNat = (rstS 1 s).tail := (wtL_e (h := h351) fun j hj => (gi_a (by first | decide | omega) _).trans ((gi_a (by first | decide | omega) _).trans (gi_a (by first | decide | omega) _))).trans ((show wtL h351 (gi h351 17 1 - 1).toNat = wtL h351 ((gi h351 17 1).toNat - 1) from by congr 1; omega).trans (wl2.trans tl1.symm))
      have zr : 0 ≤ (gi h 17 3) ∧ (gi h 17 3) ≤ 31 := hc
      have zc : cBt (gi h 17 3) = c := e5
      exact x_zret hK rfl (by omega) ⟨Or.inl ⟨(p + 1), (q ++ ngs (popS 1 s)), (rstS 1 s).tail, (d - 1), c, false, by unfold mopr; rw [if_pos (by omega)], rfl, ⟨z1, by rw [z2]; exact y1, by rw [z3]; exact y2, z4.trans (by omega), by rw [z5]; exact zc, z6, by rw [z5]; exact zr, by omega, (fun x hx => rst_sub ew x (List.mem_of_mem_tail hx)), (by rw [tl1]; show brS tl = d - 1; omega)⟩, by omega, by omega⟩, GD_w0 (GD_w1 (GD_w1 (hG351) (r := 11) rfl (by omega) rfl (by omega) (by omega)) (r := 11) rfl (by omega) rfl (by omega) (by omega)) (r := 1) rfl rfl, FRM_w (FRM_w (FRM_w ((hF351).mono rfl) (r := 11) rfl rfl) (r := 11) rfl rfl) (r := 1) rfl rfl, (fun a k n1 n2 n3 n4 n5 => (gi_a (by omega) _).trans ((gi_a (by omega) _).trans ((gi_a (by omega) _).trans (oa351 a k n2 n4 n5))))⟩
