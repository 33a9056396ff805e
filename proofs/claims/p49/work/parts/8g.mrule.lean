section
/-! THE RULE as the reference reads it -/
/-- a code as the reference has it -/
noncomputable def rcC (c : Int) : Int := if c = -256 then 3000 else if c = -60 then 2000 else if c = -62 then 2001 else if c = -61 then 2002 else if c = -43 then 2003 else if c = -45 then 2004 else if c = -42 then 2005 else if c = -47 then 2006 else if c = -108 then 1000 else if c = -112 then 1001 else if c = -120 then 1002 else if c = -110 then 1003 else c
noncomputable def rcL (h : aH) (n : Nat) : List Int := (List.range n).map (gi h 183)
theorem rcL_s {h h' : aH} {n : Nat} {v : Int} (h1 : gi h' 183 n = v) (h2 : ∀ j, j ≠ n → gi h' 183 j = gi h 183 j) : rcL h' (n + 1) = rcL h n ++ [v] := by
  unfold rcL
  rw [List.range_succ, List.map_append, List.map_cons, List.map_nil, h1]
  congr 1
  exact List.map_congr_left fun j hj => h2 j (by have := List.mem_range.mp hj; omega)
theorem rcL_e {h h' : aH} {n : Nat} (h2 : ∀ j, j < n → gi h' 183 j = gi h 183 j) : rcL h' n = rcL h n := by
  unfold rcL
  exact List.map_congr_left fun j hj => h2 j (List.mem_range.mp hj)
theorem rcL_l (h : aH) (n : Nat) : (rcL h n).length = n := by unfold rcL; rw [List.length_map, List.length_range]
noncomputable def RSG (sh : List (Nat × Nat)) (h : aH) (m : Nat) (rv : Option Value) (h' : aH) : Prop := ∃ (ok : Bool) (q : Int) (L : List Int), PR (fm h) m (gi h 171 20).toNat (gi h 171 18) ok q L ∧ rv = some (.int (I (b2i ok))) ∧ GD gE gRL sh h' ∧ FRM gRL [(0, 54, 18, 18), (0, 54, 20, 20), (0, 54, 26, 26), (0, 66, 0, 79)] h h' ∧ gi h' 171 18 = q ∧ (gi h 171 18 ≤ q ∧ q ≤ gi h 171 19) ∧ (gi h 171 26 ≤ gi h' 171 26 ∧ gi h' 171 26 - gi h 171 26 ≤ q - gi h 171 18) ∧ (ok = true → gi h 171 18 < q ∧ gi h' 171 20 = gi h 171 20 ∧ rcL h' (gi h' 171 26).toNat = rcL h (gi h 171 26).toNat ++ L.map rcC)
theorem ask_l (s : Int) : fidx s (byJ.getD 1 []) 0 = if s = 108 then 0 else if s = 112 then 1 else if s = 120 then 2 else if s = 110 then 3 else -1 := by
  by_cases c : s = 108 ∨ s = 112 ∨ s = 120 ∨ s = 110
  · rcases c with rfl | rfl | rfl | rfl <;> decide
  · rw [if_neg (by omega), if_neg (by omega), if_neg (by omega), if_neg (by omega)]
    refine fidx_e _ _ fun d hd => ?_
    have : ∀ d ∈ byJ.getD 1 [], d.toInt = 108 ∨ d.toInt = 112 ∨ d.toInt = 120 ∨ d.toInt = 110 := by decide
    have := this d hd
    omega
theorem op_l0 (s : Int) : fidx s (byJ.getD 2 []) 0 = if s = 60 then 0 else if s = 62 then 1 else if s = 61 then 2 else -1 := by
  by_cases c : s = 60 ∨ s = 62 ∨ s = 61
  · rcases c with rfl | rfl | rfl <;> decide
  · rw [if_neg (by omega), if_neg (by omega), if_neg (by omega)]
    refine fidx_e _ _ fun d hd => ?_
    have : ∀ d ∈ byJ.getD 2 [], d.toInt = 60 ∨ d.toInt = 62 ∨ d.toInt = 61 := by decide
    have := this d hd
    omega
theorem op_l1 (s : Int) : fidx s (byJ.getD 3 []) 0 = if s = 43 then 0 else if s = 45 then 1 else -1 := by
  by_cases c : s = 43 ∨ s = 45
  · rcases c with rfl | rfl <;> decide
  · rw [if_neg (by omega), if_neg (by omega)]
    refine fidx_e _ _ fun d hd => ?_
    have : ∀ d ∈ byJ.getD 3 [], d.toInt = 43 ∨ d.toInt = 45 := by decide
    have := this d hd
    omega
theorem op_l2 (s : Int) : fidx s (byJ.getD 4 []) 0 = if s = 42 then 0 else if s = 47 then 1 else -1 := by
  by_cases c : s = 42 ∨ s = 47
  · rcases c with rfl | rfl <;> decide
  · rw [if_neg (by omega), if_neg (by omega)]
    refine fidx_e _ _ fun d hd => ?_
    have : ∀ d ∈ byJ.getD 4 [], d.toInt = 42 ∨ d.toInt = 47 := by decide
    have := this d hd
    omega
set_option maxRecDepth 4000 in
theorem ctX11_readsThingG (hSP : MONO SPt) {sh : List (Nat × Nat)} {m : Nat} (ihT : ∀ m', m' < m → ∀ {h : aH}, GD gE gRL sh h → (gi h 171 26 ≤ gi h 171 18 ∧ gi h 171 18 ≤ gi h 171 19) → (gi h 171 19 - gi h 171 18).toNat ≤ m' → CLd SPt (5 * m' + 5) mX11_readsThing [.ref 171] h 0 0 (RSG sh h 3)) (ihR : ∀ m', m' < m → ∀ {h : aH}, GD gE gRL sh h → (gi h 171 26 ≤ gi h 171 18 ∧ gi h 171 18 ≤ gi h 171 19) → (gi h 171 19 - gi h 171 18).toNat ≤ m' → CLd SPt (5 * m' + 9) mX11_readsRank [.ref 171, .int (I 0)] h 0 0 (RSG sh h 0)) {h : aH} (hG : GD gE gRL sh h) (hA : gi h 171 26 ≤ gi h 171 18 ∧ gi h 171 18 ≤ gi h 171 19) (hm : (gi h 171 19 - gi h 171 18).toNat ≤ m) : CLd SPt (5 * m + 4 + 1) mX11_readsThing [.ref 171] h 0 0 (RSG sh h 3) := by
  refine x_met _ rfl (Nat.le_of_ble_eq_true rfl) (fun K hK => ?_)
  have hmono := MONO_CLd hSP (5 * m + 4)
  have g20 := gri 0 4 hG (a := 171) (r := 54) (k := 20) rfl rfl
  have g19 := (at_r hG).2.2
  have g18 := (at_r hG).1
  have g26 := gri 0 80 hG (a := 171) (r := 54) (k := 26) rfl rfl
  have fe0 : ∀ a, gi h 171 19 ≤ a → fm h a = -1 := fun a ha => if_neg (by omega)
  refine x_aload_n 1 hK rfl rfl rfl ?_
  refine x_bipush 3 hK rfl rfl rfl ?_
  have g293 := gri (0) (81) hG (a := 171) (r := 54) (k := 18) rfl rfl
  have at292 : gi h 171 18 = (gi h 171 18) := rfl
  have fe292 : fm h = (fm h) := rfl
  have to292 : gi h 171 19 = (gi h 171 19) := rfl
  refine x_callV 6 hK hmono rfl rfl [.ref 171, .int (I 45)] [] rfl rfl (Nat.le_of_ble_eq_true rfl) (Nat.le_of_ble_eq_true rfl) rfl (sp_171 (h := h) hG) (CLd_le (Nat.le_of_ble_eq_true rfl) (ctX11_takes hSP hG (s := 45) (by omega))) ?_
  rw [fe292, at292, to292]
  rintro v292 h292 ⟨hG292, hF292, ⟨rfl, tk292, tt292, eq292⟩ | ⟨rfl, tk292, eq292⟩⟩
  · refine x_if_eq 23 9 hK rfl rfl rfl (by omega) (fun c => by omega) (fun _ => ?_)
    refine x_aload_n 10 hK rfl rfl rfl ?_
    have g295 := gri (0) (80) hG (a := 171) (r := 54) (k := 26) rfl rfl
    have g296 := gri (0) (4) hG (a := 171) (r := 54) (k := 20) rfl rfl
    have at294 : gi h292 171 18 = ((gi h 171 18) + 1) := eq292
    have nn294 : gi h292 171 26 = (gi h 171 26) := FRM_gi hF292 (r := 54) rfl rfl
    have dd294 : gi h292 171 20 = (gi h 171 20) := FRM_gi hF292 (r := 54) rfl rfl
    have fe294 : fm h292 = (fm h) := fm_F hF292 rfl rfl
    have to294 : gi h292 171 19 = (gi h 171 19) := FRM_gi hF292 (r := 54) rfl rfl
    have rr294 : rcL h292 ((gi h 171 26)).toNat = rcL h ((gi h 171 26)).toNat := rcL_e fun j hj => FRM_gi hF292 (r := 66) rfl (by rfl)
    refine x_callV 13 hK hmono rfl rfl [.ref 171] [] rfl rfl (Nat.le_of_ble_eq_true rfl) (Nat.le_of_ble_eq_true rfl) rfl (sp_171 (h := h292) hG292) (CLd_le (by omega) (ihT (m - 1) (by omega) hG292 (by omega) (by omega))) ?_
    rintro v294 h294 ⟨ok294, q294, L294, pr294, rfl, hG294, hF294, eq294, bd294, bc294, sc294⟩
    rw [fe294, dd294, at294] at pr294
    rw [at294, to294] at bd294
    rw [nn294, at294] at bc294
    rw [at294, nn294, dd294, rr294] at sc294
    cases ok294
    · rw [show b2i false = 0 from rfl]
      refine x_istore_n 14 hK rfl rfl [(1, .int (I 0)), (0, .ref 171)] rfl ?_
      refine x_aload_n 15 hK rfl rfl rfl ?_
      refine x_sipush 18 hK rfl rfl rfl ?_
      have g298 := gri (0) (80) hG294 (a := 171) (r := 54) (k := 26) rfl rfl
      have nn297 : gi h294 171 26 = (gi h294 171 26) := rfl
      refine x_callV 21 hK hmono rfl rfl [.ref 171, .int (I 3000)] [] rfl rfl (Nat.le_of_ble_eq_true rfl) (Nat.le_of_ble_eq_true rfl) rfl (sp_171 (h := h294) hG294) (CLd_le (by omega) (ctX11_codes hSP hG294 (by omega) (by omega))) ?_
      rintro v297 h297 ⟨rfl, hG297, hF297, e26297, ev297, eo297⟩
      rw [nn297] at e26297 ev297 eo297
      refine x_iload_n 22 hK rfl rfl rfl ?_
      have zn : gi h297 171 26 = ((gi h294 171 26) + 1) := e26297
      exact x_zret hK rfl (by omega) ⟨false, q294, (L294 ++ [-256]), (PR_neg (by omega) pr294), rfl, hG297, (((hF292).mono rfl).trans ((hF294).mono rfl)).trans ((hF297).mono rfl), (FRM_gi hF297 (r := 54) rfl rfl).trans (eq294), ⟨by omega, by omega⟩, ⟨by rw [zn]; omega, by rw [zn]; omega⟩, nofun⟩
    · rw [show b2i true = 1 from rfl]
      obtain ⟨lt294, ed294, cl294⟩ := sc294 rfl
      refine x_istore_n 14 hK rfl rfl [(1, .int (I 1)), (0, .ref 171)] rfl ?_
      refine x_aload_n 15 hK rfl rfl rfl ?_
      refine x_sipush 18 hK rfl rfl rfl ?_
      have g300 := gri (0) (80) hG294 (a := 171) (r := 54) (k := 26) rfl rfl
      have nn299 : gi h294 171 26 = (gi h294 171 26) := rfl
      refine x_callV 21 hK hmono rfl rfl [.ref 171, .int (I 3000)] [] rfl rfl (Nat.le_of_ble_eq_true rfl) (Nat.le_of_ble_eq_true rfl) rfl (sp_171 (h := h294) hG294) (CLd_le (by omega) (ctX11_codes hSP hG294 (by omega) (by omega))) ?_
      rintro v299 h299 ⟨rfl, hG299, hF299, e26299, ev299, eo299⟩
      rw [nn299] at e26299 ev299 eo299
      have cl299 : rcL h299 ((gi h294 171 26) + 1).toNat = rcL h294 ((gi h294 171 26)).toNat ++ [3000] := by rw [tn_s (by omega), ← show rcL h294 ((gi h294 171 26)).toNat = _ from rfl]; exact rcL_s ev299 eo299
      refine x_iload_n 22 hK rfl rfl rfl ?_
      have zn : gi h299 171 26 = ((gi h294 171 26) + 1) := e26299
      have zd : gi h299 171 20 = (gi h 171 20) := (FRM_gi hF299 (r := 54) rfl rfl).trans (ed294)
      have zr : rcL h299 (((gi h294 171 26) + 1)).toNat = rcL h299 (((gi h294 171 26) + 1)).toNat := rfl
      have zl : rcL h299 (((gi h294 171 26) + 1)).toNat = rcL h (gi h 171 26).toNat ++ ((L294 ++ [-256])).map rcC := by
        rw [zr, cl299, cl294]
        rw [List.map_append, List.append_assoc]; rfl
      exact x_zret hK rfl (by omega) ⟨true, q294, (L294 ++ [-256]), (PR_neg (by omega) pr294), rfl, hG299, (((hF292).mono rfl).trans ((hF294).mono rfl)).trans ((hF299).mono rfl), (FRM_gi hF299 (r := 54) rfl rfl).trans (eq294), ⟨by omega, by omega⟩, ⟨by rw [zn]; omega, by rw [zn]; omega⟩, fun _ => ⟨by omega, by omega, by rw [zn]; exact zl⟩⟩
  · refine x_if_eq 23 9 hK rfl rfl rfl (by omega) (fun _ => ?_) (fun c => by omega)
    refine x_aload_n 24 hK rfl rfl rfl ?_
    have at301 : gi h292 171 18 = (gi h 171 18) := eq292
    have fe301 : fm h292 = (fm h) := fm_F hF292 rfl rfl
    have to301 : gi h292 171 19 = (gi h 171 19) := FRM_gi hF292 (r := 54) rfl rfl
    refine x_callV 27 hK hmono rfl rfl [.ref 171] [] rfl rfl (Nat.le_of_ble_eq_true rfl) (Nat.le_of_ble_eq_true rfl) rfl (sp_171 (h := h292) hG292) (CLd_le (by omega) (ctX11_isDigit hSP hG292)) ?_
    rw [fe301, at301, to301]
    rintro v9 h9 ⟨e9, ⟨rfl, i1, i2, i3⟩ | ⟨rfl, i1⟩⟩ <;> rw [e9] <;> clear e9
    · refine x_if_eq 41 30 hK rfl rfl rfl (by omega) (fun c => by omega) (fun _ => ?_)
      refine x_aload_n 31 hK rfl rfl rfl ?_
      refine x_aload_n 32 hK rfl rfl rfl ?_
      refine x_iconst 33 hK rfl rfl ?_
      have at302 : gi h292 171 18 = (gi h 171 18) := eq292
      have fe302 : fm h292 = (fm h) := fm_F hF292 rfl rfl
      have to302 : gi h292 171 19 = (gi h 171 19) := FRM_gi hF292 (r := 54) rfl rfl
      refine x_callV 36 hK hmono rfl rfl [.ref 171, .int (I 3)] [.ref 171] rfl rfl (Nat.le_of_ble_eq_true rfl) (Nat.le_of_ble_eq_true rfl) rfl (sp_171 (h := h292) hG292) (CLd_le (Nat.le_of_ble_eq_true rfl) (ctX11_number hSP hG292 (n := 3) (by omega))) ?_
      rw [fe302, at302, to302]
      rintro v302 h302 ⟨⟨e302, rfl, nu302, ne302, nf302, ng302⟩, hG302, hF302, np302, nq302, nr302⟩
      have nm302 : nmF (fm h) 3 (gi h 171 18) = (e302, gi h302 171 18) := by rw [nu302, np302]; rfl
      clear nu302 np302
      generalize eq302 : gi h302 171 18 = p302 at *
      have m5 : (gi h 171 18) + 1 ≤ p302 := by
        have z : (nmF (fm h) 3 (gi h 171 18)).2 = p302 := by rw [nm302]
        rw [← z]
        show _ ≤ (tkv (fm h) 3 (gi h 171 18) 0).2
        rw [tkv_step ⟨i1, i2⟩]
        exact tkv_le _ _ _ _
      have g304 := gri (0) (80) hG (a := 171) (r := 54) (k := 26) rfl rfl
      have nn303 : gi h302 171 26 = (gi h 171 26) := (FRM_gi hF302 (r := 54) rfl rfl).trans (FRM_gi hF292 (r := 54) rfl rfl)
      refine x_callV 39 hK hmono rfl rfl [.ref 171, .int (I e302)] [] rfl rfl (Nat.le_of_ble_eq_true rfl) (Nat.le_of_ble_eq_true rfl) rfl (sp_171 (h := h302) hG302) (CLd_le (by omega) (ctX11_codes hSP hG302 (by omega) (by omega))) ?_
      rintro v303 h303 ⟨rfl, hG303, hF303, e26303, ev303, eo303⟩
      rw [nn303] at e26303 ev303 eo303
      have cl303 : rcL h303 ((gi h 171 26) + 1).toNat = rcL h ((gi h 171 26)).toNat ++ [e302] := by rw [tn_s (by omega), ← show rcL h302 ((gi h 171 26)).toNat = _ from rcL_e fun j hj => (FRM_gi hF302 (r := 66) rfl (by rfl)).trans (FRM_gi hF292 (r := 66) rfl (by rfl))]; exact rcL_s ev303 eo303
      refine x_iconst 40 hK rfl rfl ?_
      have zn : gi h303 171 26 = ((gi h 171 26) + 1) := e26303
      have zd : gi h303 171 20 = (gi h 171 20) := (FRM_gi hF303 (r := 54) rfl rfl).trans ((FRM_gi hF302 (r := 54) rfl rfl).trans (FRM_gi hF292 (r := 54) rfl rfl))
      have zr : rcL h303 (((gi h 171 26) + 1)).toNat = rcL h303 (((gi h 171 26) + 1)).toNat := rfl
      have zl : rcL h303 (((gi h 171 26) + 1)).toNat = rcL h (gi h 171 26).toNat ++ ([e302]).map rcC := by
        rw [zr, cl303]
        rw [show [e302].map rcC = [e302] from by show [rcC e302] = _; unfold rcC; rw [if_neg (by omega), if_neg (by omega), if_neg (by omega), if_neg (by omega), if_neg (by omega), if_neg (by omega), if_neg (by omega), if_neg (by omega), if_neg (by omega), if_neg (by omega), if_neg (by omega), if_neg (by omega)]]
      exact x_zret hK rfl (by omega) ⟨true, p302, [e302], (by have z : PR (fm h) 3 (gi h 171 20).toNat (gi h 171 18) true (nmF (fm h) 3 (gi h 171 18)).2 [(nmF (fm h) 3 (gi h 171 18)).1] := PR_num ⟨i1, i2⟩; rw [nm302] at z; exact z), rfl, hG303, (((hF292).mono rfl).trans ((hF302).mono rfl)).trans ((hF303).mono rfl), (FRM_gi hF303 (r := 54) rfl rfl).trans (eq302), ⟨by omega, by omega⟩, ⟨by rw [zn]; omega, by rw [zn]; omega⟩, fun _ => ⟨by omega, by omega, by rw [zn]; exact zl⟩⟩
    · refine x_if_eq 41 30 hK rfl rfl rfl (by omega) (fun _ => ?_) (fun c => by omega)
      refine x_aload_n 42 hK rfl rfl rfl ?_
      refine x_ldcS 44 hK rfl rfl ?_
      have at305 : gi h292 171 18 = (gi h 171 18) := eq292
      have fe305 : fm h292 = (fm h) := fm_F hF292 rfl rfl
      have to305 : gi h292 171 19 = (gi h 171 19) := FRM_gi hF292 (r := 54) rfl rfl
      refine x_callV 47 hK hmono rfl rfl [.ref 171, .ref 1000001] [] rfl rfl (Nat.le_of_ble_eq_true rfl) (Nat.le_of_ble_eq_true rfl) rfl (sp_171 (h := h292) hG292) (CLd_le (Nat.le_of_ble_eq_true rfl) (ctX11_takesOf hSP hG292 (b := 1) (by omega))) ?_
      rw [fe305, at305, to305]
      rintro v305 h305 ⟨⟨e305, rfl, eo305, ep305, eq_305, er305, es305⟩, hG305, hF305⟩
      by_cases ce305 : e305 < 0
      · have es305 : gi h305 171 18 = (gi h 171 18) := er305.trans (by rw [if_pos ce305]; omega)
        refine x_istore_n 48 hK rfl rfl [(1, .int (I e305)), (0, .ref 171)] rfl ?_
        refine x_iload_n 49 hK rfl rfl rfl ?_
        refine x_if_lt 63 52 hK rfl rfl rfl (by omega) (fun _ => ?_) (fun c => by omega)
        refine x_aload_n 64 hK rfl rfl rfl ?_
        have g306 := gri (0) (4) hG (a := 171) (r := 54) (k := 20) rfl rfl
        refine x_getE 67 hK rfl (Or.inl rfl) rfl (sp_171 (h := h305) hG305) (e := (gi h 171 20)) ((FRM_gi hF305 (r := 54) rfl rfl).trans (FRM_gi hF292 (r := 54) rfl rfl)) ?_
        refine x_iconst 68 hK rfl rfl ?_
        refine x_if_icmp_eq 80 71 hK rfl rfl rfl (by omega) (by omega) (fun c40 => ?_) (fun c40 => ?_)
        · refine x_iconst 81 hK rfl rfl ?_
          have al := ask_l (fm h (gi h 171 18))
          rw [← eo305] at al
          have as : ¬ askI (fm h (gi h 171 18)) := by unfold askI; (repeat' split at al) <;> omega
          have zn : gi h305 171 26 = (gi h 171 26) := (FRM_gi hF305 (r := 54) rfl rfl).trans (FRM_gi hF292 (r := 54) rfl rfl)
          exact x_zret hK rfl (by omega) ⟨false, (gi h 171 18), [], (PR_no (d := (gi h 171 20).toNat) (p := gi h 171 18) (by omega) (by omega) as (by omega)), rfl, hG305, ((hF292).mono rfl).trans ((hF305).mono rfl), es305, ⟨by omega, by omega⟩, ⟨by rw [zn]; omega, by rw [zn]; omega⟩, nofun⟩
        · refine x_aload_n 72 hK rfl rfl rfl ?_
          refine x_bipush 74 hK rfl rfl rfl ?_
          have at307 : gi h305 171 18 = (gi h 171 18) := es305
          have fe307 : fm h305 = (fm h) := (fm_F hF305 rfl rfl).trans (fm_F hF292 rfl rfl)
          have to307 : gi h305 171 19 = (gi h 171 19) := (FRM_gi hF305 (r := 54) rfl rfl).trans (FRM_gi hF292 (r := 54) rfl rfl)
          refine x_callV 77 hK hmono rfl rfl [.ref 171, .int (I 40)] [] rfl rfl (Nat.le_of_ble_eq_true rfl) (Nat.le_of_ble_eq_true rfl) rfl (sp_171 (h := h305) hG305) (CLd_le (Nat.le_of_ble_eq_true rfl) (ctX11_takes hSP hG305 (s := 40) (by omega))) ?_
          rw [fe307, at307, to307]
          rintro v307 h307 ⟨hG307, hF307, ⟨rfl, tk307, tt307, eq307⟩ | ⟨rfl, tk307, eq307⟩⟩
          · refine x_if_ne 82 80 hK rfl rfl rfl (by omega) (fun _ => ?_) (fun c => by omega)
            refine x_aload_n 83 hK rfl rfl rfl ?_
            refine x_dup 84 hK rfl rfl rfl ?_
            refine x_getE 87 hK rfl (Or.inl rfl) rfl (sp_171 (h := h307) hG307) (e := (gi h 171 20)) ((FRM_gi hF307 (r := 54) rfl rfl).trans ((FRM_gi hF305 (r := 54) rfl rfl).trans (FRM_gi hF292 (r := 54) rfl rfl))) ?_
            refine x_iconst 88 hK rfl rfl ?_
            refine x_iadd 89 hK rfl rfl ?_
            refine x_putI 92 hK rfl rfl (sp_171 (h := h307) hG307) ?_
            refine x_aload_n 93 hK rfl rfl rfl ?_
            refine x_iconst 94 hK rfl rfl ?_
            have g309 := gri (0) (80) hG (a := 171) (r := 54) (k := 26) rfl rfl
            have hGp310 : GD gE gRL sh (wI h307 171 20 ((gi h 171 20) + 1)) := GD_w1 (hG307) (r := 54) rfl (by omega) rfl (by omega) (by omega)
            have at308 : gi (wI h307 171 20 ((gi h 171 20) + 1)) 171 18 = ((gi h 171 18) + 1) := (gi_k (by decide) _).trans (eq307)
            have nn308 : gi (wI h307 171 20 ((gi h 171 20) + 1)) 171 26 = (gi h 171 26) := (gi_k (by decide) _).trans ((FRM_gi hF307 (r := 54) rfl rfl).trans ((FRM_gi hF305 (r := 54) rfl rfl).trans (FRM_gi hF292 (r := 54) rfl rfl)))
            have dd308 : gi (wI h307 171 20 ((gi h 171 20) + 1)) 171 20 = ((gi h 171 20) + 1) := gi_same (by omega)
            have fe308 : fm (wI h307 171 20 ((gi h 171 20) + 1)) = (fm h) := (fm_wI (by decide) (Or.inr (by decide))).trans ((fm_F hF307 rfl rfl).trans ((fm_F hF305 rfl rfl).trans (fm_F hF292 rfl rfl)))
            have to308 : gi (wI h307 171 20 ((gi h 171 20) + 1)) 171 19 = (gi h 171 19) := (gi_k (by decide) _).trans ((FRM_gi hF307 (r := 54) rfl rfl).trans ((FRM_gi hF305 (r := 54) rfl rfl).trans (FRM_gi hF292 (r := 54) rfl rfl)))
            have rr308 : rcL (wI h307 171 20 ((gi h 171 20) + 1)) ((gi h 171 26)).toNat = rcL h ((gi h 171 26)).toNat := rcL_e fun j hj => (gi_a (by decide) _).trans ((FRM_gi hF307 (r := 66) rfl (by rfl)).trans ((FRM_gi hF305 (r := 66) rfl (by rfl)).trans (FRM_gi hF292 (r := 66) rfl (by rfl))))
            refine x_callV 97 hK hmono rfl rfl [.ref 171, .int (I 0)] [] rfl rfl (Nat.le_of_ble_eq_true rfl) (Nat.le_of_ble_eq_true rfl) rfl (sp_171 (h := h307) hG307) (CLd_le (by omega) (ihR (m - 1) (by omega) hGp310 (by omega) (by omega))) ?_
            rintro v308 h308 ⟨ok308, q308, L308, pr308, rfl, hG308, hF308, eq308, bd308, bc308, sc308⟩
            rw [fe308, dd308, at308] at pr308
            rw [at308, to308] at bd308
            rw [nn308, at308] at bc308
            rw [at308, nn308, dd308, rr308] at sc308
            cases ok308
            · rw [show b2i false = 0 from rfl]
              refine x_if_eq 109 100 hK rfl rfl rfl (by omega) (fun _ => ?_) (fun c => by omega)
              refine x_iconst 110 hK rfl rfl ?_
              rw [show (gi h 171 20 + 1).toNat = (gi h 171 20).toNat + 1 by omega] at pr308
              have zn : gi h308 171 26 = (gi h308 171 26) := rfl
              exact x_zret hK rfl (by omega) ⟨false, q308, L308, (PR_brF (d := (gi h 171 20).toNat) (p := gi h 171 18) (by omega) (show (gi h 171 20).toNat < 4 by omega) pr308), rfl, hG308, (FRM_w ((((hF292).mono rfl).trans ((hF305).mono rfl)).trans ((hF307).mono rfl)) (r := 54) rfl rfl).trans ((hF308).mono rfl), eq308, ⟨by omega, by omega⟩, ⟨by rw [zn]; omega, by rw [zn]; omega⟩, nofun⟩
            · rw [show b2i true = 1 from rfl]
              obtain ⟨lt308, ed308, cl308⟩ := sc308 rfl
              refine x_if_eq 109 100 hK rfl rfl rfl (by omega) (fun c => by omega) (fun _ => ?_)
              refine x_aload_n 101 hK rfl rfl rfl ?_
              refine x_bipush 103 hK rfl rfl rfl ?_
              have at311 : gi h308 171 18 = q308 := eq308
              have fe311 : fm h308 = (fm h) := (fm_F hF308 rfl rfl).trans ((fm_wI (by decide) (Or.inr (by decide))).trans ((fm_F hF307 rfl rfl).trans ((fm_F hF305 rfl rfl).trans (fm_F hF292 rfl rfl))))
              have to311 : gi h308 171 19 = (gi h 171 19) := (FRM_gi hF308 (r := 54) rfl rfl).trans ((gi_k (by decide) _).trans ((FRM_gi hF307 (r := 54) rfl rfl).trans ((FRM_gi hF305 (r := 54) rfl rfl).trans (FRM_gi hF292 (r := 54) rfl rfl))))
              refine x_callV 106 hK hmono rfl rfl [.ref 171, .int (I 41)] [] rfl rfl (Nat.le_of_ble_eq_true rfl) (Nat.le_of_ble_eq_true rfl) rfl (sp_171 (h := h308) hG308) (CLd_le (Nat.le_of_ble_eq_true rfl) (ctX11_takes hSP hG308 (s := 41) (by omega))) ?_
              rw [fe311, at311, to311]
              rintro v311 h311 ⟨hG311, hF311, ⟨rfl, tk311, tt311, eq311⟩ | ⟨rfl, tk311, eq311⟩⟩
              · refine x_if_ne 111 109 hK rfl rfl rfl (by omega) (fun _ => ?_) (fun c => by omega)
                refine x_aload_n 112 hK rfl rfl rfl ?_
                refine x_dup 113 hK rfl rfl rfl ?_
                refine x_getE 116 hK rfl (Or.inl rfl) rfl (sp_171 (h := h311) hG311) (e := ((gi h 171 20) + 1)) ((FRM_gi hF311 (r := 54) rfl rfl).trans (ed308)) ?_
                refine x_iconst 117 hK rfl rfl ?_
                refine x_isub 118 hK rfl rfl ?_
                refine x_putI 121 hK rfl rfl (sp_171 (h := h311) hG311) ?_
                refine x_iconst 122 hK rfl rfl ?_
                rw [show (gi h 171 20 + 1).toNat = (gi h 171 20).toNat + 1 by omega] at pr308
                have zn : gi (wI h311 171 20 (((gi h 171 20) + 1) - 1)) 171 26 = (gi h308 171 26) := (gi_k (by decide) _).trans (FRM_gi hF311 (r := 54) rfl rfl)
                have zd : gi (wI h311 171 20 (((gi h 171 20) + 1) - 1)) 171 20 = (((gi h 171 20) + 1) - 1) := gi_same (by omega)
                have zr : rcL (wI h311 171 20 (((gi h 171 20) + 1) - 1)) ((gi h308 171 26)).toNat = rcL h308 ((gi h308 171 26)).toNat := rcL_e fun j hj => (gi_a (by decide) _).trans (FRM_gi hF311 (r := 66) rfl (by rfl))
                have zl : rcL (wI h311 171 20 (((gi h 171 20) + 1) - 1)) ((gi h308 171 26)).toNat = rcL h (gi h 171 26).toNat ++ (L308).map rcC := by
                  rw [zr, cl308]
                  
                exact x_zret hK rfl (by omega) ⟨true, (q308 + 1), L308, (PR_brT (d := (gi h 171 20).toNat) (p := gi h 171 18) (by omega) (show (gi h 171 20).toNat < 4 by omega) pr308 (by omega)), rfl, GD_w1 (hG311) (r := 54) rfl (by omega) rfl (by omega) (by omega), FRM_w (((FRM_w ((((hF292).mono rfl).trans ((hF305).mono rfl)).trans ((hF307).mono rfl)) (r := 54) rfl rfl).trans ((hF308).mono rfl)).trans ((hF311).mono rfl)) (r := 54) rfl rfl, (gi_k (by decide) _).trans (eq311), ⟨by omega, by omega⟩, ⟨by rw [zn]; omega, by rw [zn]; omega⟩, fun _ => ⟨by omega, by omega, by rw [zn]; exact zl⟩⟩
              · refine x_if_ne 111 109 hK rfl rfl rfl (by omega) (fun c => by omega) (fun _ => ?_)
                refine x_iconst 110 hK rfl rfl ?_
                rw [show (gi h 171 20 + 1).toNat = (gi h 171 20).toNat + 1 by omega] at pr308
                have zn : gi h311 171 26 = (gi h308 171 26) := FRM_gi hF311 (r := 54) rfl rfl
                exact x_zret hK rfl (by omega) ⟨false, q308, L308, (PR_brN (d := (gi h 171 20).toNat) (p := gi h 171 18) (by omega) (show (gi h 171 20).toNat < 4 by omega) pr308 (by omega)), rfl, hG311, ((FRM_w ((((hF292).mono rfl).trans ((hF305).mono rfl)).trans ((hF307).mono rfl)) (r := 54) rfl rfl).trans ((hF308).mono rfl)).trans ((hF311).mono rfl), eq311, ⟨by omega, by omega⟩, ⟨by rw [zn]; omega, by rw [zn]; omega⟩, nofun⟩
          · refine x_if_ne 82 80 hK rfl rfl rfl (by omega) (fun c => by omega) (fun _ => ?_)
            refine x_iconst 81 hK rfl rfl ?_
            have al := ask_l (fm h (gi h 171 18))
            rw [← eo305] at al
            have as : ¬ askI (fm h (gi h 171 18)) := by unfold askI; (repeat' split at al) <;> omega
            have zn : gi h307 171 26 = (gi h 171 26) := (FRM_gi hF307 (r := 54) rfl rfl).trans ((FRM_gi hF305 (r := 54) rfl rfl).trans (FRM_gi hF292 (r := 54) rfl rfl))
            exact x_zret hK rfl (by omega) ⟨false, (gi h 171 18), [], (PR_no (d := (gi h 171 20).toNat) (p := gi h 171 18) (by omega) (by omega) as (by omega)), rfl, hG307, (((hF292).mono rfl).trans ((hF305).mono rfl)).trans ((hF307).mono rfl), eq307, ⟨by omega, by omega⟩, ⟨by rw [zn]; omega, by rw [zn]; omega⟩, nofun⟩
      · have es305 : gi h305 171 18 = (gi h 171 18) + 1 := er305.trans (by rw [if_neg ce305])
        refine x_istore_n 48 hK rfl rfl [(1, .int (I e305)), (0, .ref 171)] rfl ?_
        refine x_iload_n 49 hK rfl rfl rfl ?_
        refine x_if_lt 63 52 hK rfl rfl rfl (by omega) (fun c => by omega) (fun _ => ?_)
        refine x_aload_n 53 hK rfl rfl rfl ?_
        refine x_sipush 56 hK rfl rfl rfl ?_
        refine x_iload_n 57 hK rfl rfl rfl ?_
        refine x_iadd 58 hK rfl rfl ?_
        have g313 := gri (0) (80) hG (a := 171) (r := 54) (k := 26) rfl rfl
        have nn312 : gi h305 171 26 = (gi h 171 26) := (FRM_gi hF305 (r := 54) rfl rfl).trans (FRM_gi hF292 (r := 54) rfl rfl)
        refine x_callV 61 hK hmono rfl rfl [.ref 171, .int (I (1000 + e305))] [] rfl rfl (Nat.le_of_ble_eq_true rfl) (Nat.le_of_ble_eq_true rfl) rfl (sp_171 (h := h305) hG305) (CLd_le (by omega) (ctX11_codes hSP hG305 (by omega) (by omega))) ?_
        rintro v312 h312 ⟨rfl, hG312, hF312, e26312, ev312, eo312⟩
        rw [nn312] at e26312 ev312 eo312
        have cl312 : rcL h312 ((gi h 171 26) + 1).toNat = rcL h ((gi h 171 26)).toNat ++ [(1000 + e305)] := by rw [tn_s (by omega), ← show rcL h305 ((gi h 171 26)).toNat = _ from rcL_e fun j hj => (FRM_gi hF305 (r := 66) rfl (by rfl)).trans (FRM_gi hF292 (r := 66) rfl (by rfl))]; exact rcL_s ev312 eo312
        refine x_iconst 62 hK rfl rfl ?_
        have al := ask_l (fm h (gi h 171 18))
        rw [← eo305] at al
        have as : askI (fm h (gi h 171 18)) := by unfold askI; (repeat' split at al) <;> omega
        have rx : rcC (-(fm h (gi h 171 18))) = 1000 + e305 := by
          rcases as with as | as | as | as <;> rw [as] at al ⊢ <;> rw [al] <;> rfl
        have zn : gi h312 171 26 = ((gi h 171 26) + 1) := e26312
        have zd : gi h312 171 20 = (gi h 171 20) := (FRM_gi hF312 (r := 54) rfl rfl).trans ((FRM_gi hF305 (r := 54) rfl rfl).trans (FRM_gi hF292 (r := 54) rfl rfl))
        have zr : rcL h312 (((gi h 171 26) + 1)).toNat = rcL h312 (((gi h 171 26) + 1)).toNat := rfl
        have zl : rcL h312 (((gi h 171 26) + 1)).toNat = rcL h (gi h 171 26).toNat ++ ([-(fm h (gi h 171 18))]).map rcC := by
          rw [zr, cl312]
          rw [show [-(fm h (gi h 171 18))].map rcC = [rcC (-(fm h (gi h 171 18)))] from rfl, rx]
        exact x_zret hK rfl (by omega) ⟨true, ((gi h 171 18) + 1), [-(fm h (gi h 171 18))], (PR_ask as), rfl, hG312, (((hF292).mono rfl).trans ((hF305).mono rfl)).trans ((hF312).mono rfl), (FRM_gi hF312 (r := 54) rfl rfl).trans (es305), ⟨by omega, by omega⟩, ⟨by rw [zn]; omega, by rw [zn]; omega⟩, fun _ => ⟨by omega, by omega, by rw [zn]; exact zl⟩⟩
theorem op_n0 {s : Int} (h : fidx s (byJ.getD 2 []) 0 < 0) : rkI s ≠ 0 + 1 := by
  rw [op_l0] at h
  have c : ¬ (s = 60 ∨ s = 62 ∨ s = 61) := fun z => by (repeat' split at h) <;> omega
  unfold rkI
  (repeat' split) <;> omega
theorem op_y0 {s : Int} (h : ¬ fidx s (byJ.getD 2 []) 0 < 0) : rkI s = 0 + 1 ∧ rcC (-s) = 2000 + fidx s (byJ.getD 2 []) 0 + 0 := by
  rw [op_l0] at h
  have c : s = 60 ∨ s = 62 ∨ s = 61 := by (repeat' split at h) <;> omega
  rcases c with rfl | rfl | rfl <;> decide
theorem op_n1 {s : Int} (h : fidx s (byJ.getD 3 []) 0 < 0) : rkI s ≠ 1 + 1 := by
  rw [op_l1] at h
  have c : ¬ (s = 43 ∨ s = 45) := fun z => by (repeat' split at h) <;> omega
  unfold rkI
  (repeat' split) <;> omega
theorem op_y1 {s : Int} (h : ¬ fidx s (byJ.getD 3 []) 0 < 0) : rkI s = 1 + 1 ∧ rcC (-s) = 2000 + fidx s (byJ.getD 3 []) 0 + 3 := by
  rw [op_l1] at h
  have c : s = 43 ∨ s = 45 := by (repeat' split at h) <;> omega
  rcases c with rfl | rfl <;> decide
theorem op_n2 {s : Int} (h : fidx s (byJ.getD 4 []) 0 < 0) : rkI s ≠ 2 + 1 := by
  rw [op_l2] at h
  have c : ¬ (s = 42 ∨ s = 47) := fun z => by (repeat' split at h) <;> omega
  unfold rkI
  (repeat' split) <;> omega
theorem op_y2 {s : Int} (h : ¬ fidx s (byJ.getD 4 []) 0 < 0) : rkI s = 2 + 1 ∧ rcC (-s) = 2000 + fidx s (byJ.getD 4 []) 0 + 5 := by
  rw [op_l2] at h
  have c : s = 42 ∨ s = 47 := by (repeat' split at h) <;> omega
  rcases c with rfl | rfl <;> decide
set_option maxRecDepth 4000 in
theorem ctX11_readsRank3G (hSP : MONO SPt) {sh : List (Nat × Nat)} {m : Nat} (hT : ∀ {h : aH}, GD gE gRL sh h → (gi h 171 26 ≤ gi h 171 18 ∧ gi h 171 18 ≤ gi h 171 19) → (gi h 171 19 - gi h 171 18).toNat ≤ m → CLd SPt (5 * m + 5) mX11_readsThing [.ref 171] h 0 0 (RSG sh h 3)) {h : aH} (hG : GD gE gRL sh h) (hA : gi h 171 26 ≤ gi h 171 18 ∧ gi h 171 18 ≤ gi h 171 19) (hm : (gi h 171 19 - gi h 171 18).toNat ≤ m) : CLd SPt (5 * m + 5 + 1) mX11_readsRank [.ref 171, .int (I 3)] h 0 0 (RSG sh h 3) := by
  refine x_met _ rfl (Nat.le_of_ble_eq_true rfl) (fun K hK => ?_)
  have hmono := MONO_CLd hSP (5 * m + 5)
  have g20 := gri 0 4 hG (a := 171) (r := 54) (k := 20) rfl rfl
  have g19 := (at_r hG).2.2
  have g18 := (at_r hG).1
  have g26 := gri 0 80 hG (a := 171) (r := 54) (k := 26) rfl rfl
  have fe0 : ∀ a, gi h 171 19 ≤ a → fm h a = -1 := fun a ha => if_neg (by omega)
  refine x_iload_n 1 hK rfl rfl rfl ?_
  refine x_iconst 2 hK rfl rfl ?_
  refine x_if_icmp_ne 10 5 hK rfl rfl rfl (by omega) (by omega) (fun c => by omega) (fun _ => ?_)
  refine x_aload_n 6 hK rfl rfl rfl ?_
  have g315 := gri (0) (81) hG (a := 171) (r := 54) (k := 18) rfl rfl
  have g316 := gri (0) (80) hG (a := 171) (r := 54) (k := 26) rfl rfl
  have g317 := gri (0) (4) hG (a := 171) (r := 54) (k := 20) rfl rfl
  have at314 : gi h 171 18 = (gi h 171 18) := rfl
  have nn314 : gi h 171 26 = (gi h 171 26) := rfl
  have dd314 : gi h 171 20 = (gi h 171 20) := rfl
  have fe314 : fm h = (fm h) := rfl
  have to314 : gi h 171 19 = (gi h 171 19) := rfl
  have rr314 : rcL h ((gi h 171 26)).toNat = rcL h ((gi h 171 26)).toNat := rfl
  refine x_callV 9 hK hmono rfl rfl [.ref 171] [] rfl rfl (Nat.le_of_ble_eq_true rfl) (Nat.le_of_ble_eq_true rfl) rfl (sp_171 (h := h) hG) (CLd_le (by omega) (hT hG (by omega) (by omega))) ?_
  rintro v314 h314 ⟨ok314, q314, L314, pr314, rfl, hG314, hF314, eq314, bd314, bc314, sc314⟩
  rw [fe314, dd314, at314] at pr314
  rw [at314, to314] at bd314
  rw [nn314, at314] at bc314
  rw [at314, nn314, dd314, rr314] at sc314
  cases ok314
  · rw [show b2i false = 0 from rfl]
    have zn : gi h314 171 26 = (gi h314 171 26) := rfl
    exact x_zret hK rfl (by omega) ⟨false, q314, L314, pr314, rfl, hG314, hF314, eq314, ⟨by omega, by omega⟩, ⟨by rw [zn]; omega, by rw [zn]; omega⟩, nofun⟩
  · rw [show b2i true = 1 from rfl]
    obtain ⟨lt314, ed314, cl314⟩ := sc314 rfl
    have zn : gi h314 171 26 = (gi h314 171 26) := rfl
    have zd : gi h314 171 20 = (gi h 171 20) := ed314
    have zr : rcL h314 ((gi h314 171 26)).toNat = rcL h314 ((gi h314 171 26)).toNat := rfl
    have zl : rcL h314 ((gi h314 171 26)).toNat = rcL h (gi h 171 26).toNat ++ (L314).map rcC := by
      rw [zr, cl314]
      
    exact x_zret hK rfl (by omega) ⟨true, q314, L314, pr314, rfl, hG314, hF314, eq314, ⟨by omega, by omega⟩, ⟨by rw [zn]; omega, by rw [zn]; omega⟩, fun _ => ⟨by omega, by omega, by rw [zn]; exact zl⟩⟩
set_option maxRecDepth 4000 in
theorem ctX11_readsRank2G (hSP : MONO SPt) {sh : List (Nat × Nat)} {m : Nat} (hR : ∀ {h : aH}, GD gE gRL sh h → (gi h 171 26 ≤ gi h 171 18 ∧ gi h 171 18 ≤ gi h 171 19) → (gi h 171 19 - gi h 171 18).toNat ≤ m → CLd SPt (5 * m + 6) mX11_readsRank [.ref 171, .int (I 3)] h 0 0 (RSG sh h 3)) {h : aH} (hG : GD gE gRL sh h) (hA : gi h 171 26 ≤ gi h 171 18 ∧ gi h 171 18 ≤ gi h 171 19) (hm : (gi h 171 19 - gi h 171 18).toNat ≤ m) : CLd SPt (5 * m + 6 + 1) mX11_readsRank [.ref 171, .int (I 2)] h 0 0 (RSG sh h 2) := by
  refine x_met _ rfl (Nat.le_of_ble_eq_true rfl) (fun K hK => ?_)
  have hmono := MONO_CLd hSP (5 * m + 6)
  have g20 := gri 0 4 hG (a := 171) (r := 54) (k := 20) rfl rfl
  have g19 := (at_r hG).2.2
  have g18 := (at_r hG).1
  have g26 := gri 0 80 hG (a := 171) (r := 54) (k := 26) rfl rfl
  have fe0 : ∀ a, gi h 171 19 ≤ a → fm h a = -1 := fun a ha => if_neg (by omega)
  have loop : ∀ (mz : Nat) (h4 : aH) (ls : List (Nat × Value)), ((gi h 171 19 - gi h4 171 18).toNat = mz) → (gi h4 171 20 = gi h 171 20) → (gi h 171 18 < gi h4 171 18 ∧ gi h4 171 18 ≤ gi h 171 19) → (gi h 171 26 ≤ gi h4 171 26 ∧ gi h4 171 26 - gi h 171 26 ≤ gi h4 171 18 - gi h 171 18) → (∃ Lc : List Int, rcL h4 (gi h4 171 26).toNat = rcL h (gi h 171 26).toNat ++ Lc.map rcC ∧ ∀ (ok : Bool) (q : Int) (L' : List Int), PR (fm h) (4 + 2) (gi h 171 20).toNat (gi h4 171 18) ok q L' → PR (fm h) 2 (gi h 171 20).toNat (gi h 171 18) ok q (Lc ++ L')) → lk ls 0 = some (.ref 171) → lk ls 1 = some (.int (I 2)) → lk ls 2 = some (.int (I 1)) → GD gE gRL sh h4 → FRM gRL [(0, 54, 18, 18), (0, 54, 20, 20), (0, 54, 26, 26), (0, 66, 0, 79)] h h4 → K 28 ls [] h4 0 0 := by
    intro mz
    induction mz using Nat.strongRecOn with
    | ind mz ih =>
    intro  h4 ls hm d20 b18 b26 hk l0 l1 l2 hG4 hF4
    obtain ⟨Lc, lc, hk⟩ := hk
    have tf4 : fm h4 = fm h := fm_F hF4 rfl rfl
    have to4 : gi h4 171 19 = gi h 171 19 := FRM_gi hF4 (r := 54) rfl rfl
    obtain ⟨c, hc⟩ : ∃ c, gi h4 171 18 = c := ⟨_, rfl⟩
    rw [hc] at b18 b26 hk hm
    have g426 := gri 0 80 hG4 (a := 171) (r := 54) (k := 26) rfl rfl
    refine x_aload_n 29 hK rfl rfl l0 ?_
    refine x_iload_n 30 hK rfl rfl l1 ?_
    refine x_if_ne 38 33 hK rfl rfl rfl (by omega) (fun _ => ?_) (fun c => by omega)
    refine x_iload_n 39 hK rfl rfl l1 ?_
    refine x_iconst 40 hK rfl rfl ?_
    refine x_if_icmp_ne 48 43 hK rfl rfl rfl (by omega) (by omega) (fun _ => ?_) (fun c => by omega)
    refine x_ldcS 50 hK rfl rfl ?_
    have at318 : gi h4 171 18 = c := hc
    have fe318 : fm h4 = (fm h) := tf4
    have to318 : gi h4 171 19 = (gi h 171 19) := FRM_gi hF4 (r := 54) rfl rfl
    refine x_callV 53 hK hmono rfl rfl [.ref 171, .ref 1000004] [] rfl rfl (Nat.le_of_ble_eq_true rfl) (Nat.le_of_ble_eq_true rfl) rfl (sp_171 (h := h4) hG4) (CLd_le (Nat.le_of_ble_eq_true rfl) (ctX11_takesOf hSP hG4 (b := 4) (by omega))) ?_
    rw [fe318, at318, to318]
    rintro v318 h318 ⟨⟨e318, rfl, eo318, ep318, eq_318, er318, es318⟩, hG318, hF318⟩
    by_cases ce318 : e318 < 0
    · have es318 : gi h318 171 18 = c := er318.trans (by rw [if_pos ce318]; omega)
      refine x_istore_n 54 hK rfl rfl _ rfl ?_
      refine x_iload_n 55 hK rfl rfl lk1_s ?_
      refine x_if_ge 60 58 hK rfl rfl rfl (by omega) (fun c => by omega) (fun _ => ?_)
      refine x_iconst 59 hK rfl rfl ?_
      have hn := op_n2 (s := fm h c) (by rw [← eo318]; omega)
      have zn : gi h318 171 26 = (gi h4 171 26) := FRM_gi hF318 (r := 54) rfl rfl
      have zd : gi h318 171 20 = (gi h 171 20) := (FRM_gi hF318 (r := 54) rfl rfl).trans (d20)
      have zr : rcL h318 ((gi h4 171 26)).toNat = rcL h4 ((gi h4 171 26)).toNat := rcL_e fun j hj => FRM_gi hF318 (r := 66) rfl (by rfl)
      have zl : rcL h318 ((gi h4 171 26)).toNat = rcL h (gi h 171 26).toNat ++ ((Lc ++ [])).map rcC := by
        rw [zr, lc]
        rw [List.append_nil]
      exact x_zret hK rfl (by omega) ⟨true, c, (Lc ++ []), (hk true c [] (PR_lpE (by omega) hn)), rfl, hG318, (hF4).trans ((hF318).mono rfl), es318, ⟨by omega, by omega⟩, ⟨by rw [zn]; omega, by rw [zn]; omega⟩, fun _ => ⟨by omega, by omega, by rw [zn]; exact zl⟩⟩
    · have es318 : gi h318 171 18 = c + 1 := er318.trans (by rw [if_neg ce318])
      refine x_istore_n 54 hK rfl rfl _ rfl ?_
      refine x_iload_n 55 hK rfl rfl lk1_s ?_
      refine x_if_ge 60 58 hK rfl rfl rfl (by omega) (fun _ => ?_) (fun c => by omega)
      refine x_aload_n 61 hK rfl rfl (lk1_n l0 (by decide) (Or.inl rfl)) ?_
      refine x_iload_n 62 hK rfl rfl (lk1_n l1 (by decide) (Or.inl rfl)) ?_
      refine x_iconst 63 hK rfl rfl ?_
      refine x_iadd 64 hK rfl rfl ?_
      have g320 := gri (0) (80) hG4 (a := 171) (r := 54) (k := 26) rfl rfl
      have g321 := gri (0) (4) hG (a := 171) (r := 54) (k := 20) rfl rfl
      have at319 : gi h318 171 18 = (c + 1) := es318
      have nn319 : gi h318 171 26 = (gi h4 171 26) := FRM_gi hF318 (r := 54) rfl rfl
      have dd319 : gi h318 171 20 = (gi h 171 20) := (FRM_gi hF318 (r := 54) rfl rfl).trans (d20)
      have fe319 : fm h318 = (fm h) := (fm_F hF318 rfl rfl).trans (tf4)
      have to319 : gi h318 171 19 = (gi h 171 19) := (FRM_gi hF318 (r := 54) rfl rfl).trans (FRM_gi hF4 (r := 54) rfl rfl)
      have rr319 : rcL h318 ((gi h4 171 26)).toNat = rcL h4 ((gi h4 171 26)).toNat := rcL_e fun j hj => FRM_gi hF318 (r := 66) rfl (by rfl)
      refine x_callV 67 hK hmono rfl rfl [.ref 171, .int (I (2 + 1))] [] rfl rfl (Nat.le_of_ble_eq_true rfl) (Nat.le_of_ble_eq_true rfl) rfl (sp_171 (h := h318) hG318) (CLd_le (by omega) (hR hG318 (by omega) (by omega))) ?_
      rintro v319 h319 ⟨ok319, q319, L319, pr319, rfl, hG319, hF319, eq319, bd319, bc319, sc319⟩
      rw [fe319, dd319, at319] at pr319
      rw [at319, to319] at bd319
      rw [nn319, at319] at bc319
      rw [at319, nn319, dd319, rr319] at sc319
      cases ok319
      · rw [show b2i false = 0 from rfl]
        refine x_if_ne 72 70 hK rfl rfl rfl (by omega) (fun c => by omega) (fun _ => ?_)
        refine x_iconst 71 hK rfl rfl ?_
        obtain ⟨hy1, hy2⟩ := op_y2 (s := fm h c) (by rw [← eo318]; omega)
        rw [← eo318] at hy2
        have zn : gi h319 171 26 = (gi h319 171 26) := rfl
        exact x_zret hK rfl (by omega) ⟨false, q319, (Lc ++ L319), (hk false _ _ (PR_lpF (by omega) hy1 pr319)), rfl, hG319, ((hF4).trans ((hF318).mono rfl)).trans ((hF319).mono rfl), eq319, ⟨by omega, by omega⟩, ⟨by rw [zn]; omega, by rw [zn]; omega⟩, nofun⟩
      · rw [show b2i true = 1 from rfl]
        obtain ⟨lt319, ed319, cl319⟩ := sc319 rfl
        refine x_if_ne 72 70 hK rfl rfl rfl (by omega) (fun _ => ?_) (fun c => by omega)
        refine x_aload_n 73 hK rfl rfl (lk1_n l0 (by decide) (Or.inl rfl)) ?_
        refine x_sipush 76 hK rfl rfl rfl ?_
        refine x_iload_n 77 hK rfl rfl lk1_s ?_
        refine x_iadd 78 hK rfl rfl ?_
        refine x_iload_n 79 hK rfl rfl (lk1_n l1 (by decide) (Or.inl rfl)) ?_
        refine x_if_ne 86 82 hK rfl rfl rfl (by omega) (fun _ => ?_) (fun c => by omega)
        refine x_iload_n 87 hK rfl rfl (lk1_n l1 (by decide) (Or.inl rfl)) ?_
        refine x_iconst 88 hK rfl rfl ?_
        refine x_if_icmp_ne 95 91 hK rfl rfl rfl (by omega) (by omega) (fun _ => ?_) (fun c => by omega)
        refine x_iconst 96 hK rfl rfl ?_
        refine x_iadd 97 hK rfl rfl ?_
        have g323 := gri (0) (80) hG319 (a := 171) (r := 54) (k := 26) rfl rfl
        have nn322 : gi h319 171 26 = (gi h319 171 26) := rfl
        refine x_callV 100 hK hmono rfl rfl [.ref 171, .int (I ((2000 + e318) + 5))] [] rfl rfl (Nat.le_of_ble_eq_true rfl) (Nat.le_of_ble_eq_true rfl) rfl (sp_171 (h := h319) hG319) (CLd_le (by omega) (ctX11_codes hSP hG319 (by omega) (by omega))) ?_
        rintro v322 h322 ⟨rfl, hG322, hF322, e26322, ev322, eo322⟩
        rw [nn322] at e26322 ev322 eo322
        have cl322 : rcL h322 ((gi h319 171 26) + 1).toNat = rcL h319 ((gi h319 171 26)).toNat ++ [((2000 + e318) + 5)] := by rw [tn_s (by omega), ← show rcL h319 ((gi h319 171 26)).toNat = _ from rfl]; exact rcL_s ev322 eo322
        refine x_iload_n 101 hK rfl rfl (lk1_n l1 (by decide) (Or.inl rfl)) ?_
        refine x_if_le 108 104 hK rfl rfl rfl (by omega) (fun c => by omega) (fun _ => ?_)
        refine x_iconst 105 hK rfl rfl ?_
        refine x_goto 109 hK rfl rfl ?_
        refine x_istore_n 110 hK rfl rfl _ rfl ?_
        refine x_goto 24 hK rfl rfl ?_
        refine x_iload_n 25 hK rfl rfl lk1_s ?_
        refine x_if_eq 113 28 hK rfl rfl rfl (by omega) (fun c => by omega) (fun _ => ?_)
        obtain ⟨hy1, hy2⟩ := op_y2 (s := fm h c) (by rw [← eo318]; omega)
        rw [← eo318] at hy2
        have zn : gi h322 171 26 = ((gi h319 171 26) + 1) := e26322
        have zq : gi h322 171 18 = q319 := (FRM_gi hF322 (r := 54) rfl rfl).trans (eq319)
        have zl : rcL h322 (((gi h319 171 26) + 1)).toNat = rcL h (gi h 171 26).toNat ++ (Lc ++ (L319 ++ [-(fm h c)])).map rcC := by
          rw [cl322, cl319, lc]
          rw [List.map_append, List.map_append, List.append_assoc, List.append_assoc, show [-(fm h c)].map rcC = [rcC (-(fm h c))] from rfl, hy2]
        exact ih _ (by rw [zq]; omega)  _ _ rfl ((FRM_gi hF322 (r := 54) rfl rfl).trans (ed319)) (by rw [zq]; omega) (by rw [zn, zq]; omega) (⟨_, by rw [zn]; exact zl, fun ok q L' z => by rw [zq] at z; have w := hk ok q _ (PR_lpM (by omega) (by omega) hy1 pr319 z); simpa only [List.append_assoc] using w⟩) (lk1_n (lk1_n l0 (by decide) (Or.inl rfl)) (by decide) (Or.inl rfl)) (lk1_n (lk1_n l1 (by decide) (Or.inl rfl)) (by decide) (Or.inl rfl)) lk1_s (hG322) ((((hF4).trans ((hF318).mono rfl)).trans ((hF319).mono rfl)).trans ((hF322).mono rfl))
  refine x_iload_n 1 hK rfl rfl rfl ?_
  refine x_iconst 2 hK rfl rfl ?_
  refine x_if_icmp_ne 10 5 hK rfl rfl rfl (by omega) (by omega) (fun _ => ?_) (fun c => by omega)
  refine x_aload_n 11 hK rfl rfl rfl ?_
  refine x_iload_n 12 hK rfl rfl rfl ?_
  refine x_iconst 13 hK rfl rfl ?_
  refine x_iadd 14 hK rfl rfl ?_
  have g325 := gri (0) (81) hG (a := 171) (r := 54) (k := 18) rfl rfl
  have g326 := gri (0) (80) hG (a := 171) (r := 54) (k := 26) rfl rfl
  have g327 := gri (0) (4) hG (a := 171) (r := 54) (k := 20) rfl rfl
  have at324 : gi h 171 18 = (gi h 171 18) := rfl
  have nn324 : gi h 171 26 = (gi h 171 26) := rfl
  have dd324 : gi h 171 20 = (gi h 171 20) := rfl
  have fe324 : fm h = (fm h) := rfl
  have to324 : gi h 171 19 = (gi h 171 19) := rfl
  have rr324 : rcL h ((gi h 171 26)).toNat = rcL h ((gi h 171 26)).toNat := rfl
  refine x_callV 17 hK hmono rfl rfl [.ref 171, .int (I (2 + 1))] [] rfl rfl (Nat.le_of_ble_eq_true rfl) (Nat.le_of_ble_eq_true rfl) rfl (sp_171 (h := h) hG) (CLd_le (by omega) (hR hG (by omega) (by omega))) ?_
  rintro v324 h324 ⟨ok324, q324, L324, pr324, rfl, hG324, hF324, eq324, bd324, bc324, sc324⟩
  rw [fe324, dd324, at324] at pr324
  rw [at324, to324] at bd324
  rw [nn324, at324] at bc324
  rw [at324, nn324, dd324, rr324] at sc324
  cases ok324
  · rw [show b2i false = 0 from rfl]
    refine x_if_ne 22 20 hK rfl rfl rfl (by omega) (fun c => by omega) (fun _ => ?_)
    refine x_iconst 21 hK rfl rfl ?_
    have zn : gi h324 171 26 = (gi h324 171 26) := rfl
    exact x_zret hK rfl (by omega) ⟨false, q324, L324, (PR_rkF (by omega) pr324), rfl, hG324, hF324, eq324, ⟨by omega, by omega⟩, ⟨by rw [zn]; omega, by rw [zn]; omega⟩, nofun⟩
  · rw [show b2i true = 1 from rfl]
    obtain ⟨lt324, ed324, cl324⟩ := sc324 rfl
    refine x_if_ne 22 20 hK rfl rfl rfl (by omega) (fun _ => ?_) (fun c => by omega)
    refine x_iconst 23 hK rfl rfl ?_
    refine x_istore_n 24 hK rfl rfl [(2, .int (I 1)), (0, .ref 171), (1, .int (I 2))] rfl ?_
    refine x_iload_n 25 hK rfl rfl rfl ?_
    refine x_if_eq 113 28 hK rfl rfl rfl (by omega) (fun c => by omega) (fun _ => ?_)
    have zn : gi h324 171 26 = (gi h324 171 26) := rfl
    have zq : gi h324 171 18 = q324 := eq324
    exact loop _  _ _ rfl (ed324) (by rw [zq]; omega) (by rw [zn, zq]; omega) (⟨L324, by rw [cl324], fun ok q L' z => by rw [zq] at z; exact PR_rkT (by omega) pr324 z⟩) rfl rfl rfl (hG324) (hF324)
set_option maxRecDepth 4000 in
theorem ctX11_readsRank1G (hSP : MONO SPt) {sh : List (Nat × Nat)} {m : Nat} (hR : ∀ {h : aH}, GD gE gRL sh h → (gi h 171 26 ≤ gi h 171 18 ∧ gi h 171 18 ≤ gi h 171 19) → (gi h 171 19 - gi h 171 18).toNat ≤ m → CLd SPt (5 * m + 7) mX11_readsRank [.ref 171, .int (I 2)] h 0 0 (RSG sh h 2)) {h : aH} (hG : GD gE gRL sh h) (hA : gi h 171 26 ≤ gi h 171 18 ∧ gi h 171 18 ≤ gi h 171 19) (hm : (gi h 171 19 - gi h 171 18).toNat ≤ m) : CLd SPt (5 * m + 7 + 1) mX11_readsRank [.ref 171, .int (I 1)] h 0 0 (RSG sh h 1) := by
  refine x_met _ rfl (Nat.le_of_ble_eq_true rfl) (fun K hK => ?_)
  have hmono := MONO_CLd hSP (5 * m + 7)
  have g20 := gri 0 4 hG (a := 171) (r := 54) (k := 20) rfl rfl
  have g19 := (at_r hG).2.2
  have g18 := (at_r hG).1
  have g26 := gri 0 80 hG (a := 171) (r := 54) (k := 26) rfl rfl
  have fe0 : ∀ a, gi h 171 19 ≤ a → fm h a = -1 := fun a ha => if_neg (by omega)
  have loop : ∀ (mz : Nat) (h4 : aH) (ls : List (Nat × Value)), ((gi h 171 19 - gi h4 171 18).toNat = mz) → (gi h4 171 20 = gi h 171 20) → (gi h 171 18 < gi h4 171 18 ∧ gi h4 171 18 ≤ gi h 171 19) → (gi h 171 26 ≤ gi h4 171 26 ∧ gi h4 171 26 - gi h 171 26 ≤ gi h4 171 18 - gi h 171 18) → (∃ Lc : List Int, rcL h4 (gi h4 171 26).toNat = rcL h (gi h 171 26).toNat ++ Lc.map rcC ∧ ∀ (ok : Bool) (q : Int) (L' : List Int), PR (fm h) (4 + 1) (gi h 171 20).toNat (gi h4 171 18) ok q L' → PR (fm h) 1 (gi h 171 20).toNat (gi h 171 18) ok q (Lc ++ L')) → lk ls 0 = some (.ref 171) → lk ls 1 = some (.int (I 1)) → lk ls 2 = some (.int (I 1)) → GD gE gRL sh h4 → FRM gRL [(0, 54, 18, 18), (0, 54, 20, 20), (0, 54, 26, 26), (0, 66, 0, 79)] h h4 → K 28 ls [] h4 0 0 := by
    intro mz
    induction mz using Nat.strongRecOn with
    | ind mz ih =>
    intro  h4 ls hm d20 b18 b26 hk l0 l1 l2 hG4 hF4
    obtain ⟨Lc, lc, hk⟩ := hk
    have tf4 : fm h4 = fm h := fm_F hF4 rfl rfl
    have to4 : gi h4 171 19 = gi h 171 19 := FRM_gi hF4 (r := 54) rfl rfl
    obtain ⟨c, hc⟩ : ∃ c, gi h4 171 18 = c := ⟨_, rfl⟩
    rw [hc] at b18 b26 hk hm
    have g426 := gri 0 80 hG4 (a := 171) (r := 54) (k := 26) rfl rfl
    refine x_aload_n 29 hK rfl rfl l0 ?_
    refine x_iload_n 30 hK rfl rfl l1 ?_
    refine x_if_ne 38 33 hK rfl rfl rfl (by omega) (fun _ => ?_) (fun c => by omega)
    refine x_iload_n 39 hK rfl rfl l1 ?_
    refine x_iconst 40 hK rfl rfl ?_
    refine x_if_icmp_ne 48 43 hK rfl rfl rfl (by omega) (by omega) (fun c => by omega) (fun _ => ?_)
    refine x_ldcS 45 hK rfl rfl ?_
    refine x_goto 50 hK rfl rfl ?_
    have at328 : gi h4 171 18 = c := hc
    have fe328 : fm h4 = (fm h) := tf4
    have to328 : gi h4 171 19 = (gi h 171 19) := FRM_gi hF4 (r := 54) rfl rfl
    refine x_callV 53 hK hmono rfl rfl [.ref 171, .ref 1000003] [] rfl rfl (Nat.le_of_ble_eq_true rfl) (Nat.le_of_ble_eq_true rfl) rfl (sp_171 (h := h4) hG4) (CLd_le (Nat.le_of_ble_eq_true rfl) (ctX11_takesOf hSP hG4 (b := 3) (by omega))) ?_
    rw [fe328, at328, to328]
    rintro v328 h328 ⟨⟨e328, rfl, eo328, ep328, eq_328, er328, es328⟩, hG328, hF328⟩
    by_cases ce328 : e328 < 0
    · have es328 : gi h328 171 18 = c := er328.trans (by rw [if_pos ce328]; omega)
      refine x_istore_n 54 hK rfl rfl _ rfl ?_
      refine x_iload_n 55 hK rfl rfl lk1_s ?_
      refine x_if_ge 60 58 hK rfl rfl rfl (by omega) (fun c => by omega) (fun _ => ?_)
      refine x_iconst 59 hK rfl rfl ?_
      have hn := op_n1 (s := fm h c) (by rw [← eo328]; omega)
      have zn : gi h328 171 26 = (gi h4 171 26) := FRM_gi hF328 (r := 54) rfl rfl
      have zd : gi h328 171 20 = (gi h 171 20) := (FRM_gi hF328 (r := 54) rfl rfl).trans (d20)
      have zr : rcL h328 ((gi h4 171 26)).toNat = rcL h4 ((gi h4 171 26)).toNat := rcL_e fun j hj => FRM_gi hF328 (r := 66) rfl (by rfl)
      have zl : rcL h328 ((gi h4 171 26)).toNat = rcL h (gi h 171 26).toNat ++ ((Lc ++ [])).map rcC := by
        rw [zr, lc]
        rw [List.append_nil]
      exact x_zret hK rfl (by omega) ⟨true, c, (Lc ++ []), (hk true c [] (PR_lpE (by omega) hn)), rfl, hG328, (hF4).trans ((hF328).mono rfl), es328, ⟨by omega, by omega⟩, ⟨by rw [zn]; omega, by rw [zn]; omega⟩, fun _ => ⟨by omega, by omega, by rw [zn]; exact zl⟩⟩
    · have es328 : gi h328 171 18 = c + 1 := er328.trans (by rw [if_neg ce328])
      refine x_istore_n 54 hK rfl rfl _ rfl ?_
      refine x_iload_n 55 hK rfl rfl lk1_s ?_
      refine x_if_ge 60 58 hK rfl rfl rfl (by omega) (fun _ => ?_) (fun c => by omega)
      refine x_aload_n 61 hK rfl rfl (lk1_n l0 (by decide) (Or.inl rfl)) ?_
      refine x_iload_n 62 hK rfl rfl (lk1_n l1 (by decide) (Or.inl rfl)) ?_
      refine x_iconst 63 hK rfl rfl ?_
      refine x_iadd 64 hK rfl rfl ?_
      have g330 := gri (0) (80) hG4 (a := 171) (r := 54) (k := 26) rfl rfl
      have g331 := gri (0) (4) hG (a := 171) (r := 54) (k := 20) rfl rfl
      have at329 : gi h328 171 18 = (c + 1) := es328
      have nn329 : gi h328 171 26 = (gi h4 171 26) := FRM_gi hF328 (r := 54) rfl rfl
      have dd329 : gi h328 171 20 = (gi h 171 20) := (FRM_gi hF328 (r := 54) rfl rfl).trans (d20)
      have fe329 : fm h328 = (fm h) := (fm_F hF328 rfl rfl).trans (tf4)
      have to329 : gi h328 171 19 = (gi h 171 19) := (FRM_gi hF328 (r := 54) rfl rfl).trans (FRM_gi hF4 (r := 54) rfl rfl)
      have rr329 : rcL h328 ((gi h4 171 26)).toNat = rcL h4 ((gi h4 171 26)).toNat := rcL_e fun j hj => FRM_gi hF328 (r := 66) rfl (by rfl)
      refine x_callV 67 hK hmono rfl rfl [.ref 171, .int (I (1 + 1))] [] rfl rfl (Nat.le_of_ble_eq_true rfl) (Nat.le_of_ble_eq_true rfl) rfl (sp_171 (h := h328) hG328) (CLd_le (by omega) (hR hG328 (by omega) (by omega))) ?_
      rintro v329 h329 ⟨ok329, q329, L329, pr329, rfl, hG329, hF329, eq329, bd329, bc329, sc329⟩
      rw [fe329, dd329, at329] at pr329
      rw [at329, to329] at bd329
      rw [nn329, at329] at bc329
      rw [at329, nn329, dd329, rr329] at sc329
      cases ok329
      · rw [show b2i false = 0 from rfl]
        refine x_if_ne 72 70 hK rfl rfl rfl (by omega) (fun c => by omega) (fun _ => ?_)
        refine x_iconst 71 hK rfl rfl ?_
        obtain ⟨hy1, hy2⟩ := op_y1 (s := fm h c) (by rw [← eo328]; omega)
        rw [← eo328] at hy2
        have zn : gi h329 171 26 = (gi h329 171 26) := rfl
        exact x_zret hK rfl (by omega) ⟨false, q329, (Lc ++ L329), (hk false _ _ (PR_lpF (by omega) hy1 pr329)), rfl, hG329, ((hF4).trans ((hF328).mono rfl)).trans ((hF329).mono rfl), eq329, ⟨by omega, by omega⟩, ⟨by rw [zn]; omega, by rw [zn]; omega⟩, nofun⟩
      · rw [show b2i true = 1 from rfl]
        obtain ⟨lt329, ed329, cl329⟩ := sc329 rfl
        refine x_if_ne 72 70 hK rfl rfl rfl (by omega) (fun _ => ?_) (fun c => by omega)
        refine x_aload_n 73 hK rfl rfl (lk1_n l0 (by decide) (Or.inl rfl)) ?_
        refine x_sipush 76 hK rfl rfl rfl ?_
        refine x_iload_n 77 hK rfl rfl lk1_s ?_
        refine x_iadd 78 hK rfl rfl ?_
        refine x_iload_n 79 hK rfl rfl (lk1_n l1 (by decide) (Or.inl rfl)) ?_
        refine x_if_ne 86 82 hK rfl rfl rfl (by omega) (fun _ => ?_) (fun c => by omega)
        refine x_iload_n 87 hK rfl rfl (lk1_n l1 (by decide) (Or.inl rfl)) ?_
        refine x_iconst 88 hK rfl rfl ?_
        refine x_if_icmp_ne 95 91 hK rfl rfl rfl (by omega) (by omega) (fun c => by omega) (fun _ => ?_)
        refine x_iconst 92 hK rfl rfl ?_
        refine x_goto 96 hK rfl rfl ?_
        refine x_iadd 97 hK rfl rfl ?_
        have g333 := gri (0) (80) hG329 (a := 171) (r := 54) (k := 26) rfl rfl
        have nn332 : gi h329 171 26 = (gi h329 171 26) := rfl
        refine x_callV 100 hK hmono rfl rfl [.ref 171, .int (I ((2000 + e328) + 3))] [] rfl rfl (Nat.le_of_ble_eq_true rfl) (Nat.le_of_ble_eq_true rfl) rfl (sp_171 (h := h329) hG329) (CLd_le (by omega) (ctX11_codes hSP hG329 (by omega) (by omega))) ?_
        rintro v332 h332 ⟨rfl, hG332, hF332, e26332, ev332, eo332⟩
        rw [nn332] at e26332 ev332 eo332
        have cl332 : rcL h332 ((gi h329 171 26) + 1).toNat = rcL h329 ((gi h329 171 26)).toNat ++ [((2000 + e328) + 3)] := by rw [tn_s (by omega), ← show rcL h329 ((gi h329 171 26)).toNat = _ from rfl]; exact rcL_s ev332 eo332
        refine x_iload_n 101 hK rfl rfl (lk1_n l1 (by decide) (Or.inl rfl)) ?_
        refine x_if_le 108 104 hK rfl rfl rfl (by omega) (fun c => by omega) (fun _ => ?_)
        refine x_iconst 105 hK rfl rfl ?_
        refine x_goto 109 hK rfl rfl ?_
        refine x_istore_n 110 hK rfl rfl _ rfl ?_
        refine x_goto 24 hK rfl rfl ?_
        refine x_iload_n 25 hK rfl rfl lk1_s ?_
        refine x_if_eq 113 28 hK rfl rfl rfl (by omega) (fun c => by omega) (fun _ => ?_)
        obtain ⟨hy1, hy2⟩ := op_y1 (s := fm h c) (by rw [← eo328]; omega)
        rw [← eo328] at hy2
        have zn : gi h332 171 26 = ((gi h329 171 26) + 1) := e26332
        have zq : gi h332 171 18 = q329 := (FRM_gi hF332 (r := 54) rfl rfl).trans (eq329)
        have zl : rcL h332 (((gi h329 171 26) + 1)).toNat = rcL h (gi h 171 26).toNat ++ (Lc ++ (L329 ++ [-(fm h c)])).map rcC := by
          rw [cl332, cl329, lc]
          rw [List.map_append, List.map_append, List.append_assoc, List.append_assoc, show [-(fm h c)].map rcC = [rcC (-(fm h c))] from rfl, hy2]
        exact ih _ (by rw [zq]; omega)  _ _ rfl ((FRM_gi hF332 (r := 54) rfl rfl).trans (ed329)) (by rw [zq]; omega) (by rw [zn, zq]; omega) (⟨_, by rw [zn]; exact zl, fun ok q L' z => by rw [zq] at z; have w := hk ok q _ (PR_lpM (by omega) (by omega) hy1 pr329 z); simpa only [List.append_assoc] using w⟩) (lk1_n (lk1_n l0 (by decide) (Or.inl rfl)) (by decide) (Or.inl rfl)) (lk1_n (lk1_n l1 (by decide) (Or.inl rfl)) (by decide) (Or.inl rfl)) lk1_s (hG332) ((((hF4).trans ((hF328).mono rfl)).trans ((hF329).mono rfl)).trans ((hF332).mono rfl))
  refine x_iload_n 1 hK rfl rfl rfl ?_
  refine x_iconst 2 hK rfl rfl ?_
  refine x_if_icmp_ne 10 5 hK rfl rfl rfl (by omega) (by omega) (fun _ => ?_) (fun c => by omega)
  refine x_aload_n 11 hK rfl rfl rfl ?_
  refine x_iload_n 12 hK rfl rfl rfl ?_
  refine x_iconst 13 hK rfl rfl ?_
  refine x_iadd 14 hK rfl rfl ?_
  have g335 := gri (0) (81) hG (a := 171) (r := 54) (k := 18) rfl rfl
  have g336 := gri (0) (80) hG (a := 171) (r := 54) (k := 26) rfl rfl
  have g337 := gri (0) (4) hG (a := 171) (r := 54) (k := 20) rfl rfl
  have at334 : gi h 171 18 = (gi h 171 18) := rfl
  have nn334 : gi h 171 26 = (gi h 171 26) := rfl
  have dd334 : gi h 171 20 = (gi h 171 20) := rfl
  have fe334 : fm h = (fm h) := rfl
  have to334 : gi h 171 19 = (gi h 171 19) := rfl
  have rr334 : rcL h ((gi h 171 26)).toNat = rcL h ((gi h 171 26)).toNat := rfl
  refine x_callV 17 hK hmono rfl rfl [.ref 171, .int (I (1 + 1))] [] rfl rfl (Nat.le_of_ble_eq_true rfl) (Nat.le_of_ble_eq_true rfl) rfl (sp_171 (h := h) hG) (CLd_le (by omega) (hR hG (by omega) (by omega))) ?_
  rintro v334 h334 ⟨ok334, q334, L334, pr334, rfl, hG334, hF334, eq334, bd334, bc334, sc334⟩
  rw [fe334, dd334, at334] at pr334
  rw [at334, to334] at bd334
  rw [nn334, at334] at bc334
  rw [at334, nn334, dd334, rr334] at sc334
  cases ok334
  · rw [show b2i false = 0 from rfl]
    refine x_if_ne 22 20 hK rfl rfl rfl (by omega) (fun c => by omega) (fun _ => ?_)
    refine x_iconst 21 hK rfl rfl ?_
    have zn : gi h334 171 26 = (gi h334 171 26) := rfl
    exact x_zret hK rfl (by omega) ⟨false, q334, L334, (PR_rkF (by omega) pr334), rfl, hG334, hF334, eq334, ⟨by omega, by omega⟩, ⟨by rw [zn]; omega, by rw [zn]; omega⟩, nofun⟩
  · rw [show b2i true = 1 from rfl]
    obtain ⟨lt334, ed334, cl334⟩ := sc334 rfl
    refine x_if_ne 22 20 hK rfl rfl rfl (by omega) (fun _ => ?_) (fun c => by omega)
    refine x_iconst 23 hK rfl rfl ?_
    refine x_istore_n 24 hK rfl rfl [(2, .int (I 1)), (0, .ref 171), (1, .int (I 1))] rfl ?_
    refine x_iload_n 25 hK rfl rfl rfl ?_
    refine x_if_eq 113 28 hK rfl rfl rfl (by omega) (fun c => by omega) (fun _ => ?_)
    have zn : gi h334 171 26 = (gi h334 171 26) := rfl
    have zq : gi h334 171 18 = q334 := eq334
    exact loop _  _ _ rfl (ed334) (by rw [zq]; omega) (by rw [zn, zq]; omega) (⟨L334, by rw [cl334], fun ok q L' z => by rw [zq] at z; exact PR_rkT (by omega) pr334 z⟩) rfl rfl rfl (hG334) (hF334)
set_option maxRecDepth 4000 in
theorem ctX11_readsRank0G (hSP : MONO SPt) {sh : List (Nat × Nat)} {m : Nat} (hR : ∀ {h : aH}, GD gE gRL sh h → (gi h 171 26 ≤ gi h 171 18 ∧ gi h 171 18 ≤ gi h 171 19) → (gi h 171 19 - gi h 171 18).toNat ≤ m → CLd SPt (5 * m + 8) mX11_readsRank [.ref 171, .int (I 1)] h 0 0 (RSG sh h 1)) {h : aH} (hG : GD gE gRL sh h) (hA : gi h 171 26 ≤ gi h 171 18 ∧ gi h 171 18 ≤ gi h 171 19) (hm : (gi h 171 19 - gi h 171 18).toNat ≤ m) : CLd SPt (5 * m + 8 + 1) mX11_readsRank [.ref 171, .int (I 0)] h 0 0 (RSG sh h 0) := by
  refine x_met _ rfl (Nat.le_of_ble_eq_true rfl) (fun K hK => ?_)
  have hmono := MONO_CLd hSP (5 * m + 8)
  have g20 := gri 0 4 hG (a := 171) (r := 54) (k := 20) rfl rfl
  have g19 := (at_r hG).2.2
  have g18 := (at_r hG).1
  have g26 := gri 0 80 hG (a := 171) (r := 54) (k := 26) rfl rfl
  have fe0 : ∀ a, gi h 171 19 ≤ a → fm h a = -1 := fun a ha => if_neg (by omega)
  have loop : ∀ (mz : Nat) (h4 : aH) (ls : List (Nat × Value)), ((gi h 171 19 - gi h4 171 18).toNat = mz) → (gi h4 171 20 = gi h 171 20) → (gi h 171 18 < gi h4 171 18 ∧ gi h4 171 18 ≤ gi h 171 19) → (gi h 171 26 ≤ gi h4 171 26 ∧ gi h4 171 26 - gi h 171 26 ≤ gi h4 171 18 - gi h 171 18) → (∃ Lc : List Int, rcL h4 (gi h4 171 26).toNat = rcL h (gi h 171 26).toNat ++ Lc.map rcC ∧ ∀ (ok : Bool) (q : Int) (L' : List Int), PR (fm h) (4 + 0) (gi h 171 20).toNat (gi h4 171 18) ok q L' → PR (fm h) 0 (gi h 171 20).toNat (gi h 171 18) ok q (Lc ++ L')) → lk ls 0 = some (.ref 171) → lk ls 1 = some (.int (I 0)) → lk ls 2 = some (.int (I 1)) → GD gE gRL sh h4 → FRM gRL [(0, 54, 18, 18), (0, 54, 20, 20), (0, 54, 26, 26), (0, 66, 0, 79)] h h4 → K 28 ls [] h4 0 0 := by
    intro mz
    induction mz using Nat.strongRecOn with
    | ind mz ih =>
    intro  h4 ls hm d20 b18 b26 hk l0 l1 l2 hG4 hF4
    obtain ⟨Lc, lc, hk⟩ := hk
    have tf4 : fm h4 = fm h := fm_F hF4 rfl rfl
    have to4 : gi h4 171 19 = gi h 171 19 := FRM_gi hF4 (r := 54) rfl rfl
    obtain ⟨c, hc⟩ : ∃ c, gi h4 171 18 = c := ⟨_, rfl⟩
    rw [hc] at b18 b26 hk hm
    have g426 := gri 0 80 hG4 (a := 171) (r := 54) (k := 26) rfl rfl
    refine x_aload_n 29 hK rfl rfl l0 ?_
    refine x_iload_n 30 hK rfl rfl l1 ?_
    refine x_if_ne 38 33 hK rfl rfl rfl (by omega) (fun c => by omega) (fun _ => ?_)
    refine x_ldcS 35 hK rfl rfl ?_
    refine x_goto 50 hK rfl rfl ?_
    have at338 : gi h4 171 18 = c := hc
    have fe338 : fm h4 = (fm h) := tf4
    have to338 : gi h4 171 19 = (gi h 171 19) := FRM_gi hF4 (r := 54) rfl rfl
    refine x_callV 53 hK hmono rfl rfl [.ref 171, .ref 1000002] [] rfl rfl (Nat.le_of_ble_eq_true rfl) (Nat.le_of_ble_eq_true rfl) rfl (sp_171 (h := h4) hG4) (CLd_le (Nat.le_of_ble_eq_true rfl) (ctX11_takesOf hSP hG4 (b := 2) (by omega))) ?_
    rw [fe338, at338, to338]
    rintro v338 h338 ⟨⟨e338, rfl, eo338, ep338, eq_338, er338, es338⟩, hG338, hF338⟩
    by_cases ce338 : e338 < 0
    · have es338 : gi h338 171 18 = c := er338.trans (by rw [if_pos ce338]; omega)
      refine x_istore_n 54 hK rfl rfl _ rfl ?_
      refine x_iload_n 55 hK rfl rfl lk1_s ?_
      refine x_if_ge 60 58 hK rfl rfl rfl (by omega) (fun c => by omega) (fun _ => ?_)
      refine x_iconst 59 hK rfl rfl ?_
      have hn := op_n0 (s := fm h c) (by rw [← eo338]; omega)
      have zn : gi h338 171 26 = (gi h4 171 26) := FRM_gi hF338 (r := 54) rfl rfl
      have zd : gi h338 171 20 = (gi h 171 20) := (FRM_gi hF338 (r := 54) rfl rfl).trans (d20)
      have zr : rcL h338 ((gi h4 171 26)).toNat = rcL h4 ((gi h4 171 26)).toNat := rcL_e fun j hj => FRM_gi hF338 (r := 66) rfl (by rfl)
      have zl : rcL h338 ((gi h4 171 26)).toNat = rcL h (gi h 171 26).toNat ++ ((Lc ++ [])).map rcC := by
        rw [zr, lc]
        rw [List.append_nil]
      exact x_zret hK rfl (by omega) ⟨true, c, (Lc ++ []), (hk true c [] (PR_lpE (by omega) hn)), rfl, hG338, (hF4).trans ((hF338).mono rfl), es338, ⟨by omega, by omega⟩, ⟨by rw [zn]; omega, by rw [zn]; omega⟩, fun _ => ⟨by omega, by omega, by rw [zn]; exact zl⟩⟩
    · have es338 : gi h338 171 18 = c + 1 := er338.trans (by rw [if_neg ce338])
      refine x_istore_n 54 hK rfl rfl _ rfl ?_
      refine x_iload_n 55 hK rfl rfl lk1_s ?_
      refine x_if_ge 60 58 hK rfl rfl rfl (by omega) (fun _ => ?_) (fun c => by omega)
      refine x_aload_n 61 hK rfl rfl (lk1_n l0 (by decide) (Or.inl rfl)) ?_
      refine x_iload_n 62 hK rfl rfl (lk1_n l1 (by decide) (Or.inl rfl)) ?_
      refine x_iconst 63 hK rfl rfl ?_
      refine x_iadd 64 hK rfl rfl ?_
      have g340 := gri (0) (80) hG4 (a := 171) (r := 54) (k := 26) rfl rfl
      have g341 := gri (0) (4) hG (a := 171) (r := 54) (k := 20) rfl rfl
      have at339 : gi h338 171 18 = (c + 1) := es338
      have nn339 : gi h338 171 26 = (gi h4 171 26) := FRM_gi hF338 (r := 54) rfl rfl
      have dd339 : gi h338 171 20 = (gi h 171 20) := (FRM_gi hF338 (r := 54) rfl rfl).trans (d20)
      have fe339 : fm h338 = (fm h) := (fm_F hF338 rfl rfl).trans (tf4)
      have to339 : gi h338 171 19 = (gi h 171 19) := (FRM_gi hF338 (r := 54) rfl rfl).trans (FRM_gi hF4 (r := 54) rfl rfl)
      have rr339 : rcL h338 ((gi h4 171 26)).toNat = rcL h4 ((gi h4 171 26)).toNat := rcL_e fun j hj => FRM_gi hF338 (r := 66) rfl (by rfl)
      refine x_callV 67 hK hmono rfl rfl [.ref 171, .int (I (0 + 1))] [] rfl rfl (Nat.le_of_ble_eq_true rfl) (Nat.le_of_ble_eq_true rfl) rfl (sp_171 (h := h338) hG338) (CLd_le (by omega) (hR hG338 (by omega) (by omega))) ?_
      rintro v339 h339 ⟨ok339, q339, L339, pr339, rfl, hG339, hF339, eq339, bd339, bc339, sc339⟩
      rw [fe339, dd339, at339] at pr339
      rw [at339, to339] at bd339
      rw [nn339, at339] at bc339
      rw [at339, nn339, dd339, rr339] at sc339
      cases ok339
      · rw [show b2i false = 0 from rfl]
        refine x_if_ne 72 70 hK rfl rfl rfl (by omega) (fun c => by omega) (fun _ => ?_)
        refine x_iconst 71 hK rfl rfl ?_
        obtain ⟨hy1, hy2⟩ := op_y0 (s := fm h c) (by rw [← eo338]; omega)
        rw [← eo338] at hy2
        have zn : gi h339 171 26 = (gi h339 171 26) := rfl
        exact x_zret hK rfl (by omega) ⟨false, q339, (Lc ++ L339), (hk false _ _ (PR_lpF (by omega) hy1 pr339)), rfl, hG339, ((hF4).trans ((hF338).mono rfl)).trans ((hF339).mono rfl), eq339, ⟨by omega, by omega⟩, ⟨by rw [zn]; omega, by rw [zn]; omega⟩, nofun⟩
      · rw [show b2i true = 1 from rfl]
        obtain ⟨lt339, ed339, cl339⟩ := sc339 rfl
        refine x_if_ne 72 70 hK rfl rfl rfl (by omega) (fun _ => ?_) (fun c => by omega)
        refine x_aload_n 73 hK rfl rfl (lk1_n l0 (by decide) (Or.inl rfl)) ?_
        refine x_sipush 76 hK rfl rfl rfl ?_
        refine x_iload_n 77 hK rfl rfl lk1_s ?_
        refine x_iadd 78 hK rfl rfl ?_
        refine x_iload_n 79 hK rfl rfl (lk1_n l1 (by decide) (Or.inl rfl)) ?_
        refine x_if_ne 86 82 hK rfl rfl rfl (by omega) (fun c => by omega) (fun _ => ?_)
        refine x_iconst 83 hK rfl rfl ?_
        refine x_goto 96 hK rfl rfl ?_
        refine x_iadd 97 hK rfl rfl ?_
        have g343 := gri (0) (80) hG339 (a := 171) (r := 54) (k := 26) rfl rfl
        have nn342 : gi h339 171 26 = (gi h339 171 26) := rfl
        refine x_callV 100 hK hmono rfl rfl [.ref 171, .int (I ((2000 + e338) + 0))] [] rfl rfl (Nat.le_of_ble_eq_true rfl) (Nat.le_of_ble_eq_true rfl) rfl (sp_171 (h := h339) hG339) (CLd_le (by omega) (ctX11_codes hSP hG339 (by omega) (by omega))) ?_
        rintro v342 h342 ⟨rfl, hG342, hF342, e26342, ev342, eo342⟩
        rw [nn342] at e26342 ev342 eo342
        have cl342 : rcL h342 ((gi h339 171 26) + 1).toNat = rcL h339 ((gi h339 171 26)).toNat ++ [((2000 + e338) + 0)] := by rw [tn_s (by omega), ← show rcL h339 ((gi h339 171 26)).toNat = _ from rfl]; exact rcL_s ev342 eo342
        refine x_iload_n 101 hK rfl rfl (lk1_n l1 (by decide) (Or.inl rfl)) ?_
        refine x_if_le 108 104 hK rfl rfl rfl (by omega) (fun _ => ?_) (fun c => by omega)
        refine x_iconst 109 hK rfl rfl ?_
        refine x_istore_n 110 hK rfl rfl _ rfl ?_
        refine x_goto 24 hK rfl rfl ?_
        refine x_iload_n 25 hK rfl rfl lk1_s ?_
        refine x_if_eq 113 28 hK rfl rfl rfl (by omega) (fun _ => ?_) (fun c => by omega)
        refine x_iconst 114 hK rfl rfl ?_
        obtain ⟨hy1, hy2⟩ := op_y0 (s := fm h c) (by rw [← eo338]; omega)
        rw [← eo338] at hy2
        have zn : gi h342 171 26 = ((gi h339 171 26) + 1) := e26342
        have zd : gi h342 171 20 = (gi h 171 20) := (FRM_gi hF342 (r := 54) rfl rfl).trans (ed339)
        have zr : rcL h342 (((gi h339 171 26) + 1)).toNat = rcL h342 (((gi h339 171 26) + 1)).toNat := rfl
        have zl : rcL h342 (((gi h339 171 26) + 1)).toNat = rcL h (gi h 171 26).toNat ++ ((Lc ++ (L339 ++ [-(fm h c)]))).map rcC := by
          rw [zr, cl342, cl339, lc]
          rw [List.map_append, List.map_append, List.append_assoc, List.append_assoc, show [-(fm h c)].map rcC = [rcC (-(fm h c))] from rfl, hy2]
        exact x_zret hK rfl (by omega) ⟨true, q339, (Lc ++ (L339 ++ [-(fm h c)])), (hk true _ _ (PR_lpC hy1 pr339)), rfl, hG342, (((hF4).trans ((hF338).mono rfl)).trans ((hF339).mono rfl)).trans ((hF342).mono rfl), (FRM_gi hF342 (r := 54) rfl rfl).trans (eq339), ⟨by omega, by omega⟩, ⟨by rw [zn]; omega, by rw [zn]; omega⟩, fun _ => ⟨by omega, by omega, by rw [zn]; exact zl⟩⟩
  refine x_iload_n 1 hK rfl rfl rfl ?_
  refine x_iconst 2 hK rfl rfl ?_
  refine x_if_icmp_ne 10 5 hK rfl rfl rfl (by omega) (by omega) (fun _ => ?_) (fun c => by omega)
  refine x_aload_n 11 hK rfl rfl rfl ?_
  refine x_iload_n 12 hK rfl rfl rfl ?_
  refine x_iconst 13 hK rfl rfl ?_
  refine x_iadd 14 hK rfl rfl ?_
  have g345 := gri (0) (81) hG (a := 171) (r := 54) (k := 18) rfl rfl
  have g346 := gri (0) (80) hG (a := 171) (r := 54) (k := 26) rfl rfl
  have g347 := gri (0) (4) hG (a := 171) (r := 54) (k := 20) rfl rfl
  have at344 : gi h 171 18 = (gi h 171 18) := rfl
  have nn344 : gi h 171 26 = (gi h 171 26) := rfl
  have dd344 : gi h 171 20 = (gi h 171 20) := rfl
  have fe344 : fm h = (fm h) := rfl
  have to344 : gi h 171 19 = (gi h 171 19) := rfl
  have rr344 : rcL h ((gi h 171 26)).toNat = rcL h ((gi h 171 26)).toNat := rfl
  refine x_callV 17 hK hmono rfl rfl [.ref 171, .int (I (0 + 1))] [] rfl rfl (Nat.le_of_ble_eq_true rfl) (Nat.le_of_ble_eq_true rfl) rfl (sp_171 (h := h) hG) (CLd_le (by omega) (hR hG (by omega) (by omega))) ?_
  rintro v344 h344 ⟨ok344, q344, L344, pr344, rfl, hG344, hF344, eq344, bd344, bc344, sc344⟩
  rw [fe344, dd344, at344] at pr344
  rw [at344, to344] at bd344
  rw [nn344, at344] at bc344
  rw [at344, nn344, dd344, rr344] at sc344
  cases ok344
  · rw [show b2i false = 0 from rfl]
    refine x_if_ne 22 20 hK rfl rfl rfl (by omega) (fun c => by omega) (fun _ => ?_)
    refine x_iconst 21 hK rfl rfl ?_
    have zn : gi h344 171 26 = (gi h344 171 26) := rfl
    exact x_zret hK rfl (by omega) ⟨false, q344, L344, (PR_rkF (by omega) pr344), rfl, hG344, hF344, eq344, ⟨by omega, by omega⟩, ⟨by rw [zn]; omega, by rw [zn]; omega⟩, nofun⟩
  · rw [show b2i true = 1 from rfl]
    obtain ⟨lt344, ed344, cl344⟩ := sc344 rfl
    refine x_if_ne 22 20 hK rfl rfl rfl (by omega) (fun _ => ?_) (fun c => by omega)
    refine x_iconst 23 hK rfl rfl ?_
    refine x_istore_n 24 hK rfl rfl [(2, .int (I 1)), (0, .ref 171), (1, .int (I 0))] rfl ?_
    refine x_iload_n 25 hK rfl rfl rfl ?_
    refine x_if_eq 113 28 hK rfl rfl rfl (by omega) (fun c => by omega) (fun _ => ?_)
    have zn : gi h344 171 26 = (gi h344 171 26) := rfl
    have zq : gi h344 171 18 = q344 := eq344
    exact loop _  _ _ rfl (ed344) (by rw [zq]; omega) (by rw [zn, zq]; omega) (⟨L344, by rw [cl344], fun ok q L' z => by rw [zq] at z; exact PR_rkT (by omega) pr344 z⟩) rfl rfl rfl (hG344) (hF344)
theorem reads_allG (hSP : MONO SPt) {sh : List (Nat × Nat)} : ∀ m : Nat, (∀ {h : aH}, GD gE gRL sh h → (gi h 171 26 ≤ gi h 171 18 ∧ gi h 171 18 ≤ gi h 171 19) → (gi h 171 19 - gi h 171 18).toNat ≤ m → CLd SPt (5 * m + 5) mX11_readsThing [.ref 171] h 0 0 (RSG sh h 3)) ∧ (∀ {h : aH}, GD gE gRL sh h → (gi h 171 26 ≤ gi h 171 18 ∧ gi h 171 18 ≤ gi h 171 19) → (gi h 171 19 - gi h 171 18).toNat ≤ m → CLd SPt (5 * m + 9) mX11_readsRank [.ref 171, .int (I 0)] h 0 0 (RSG sh h 0)) := by
  intro m
  induction m using Nat.strongRecOn with
  | ind m ih =>
    have hT : ∀ {h : aH}, GD gE gRL sh h → (gi h 171 26 ≤ gi h 171 18 ∧ gi h 171 18 ≤ gi h 171 19) → (gi h 171 19 - gi h 171 18).toNat ≤ m → CLd SPt (5 * m + 5) mX11_readsThing [.ref 171] h 0 0 (RSG sh h 3) := fun hG hA hm => ctX11_readsThingG hSP (fun m' h' => (ih m' h').1) (fun m' h' => (ih m' h').2) hG hA hm
    have h3 : ∀ {h : aH}, GD gE gRL sh h → (gi h 171 26 ≤ gi h 171 18 ∧ gi h 171 18 ≤ gi h 171 19) → (gi h 171 19 - gi h 171 18).toNat ≤ m → CLd SPt (5 * m + 6) mX11_readsRank [.ref 171, .int (I 3)] h 0 0 (RSG sh h 3) := fun hG hA hm => ctX11_readsRank3G hSP hT hG hA hm
    have h2 : ∀ {h : aH}, GD gE gRL sh h → (gi h 171 26 ≤ gi h 171 18 ∧ gi h 171 18 ≤ gi h 171 19) → (gi h 171 19 - gi h 171 18).toNat ≤ m → CLd SPt (5 * m + 7) mX11_readsRank [.ref 171, .int (I 2)] h 0 0 (RSG sh h 2) := fun hG hA hm => ctX11_readsRank2G hSP h3 hG hA hm
    have h1 : ∀ {h : aH}, GD gE gRL sh h → (gi h 171 26 ≤ gi h 171 18 ∧ gi h 171 18 ≤ gi h 171 19) → (gi h 171 19 - gi h 171 18).toNat ≤ m → CLd SPt (5 * m + 8) mX11_readsRank [.ref 171, .int (I 1)] h 0 0 (RSG sh h 1) := fun hG hA hm => ctX11_readsRank1G hSP h2 hG hA hm
    exact ⟨hT, fun hG hA hm => ctX11_readsRank0G hSP h1 hG hA hm⟩
end
section
/-! THE RULE as the reader reads it -/
theorem su_r {u : Nat} (hu : u = 11 ∨ u = 14) : gRL[u]? = some 8 ∧ gRL[u + 1]? = some 9 := by rcases hu with rfl | rfl <;> decide
theorem su_p {u : Nat} {h : aH} (hP : PT h) (hu : u = 11 ∨ u = 14) : aR h u 0 = some (u + 1) := by
  obtain ⟨_, _, _, _, _, _, ⟨c9, _⟩, d2, _⟩ := hP
  rcases hu with rfl | rfl
  · exact c9
  · exact d2
noncomputable def cdL (h : aH) (u n : Nat) : List Int := (List.range n).map (gi h (u + 1))
noncomputable def wtL (h : aH) : Nat → List Int
  | 0 => []
  | n + 1 => gi h 18 n :: wtL h n
theorem cdL_s {h h' : aH} {u n : Nat} {v : Int} (h1 : gi h' (u + 1) n = v) (h2 : ∀ j, j < n → gi h' (u + 1) j = gi h (u + 1) j) : cdL h' u (n + 1) = cdL h u n ++ [v] := by
  unfold cdL
  rw [List.range_succ, List.map_append, List.map_cons, List.map_nil, h1]
  congr 1
  exact List.map_congr_left fun j hj => h2 j (List.mem_range.mp hj)
theorem cdL_e {h h' : aH} {u n : Nat} (h2 : ∀ j, j < n → gi h' (u + 1) j = gi h (u + 1) j) : cdL h' u n = cdL h u n := by
  unfold cdL
  exact List.map_congr_left fun j hj => h2 j (List.mem_range.mp hj)
noncomputable def touB (M : MD) : Option Nat → Bool
  | some r => M.any fun q => Nat.beq q.2.1 r
  | none => false
theorem frm_o {M : MD} {h h' : aH} (hF : FRM gRL M h h') (as : List Nat) (hm : ((List.range 202).all fun a => decide (a ∈ as) || !touB M gRL[a]?) = true) {a : Nat} (ha : a ∉ as) (k : Nat) : gi h' a k = gi h a k := by
  show (aI h' a k).toInt = (aI h a k).toInt
  rw [hF.1 a k fun r hr => by
    have la : a < 202 := (List.getElem?_eq_some_iff.mp hr).1
    have z := List.all_eq_true.mp hm a (List.mem_range.mpr la)
    rw [hr, decide_eq_false ha, Bool.false_or] at z
    cases hc : mHas M 0 r k with
    | false => rfl
    | true =>
      obtain ⟨q, hq, h2⟩ := List.any_eq_true.mp hc
      simp only [Bool.and_eq_true, Nat.beq_eq] at h2
      have y : touB M (some r) = true := List.any_eq_true.mpr ⟨q, hq, Nat.beq_eq.mpr h2.1.1.2⟩
      rw [y] at z
      cases z]
theorem wtL_e {h h' : aH} : ∀ {n : Nat}, (∀ j, j < n → gi h' 18 j = gi h 18 j) → wtL h' n = wtL h n
  | 0, _ => rfl
  | n + 1, h2 => by
    show gi h' 18 n :: wtL h' n = gi h 18 n :: wtL h n
    rw [h2 n (by omega), wtL_e fun j hj => h2 j (by omega)]
set_option maxRecDepth 4000 in
theorem ctX4_add {SP : CT} (hSP : MONO SP) {sh : List (Nat × Nat)} {h : aH} (hG : GD gE gRL sh h) {u : Nat} (hP : PT h) (hu : u = 11 ∨ u = 14) {v : Int} (hv : r32 v) (hn : gi h u 1 < 40) : CLd SP 1 mX4_add [.ref u, .int (I v)] h 0 0 (fun rv h' => rv = none ∧ GD gE gRL sh h' ∧ FRM gRL [(0, 8, 1, 1), (0, 9, 0, 39)] h h' ∧ gi h' u 1 = gi h u 1 + 1 ∧ gi h' (u + 1) (gi h u 1).toNat = v ∧ (∀ j, j < (gi h u 1).toNat → gi h' (u + 1) j = gi h (u + 1) j) ∧ ∀ a k : Nat, a ≠ u → a ≠ u + 1 → gi h' a k = gi h a k) := by
  refine x_met _ rfl (Nat.le_of_ble_eq_true rfl) (fun K hK => ?_)
  have hmono := MONO_CLd hSP 0
  have gn := gri 0 40 hG (a := u) (r := 8) (k := 1) (su_r hu).1 rfl
  refine x_aload_n 1 hK rfl rfl rfl ?_
  have g292 := gri (0) (40) hG (a := u) (r := 8) (k := 1) (su_r hu).1 rfl
  refine x_getE 4 hK rfl (Or.inl rfl) rfl (shx (h := h) hG (r := 8) (su_r hu).1 rfl) (e := (gi h u 1)) (rfl) ?_
  refine x_bipush 6 hK rfl rfl rfl ?_
  refine x_if_icmp_ge 29 9 hK rfl rfl rfl (by omega) (by omega) (fun c4 => ?_) (fun c4 => ?_)
  · exact absurd hn (by omega)
  · refine x_aload_n 10 hK rfl rfl rfl ?_
    refine x_getR 13 hK rfl rfl (shx (h := h) hG (r := 8) (su_r hu).1 rfl) (su_p hP hu) ?_
    refine x_aload_n 14 hK rfl rfl rfl ?_
    refine x_getE 17 hK rfl (Or.inl rfl) rfl (shx (h := h) hG (r := 8) (su_r hu).1 rfl) (e := (gi h u 1)) (rfl) ?_
    refine x_iload_n 18 hK rfl rfl rfl ?_
    refine x_iastore 19 hK rfl rfl (shx (h := h) hG (r := 9) (su_r hu).2 rfl) (by omega) (by omega) (by omega) ?_
    refine x_aload_n 20 hK rfl rfl rfl ?_
    refine x_dup 21 hK rfl rfl rfl ?_
    refine x_getE 24 hK rfl (Or.inl rfl) rfl (shx (h := h) hG (r := 8) (su_r hu).1 rfl) (e := (gi h u 1)) (gi_a (by omega) _) ?_
    refine x_iconst 25 hK rfl rfl ?_
    refine x_iadd 26 hK rfl rfl ?_
    refine x_putI 29 hK rfl rfl (shx (h := h) hG (r := 8) (su_r hu).1 rfl) ?_
    exact x_vret hK rfl ⟨rfl, GD_w1 (GD_wn (hG) (r := 9) (su_r hu).2 rfl) (r := 8) (su_r hu).1 (by omega) rfl (by omega) (by omega), FRM_w (FRM_wn 0 39 ((FRM.rf : FRM gRL [(0, 8, 1, 1), (0, 9, 0, 39)] h h)) (r := 9) (su_r hu).2 rfl rfl (by omega) (by omega)) (r := 8) (su_r hu).1 rfl, gi_same (by omega), (gi_a (by omega) _).trans (gi_same (by omega)), fun j hj => (gi_a (by omega) _).trans (gi_k (by omega) _), fun a k n1 n2 => (gi_a (by omega) _).trans (gi_a (by omega) _)⟩
set_option maxRecDepth 4000 in
theorem ctX5_holdF {SP : CT} (hSP : MONO SP) {sh : List (Nat × Nat)} {h : aH} (hG : GD gE gRL sh h) {v : Int} (hv : r32 v) (hn : gi h 17 1 < 40) : CLd SP 1 mX5_hold [.ref 17, .int (I v)] h 0 0 (fun rv h' => rv = none ∧ GD gE gRL sh h' ∧ FRM gRL [(0, 11, 1, 1), (0, 12, 0, 39)] h h' ∧ gi h' 17 1 = gi h 17 1 + 1 ∧ wtL h' (gi h 17 1 + 1).toNat = v :: wtL h (gi h 17 1).toNat) := by
  refine x_met _ rfl (Nat.le_of_ble_eq_true rfl) (fun K hK => ?_)
  have hmono := MONO_CLd hSP 0
  have gn := gri 0 40 hG (a := 17) (r := 11) (k := 1) rfl rfl
  refine x_aload_n 1 hK rfl rfl rfl ?_
  have g293 := gri (0) (40) hG (a := 17) (r := 11) (k := 1) rfl rfl
  refine x_getE 4 hK rfl (Or.inl rfl) rfl (sp_17 (h := h) hG) (e := (gi h 17 1)) (rfl) ?_
  refine x_bipush 6 hK rfl rfl rfl ?_
  refine x_if_icmp_ge 29 9 hK rfl rfl rfl (by omega) (by omega) (fun c4 => ?_) (fun c4 => ?_)
  · exact absurd hn (by omega)
  · refine x_aload_n 10 hK rfl rfl rfl ?_
    refine x_getR 13 hK rfl rfl (sp_17 (h := h) hG) (rf_17_0 (h := h) hG) ?_
    refine x_aload_n 14 hK rfl rfl rfl ?_
    refine x_getE 17 hK rfl (Or.inl rfl) rfl (sp_17 (h := h) hG) (e := (gi h 17 1)) (rfl) ?_
    refine x_iload_n 18 hK rfl rfl rfl ?_
    refine x_iastore 19 hK rfl rfl (sp_18 (h := h) hG) (by omega) (by omega) (by omega) ?_
    refine x_aload_n 20 hK rfl rfl rfl ?_
    refine x_dup 21 hK rfl rfl rfl ?_
    refine x_getE 24 hK rfl (Or.inl rfl) rfl (sp_17 (h := h) hG) (e := (gi h 17 1)) (gi_a (by decide) _) ?_
    refine x_iconst 25 hK rfl rfl ?_
    refine x_iadd 26 hK rfl rfl ?_
    refine x_putI 29 hK rfl rfl (sp_17 (h := h) hG) ?_
    have y1 : gi (wI (wI h 18 (gi h 17 1).toNat v) 17 1 ((gi h 17 1) + 1)) 18 (gi h 17 1).toNat = v := (gi_a (by decide) _).trans (gi_same (by omega))
    have y2 : wtL (wI (wI h 18 (gi h 17 1).toNat v) 17 1 ((gi h 17 1) + 1)) (gi h 17 1).toNat = wtL h (gi h 17 1).toNat := wtL_e fun j hj => (gi_a (by decide) _).trans (gi_k (by omega) _)
    exact x_vret hK rfl ⟨rfl, GD_w1 (GD_wn (hG) (r := 12) rfl rfl) (r := 11) rfl (by omega) rfl (by omega) (by omega), FRM_w (FRM_wn 0 39 ((FRM.rf : FRM gRL [(0, 11, 1, 1), (0, 12, 0, 39)] h h)) (r := 12) rfl rfl rfl (by omega) (by omega)) (r := 11) rfl rfl, gi_same (by omega), by rw [tn_s gn.1]; show gi (wI (wI h 18 (gi h 17 1).toNat v) 17 1 ((gi h 17 1) + 1)) 18 (gi h 17 1).toNat :: wtL (wI (wI h 18 (gi h 17 1).toNat v) 17 1 ((gi h 17 1) + 1)) (gi h 17 1).toNat = _; rw [y1, y2]⟩
theorem popS_t {r : Nat} {s : Int} {t : List Int} (h : r ≤ rkI s) : popS r (s :: t) = s :: popS r t := if_pos h
theorem rstS_t {r : Nat} {s : Int} {t : List Int} (h : r ≤ rkI s) : rstS r (s :: t) = rstS r t := if_pos h
theorem rkI_b (s : Int) : rkI s ≤ 4 := by unfold rkI; (repeat' split) <;> omega
set_option maxRecDepth 4000 in
theorem ctX5_rankF {SP : CT} (hSP : MONO SP) {h : aH} {s : Int} (hs : r32 s) : CLd SP 1 mX5_rank [.int (I s)] h 0 0 (fun rv h' => h' = h ∧ rv = some (.int (I (rkI s : Int)))) := by
  refine x_met _ rfl (Nat.le_of_ble_eq_true rfl) (fun K hK => ?_)
  have hmono := MONO_CLd hSP 0
  refine x_iload_n 1 hK rfl rfl rfl ?_
  refine x_lsw hK rfl (by omega) (l := [(42, 79), (43, 77), (45, 77), (47, 79), (60, 75), (61, 75), (62, 75), (256, 81)]) rfl ?_
  rw [Op.lookupswitch.offset_cons]
  by_cases e1_0 : (42 : Int) = s
  · rw [if_pos e1_0]
    show K 80 _ _ _ _ _
    refine x_iconst 81 hK rfl rfl ?_
    have e9 : rkI s = 3 := by unfold rkI; (repeat' split) <;> omega
    exact x_iret hK rfl ⟨rfl, by rw [e9]; rfl⟩
  rw [if_neg e1_0]
  rw [Op.lookupswitch.offset_cons]
  by_cases e1_1 : (43 : Int) = s
  · rw [if_pos e1_1]
    show K 78 _ _ _ _ _
    refine x_iconst 79 hK rfl rfl ?_
    have e9 : rkI s = 2 := by unfold rkI; (repeat' split) <;> omega
    exact x_iret hK rfl ⟨rfl, by rw [e9]; rfl⟩
  rw [if_neg e1_1]
  rw [Op.lookupswitch.offset_cons]
  by_cases e1_2 : (45 : Int) = s
  · rw [if_pos e1_2]
    show K 78 _ _ _ _ _
    refine x_iconst 79 hK rfl rfl ?_
    have e9 : rkI s = 2 := by unfold rkI; (repeat' split) <;> omega
    exact x_iret hK rfl ⟨rfl, by rw [e9]; rfl⟩
  rw [if_neg e1_2]
  rw [Op.lookupswitch.offset_cons]
  by_cases e1_3 : (47 : Int) = s
  · rw [if_pos e1_3]
    show K 80 _ _ _ _ _
    refine x_iconst 81 hK rfl rfl ?_
    have e9 : rkI s = 3 := by unfold rkI; (repeat' split) <;> omega
    exact x_iret hK rfl ⟨rfl, by rw [e9]; rfl⟩
  rw [if_neg e1_3]
  rw [Op.lookupswitch.offset_cons]
  by_cases e1_4 : (60 : Int) = s
  · rw [if_pos e1_4]
    show K 76 _ _ _ _ _
    refine x_iconst 77 hK rfl rfl ?_
    have e9 : rkI s = 1 := by unfold rkI; (repeat' split) <;> omega
    exact x_iret hK rfl ⟨rfl, by rw [e9]; rfl⟩
  rw [if_neg e1_4]
  rw [Op.lookupswitch.offset_cons]
  by_cases e1_5 : (61 : Int) = s
  · rw [if_pos e1_5]
    show K 76 _ _ _ _ _
    refine x_iconst 77 hK rfl rfl ?_
    have e9 : rkI s = 1 := by unfold rkI; (repeat' split) <;> omega
    exact x_iret hK rfl ⟨rfl, by rw [e9]; rfl⟩
  rw [if_neg e1_5]
  rw [Op.lookupswitch.offset_cons]
  by_cases e1_6 : (62 : Int) = s
  · rw [if_pos e1_6]
    show K 76 _ _ _ _ _
    refine x_iconst 77 hK rfl rfl ?_
    have e9 : rkI s = 1 := by unfold rkI; (repeat' split) <;> omega
    exact x_iret hK rfl ⟨rfl, by rw [e9]; rfl⟩
  rw [if_neg e1_6]
  rw [Op.lookupswitch.offset_cons]
  by_cases e1_7 : (256 : Int) = s
  · rw [if_pos e1_7]
    show K 82 _ _ _ _ _
    refine x_iconst 83 hK rfl rfl ?_
    have e9 : rkI s = 4 := by unfold rkI; (repeat' split) <;> omega
    exact x_iret hK rfl ⟨rfl, by rw [e9]; rfl⟩
  rw [if_neg e1_7]
  show K 84 _ _ _ _ _
  refine x_iconst 85 hK rfl rfl ?_
  have e9 : rkI s = 0 := by unfold rkI; (repeat' split) <;> omega
  exact x_iret hK rfl ⟨rfl, by rw [e9]; rfl⟩
set_option maxRecDepth 4000 in
theorem ctX5_releaseF {SP : CT} (hSP : MONO SP) {sh : List (Nat × Nat)} {h : aH} (hG : GD gE gRL sh h) {u : Nat} (hP : PT h) (hu : u = 11 ∨ u = 14) {r : Nat} (hr : r ≤ 4) (hs : gi h 17 1 + gi h u 1 ≤ 40) (hw : ∀ j : Nat, (j : Int) < gi h 17 1 → 0 ≤ gi h 18 j ∧ gi h 18 j ≤ 65535) : CLd SP 3 mX5_release [.ref 17, .int (I (r : Int)), .ref u] h 0 0 (fun rv h' => rv = none ∧ GD gE gRL sh h' ∧ FRM gRL [(0, 8, 1, 1), (0, 9, 0, 39), (0, 11, 1, 1)] h h' ∧ cdL h' u (gi h' u 1).toNat = (cdL h u (gi h u 1).toNat) ++ ngs (popS r (wtL h (gi h 17 1).toNat)) ∧ wtL h' (gi h' 17 1).toNat = rstS r (wtL h (gi h 17 1).toNat) ∧ gi h' 17 1 + gi h' u 1 = gi h 17 1 + gi h u 1 ∧ ∀ a k : Nat, a ≠ 17 → a ≠ u → a ≠ u + 1 → gi h' a k = gi h a k) := by
  refine x_met _ rfl (Nat.le_of_ble_eq_true rfl) (fun K hK => ?_)
  have hmono := MONO_CLd hSP 2
  have loop : ∀ (mz : Nat) (w n : Int) (h4 : aH) (ls : List (Nat × Value)), (w.toNat = mz) → (0 ≤ w ∧ w ≤ gi h 17 1) → (0 ≤ n ∧ n ≤ 40) → (w + n = gi h 17 1 + gi h u 1) → (gi h4 17 1 = w) → (gi h4 u 1 = n) → (cdL h4 u n.toNat ++ ngs (popS r (wtL h4 w.toNat)) = (cdL h u (gi h u 1).toNat) ++ ngs (popS r (wtL h (gi h 17 1).toNat))) → (rstS r (wtL h4 w.toNat) = rstS r (wtL h (gi h 17 1).toNat)) → (∀ a k : Nat, a ≠ 17 → a ≠ u → a ≠ u + 1 → gi h4 a k = gi h a k) → lk ls 0 = some (.ref 17) → lk ls 1 = some (.int (I (r : Int))) → lk ls 2 = some (.ref u) → GD gE gRL sh h4 → FRM gRL [(0, 8, 1, 1), (0, 9, 0, 39), (0, 11, 1, 1)] h h4 → K 0 ls [] h4 0 0 := by
    intro mz
    induction mz using Nat.strongRecOn with
    | ind mz ih =>
    intro w n h4 ls hm w0 n0 wn dw dn e1 e2 oa l0 l1 l2 hG4 hF4
    have wx : 0 < w → wtL h4 w.toNat = gi h 18 (w - 1).toNat :: wtL h4 (w - 1).toNat := fun z => by rw [show w.toNat = (w - 1).toNat + 1 by omega, ← FRM_gi hF4 (a := 18) (r := 12) rfl rfl]; rfl
    have gw := gri 0 40 hG (a := 17) (r := 11) (k := 1) rfl rfl
    have gx : 0 < w → 0 ≤ gi h 18 (w - 1).toNat ∧ gi h 18 (w - 1).toNat ≤ 65535 := fun z => hw _ (by omega)
    refine x_aload_n 1 hK rfl rfl l0 ?_
    refine x_getE 4 hK rfl (Or.inl rfl) rfl (sp_17 (h := h4) hG4) (e := w) (dw) ?_
    refine x_if_le 52 7 hK rfl rfl rfl (by omega) (fun c3 => ?_) (fun c3 => ?_)
    · have pe : popS r (wtL h4 w.toNat) = [] ∧ rstS r (wtL h4 w.toNat) = wtL h4 w.toNat := by
        by_cases z : 0 < w
        · rw [wx z]
          unfold popS rstS
          exact ⟨if_neg (by omega), if_neg (by omega)⟩
        · rw [show w.toNat = 0 by omega]
          exact ⟨rfl, rfl⟩
      rw [pe.1] at e1
      rw [pe.2] at e2
      exact x_vret hK rfl ⟨rfl, hG4, hF4, by rw [dn]; exact (List.append_nil _).symm.trans e1, by rw [dw]; exact e2, by rw [dw, dn]; exact wn, oa⟩
    · refine x_aload_n 8 hK rfl rfl l0 ?_
      refine x_getR 11 hK rfl rfl (sp_17 (h := h4) hG4) (rf_17_0 (h := h4) hG4) ?_
      refine x_aload_n 12 hK rfl rfl l0 ?_
      refine x_getE 15 hK rfl (Or.inl rfl) rfl (sp_17 (h := h4) hG4) (e := w) (dw) ?_
      refine x_iconst 16 hK rfl rfl ?_
      refine x_isub 17 hK rfl rfl ?_
      have g294 := gi_r h 18 (w - 1).toNat
      refine x_ialoadE 18 hK rfl rfl (sp_18 (h := h4) hG4) (by omega) (by omega) (by omega) (e' := (gi h 18 (w - 1).toNat)) (FRM_gi hF4 (r := 12) rfl rfl) ?_
      refine x_callS 21 hK hmono rfl (Or.inl rfl) rfl [.int (I (gi h 18 (w - 1).toNat))] [] rfl rfl (Nat.le_of_ble_eq_true rfl) (Nat.le_of_ble_eq_true rfl) (CLd_le (Nat.le_of_ble_eq_true rfl) (ctX5_rankF hSP (by omega))) ?_
      rintro v9 h9 ⟨e9, rfl⟩
      rw [e9]
      clear e9
      have rk295 := rkI_b (gi h 18 (w - 1).toNat)
      refine x_iload_n 22 hK rfl rfl l1 ?_
      refine x_if_icmp_lt 52 25 hK rfl rfl rfl (by omega) (by omega) (fun c14 => ?_) (fun c14 => ?_)
      · have pe : popS r (wtL h4 w.toNat) = [] ∧ rstS r (wtL h4 w.toNat) = wtL h4 w.toNat := by
          by_cases z : 0 < w
          · rw [wx z]
            unfold popS rstS
            exact ⟨if_neg (by omega), if_neg (by omega)⟩
          · rw [show w.toNat = 0 by omega]
            exact ⟨rfl, rfl⟩
        rw [pe.1] at e1
        rw [pe.2] at e2
        exact x_vret hK rfl ⟨rfl, hG4, hF4, by rw [dn]; exact (List.append_nil _).symm.trans e1, by rw [dw]; exact e2, by rw [dw, dn]; exact wn, oa⟩
      · refine x_aload_n 26 hK rfl rfl l0 ?_
        refine x_dup 27 hK rfl rfl rfl ?_
        refine x_getE 30 hK rfl (Or.inl rfl) rfl (sp_17 (h := h4) hG4) (e := w) (dw) ?_
        refine x_iconst 31 hK rfl rfl ?_
        refine x_isub 32 hK rfl rfl ?_
        refine x_putI 35 hK rfl rfl (sp_17 (h := h4) hG4) ?_
        refine x_aload_n 36 hK rfl rfl l2 ?_
        refine x_aload_n 37 hK rfl rfl l0 ?_
        refine x_getR 40 hK rfl rfl (sp_17 (h := h4) hG4) (rf_17_0 (h := h4) hG4) ?_
        refine x_aload_n 41 hK rfl rfl l0 ?_
        refine x_getE 44 hK rfl (Or.inl rfl) rfl (sp_17 (h := h4) hG4) (e := (w - 1)) (gi_same (by omega)) ?_
        refine x_ialoadE 45 hK rfl rfl (sp_18 (h := h4) hG4) (by omega) (by omega) (by omega) (e' := (gi h 18 (w - 1).toNat)) ((gi_a (by decide) _).trans (FRM_gi hF4 (r := 12) rfl rfl)) ?_
        refine x_ineg 46 hK rfl rfl ?_
        have hGp296 : GD gE gRL sh (wI h4 17 1 (w - 1)) := GD_w1 (hG4) (r := 11) rfl (by omega) rfl (by omega) (by omega)
        have nn297 : gi (wI h4 17 1 (w - 1)) u 1 = n := (gi_a (by omega) _).trans (dn)
        refine x_callV 49 hK hmono rfl rfl [.ref u, .int (I (-(gi h 18 (w - 1).toNat)))] [] rfl rfl (Nat.le_of_ble_eq_true rfl) (Nat.le_of_ble_eq_true rfl) rfl (shx (h := h4) hG4 (r := 8) (su_r hu).1 rfl) (CLd_le (Nat.le_of_ble_eq_true rfl) (ctX4_add hSP hGp296 (show PT h4 from (PT_F hF4 (by decide) hP)) hu (by omega) (by omega))) ?_
        rw [nn297]
        rintro v297 h297 ⟨rfl, hG297, hF297, t297, s297, o297, oa297⟩
        refine x_goto 0 hK rfl rfl ?_
        have wz : 0 < w := by omega
        rw [wx wz] at e1 e2
        rw [popS_t (by omega)] at e1
        rw [rstS_t (by omega)] at e2
        have y1 : cdL h297 u (n + 1).toNat = cdL h4 u n.toNat ++ [-(gi h 18 (w - 1).toNat)] := by
          rw [tn_s n0.1]
          refine (cdL_s (h := (wI h4 17 1 (w - 1))) s297 o297).trans ?_
          rw [cdL_e (h := h4) fun j hj => gi_a (by omega) _]
        have y2 : wtL h297 (w - 1).toNat = wtL h4 (w - 1).toNat := wtL_e fun j hj => ((FRM_gi hF297 (r := 12) rfl rfl).trans ((gi_a (by decide) _).trans (FRM_gi hF4 (r := 12) rfl rfl))).trans (FRM_gi hF4 (a := 18) (r := 12) rfl rfl).symm
        exact ih _ (by omega) (w - 1) (n + 1) _ _ rfl (by omega) (by omega) (by omega) ((FRM_gi hF297 (r := 11) rfl rfl).trans (gi_same (by omega))) (t297) (by rw [y1, y2, List.append_assoc]; exact e1) (by rw [y2]; exact e2) (fun a k n1 n2 n3 => (oa297 a k n2 n3).trans ((gi_a (by omega) _).trans (oa a k n1 n2 n3))) l0 l1 l2 (hG297) ((FRM_w (hF4) (r := 11) rfl rfl).trans ((hF297).mono rfl))
  have g1 := gri 0 40 hG (a := 17) (r := 11) (k := 1) rfl rfl
  have g2 := gri 0 40 hG (a := u) (r := 8) (k := 1) (su_r hu).1 rfl
  exact loop _ (gi h 17 1) (gi h u 1) h _ rfl (by omega) (by omega) rfl rfl rfl rfl rfl (fun _ _ _ _ _ => rfl) rfl rfl rfl hG FRM.rf
end
section
/-! A SIGN OF THE RULE -/
noncomputable def cBt (c : Int) (i : Nat) : Bool := decide (i ≤ 4) && decide (bAnd (bShr c i) 1 = 1)
theorem cB_clr : ∀ c : Nat, c < 32 → ∀ k : Nat, k < 5 → (0 ≤ bAnd c (bXor (bShl 1 k) (-1)) ∧ bAnd c (bXor (bShl 1 k) (-1)) ≤ 31) ∧ ∀ i : Nat, i < 5 → cBt (bAnd c (bXor (bShl 1 k) (-1))) i = if i = k then false else cBt c i := by decide +kernel
theorem cB_set : ∀ c : Nat, c < 32 → ∀ k : Nat, k < 5 → (0 ≤ bOr c (bShl 1 k) ∧ bOr c (bShl 1 k) ≤ 31) ∧ ∀ i : Nat, i < 5 → cBt (bOr c (bShl 1 k)) i = if i = k then true else cBt c i := by decide +kernel
theorem cB_or0 : ∀ c : Nat, c < 32 → bOr c 0 = c := by decide +kernel
theorem bOr_0 {c : Int} (hc : 0 ≤ c ∧ c ≤ 31) : bOr c 0 = c := by
  obtain ⟨n, rfl⟩ : ∃ n : Nat, c = n := ⟨c.toNat, by omega⟩
  exact cB_or0 n (by omega)
theorem cBt_no {c : Int} {i : Nat} (h : ¬ i ≤ 4) : cBt c i = false := by
  unfold cBt
  rw [decide_eq_false h]
  rfl
theorem cBt_0 : cBt 0 = fun _ => false := funext fun i => by
  by_cases h : i ≤ 4
  · have : ∀ i : Nat, i < 5 → cBt 0 i = false := by decide
    exact this i (by omega)
  · exact cBt_no h
theorem cBt_clr {c k : Int} (hc : 0 ≤ c ∧ c ≤ 31) (hk : 0 ≤ k ∧ k ≤ 4) : (0 ≤ bAnd c (bXor (bShl 1 k) (-1)) ∧ bAnd c (bXor (bShl 1 k) (-1)) ≤ 31) ∧ cBt (bAnd c (bXor (bShl 1 k) (-1))) = upB (cBt c) k.toNat false := by
  obtain ⟨n, rfl⟩ : ∃ n : Nat, c = n := ⟨c.toNat, by omega⟩
  obtain ⟨m, rfl⟩ : ∃ m : Nat, k = m := ⟨k.toNat, by omega⟩
  obtain ⟨h1, h2⟩ := cB_clr n (by omega) m (by omega)
  refine ⟨h1, funext fun i => ?_⟩
  by_cases h : i ≤ 4
  · exact h2 i (by omega)
  · rw [cBt_no h]
    unfold upB
    rw [if_neg (by omega), cBt_no h]
theorem cBt_set {c k : Int} (hc : 0 ≤ c ∧ c ≤ 31) (hk : 0 ≤ k ∧ k ≤ 4) : (0 ≤ bOr c (bShl 1 k) ∧ bOr c (bShl 1 k) ≤ 31) ∧ cBt (bOr c (bShl 1 k)) = upB (cBt c) k.toNat true := by
  obtain ⟨n, rfl⟩ : ∃ n : Nat, c = n := ⟨c.toNat, by omega⟩
  obtain ⟨m, rfl⟩ : ∃ m : Nat, k = m := ⟨k.toNat, by omega⟩
  obtain ⟨h1, h2⟩ := cB_set n (by omega) m (by omega)
  refine ⟨h1, funext fun i => ?_⟩
  by_cases h : i ≤ 4
  · exact h2 i (by omega)
  · rw [cBt_no h]
    unfold upB
    rw [if_neg (by omega), cBt_no h]
/-- how many brackets wait -/
noncomputable def brS : List Int → Nat
  | [] => 0
  | x :: t => (if x = 40 then 1 else 0) + brS t
/-- what may wait -/
noncomputable def wtP (x : Int) : Prop := x = 40 ∨ (0 < rkI x ∧ 0 ≤ x ∧ x ≤ 65535)
theorem rk40 {x : Int} (h : 0 < rkI x) : x ≠ 40 ∧ 0 ≤ x := by
  unfold rkI at h
  (repeat' split at h) <;> omega
theorem wtP_r {x : Int} (h : wtP x) : 0 ≤ x ∧ x ≤ 65535 := by
  rcases h with h | h
  · omega
  · exact h.2
theorem rst_sub {r : Nat} : ∀ {s : List Int}, (∀ x ∈ s, wtP x) → ∀ x ∈ rstS r s, wtP x
  | [], h => h
  | y :: t, h => by
    unfold rstS
    split
    · exact rst_sub fun x hx => h x (List.mem_cons_of_mem _ hx)
    · exact h
theorem rst_br {r : Nat} (hr : 1 ≤ r) : ∀ s : List Int, brS (rstS r s) = brS s
  | [] => rfl
  | y :: t => by
    unfold rstS
    split
    · rename_i c
      rw [rst_br hr t]
      show _ = (if y = 40 then 1 else 0) + brS t
      rw [if_neg (rk40 (by omega)).1, Nat.zero_add]
    · rfl
theorem rst_1 : ∀ {s : List Int}, (∀ x ∈ s, wtP x) → 0 < brS s → ∃ t, rstS 1 s = 40 :: t ∧ brS t + 1 = brS s
  | [], _, h => absurd h (by decide)
  | y :: t, h, hb => by
    unfold rstS
    have hb : 0 < (if y = 40 then 1 else 0) + brS t := hb
    by_cases c : y = 40
    · refine ⟨t, ?_, ?_⟩
      · rw [if_neg (by rw [c]; decide), c]
      · show _ = (if y = 40 then 1 else 0) + brS t
        rw [if_pos c]; omega
    · rw [if_neg c, Nat.zero_add] at hb
      have hy := (h y List.mem_cons_self).resolve_left c
      obtain ⟨u, e1, e2⟩ := rst_1 (fun x hx => h x (List.mem_cons_of_mem _ hx)) hb
      refine ⟨u, ?_, ?_⟩
      · rw [if_pos (by omega), e1]
      · show _ = (if y = 40 then 1 else 0) + brS t
        rw [if_neg c, Nat.zero_add, e2]
theorem wt_tl {h : aH} {n : Nat} {x : Int} {t : List Int} (e : wtL h n = x :: t) : 1 ≤ n ∧ wtL h (n - 1) = t := by
  cases n with
  | zero => exact absurd e (by show ¬ ([] : List Int) = x :: t; exact nofun)
  | succ m =>
    have e : gi h 18 m :: wtL h m = x :: t := e
    exact ⟨by omega, (List.cons.inj e).2⟩
theorem wt_at {h : aH} {s : List Int} (hs : ∀ x ∈ s, wtP x) : ∀ {n : Nat}, wtL h n = s → ∀ j, j < n → 0 ≤ gi h 18 j ∧ gi h 18 j ≤ 65535 := by
  have key : ∀ n j, j < n → gi h 18 j ∈ wtL h n := by
    intro n
    induction n with
    | zero => intro j hj; omega
    | succ n ih =>
      intro j hj
      show _ ∈ gi h 18 n :: wtL h n
      by_cases c : j = n
      · rw [c]; exact List.mem_cons_self
      · exact List.mem_cons_of_mem _ (ih j (by omega))
  intro n e j hj
  exact wtP_r (hs _ (e ▸ key n j hj))
/-- the heap stands for where the reader is -/
noncomputable def RdH (h : aH) (u : Nat) (p : Int) (q s : List Int) (d : Nat) (c : Nat → Bool) (w : Bool) : Prop := gi h 1 2 = p ∧ cdL h u (gi h u 1).toNat = q ∧ wtL h (gi h 17 1).toNat = s ∧ gi h 17 2 = (d : Int) ∧ cBt (gi h 17 3) = c ∧ gi h 17 4 = b2i w ∧ (0 ≤ gi h 17 3 ∧ gi h 17 3 ≤ 31) ∧ gi h 17 1 + gi h u 1 ≤ p ∧ (∀ x ∈ s, wtP x) ∧ brS s = d
set_option maxRecDepth 4000 in
theorem ctX5_takeThingF {SP : CT} (hSP : MONO SP) {sh : List (Nat × Nat)} {h : aH} (hG : GD gE gRL sh h) {u : Nat} (hP : PT h) (hu : u = 11 ∨ u = 14) {p : Int} {q s : List Int} {d : Nat} {c : Nat → Bool} (hR : RdH h u p q s d c true) (h40 : gi h 1 3 ≤ 40) (hp : 0 ≤ p) : CLd SP 5 mX5_takeThing [.ref 17, .ref 1, .ref u] h 0 0 (fun rv h' => ((∃ (p' : Int) (q' s' : List Int) (d' : Nat) (c' : Nat → Bool) (w' : Bool), mthg (fx h) p q s d c = some (p', q', s', d', c', w') ∧ rv = some (.int (I 1)) ∧ RdH h' u p' q' s' d' c' w' ∧ p < p' ∧ p' ≤ gi h 1 3) ∨ (mthg (fx h) p q s d c = none ∧ rv = some (.int (I 0)) ∧ h' = h)) ∧ GD gE gRL sh h' ∧ FRM gRL [(0, 1, 2, 2), (0, 1, 5, 5), (0, 8, 1, 1), (0, 9, 0, 39), (0, 11, 1, 4), (0, 12, 0, 39)] h h' ∧ ∀ a k : Nat, a ≠ 1 → a ≠ 17 → a ≠ 18 → a ≠ u → a ≠ u + 1 → gi h' a k = gi h a k) := by
  refine x_met _ rfl (Nat.le_of_ble_eq_true rfl) (fun K hK => ?_)
  have hmono := MONO_CLd hSP 4
  obtain ⟨e1, e2, e3, e4, e5, e6, hc, en, ew, eb⟩ := hR
  have fe0 := fx_end h
  have pl : fx h p < 0 ∨ p < gi h 1 3 := by
    by_cases z : gi h 1 3 ≤ p
    · have := fx_end h p z; omega
    · omega
  have gn := gri 0 40 hG (a := u) (r := 8) (k := 1) (su_r hu).1 rfl
  have gw0 := gri 0 40 hG (a := 17) (r := 11) (k := 1) rfl rfl
  have gd0 := gri 0 4 hG (a := 17) (r := 11) (k := 2) rfl rfl
  refine x_aload_n 1 hK rfl rfl rfl ?_
  have at298 : gi h 1 2 = p := e1
  have fe298 : fx h = (fx h) := rfl
  refine x_callV 4 hK hmono rfl rfl [.ref 1] [] rfl rfl (Nat.le_of_ble_eq_true rfl) (Nat.le_of_ble_eq_true rfl) rfl (sp_1 (h := h) hG) (CLd_le (Nat.le_of_ble_eq_true rfl) (ctX9_next hSP hG)) ?_
  rw [fe298, at298]
  rintro v9 h9 ⟨e9, rfl⟩
  rw [e9]
  clear e9
  have fr298 := fx_r hG p
  refine x_istore_n 5 hK rfl rfl [(3, .int (I ((fx h) p))), (0, .ref 17), (1, .ref 1), (2, .ref u)] rfl ?_
  refine x_iload_n 6 hK rfl rfl rfl ?_
  refine x_callS 9 hK hmono rfl (Or.inr rfl) rfl [.int (I ((fx h) p))] [] rfl rfl (Nat.le_of_ble_eq_true rfl) (Nat.le_of_ble_eq_true rfl) (CLd_le (Nat.le_of_ble_eq_true rfl) (ctX10_isDigit hSP (by omega))) ?_
  rintro v9 h9 ⟨e9, ⟨rfl, i1, i2⟩ | ⟨rfl, i1⟩⟩ <;> rw [e9] <;> clear e9
  · refine x_if_eq 28 12 hK rfl rfl rfl (by omega) (fun c => by omega) (fun _ => ?_)
    refine x_aload_n 13 hK rfl rfl rfl ?_
    refine x_aload_n 14 hK rfl rfl rfl ?_
    refine x_iconst 15 hK rfl rfl ?_
    have at299 : gi h 1 2 = p := e1
    have fe299 : fx h = (fx h) := rfl
    have to299 : gi h 1 3 = (gi h 1 3) := rfl
    have mo299 : gi h 1 4 = (gi h 1 4) := rfl
    refine x_callV 18 hK hmono rfl rfl [.ref 1, .int (I 3)] [.ref u] rfl rfl (Nat.le_of_ble_eq_true rfl) (Nat.le_of_ble_eq_true rfl) rfl (sp_1 (h := h) hG) (CLd_le (Nat.le_of_ble_eq_true rfl) (ctX9_takeNumber hSP hG (n := 3) (by omega))) ?_
    rw [fe299, at299, to299, mo299]
    rintro v299 h299 ⟨⟨e299, rfl, nu299, ne299⟩, hG299, hF299, np299, nc299, nd299⟩
    have nm299 : nmF (fx h) 3 p = (e299, gi h299 1 2) := by rw [nu299, np299]; rfl
    have nb299 : p ≤ gi h299 1 2 ∧ gi h299 1 2 ≤ (gi h 1 3) := by rw [np299]; exact ⟨(tkv_lb _ _ _ _).1, tkv_sp fe0 _ _ _ (by first | omega | (have q := fe0 p; omega))⟩
    have nz299 : 0 ≤ e299 → p < gi h299 1 2 := fun z => by have := nmF_n (f := (fx h)) (n := 3) (p := p) (by rw [nm299]; exact z); rw [nm299] at this; exact this
    have ny299 : e299 = -1 → gi h299 1 2 = p := fun z => by
      rw [np299]
      by_cases c : (tkv (fx h) (Int.toNat 3) p 0).2 = p
      · exact c
      · rw [if_neg c] at nu299
        have := tkv_nn (f := (fx h)) (Int.toNat 3) p 0 (by omega)
        omega
    clear nu299 np299
    generalize eq299 : gi h299 1 2 = p299 at *
    have g301 := gri (0) (40) hG (a := u) (r := 8) (k := 1) (su_r hu).1 rfl
    have nn300 : gi h299 u 1 = (gi h u 1) := FRM_gi hF299 (r := 8) (su_r hu).1 rfl
    have lo300 : cdL h299 u ((gi h u 1)).toNat = q := (cdL_e (h := h) fun j hj => FRM_gi hF299 (r := 9) (su_r hu).2 rfl).trans e2
    refine x_callV 21 hK hmono rfl rfl [.ref u, .int (I e299)] [] rfl rfl (Nat.le_of_ble_eq_true rfl) (Nat.le_of_ble_eq_true rfl) rfl (shx (h := h299) hG299 (r := 8) (su_r hu).1 rfl) (CLd_le (Nat.le_of_ble_eq_true rfl) (ctX4_add hSP hG299 (show PT h299 from (PT_F hF299 (by decide) hP)) hu (by omega) (by omega))) ?_
    rw [nn300]
    rintro v300 h300 ⟨rfl, hG300, hF300, t300, s300, o300, oa300⟩
    have ol300 : cdL h300 u ((gi h u 1) + 1).toNat = q ++ [e299] := by
      rw [tn_s (by omega), ← lo300]
      exact cdL_s (h := h299) s300 o300
    refine x_aload_n 22 hK rfl rfl rfl ?_
    refine x_iconst 23 hK rfl rfl ?_
    refine x_putZ 26 hK rfl rfl (sp_17 (h := h300) hG300) (by omega) ?_
    refine x_iconst 27 hK rfl rfl ?_
    have m5 : p + 1 ≤ p299 := by
      have z : (nmF (fx h) 3 p).2 = p299 := by rw [nm299]
      rw [← z]
      show _ ≤ (tkv (fx h) 3 p 0).2
      rw [tkv_step ⟨i1, i2⟩]
      exact tkv_le _ _ _ _
    have z1 : gi (wI h300 17 4 0) 1 2 = p299 := (gi_a (by decide) _).trans ((FRM_gi hF300 (r := 1) rfl rfl).trans (eq299))
    have z2 : gi (wI h300 17 4 0) u 1 = ((gi h u 1) + 1) := (gi_a (by omega) _).trans (t300)
    have z3 : gi (wI h300 17 4 0) 17 1 = (gi h 17 1) := (gi_k (by decide) _).trans ((FRM_gi hF300 (r := 11) rfl rfl).trans (FRM_gi hF299 (r := 11) rfl rfl))
    have z4 : gi (wI h300 17 4 0) 17 2 = (d : Int) := (gi_k (by decide) _).trans ((FRM_gi hF300 (r := 11) rfl rfl).trans ((FRM_gi hF299 (r := 11) rfl rfl).trans (e4)))
    have z5 : gi (wI h300 17 4 0) 17 3 = (gi h 17 3) := (gi_k (by decide) _).trans ((FRM_gi hF300 (r := 11) rfl rfl).trans (FRM_gi hF299 (r := 11) rfl rfl))
    have z6 : gi (wI h300 17 4 0) 17 4 = (b2i false) := gi_same (by omega)
    have y1 : cdL (wI h300 17 4 0) u (((gi h u 1) + 1)).toNat = (q ++ [e299]) := (cdL_e (h := h300) fun j hj => gi_a (by first | decide | omega) _).trans ol300
    have y2 : wtL (wI h300 17 4 0) ((gi h 17 1)).toNat = s := (wtL_e (h := h) fun j hj => (gi_a (by first | decide | omega) _).trans ((FRM_gi hF300 (r := 12) rfl rfl).trans (FRM_gi hF299 (r := 12) rfl rfl))).trans e3
    have zr : 0 ≤ (gi h 17 3) ∧ (gi h 17 3) ≤ 31 := hc
    have zc : cBt (gi h 17 3) = c := e5
    exact x_zret hK rfl (by omega) ⟨Or.inl ⟨p299, (q ++ [e299]), s, d, c, false, by unfold mthg; rw [if_pos ⟨i1, i2⟩, nm299], rfl, ⟨z1, by rw [z2]; exact y1, by rw [z3]; exact y2, z4.trans (by omega), by rw [z5]; exact zc, z6, by rw [z5]; exact zr, by omega, ew, eb⟩, by omega, by omega⟩, GD_w1 (hG300) (r := 11) rfl (by omega) rfl (by omega) (by omega), FRM_w (((hF299).mono rfl).trans ((hF300).mono rfl)) (r := 11) rfl rfl, (fun a k n1 n2 n3 n4 n5 => (gi_a (by omega) _).trans ((oa300 a k n4 n5).trans (frm_o hF299 [1] (by decide +kernel) (by simp only [List.mem_cons, List.not_mem_nil, or_false]; omega) k)))⟩
  · refine x_if_eq 28 12 hK rfl rfl rfl (by omega) (fun _ => ?_) (fun c => by omega)
    refine x_iload_n 29 hK rfl rfl rfl ?_
    refine x_bipush 31 hK rfl rfl rfl ?_
    refine x_if_icmp_eq 52 34 hK rfl rfl rfl (by omega) (by omega) (fun c20 => ?_) (fun c20 => ?_)
    · refine x_aload_n 53 hK rfl rfl rfl ?_
      refine x_iload_n 54 hK rfl rfl rfl ?_
      refine x_ineg 55 hK rfl rfl ?_
      have g303 := gri (0) (40) hG (a := u) (r := 8) (k := 1) (su_r hu).1 rfl
      have nn302 : gi h u 1 = (gi h u 1) := rfl
      have lo302 : cdL h u ((gi h u 1)).toNat = q := (cdL_e (h := h) fun j hj => rfl).trans e2
      refine x_callV 58 hK hmono rfl rfl [.ref u, .int (I (-((fx h) p)))] [] rfl rfl (Nat.le_of_ble_eq_true rfl) (Nat.le_of_ble_eq_true rfl) rfl (shx (h := h) hG (r := 8) (su_r hu).1 rfl) (CLd_le (Nat.le_of_ble_eq_true rfl) (ctX4_add hSP hG (show PT h from hP) hu (by omega) (by omega))) ?_
      rw [nn302]
      rintro v302 h302 ⟨rfl, hG302, hF302, t302, s302, o302, oa302⟩
      have ol302 : cdL h302 u ((gi h u 1) + 1).toNat = q ++ [(-((fx h) p))] := by
        rw [tn_s (by omega), ← lo302]
        exact cdL_s (h := h) s302 o302
      refine x_aload_n 59 hK rfl rfl rfl ?_
      refine x_iconst 60 hK rfl rfl ?_
      refine x_putZ 63 hK rfl rfl (sp_17 (h := h302) hG302) (by omega) ?_
      refine x_goto 133 hK rfl rfl ?_
      refine x_aload_n 134 hK rfl rfl rfl ?_
      refine x_dup 135 hK rfl rfl rfl ?_
      refine x_getE 138 hK rfl (Or.inl rfl) rfl (sp_1 (h := h302) hG302) (e := p) ((gi_a (by decide) _).trans ((FRM_gi hF302 (r := 1) rfl rfl).trans (e1))) ?_
      refine x_iconst 139 hK rfl rfl ?_
      refine x_iadd 140 hK rfl rfl ?_
      refine x_putI 143 hK rfl rfl (sp_1 (h := h302) hG302) ?_
      refine x_iconst 144 hK rfl rfl ?_
      have z1 : gi (wI (wI h302 17 4 0) 1 2 (p + 1)) 1 2 = (p + 1) := gi_same (by omega)
      have z2 : gi (wI (wI h302 17 4 0) 1 2 (p + 1)) u 1 = ((gi h u 1) + 1) := (gi_a (by omega) _).trans ((gi_a (by omega) _).trans (t302))
      have z3 : gi (wI (wI h302 17 4 0) 1 2 (p + 1)) 17 1 = (gi h 17 1) := (gi_a (by decide) _).trans ((gi_k (by decide) _).trans (FRM_gi hF302 (r := 11) rfl rfl))
      have z4 : gi (wI (wI h302 17 4 0) 1 2 (p + 1)) 17 2 = (d : Int) := (gi_a (by decide) _).trans ((gi_k (by decide) _).trans ((FRM_gi hF302 (r := 11) rfl rfl).trans (e4)))
      have z5 : gi (wI (wI h302 17 4 0) 1 2 (p + 1)) 17 3 = (gi h 17 3) := (gi_a (by decide) _).trans ((gi_k (by decide) _).trans (FRM_gi hF302 (r := 11) rfl rfl))
      have z6 : gi (wI (wI h302 17 4 0) 1 2 (p + 1)) 17 4 = (b2i false) := (gi_a (by decide) _).trans (gi_same (by omega))
      have y1 : cdL (wI (wI h302 17 4 0) 1 2 (p + 1)) u (((gi h u 1) + 1)).toNat = (q ++ [(-((fx h) p))]) := (cdL_e (h := h302) fun j hj => (gi_a (by first | decide | omega) _).trans (gi_a (by first | decide | omega) _)).trans ol302
      have y2 : wtL (wI (wI h302 17 4 0) 1 2 (p + 1)) ((gi h 17 1)).toNat = s := (wtL_e (h := h) fun j hj => (gi_a (by first | decide | omega) _).trans ((gi_a (by first | decide | omega) _).trans (FRM_gi hF302 (r := 12) rfl rfl))).trans e3
      have zr : 0 ≤ (gi h 17 3) ∧ (gi h 17 3) ≤ 31 := hc
      have zc : cBt (gi h 17 3) = c := e5
      exact x_zret hK rfl (by omega) ⟨Or.inl ⟨(p + 1), (q ++ [(-((fx h) p))]), s, d, c, false, by unfold mthg; rw [if_neg (by omega), if_pos (by unfold askI; omega)], rfl, ⟨z1, by rw [z2]; exact y1, by rw [z3]; exact y2, z4.trans (by omega), by rw [z5]; exact zc, z6, by rw [z5]; exact zr, by omega, ew, eb⟩, by omega, by omega⟩, GD_w0 (GD_w1 (hG302) (r := 11) rfl (by omega) rfl (by omega) (by omega)) (r := 1) rfl rfl, FRM_w (FRM_w ((hF302).mono rfl) (r := 11) rfl rfl) (r := 1) rfl rfl, (fun a k n1 n2 n3 n4 n5 => (gi_a (by omega) _).trans ((gi_a (by omega) _).trans (oa302 a k n4 n5)))⟩
    · refine x_iload_n 35 hK rfl rfl rfl ?_
      refine x_bipush 37 hK rfl rfl rfl ?_
      refine x_if_icmp_eq 52 40 hK rfl rfl rfl (by omega) (by omega) (fun c39 => ?_) (fun c39 => ?_)
      · refine x_aload_n 53 hK rfl rfl rfl ?_
        refine x_iload_n 54 hK rfl rfl rfl ?_
        refine x_ineg 55 hK rfl rfl ?_
        have g305 := gri (0) (40) hG (a := u) (r := 8) (k := 1) (su_r hu).1 rfl
        have nn304 : gi h u 1 = (gi h u 1) := rfl
        have lo304 : cdL h u ((gi h u 1)).toNat = q := (cdL_e (h := h) fun j hj => rfl).trans e2
        refine x_callV 58 hK hmono rfl rfl [.ref u, .int (I (-((fx h) p)))] [] rfl rfl (Nat.le_of_ble_eq_true rfl) (Nat.le_of_ble_eq_true rfl) rfl (shx (h := h) hG (r := 8) (su_r hu).1 rfl) (CLd_le (Nat.le_of_ble_eq_true rfl) (ctX4_add hSP hG (show PT h from hP) hu (by omega) (by omega))) ?_
        rw [nn304]
        rintro v304 h304 ⟨rfl, hG304, hF304, t304, s304, o304, oa304⟩
        have ol304 : cdL h304 u ((gi h u 1) + 1).toNat = q ++ [(-((fx h) p))] := by
          rw [tn_s (by omega), ← lo304]
          exact cdL_s (h := h) s304 o304
        refine x_aload_n 59 hK rfl rfl rfl ?_
        refine x_iconst 60 hK rfl rfl ?_
        refine x_putZ 63 hK rfl rfl (sp_17 (h := h304) hG304) (by omega) ?_
        refine x_goto 133 hK rfl rfl ?_
        refine x_aload_n 134 hK rfl rfl rfl ?_
        refine x_dup 135 hK rfl rfl rfl ?_
        refine x_getE 138 hK rfl (Or.inl rfl) rfl (sp_1 (h := h304) hG304) (e := p) ((gi_a (by decide) _).trans ((FRM_gi hF304 (r := 1) rfl rfl).trans (e1))) ?_
        refine x_iconst 139 hK rfl rfl ?_
        refine x_iadd 140 hK rfl rfl ?_
        refine x_putI 143 hK rfl rfl (sp_1 (h := h304) hG304) ?_
        refine x_iconst 144 hK rfl rfl ?_
        have z1 : gi (wI (wI h304 17 4 0) 1 2 (p + 1)) 1 2 = (p + 1) := gi_same (by omega)
        have z2 : gi (wI (wI h304 17 4 0) 1 2 (p + 1)) u 1 = ((gi h u 1) + 1) := (gi_a (by omega) _).trans ((gi_a (by omega) _).trans (t304))
        have z3 : gi (wI (wI h304 17 4 0) 1 2 (p + 1)) 17 1 = (gi h 17 1) := (gi_a (by decide) _).trans ((gi_k (by decide) _).trans (FRM_gi hF304 (r := 11) rfl rfl))
        have z4 : gi (wI (wI h304 17 4 0) 1 2 (p + 1)) 17 2 = (d : Int) := (gi_a (by decide) _).trans ((gi_k (by decide) _).trans ((FRM_gi hF304 (r := 11) rfl rfl).trans (e4)))
        have z5 : gi (wI (wI h304 17 4 0) 1 2 (p + 1)) 17 3 = (gi h 17 3) := (gi_a (by decide) _).trans ((gi_k (by decide) _).trans (FRM_gi hF304 (r := 11) rfl rfl))
        have z6 : gi (wI (wI h304 17 4 0) 1 2 (p + 1)) 17 4 = (b2i false) := (gi_a (by decide) _).trans (gi_same (by omega))
        have y1 : cdL (wI (wI h304 17 4 0) 1 2 (p + 1)) u (((gi h u 1) + 1)).toNat = (q ++ [(-((fx h) p))]) := (cdL_e (h := h304) fun j hj => (gi_a (by first | decide | omega) _).trans (gi_a (by first | decide | omega) _)).trans ol304
        have y2 : wtL (wI (wI h304 17 4 0) 1 2 (p + 1)) ((gi h 17 1)).toNat = s := (wtL_e (h := h) fun j hj => (gi_a (by first | decide | omega) _).trans ((gi_a (by first | decide | omega) _).trans (FRM_gi hF304 (r := 12) rfl rfl))).trans e3
        have zr : 0 ≤ (gi h 17 3) ∧ (gi h 17 3) ≤ 31 := hc
        have zc : cBt (gi h 17 3) = c := e5
        exact x_zret hK rfl (by omega) ⟨Or.inl ⟨(p + 1), (q ++ [(-((fx h) p))]), s, d, c, false, by unfold mthg; rw [if_neg (by omega), if_pos (by unfold askI; omega)], rfl, ⟨z1, by rw [z2]; exact y1, by rw [z3]; exact y2, z4.trans (by omega), by rw [z5]; exact zc, z6, by rw [z5]; exact zr, by omega, ew, eb⟩, by omega, by omega⟩, GD_w0 (GD_w1 (hG304) (r := 11) rfl (by omega) rfl (by omega) (by omega)) (r := 1) rfl rfl, FRM_w (FRM_w ((hF304).mono rfl) (r := 11) rfl rfl) (r := 1) rfl rfl, (fun a k n1 n2 n3 n4 n5 => (gi_a (by omega) _).trans ((gi_a (by omega) _).trans (oa304 a k n4 n5)))⟩
      · refine x_iload_n 41 hK rfl rfl rfl ?_
        refine x_bipush 43 hK rfl rfl rfl ?_
        refine x_if_icmp_eq 52 46 hK rfl rfl rfl (by omega) (by omega) (fun c58 => ?_) (fun c58 => ?_)
        · refine x_aload_n 53 hK rfl rfl rfl ?_
          refine x_iload_n 54 hK rfl rfl rfl ?_
          refine x_ineg 55 hK rfl rfl ?_
          have g307 := gri (0) (40) hG (a := u) (r := 8) (k := 1) (su_r hu).1 rfl
          have nn306 : gi h u 1 = (gi h u 1) := rfl
          have lo306 : cdL h u ((gi h u 1)).toNat = q := (cdL_e (h := h) fun j hj => rfl).trans e2
          refine x_callV 58 hK hmono rfl rfl [.ref u, .int (I (-((fx h) p)))] [] rfl rfl (Nat.le_of_ble_eq_true rfl) (Nat.le_of_ble_eq_true rfl) rfl (shx (h := h) hG (r := 8) (su_r hu).1 rfl) (CLd_le (Nat.le_of_ble_eq_true rfl) (ctX4_add hSP hG (show PT h from hP) hu (by omega) (by omega))) ?_
          rw [nn306]
          rintro v306 h306 ⟨rfl, hG306, hF306, t306, s306, o306, oa306⟩
          have ol306 : cdL h306 u ((gi h u 1) + 1).toNat = q ++ [(-((fx h) p))] := by
            rw [tn_s (by omega), ← lo306]
            exact cdL_s (h := h) s306 o306
          refine x_aload_n 59 hK rfl rfl rfl ?_
          refine x_iconst 60 hK rfl rfl ?_
          refine x_putZ 63 hK rfl rfl (sp_17 (h := h306) hG306) (by omega) ?_
          refine x_goto 133 hK rfl rfl ?_
          refine x_aload_n 134 hK rfl rfl rfl ?_
          refine x_dup 135 hK rfl rfl rfl ?_
          refine x_getE 138 hK rfl (Or.inl rfl) rfl (sp_1 (h := h306) hG306) (e := p) ((gi_a (by decide) _).trans ((FRM_gi hF306 (r := 1) rfl rfl).trans (e1))) ?_
          refine x_iconst 139 hK rfl rfl ?_
          refine x_iadd 140 hK rfl rfl ?_
          refine x_putI 143 hK rfl rfl (sp_1 (h := h306) hG306) ?_
          refine x_iconst 144 hK rfl rfl ?_
          have z1 : gi (wI (wI h306 17 4 0) 1 2 (p + 1)) 1 2 = (p + 1) := gi_same (by omega)
          have z2 : gi (wI (wI h306 17 4 0) 1 2 (p + 1)) u 1 = ((gi h u 1) + 1) := (gi_a (by omega) _).trans ((gi_a (by omega) _).trans (t306))
          have z3 : gi (wI (wI h306 17 4 0) 1 2 (p + 1)) 17 1 = (gi h 17 1) := (gi_a (by decide) _).trans ((gi_k (by decide) _).trans (FRM_gi hF306 (r := 11) rfl rfl))
          have z4 : gi (wI (wI h306 17 4 0) 1 2 (p + 1)) 17 2 = (d : Int) := (gi_a (by decide) _).trans ((gi_k (by decide) _).trans ((FRM_gi hF306 (r := 11) rfl rfl).trans (e4)))
          have z5 : gi (wI (wI h306 17 4 0) 1 2 (p + 1)) 17 3 = (gi h 17 3) := (gi_a (by decide) _).trans ((gi_k (by decide) _).trans (FRM_gi hF306 (r := 11) rfl rfl))
          have z6 : gi (wI (wI h306 17 4 0) 1 2 (p + 1)) 17 4 = (b2i false) := (gi_a (by decide) _).trans (gi_same (by omega))
          have y1 : cdL (wI (wI h306 17 4 0) 1 2 (p + 1)) u (((gi h u 1) + 1)).toNat = (q ++ [(-((fx h) p))]) := (cdL_e (h := h306) fun j hj => (gi_a (by first | decide | omega) _).trans (gi_a (by first | decide | omega) _)).trans ol306
          have y2 : wtL (wI (wI h306 17 4 0) 1 2 (p + 1)) ((gi h 17 1)).toNat = s := (wtL_e (h := h) fun j hj => (gi_a (by first | decide | omega) _).trans ((gi_a (by first | decide | omega) _).trans (FRM_gi hF306 (r := 12) rfl rfl))).trans e3
          have zr : 0 ≤ (gi h 17 3) ∧ (gi h 17 3) ≤ 31 := hc
          have zc : cBt (gi h 17 3) = c := e5
          exact x_zret hK rfl (by omega) ⟨Or.inl ⟨(p + 1), (q ++ [(-((fx h) p))]), s, d, c, false, by unfold mthg; rw [if_neg (by omega), if_pos (by unfold askI; omega)], rfl, ⟨z1, by rw [z2]; exact y1, by rw [z3]; exact y2, z4.trans (by omega), by rw [z5]; exact zc, z6, by rw [z5]; exact zr, by omega, ew, eb⟩, by omega, by omega⟩, GD_w0 (GD_w1 (hG306) (r := 11) rfl (by omega) rfl (by omega) (by omega)) (r := 1) rfl rfl, FRM_w (FRM_w ((hF306).mono rfl) (r := 11) rfl rfl) (r := 1) rfl rfl, (fun a k n1 n2 n3 n4 n5 => (gi_a (by omega) _).trans ((gi_a (by omega) _).trans (oa306 a k n4 n5)))⟩
        · refine x_iload_n 47 hK rfl rfl rfl ?_
          refine x_bipush 49 hK rfl rfl rfl ?_
          refine x_if_icmp_ne 66 52 hK rfl rfl rfl (by omega) (by omega) (fun c77 => ?_) (fun c77 => ?_)
          · refine x_iload_n 67 hK rfl rfl rfl ?_
            refine x_bipush 69 hK rfl rfl rfl ?_
            refine x_if_icmp_ne 82 72 hK rfl rfl rfl (by omega) (by omega) (fun c80 => ?_) (fun c80 => ?_)
            · refine x_iload_n 83 hK rfl rfl rfl ?_
              refine x_bipush 85 hK rfl rfl rfl ?_
              refine x_if_icmp_ne 131 88 hK rfl rfl rfl (by omega) (by omega) (fun c83 => ?_) (fun c83 => ?_)
              · refine x_iconst 132 hK rfl rfl ?_
                exact x_zret hK rfl (by omega) ⟨Or.inr ⟨by unfold mthg; rw [if_neg (by omega), if_neg (by unfold askI; omega), if_neg (by omega), if_neg (by omega)], rfl, rfl⟩, hG, FRM.rf, fun _ _ _ _ _ _ _ => rfl⟩
              · refine x_aload_n 89 hK rfl rfl rfl ?_
                refine x_getE 92 hK rfl (Or.inl rfl) rfl (sp_17 (h := h) hG) (e := (d : Int)) (e4) ?_
                refine x_iconst 93 hK rfl rfl ?_
                refine x_if_icmp_ge 131 96 hK rfl rfl rfl (by omega) (by omega) (fun c89 => ?_) (fun c89 => ?_)
                · refine x_iconst 132 hK rfl rfl ?_
                  exact x_zret hK rfl (by omega) ⟨Or.inr ⟨by unfold mthg; rw [if_neg (by omega), if_neg (by unfold askI; omega), if_neg (by omega), if_neg (by omega)], rfl, rfl⟩, hG, FRM.rf, fun _ _ _ _ _ _ _ => rfl⟩
                · refine x_aload_n 97 hK rfl rfl rfl ?_
                  refine x_dup 98 hK rfl rfl rfl ?_
                  refine x_getE 101 hK rfl (Or.inl rfl) rfl (sp_17 (h := h) hG) (e := (d : Int)) (e4) ?_
                  refine x_iconst 102 hK rfl rfl ?_
                  refine x_iadd 103 hK rfl rfl ?_
                  refine x_putI 106 hK rfl rfl (sp_17 (h := h) hG) ?_
                  refine x_aload_n 107 hK rfl rfl rfl ?_
                  refine x_dup 108 hK rfl rfl rfl ?_
                  have g308 := gi_r h 17 3
                  refine x_getE 111 hK rfl (Or.inl rfl) rfl (sp_17 (h := h) hG) (e := (gi h 17 3)) (gi_k (by decide) _) ?_
                  refine x_iconst 112 hK rfl rfl ?_
                  refine x_aload_n 113 hK rfl rfl rfl ?_
                  refine x_getE 116 hK rfl (Or.inl rfl) rfl (sp_17 (h := h) hG) (e := ((d : Int) + 1)) (gi_same (by omega)) ?_
                  have g309 := bShl_r 1 ((d : Int) + 1)
                  refine x_ishlF 117 hK rfl rfl ?_
                  refine x_iconst 118 hK rfl rfl ?_
                  have g310 := bXor_r (bShl 1 ((d : Int) + 1)) (-1)
                  refine x_ixorF 119 hK rfl rfl ?_
                  have g311 := bAnd_r (gi h 17 3) (bXor (bShl 1 ((d : Int) + 1)) (-1))
                  refine x_iandF 120 hK rfl rfl ?_
                  refine x_putI 123 hK rfl rfl (sp_17 (h := h) hG) ?_
                  refine x_aload_n 124 hK rfl rfl rfl ?_
                  refine x_iload_n 125 hK rfl rfl rfl ?_
                  have g314 := gri (0) (40) hG (a := 17) (r := 11) (k := 1) rfl rfl
                  have hGp312 : GD gE gRL sh (wI (wI h 17 2 ((d : Int) + 1)) 17 3 (bAnd (gi h 17 3) (bXor (bShl 1 ((d : Int) + 1)) (-1)))) := GD_w0 (GD_w1 (hG) (r := 11) rfl (by omega) rfl (by omega) (by omega)) (r := 11) rfl rfl
                  have nn313 : gi (wI (wI h 17 2 ((d : Int) + 1)) 17 3 (bAnd (gi h 17 3) (bXor (bShl 1 ((d : Int) + 1)) (-1)))) 17 1 = (gi h 17 1) := (gi_k (by decide) _).trans (gi_k (by decide) _)
                  have lw313 : wtL (wI (wI h 17 2 ((d : Int) + 1)) 17 3 (bAnd (gi h 17 3) (bXor (bShl 1 ((d : Int) + 1)) (-1)))) ((gi h 17 1)).toNat = s := (wtL_e (h := h) fun j hj => (gi_a (by first | decide | omega) _).trans (gi_a (by first | decide | omega) _)).trans e3
                  refine x_callV 128 hK hmono rfl rfl [.ref 17, .int (I ((fx h) p))] [] rfl rfl (Nat.le_of_ble_eq_true rfl) (Nat.le_of_ble_eq_true rfl) rfl (sp_17 (h := h) hG) (CLd_le (Nat.le_of_ble_eq_true rfl) (ctX5_holdF hSP hGp312 (by omega) (by omega))) ?_
                  rw [nn313, lw313]
                  rintro v313 h313 ⟨rfl, hG313, hF313, t313, s313⟩
                  refine x_goto 133 hK rfl rfl ?_
                  refine x_aload_n 134 hK rfl rfl rfl ?_
                  refine x_dup 135 hK rfl rfl rfl ?_
                  refine x_getE 138 hK rfl (Or.inl rfl) rfl (sp_1 (h := h313) hG313) (e := p) ((FRM_gi hF313 (r := 1) rfl rfl).trans ((gi_a (by decide) _).trans ((gi_a (by decide) _).trans (e1)))) ?_
                  refine x_iconst 139 hK rfl rfl ?_
                  refine x_iadd 140 hK rfl rfl ?_
                  refine x_putI 143 hK rfl rfl (sp_1 (h := h313) hG313) ?_
                  refine x_iconst 144 hK rfl rfl ?_
                  have cl := cBt_clr hc (k := (d : Int) + 1) (by omega)
                  rw [show ((d : Int) + 1).toNat = d + 1 by omega, e5] at cl
                  have s40 : fx h p = 40 := by omega
                  have z1 : gi (wI h313 1 2 (p + 1)) 1 2 = (p + 1) := gi_same (by omega)
                  have z2 : gi (wI h313 1 2 (p + 1)) u 1 = (gi h u 1) := (gi_a (by omega) _).trans ((FRM_gi hF313 (r := 8) (su_r hu).1 rfl).trans ((gi_a (by omega) _).trans (gi_a (by omega) _)))
                  have z3 : gi (wI h313 1 2 (p + 1)) 17 1 = ((gi h 17 1) + 1) := (gi_a (by decide) _).trans (t313)
                  have z4 : gi (wI h313 1 2 (p + 1)) 17 2 = ((d : Int) + 1) := (gi_a (by decide) _).trans ((FRM_gi hF313 (r := 11) rfl rfl).trans ((gi_k (by decide) _).trans (gi_same (by omega))))
                  have z5 : gi (wI h313 1 2 (p + 1)) 17 3 = (bAnd (gi h 17 3) (bXor (bShl 1 ((d : Int) + 1)) (-1))) := (gi_a (by decide) _).trans ((FRM_gi hF313 (r := 11) rfl rfl).trans (gi_same (by omega)))
                  have z6 : gi (wI h313 1 2 (p + 1)) 17 4 = (b2i true) := ((gi_a (by decide) _).trans ((FRM_gi hF313 (r := 11) rfl rfl).trans ((gi_k (by decide) _).trans (gi_k (by decide) _)))).trans (e6)
                  have y1 : cdL (wI h313 1 2 (p + 1)) u ((gi h u 1)).toNat = q := (cdL_e (h := h) fun j hj => (gi_a (by first | decide | omega) _).trans ((FRM_gi hF313 (r := 9) (su_r hu).2 rfl).trans ((gi_a (by first | decide | omega) _).trans (gi_a (by first | decide | omega) _)))).trans e2
                  have y2 : wtL (wI h313 1 2 (p + 1)) (((gi h 17 1) + 1)).toNat = (((fx h) p) :: s) := (wtL_e (h := h313) fun j hj => gi_a (by first | decide | omega) _).trans s313
                  have zr : 0 ≤ (bAnd (gi h 17 3) (bXor (bShl 1 ((d : Int) + 1)) (-1))) ∧ (bAnd (gi h 17 3) (bXor (bShl 1 ((d : Int) + 1)) (-1))) ≤ 31 := cl.1
                  have zc : cBt (bAnd (gi h 17 3) (bXor (bShl 1 ((d : Int) + 1)) (-1))) = (upB c (d + 1) false) := cl.2
                  exact x_zret hK rfl (by omega) ⟨Or.inl ⟨(p + 1), q, (40 :: s), (d + 1), (upB c (d + 1) false), true, by unfold mthg; rw [if_neg (by omega), if_neg (by unfold askI; omega), if_neg (by omega), if_pos (by omega)], rfl, ⟨z1, by rw [z2]; exact y1, by rw [z3]; exact (y2.trans (by rw [s40])), z4.trans (by omega), by rw [z5]; exact zc, z6, by rw [z5]; exact zr, by omega, List.forall_mem_cons.mpr ⟨Or.inl rfl, ew⟩, (by show (if (40 : Int) = 40 then 1 else 0) + brS s = d + 1; rw [if_pos rfl, eb, Nat.add_comm])⟩, by omega, by omega⟩, GD_w0 (hG313) (r := 1) rfl rfl, FRM_w ((FRM_w (FRM_w ((FRM.rf : FRM gRL [(0, 1, 2, 2), (0, 1, 5, 5), (0, 8, 1, 1), (0, 9, 0, 39), (0, 11, 1, 4), (0, 12, 0, 39)] h h)) (r := 11) rfl rfl) (r := 11) rfl rfl).trans ((hF313).mono rfl)) (r := 1) rfl rfl, (fun a k n1 n2 n3 n4 n5 => (gi_a (by omega) _).trans ((frm_o hF313 [17, 18] (by decide +kernel) (by simp only [List.mem_cons, List.not_mem_nil, or_false]; omega) k).trans ((gi_a (by omega) _).trans (gi_a (by omega) _))))⟩
            · refine x_aload_n 73 hK rfl rfl rfl ?_
              refine x_sipush 76 hK rfl rfl rfl ?_
              have g316 := gri (0) (40) hG (a := 17) (r := 11) (k := 1) rfl rfl
              have nn315 : gi h 17 1 = (gi h 17 1) := rfl
              have lw315 : wtL h ((gi h 17 1)).toNat = s := (wtL_e (h := h) fun j hj => rfl).trans e3
              refine x_callV 79 hK hmono rfl rfl [.ref 17, .int (I 256)] [] rfl rfl (Nat.le_of_ble_eq_true rfl) (Nat.le_of_ble_eq_true rfl) rfl (sp_17 (h := h) hG) (CLd_le (Nat.le_of_ble_eq_true rfl) (ctX5_holdF hSP hG (by omega) (by omega))) ?_
              rw [nn315, lw315]
              rintro v315 h315 ⟨rfl, hG315, hF315, t315, s315⟩
              refine x_goto 133 hK rfl rfl ?_
              refine x_aload_n 134 hK rfl rfl rfl ?_
              refine x_dup 135 hK rfl rfl rfl ?_
              refine x_getE 138 hK rfl (Or.inl rfl) rfl (sp_1 (h := h315) hG315) (e := p) ((FRM_gi hF315 (r := 1) rfl rfl).trans (e1)) ?_
              refine x_iconst 139 hK rfl rfl ?_
              refine x_iadd 140 hK rfl rfl ?_
              refine x_putI 143 hK rfl rfl (sp_1 (h := h315) hG315) ?_
              refine x_iconst 144 hK rfl rfl ?_
              have z1 : gi (wI h315 1 2 (p + 1)) 1 2 = (p + 1) := gi_same (by omega)
              have z2 : gi (wI h315 1 2 (p + 1)) u 1 = (gi h u 1) := (gi_a (by omega) _).trans (FRM_gi hF315 (r := 8) (su_r hu).1 rfl)
              have z3 : gi (wI h315 1 2 (p + 1)) 17 1 = ((gi h 17 1) + 1) := (gi_a (by decide) _).trans (t315)
              have z4 : gi (wI h315 1 2 (p + 1)) 17 2 = (d : Int) := (gi_a (by decide) _).trans ((FRM_gi hF315 (r := 11) rfl rfl).trans (e4))
              have z5 : gi (wI h315 1 2 (p + 1)) 17 3 = (gi h 17 3) := (gi_a (by decide) _).trans (FRM_gi hF315 (r := 11) rfl rfl)
              have z6 : gi (wI h315 1 2 (p + 1)) 17 4 = (b2i true) := ((gi_a (by decide) _).trans (FRM_gi hF315 (r := 11) rfl rfl)).trans (e6)
              have y1 : cdL (wI h315 1 2 (p + 1)) u ((gi h u 1)).toNat = q := (cdL_e (h := h) fun j hj => (gi_a (by first | decide | omega) _).trans (FRM_gi hF315 (r := 9) (su_r hu).2 rfl)).trans e2
              have y2 : wtL (wI h315 1 2 (p + 1)) (((gi h 17 1) + 1)).toNat = (256 :: s) := (wtL_e (h := h315) fun j hj => gi_a (by first | decide | omega) _).trans s315
              have zr : 0 ≤ (gi h 17 3) ∧ (gi h 17 3) ≤ 31 := hc
              have zc : cBt (gi h 17 3) = c := e5
              exact x_zret hK rfl (by omega) ⟨Or.inl ⟨(p + 1), q, (256 :: s), d, c, true, by unfold mthg; rw [if_neg (by omega), if_neg (by unfold askI; omega), if_pos (by omega)], rfl, ⟨z1, by rw [z2]; exact y1, by rw [z3]; exact y2, z4.trans (by omega), by rw [z5]; exact zc, z6, by rw [z5]; exact zr, by omega, List.forall_mem_cons.mpr ⟨Or.inr (by decide), ew⟩, (by show (if (256 : Int) = 40 then 1 else 0) + brS s = d; rw [if_neg (by decide), eb, Nat.zero_add])⟩, by omega, by omega⟩, GD_w0 (hG315) (r := 1) rfl rfl, FRM_w ((hF315).mono rfl) (r := 1) rfl rfl, (fun a k n1 n2 n3 n4 n5 => (gi_a (by omega) _).trans (frm_o hF315 [17, 18] (by decide +kernel) (by simp only [List.mem_cons, List.not_mem_nil, or_false]; omega) k))⟩
          · refine x_aload_n 53 hK rfl rfl rfl ?_
            refine x_iload_n 54 hK rfl rfl rfl ?_
            refine x_ineg 55 hK rfl rfl ?_
            have g318 := gri (0) (40) hG (a := u) (r := 8) (k := 1) (su_r hu).1 rfl
            have nn317 : gi h u 1 = (gi h u 1) := rfl
            have lo317 : cdL h u ((gi h u 1)).toNat = q := (cdL_e (h := h) fun j hj => rfl).trans e2
            refine x_callV 58 hK hmono rfl rfl [.ref u, .int (I (-((fx h) p)))] [] rfl rfl (Nat.le_of_ble_eq_true rfl) (Nat.le_of_ble_eq_true rfl) rfl (shx (h := h) hG (r := 8) (su_r hu).1 rfl) (CLd_le (Nat.le_of_ble_eq_true rfl) (ctX4_add hSP hG (show PT h from hP) hu (by omega) (by omega))) ?_
            rw [nn317]
            rintro v317 h317 ⟨rfl, hG317, hF317, t317, s317, o317, oa317⟩
            have ol317 : cdL h317 u ((gi h u 1) + 1).toNat = q ++ [(-((fx h) p))] := by
              rw [tn_s (by omega), ← lo317]
              exact cdL_s (h := h) s317 o317
            refine x_aload_n 59 hK rfl rfl rfl ?_
            refine x_iconst 60 hK rfl rfl ?_
            refine x_putZ 63 hK rfl rfl (sp_17 (h := h317) hG317) (by omega) ?_
            refine x_goto 133 hK rfl rfl ?_
            refine x_aload_n 134 hK rfl rfl rfl ?_
            refine x_dup 135 hK rfl rfl rfl ?_
            refine x_getE 138 hK rfl (Or.inl rfl) rfl (sp_1 (h := h317) hG317) (e := p) ((gi_a (by decide) _).trans ((FRM_gi hF317 (r := 1) rfl rfl).trans (e1))) ?_
            refine x_iconst 139 hK rfl rfl ?_
            refine x_iadd 140 hK rfl rfl ?_
            refine x_putI 143 hK rfl rfl (sp_1 (h := h317) hG317) ?_
            refine x_iconst 144 hK rfl rfl ?_
            have z1 : gi (wI (wI h317 17 4 0) 1 2 (p + 1)) 1 2 = (p + 1) := gi_same (by omega)
            have z2 : gi (wI (wI h317 17 4 0) 1 2 (p + 1)) u 1 = ((gi h u 1) + 1) := (gi_a (by omega) _).trans ((gi_a (by omega) _).trans (t317))
            have z3 : gi (wI (wI h317 17 4 0) 1 2 (p + 1)) 17 1 = (gi h 17 1) := (gi_a (by decide) _).trans ((gi_k (by decide) _).trans (FRM_gi hF317 (r := 11) rfl rfl))
            have z4 : gi (wI (wI h317 17 4 0) 1 2 (p + 1)) 17 2 = (d : Int) := (gi_a (by decide) _).trans ((gi_k (by decide) _).trans ((FRM_gi hF317 (r := 11) rfl rfl).trans (e4)))
            have z5 : gi (wI (wI h317 17 4 0) 1 2 (p + 1)) 17 3 = (gi h 17 3) := (gi_a (by decide) _).trans ((gi_k (by decide) _).trans (FRM_gi hF317 (r := 11) rfl rfl))
            have z6 : gi (wI (wI h317 17 4 0) 1 2 (p + 1)) 17 4 = (b2i false) := (gi_a (by decide) _).trans (gi_same (by omega))
            have y1 : cdL (wI (wI h317 17 4 0) 1 2 (p + 1)) u (((gi h u 1) + 1)).toNat = (q ++ [(-((fx h) p))]) := (cdL_e (h := h317) fun j hj => (gi_a (by first | decide | omega) _).trans (gi_a (by first | decide | omega) _)).trans ol317
            have y2 : wtL (wI (wI h317 17 4 0) 1 2 (p + 1)) ((gi h 17 1)).toNat = s := (wtL_e (h := h) fun j hj => (gi_a (by first | decide | omega) _).trans ((gi_a (by first | decide | omega) _).trans (FRM_gi hF317 (r := 12) rfl rfl))).trans e3
            have zr : 0 ≤ (gi h 17 3) ∧ (gi h 17 3) ≤ 31 := hc
            have zc : cBt (gi h 17 3) = c := e5
            exact x_zret hK rfl (by omega) ⟨Or.inl ⟨(p + 1), (q ++ [(-((fx h) p))]), s, d, c, false, by unfold mthg; rw [if_neg (by omega), if_pos (by unfold askI; omega)], rfl, ⟨z1, by rw [z2]; exact y1, by rw [z3]; exact y2, z4.trans (by omega), by rw [z5]; exact zc, z6, by rw [z5]; exact zr, by omega, ew, eb⟩, by omega, by omega⟩, GD_w0 (GD_w1 (hG317) (r := 11) rfl (by omega) rfl (by omega) (by omega)) (r := 1) rfl rfl, FRM_w (FRM_w ((hF317).mono rfl) (r := 11) rfl rfl) (r := 1) rfl rfl, (fun a k n1 n2 n3 n4 n5 => (gi_a (by omega) _).trans ((gi_a (by omega) _).trans (oa317 a k n4 n5)))⟩
set_option maxRecDepth 4000 in
theorem ctX5_takeOperatorF {SP : CT} (hSP : MONO SP) {sh : List (Nat × Nat)} {h : aH} (hG : GD gE gRL sh h) {u : Nat} (hP : PT h) (hu : u = 11 ∨ u = 14) {p : Int} {q s : List Int} {d : Nat} {c : Nat → Bool} (hR : RdH h u p q s d c false) (h40 : gi h 1 3 ≤ 40) (hp : 0 ≤ p) : CLd SP 5 mX5_takeOperator [.ref 17, .ref 1, .ref u] h 0 0 (fun rv h' => ((∃ (p' : Int) (q' s' : List Int) (d' : Nat) (c' : Nat → Bool) (w' : Bool), mopr (fx h) p q s d c = some (p', q', s', d', c', w') ∧ rv = some (.int (I 1)) ∧ RdH h' u p' q' s' d' c' w' ∧ p < p' ∧ p' ≤ gi h 1 3) ∨ (mopr (fx h) p q s d c = none ∧ rv = some (.int (I 0)) ∧ h' = h)) ∧ GD gE gRL sh h' ∧ FRM gRL [(0, 1, 2, 2), (0, 1, 5, 5), (0, 8, 1, 1), (0, 9, 0, 39), (0, 11, 1, 4), (0, 12, 0, 39)] h h' ∧ ∀ a k : Nat, a ≠ 1 → a ≠ 17 → a ≠ 18 → a ≠ u → a ≠ u + 1 → gi h' a k = gi h a k) := by
  refine x_met _ rfl (Nat.le_of_ble_eq_true rfl) (fun K hK => ?_)
  have hmono := MONO_CLd hSP 4
  obtain ⟨e1, e2, e3, e4, e5, e6, hc, en, ew, eb⟩ := hR
  have fe0 := fx_end h
  have pl : fx h p < 0 ∨ p < gi h 1 3 := by
    by_cases z : gi h 1 3 ≤ p
    · have := fx_end h p z; omega
    · omega
  have gn := gri 0 40 hG (a := u) (r := 8) (k := 1) (su_r hu).1 rfl
  have gw0 := gri 0 40 hG (a := 17) (r := 11) (k := 1) rfl rfl
  have gd0 := gri 0 4 hG (a := 17) (r := 11) (k := 2) rfl rfl
  refine x_aload_n 1 hK rfl rfl rfl ?_
  have at319 : gi h 1 2 = p := e1
  have fe319 : fx h = (fx h) := rfl
  refine x_callV 4 hK hmono rfl rfl [.ref 1] [] rfl rfl (Nat.le_of_ble_eq_true rfl) (Nat.le_of_ble_eq_true rfl) rfl (sp_1 (h := h) hG) (CLd_le (Nat.le_of_ble_eq_true rfl) (ctX9_next hSP hG)) ?_
  rw [fe319, at319]
  rintro v9 h9 ⟨e9, rfl⟩
  rw [e9]
  clear e9
  have fr319 := fx_r hG p
  refine x_istore_n 5 hK rfl rfl [(3, .int (I ((fx h) p))), (0, .ref 17), (1, .ref 1), (2, .ref u)] rfl ?_
  refine x_iload_n 6 hK rfl rfl rfl ?_
  refine x_callS 9 hK hmono rfl (Or.inl rfl) rfl [.int (I ((fx h) p))] [] rfl rfl (Nat.le_of_ble_eq_true rfl) (Nat.le_of_ble_eq_true rfl) (CLd_le (Nat.le_of_ble_eq_true rfl) (ctX5_rankF hSP (by omega))) ?_
  rintro v9 h9 ⟨e9, rfl⟩
  rw [e9]
  clear e9
  have rk320 := rkI_b ((fx h) p)
  refine x_istore 11 hK rfl rfl [(4, .int (I (rkI ((fx h) p) : Int))), (3, .int (I ((fx h) p))), (0, .ref 17), (1, .ref 1), (2, .ref u)] rfl ?_
  refine x_iload_n 12 hK rfl rfl rfl ?_
  refine x_bipush 14 hK rfl rfl rfl ?_
  refine x_if_icmp_ne 53 17 hK rfl rfl rfl (by omega) (by omega) (fun c9 => ?_) (fun c9 => ?_)
  · refine x_iload 55 hK rfl rfl rfl ?_
    refine x_if_eq 79 58 hK rfl rfl rfl (by omega) (fun c11 => ?_) (fun c11 => ?_)
    · refine x_iconst 80 hK rfl rfl ?_
      have cd : cBt (gi h 17 3) d = c d := by rw [e5]
      unfold cBt at cd
      rw [decide_eq_true (show d ≤ 4 by omega), Bool.true_and] at cd
      exact x_zret hK rfl (by omega) ⟨Or.inr ⟨by unfold mopr; rw [if_neg (by omega), if_pos (by first | exact Or.inl (by omega) | exact Or.inr ⟨by omega, by rw [← cd]; exact decide_eq_true (by omega)⟩)], rfl, rfl⟩, hG, FRM.rf, fun _ _ _ _ _ _ _ => rfl⟩
    · refine x_iload 60 hK rfl rfl rfl ?_
      refine x_iconst 61 hK rfl rfl ?_
      refine x_if_icmp_ne 81 64 hK rfl rfl rfl (by omega) (by omega) (fun c16 => ?_) (fun c16 => ?_)
      · refine x_aload_n 82 hK rfl rfl rfl ?_
        refine x_dup 83 hK rfl rfl rfl ?_
        have g321 := gi_r h 17 3
        refine x_getE 86 hK rfl (Or.inl rfl) rfl (sp_17 (h := h) hG) (e := (gi h 17 3)) (rfl) ?_
        refine x_iload 88 hK rfl rfl rfl ?_
        refine x_iconst 89 hK rfl rfl ?_
        refine x_if_icmp_ne 101 92 hK rfl rfl rfl (by omega) (by omega) (fun _ => ?_) (fun c => by omega)
        refine x_iconst 102 hK rfl rfl ?_
        have g322 := bOr_r (gi h 17 3) 0
        refine x_iorF 103 hK rfl rfl ?_
        refine x_putI 106 hK rfl rfl (sp_17 (h := h) hG) ?_
        refine x_aload_n 107 hK rfl rfl rfl ?_
        refine x_iload 109 hK rfl rfl rfl ?_
        refine x_aload_n 110 hK rfl rfl rfl ?_
        have hGp323 : GD gE gRL sh (wI h 17 3 (bOr (gi h 17 3) 0)) := GD_w0 (hG) (r := 11) rfl rfl
        have rz324 := rk40 (x := fx h p) (by omega)
        have nu324 : gi (wI h 17 3 (bOr (gi h 17 3) 0)) u 1 = (gi h u 1) := gi_a (by omega) _
        have nw324 : gi (wI h 17 3 (bOr (gi h 17 3) 0)) 17 1 = (gi h 17 1) := gi_k (by decide) _
        have lo324 : cdL (wI h 17 3 (bOr (gi h 17 3) 0)) u ((gi h u 1)).toNat = q := (cdL_e (h := h) fun j hj => gi_a (by first | decide | omega) _).trans e2
        have lw324 : wtL (wI h 17 3 (bOr (gi h 17 3) 0)) ((gi h 17 1)).toNat = s := (wtL_e (h := h) fun j hj => gi_a (by first | decide | omega) _).trans e3
        refine x_callV 113 hK hmono rfl rfl [.ref 17, .int (I (rkI ((fx h) p) : Int)), .ref u] [] rfl rfl (Nat.le_of_ble_eq_true rfl) (Nat.le_of_ble_eq_true rfl) rfl (sp_17 (h := h) hG) (CLd_le (Nat.le_of_ble_eq_true rfl) (ctX5_releaseF hSP hGp323 (show PT h from hP) hu (r := (rkI ((fx h) p))) (by omega) (by rw [nu324, nw324]; omega) (fun j hj => wt_at (n := ((gi h 17 1)).toNat) ew lw324 j (by rw [nw324] at hj; omega)))) ?_
        rw [nu324, nw324, lo324, lw324]
        rintro v324 h324 ⟨rfl, hG324, hF324, o324, w324, t324, oa324⟩
        have gu324 := gri 0 40 hG324 (a := u) (r := 8) (k := 1) (su_r hu).1 rfl
        have gw324 := gri 0 40 hG324 (a := 17) (r := 11) (k := 1) rfl rfl
        refine x_aload_n 114 hK rfl rfl rfl ?_
        refine x_iload_n 115 hK rfl rfl rfl ?_
        have g326 := gri (0) (40) hG324 (a := 17) (r := 11) (k := 1) rfl rfl
        have nn325 : gi h324 17 1 = (gi h324 17 1) := rfl
        have lw325 : wtL h324 ((gi h324 17 1)).toNat = (rstS (rkI ((fx h) p)) s) := (wtL_e (h := h324) fun j hj => rfl).trans w324
        refine x_callV 118 hK hmono rfl rfl [.ref 17, .int (I ((fx h) p))] [] rfl rfl (Nat.le_of_ble_eq_true rfl) (Nat.le_of_ble_eq_true rfl) rfl (sp_17 (h := h324) hG324) (CLd_le (Nat.le_of_ble_eq_true rfl) (ctX5_holdF hSP hG324 (by omega) (by omega))) ?_
        rw [nn325, lw325]
        rintro v325 h325 ⟨rfl, hG325, hF325, t325, s325⟩
        refine x_aload_n 119 hK rfl rfl rfl ?_
        refine x_iconst 120 hK rfl rfl ?_
        refine x_putZ 123 hK rfl rfl (sp_17 (h := h325) hG325) (by omega) ?_
        refine x_aload_n 124 hK rfl rfl rfl ?_
        refine x_dup 125 hK rfl rfl rfl ?_
        refine x_getE 128 hK rfl (Or.inl rfl) rfl (sp_1 (h := h325) hG325) (e := p) ((gi_a (by decide) _).trans ((FRM_gi hF325 (r := 1) rfl rfl).trans ((FRM_gi hF324 (r := 1) rfl rfl).trans ((gi_a (by decide) _).trans (e1))))) ?_
        refine x_iconst 129 hK rfl rfl ?_
        refine x_iadd 130 hK rfl rfl ?_
        refine x_putI 133 hK rfl rfl (sp_1 (h := h325) hG325) ?_
        refine x_iconst 134 hK rfl rfl ?_
        have cd : cBt (gi h 17 3) d = c d := by rw [e5]
        unfold cBt at cd
        rw [decide_eq_true (show d ≤ 4 by omega), Bool.true_and] at cd
        have r40 := rk40 (x := fx h p) (by omega)
        have c0 := bOr_0 hc
        have mt : mopr (fx h) p q s d c = some (p + 1, q ++ ngs (popS (rkI (fx h p)) s), fx h p :: rstS (rkI (fx h p)) s, d, c, true) := by unfold mopr; rw [if_neg (by omega), if_neg (by first | omega | exact fun z => z.elim (fun y => absurd y (by omega)) (fun y => by have y := y.2; rw [← cd] at y; exact absurd (of_decide_eq_true y) (by omega))), if_neg (by omega)]
        have z1 : gi (wI (wI h325 17 4 1) 1 2 (p + 1)) 1 2 = (p + 1) := gi_same (by omega)
        have z2 : gi (wI (wI h325 17 4 1) 1 2 (p + 1)) u 1 = (gi h324 u 1) := (gi_a (by omega) _).trans ((gi_a (by omega) _).trans (FRM_gi hF325 (r := 8) (su_r hu).1 rfl))
        have z3 : gi (wI (wI h325 17 4 1) 1 2 (p + 1)) 17 1 = ((gi h324 17 1) + 1) := (gi_a (by decide) _).trans ((gi_k (by decide) _).trans (t325))
        have z4 : gi (wI (wI h325 17 4 1) 1 2 (p + 1)) 17 2 = (d : Int) := (gi_a (by decide) _).trans ((gi_k (by decide) _).trans ((FRM_gi hF325 (r := 11) rfl rfl).trans ((FRM_gi hF324 (r := 11) rfl rfl).trans ((gi_k (by decide) _).trans (e4)))))
        have z5 : gi (wI (wI h325 17 4 1) 1 2 (p + 1)) 17 3 = (bOr (gi h 17 3) 0) := (gi_a (by decide) _).trans ((gi_k (by decide) _).trans ((FRM_gi hF325 (r := 11) rfl rfl).trans ((FRM_gi hF324 (r := 11) rfl rfl).trans (gi_same (by omega)))))
        have z6 : gi (wI (wI h325 17 4 1) 1 2 (p + 1)) 17 4 = (b2i true) := (gi_a (by decide) _).trans (gi_same (by omega))
        have y1 : cdL (wI (wI h325 17 4 1) 1 2 (p + 1)) u ((gi h324 u 1)).toNat = (q ++ ngs (popS (rkI ((fx h) p)) s)) := (cdL_e (h := h324) fun j hj => (gi_a (by first | decide | omega) _).trans ((gi_a (by first | decide | omega) _).trans (FRM_gi hF325 (r := 9) (su_r hu).2 rfl))).trans o324
        have y2 : wtL (wI (wI h325 17 4 1) 1 2 (p + 1)) (((gi h324 17 1) + 1)).toNat = (((fx h) p) :: (rstS (rkI ((fx h) p)) s)) := (wtL_e (h := h325) fun j hj => (gi_a (by first | decide | omega) _).trans (gi_a (by first | decide | omega) _)).trans s325
        have zr : 0 ≤ (bOr (gi h 17 3) 0) ∧ (bOr (gi h 17 3) 0) ≤ 31 := (by rw [c0]; exact hc)
        have zc : cBt (bOr (gi h 17 3) 0) = c := (by rw [c0]; exact e5)
        exact x_zret hK rfl (by omega) ⟨Or.inl ⟨(p + 1), (q ++ ngs (popS (rkI ((fx h) p)) s)), (((fx h) p) :: (rstS (rkI ((fx h) p)) s)), d, c, true, mt, rfl, ⟨z1, by rw [z2]; exact y1, by rw [z3]; exact y2, z4.trans (by omega), by rw [z5]; exact zc, z6, by rw [z5]; exact zr, by omega, List.forall_mem_cons.mpr ⟨Or.inr ⟨by omega, by omega, by omega⟩, rst_sub ew⟩, (by show (if fx h p = 40 then 1 else 0) + brS (rstS (rkI (fx h p)) s) = d; rw [if_neg r40.1, rst_br (by omega), eb, Nat.zero_add])⟩, by omega, by omega⟩, GD_w0 (GD_w1 (hG325) (r := 11) rfl (by omega) rfl (by omega) (by omega)) (r := 1) rfl rfl, FRM_w (FRM_w (((FRM_w ((FRM.rf : FRM gRL [(0, 1, 2, 2), (0, 1, 5, 5), (0, 8, 1, 1), (0, 9, 0, 39), (0, 11, 1, 4), (0, 12, 0, 39)] h h)) (r := 11) rfl rfl).trans ((hF324).mono rfl)).trans ((hF325).mono rfl)) (r := 11) rfl rfl) (r := 1) rfl rfl, (fun a k n1 n2 n3 n4 n5 => (gi_a (by omega) _).trans ((gi_a (by omega) _).trans ((frm_o hF325 [17, 18] (by decide +kernel) (by simp only [List.mem_cons, List.not_mem_nil, or_false]; omega) k).trans ((oa324 a k n2 n4 n5).trans (gi_a (by omega) _)))))⟩
      · refine x_aload_n 65 hK rfl rfl rfl ?_
        have g327 := gi_r h 17 3
        refine x_getE 68 hK rfl (Or.inl rfl) rfl (sp_17 (h := h) hG) (e := (gi h 17 3)) (rfl) ?_
        refine x_aload_n 69 hK rfl rfl rfl ?_
        refine x_getE 72 hK rfl (Or.inl rfl) rfl (sp_17 (h := h) hG) (e := (d : Int)) (e4) ?_
        have g328 := bShr_r (gi h 17 3) (d : Int)
        refine x_ishrF 73 hK rfl rfl ?_
        refine x_iconst 74 hK rfl rfl ?_
        have g329 := bAnd_r (bShr (gi h 17 3) (d : Int)) 1
        refine x_iandF 75 hK rfl rfl ?_
        refine x_iconst 76 hK rfl rfl ?_
        refine x_if_icmp_ne 81 79 hK rfl rfl rfl (by omega) (by omega) (fun c52 => ?_) (fun c52 => ?_)
        · refine x_aload_n 82 hK rfl rfl rfl ?_
          refine x_dup 83 hK rfl rfl rfl ?_
          refine x_getE 86 hK rfl (Or.inl rfl) rfl (sp_17 (h := h) hG) (e := (gi h 17 3)) (rfl) ?_
          refine x_iload 88 hK rfl rfl rfl ?_
          refine x_iconst 89 hK rfl rfl ?_
          refine x_if_icmp_ne 101 92 hK rfl rfl rfl (by omega) (by omega) (fun c => by omega) (fun _ => ?_)
          refine x_iconst 93 hK rfl rfl ?_
          refine x_aload_n 94 hK rfl rfl rfl ?_
          refine x_getE 97 hK rfl (Or.inl rfl) rfl (sp_17 (h := h) hG) (e := (d : Int)) (e4) ?_
          have g330 := bShl_r 1 (d : Int)
          refine x_ishlF 98 hK rfl rfl ?_
          refine x_goto 102 hK rfl rfl ?_
          have g331 := bOr_r (gi h 17 3) (bShl 1 (d : Int))
          refine x_iorF 103 hK rfl rfl ?_
          refine x_putI 106 hK rfl rfl (sp_17 (h := h) hG) ?_
          refine x_aload_n 107 hK rfl rfl rfl ?_
          refine x_iload 109 hK rfl rfl rfl ?_
          refine x_aload_n 110 hK rfl rfl rfl ?_
          have hGp332 : GD gE gRL sh (wI h 17 3 (bOr (gi h 17 3) (bShl 1 (d : Int)))) := GD_w0 (hG) (r := 11) rfl rfl
          have rz333 := rk40 (x := fx h p) (by omega)
          have nu333 : gi (wI h 17 3 (bOr (gi h 17 3) (bShl 1 (d : Int)))) u 1 = (gi h u 1) := gi_a (by omega) _
          have nw333 : gi (wI h 17 3 (bOr (gi h 17 3) (bShl 1 (d : Int)))) 17 1 = (gi h 17 1) := gi_k (by decide) _
          have lo333 : cdL (wI h 17 3 (bOr (gi h 17 3) (bShl 1 (d : Int)))) u ((gi h u 1)).toNat = q := (cdL_e (h := h) fun j hj => gi_a (by first | decide | omega) _).trans e2
          have lw333 : wtL (wI h 17 3 (bOr (gi h 17 3) (bShl 1 (d : Int)))) ((gi h 17 1)).toNat = s := (wtL_e (h := h) fun j hj => gi_a (by first | decide | omega) _).trans e3
          refine x_callV 113 hK hmono rfl rfl [.ref 17, .int (I (rkI ((fx h) p) : Int)), .ref u] [] rfl rfl (Nat.le_of_ble_eq_true rfl) (Nat.le_of_ble_eq_true rfl) rfl (sp_17 (h := h) hG) (CLd_le (Nat.le_of_ble_eq_true rfl) (ctX5_releaseF hSP hGp332 (show PT h from hP) hu (r := (rkI ((fx h) p))) (by omega) (by rw [nu333, nw333]; omega) (fun j hj => wt_at (n := ((gi h 17 1)).toNat) ew lw333 j (by rw [nw333] at hj; omega)))) ?_
          rw [nu333, nw333, lo333, lw333]
          rintro v333 h333 ⟨rfl, hG333, hF333, o333, w333, t333, oa333⟩
          have gu333 := gri 0 40 hG333 (a := u) (r := 8) (k := 1) (su_r hu).1 rfl
          have gw333 := gri 0 40 hG333 (a := 17) (r := 11) (k := 1) rfl rfl
          refine x_aload_n 114 hK rfl rfl rfl ?_
          refine x_iload_n 115 hK rfl rfl rfl ?_
          have g335 := gri (0) (40) hG333 (a := 17) (r := 11) (k := 1) rfl rfl
          have nn334 : gi h333 17 1 = (gi h333 17 1) := rfl
          have lw334 : wtL h333 ((gi h333 17 1)).toNat = (rstS (rkI ((fx h) p)) s) := (wtL_e (h := h333) fun j hj => rfl).trans w333
          refine x_callV 118 hK hmono rfl rfl [.ref 17, .int (I ((fx h) p))] [] rfl rfl (Nat.le_of_ble_eq_true rfl) (Nat.le_of_ble_eq_true rfl) rfl (sp_17 (h := h333) hG333) (CLd_le (Nat.le_of_ble_eq_true rfl) (ctX5_holdF hSP hG333 (by omega) (by omega))) ?_
          rw [nn334, lw334]
          rintro v334 h334 ⟨rfl, hG334, hF334, t334, s334⟩
          refine x_aload_n 119 hK rfl rfl rfl ?_
          refine x_iconst 120 hK rfl rfl ?_
          refine x_putZ 123 hK rfl rfl (sp_17 (h := h334) hG334) (by omega) ?_
          refine x_aload_n 124 hK rfl rfl rfl ?_
          refine x_dup 125 hK rfl rfl rfl ?_
          refine x_getE 128 hK rfl (Or.inl rfl) rfl (sp_1 (h := h334) hG334) (e := p) ((gi_a (by decide) _).trans ((FRM_gi hF334 (r := 1) rfl rfl).trans ((FRM_gi hF333 (r := 1) rfl rfl).trans ((gi_a (by decide) _).trans (e1))))) ?_
          refine x_iconst 129 hK rfl rfl ?_
          refine x_iadd 130 hK rfl rfl ?_
          refine x_putI 133 hK rfl rfl (sp_1 (h := h334) hG334) ?_
          refine x_iconst 134 hK rfl rfl ?_
          have cd : cBt (gi h 17 3) d = c d := by rw [e5]
          unfold cBt at cd
          rw [decide_eq_true (show d ≤ 4 by omega), Bool.true_and] at cd
          have r40 := rk40 (x := fx h p) (by omega)
          have cl := cBt_set hc (k := (d : Int)) (by omega)
          rw [show ((d : Int)).toNat = d by omega, e5] at cl
          have mt : mopr (fx h) p q s d c = some (p + 1, q ++ ngs (popS (rkI (fx h p)) s), fx h p :: rstS (rkI (fx h p)) s, d, upB c d true, true) := by unfold mopr; rw [if_neg (by omega), if_neg (by first | omega | exact fun z => z.elim (fun y => absurd y (by omega)) (fun y => by have y := y.2; rw [← cd] at y; exact absurd (of_decide_eq_true y) (by omega))), if_pos (by omega)]
          have z1 : gi (wI (wI h334 17 4 1) 1 2 (p + 1)) 1 2 = (p + 1) := gi_same (by omega)
          have z2 : gi (wI (wI h334 17 4 1) 1 2 (p + 1)) u 1 = (gi h333 u 1) := (gi_a (by omega) _).trans ((gi_a (by omega) _).trans (FRM_gi hF334 (r := 8) (su_r hu).1 rfl))
          have z3 : gi (wI (wI h334 17 4 1) 1 2 (p + 1)) 17 1 = ((gi h333 17 1) + 1) := (gi_a (by decide) _).trans ((gi_k (by decide) _).trans (t334))
          have z4 : gi (wI (wI h334 17 4 1) 1 2 (p + 1)) 17 2 = (d : Int) := (gi_a (by decide) _).trans ((gi_k (by decide) _).trans ((FRM_gi hF334 (r := 11) rfl rfl).trans ((FRM_gi hF333 (r := 11) rfl rfl).trans ((gi_k (by decide) _).trans (e4)))))
          have z5 : gi (wI (wI h334 17 4 1) 1 2 (p + 1)) 17 3 = (bOr (gi h 17 3) (bShl 1 (d : Int))) := (gi_a (by decide) _).trans ((gi_k (by decide) _).trans ((FRM_gi hF334 (r := 11) rfl rfl).trans ((FRM_gi hF333 (r := 11) rfl rfl).trans (gi_same (by omega)))))
          have z6 : gi (wI (wI h334 17 4 1) 1 2 (p + 1)) 17 4 = (b2i true) := (gi_a (by decide) _).trans (gi_same (by omega))
          have y1 : cdL (wI (wI h334 17 4 1) 1 2 (p + 1)) u ((gi h333 u 1)).toNat = (q ++ ngs (popS (rkI ((fx h) p)) s)) := (cdL_e (h := h333) fun j hj => (gi_a (by first | decide | omega) _).trans ((gi_a (by first | decide | omega) _).trans (FRM_gi hF334 (r := 9) (su_r hu).2 rfl))).trans o333
          have y2 : wtL (wI (wI h334 17 4 1) 1 2 (p + 1)) (((gi h333 17 1) + 1)).toNat = (((fx h) p) :: (rstS (rkI ((fx h) p)) s)) := (wtL_e (h := h334) fun j hj => (gi_a (by first | decide | omega) _).trans (gi_a (by first | decide | omega) _)).trans s334
          have zr : 0 ≤ (bOr (gi h 17 3) (bShl 1 (d : Int))) ∧ (bOr (gi h 17 3) (bShl 1 (d : Int))) ≤ 31 := cl.1
          have zc : cBt (bOr (gi h 17 3) (bShl 1 (d : Int))) = (upB c d true) := cl.2
          exact x_zret hK rfl (by omega) ⟨Or.inl ⟨(p + 1), (q ++ ngs (popS (rkI ((fx h) p)) s)), (((fx h) p) :: (rstS (rkI ((fx h) p)) s)), d, (upB c d true), true, mt, rfl, ⟨z1, by rw [z2]; exact y1, by rw [z3]; exact y2, z4.trans (by omega), by rw [z5]; exact zc, z6, by rw [z5]; exact zr, by omega, List.forall_mem_cons.mpr ⟨Or.inr ⟨by omega, by omega, by omega⟩, rst_sub ew⟩, (by show (if fx h p = 40 then 1 else 0) + brS (rstS (rkI (fx h p)) s) = d; rw [if_neg r40.1, rst_br (by omega), eb, Nat.zero_add])⟩, by omega, by omega⟩, GD_w0 (GD_w1 (hG334) (r := 11) rfl (by omega) rfl (by omega) (by omega)) (r := 1) rfl rfl, FRM_w (FRM_w (((FRM_w ((FRM.rf : FRM gRL [(0, 1, 2, 2), (0, 1, 5, 5), (0, 8, 1, 1), (0, 9, 0, 39), (0, 11, 1, 4), (0, 12, 0, 39)] h h)) (r := 11) rfl rfl).trans ((hF333).mono rfl)).trans ((hF334).mono rfl)) (r := 11) rfl rfl) (r := 1) rfl rfl, (fun a k n1 n2 n3 n4 n5 => (gi_a (by omega) _).trans ((gi_a (by omega) _).trans ((frm_o hF334 [17, 18] (by decide +kernel) (by simp only [List.mem_cons, List.not_mem_nil, or_false]; omega) k).trans ((oa333 a k n2 n4 n5).trans (gi_a (by omega) _)))))⟩
        · refine x_iconst 80 hK rfl rfl ?_
          have cd : cBt (gi h 17 3) d = c d := by rw [e5]
          unfold cBt at cd
          rw [decide_eq_true (show d ≤ 4 by omega), Bool.true_and] at cd
          exact x_zret hK rfl (by omega) ⟨Or.inr ⟨by unfold mopr; rw [if_neg (by omega), if_pos (by first | exact Or.inl (by omega) | exact Or.inr ⟨by omega, by rw [← cd]; exact decide_eq_true (by omega)⟩)], rfl, rfl⟩, hG, FRM.rf, fun _ _ _ _ _ _ _ => rfl⟩
  · refine x_aload_n 18 hK rfl rfl rfl ?_
    refine x_getE 21 hK rfl (Or.inl rfl) rfl (sp_17 (h := h) hG) (e := (d : Int)) (e4) ?_
    refine x_if_le 53 24 hK rfl rfl rfl (by omega) (fun c88 => ?_) (fun c88 => ?_)
    · refine x_iload 55 hK rfl rfl rfl ?_
      refine x_if_eq 79 58 hK rfl rfl rfl (by omega) (fun c90 => ?_) (fun c90 => ?_)
      · refine x_iconst 80 hK rfl rfl ?_
        have cd : cBt (gi h 17 3) d = c d := by rw [e5]
        unfold cBt at cd
        rw [decide_eq_true (show d ≤ 4 by omega), Bool.true_and] at cd
        exact x_zret hK rfl (by omega) ⟨Or.inr ⟨by unfold mopr; rw [if_neg (by omega), if_pos (by first | exact Or.inl (by omega) | exact Or.inr ⟨by omega, by rw [← cd]; exact decide_eq_true (by omega)⟩)], rfl, rfl⟩, hG, FRM.rf, fun _ _ _ _ _ _ _ => rfl⟩
      · refine x_iload 60 hK rfl rfl rfl ?_
        refine x_iconst 61 hK rfl rfl ?_
        refine x_if_icmp_ne 81 64 hK rfl rfl rfl (by omega) (by omega) (fun c95 => ?_) (fun c95 => ?_)
        · refine x_aload_n 82 hK rfl rfl rfl ?_
          refine x_dup 83 hK rfl rfl rfl ?_
          have g336 := gi_r h 17 3
          refine x_getE 86 hK rfl (Or.inl rfl) rfl (sp_17 (h := h) hG) (e := (gi h 17 3)) (rfl) ?_
          refine x_iload 88 hK rfl rfl rfl ?_
          refine x_iconst 89 hK rfl rfl ?_
          refine x_if_icmp_ne 101 92 hK rfl rfl rfl (by omega) (by omega) (fun _ => ?_) (fun c => by omega)
          refine x_iconst 102 hK rfl rfl ?_
          have g337 := bOr_r (gi h 17 3) 0
          refine x_iorF 103 hK rfl rfl ?_
          refine x_putI 106 hK rfl rfl (sp_17 (h := h) hG) ?_
          refine x_aload_n 107 hK rfl rfl rfl ?_
          refine x_iload 109 hK rfl rfl rfl ?_
          refine x_aload_n 110 hK rfl rfl rfl ?_
          have hGp338 : GD gE gRL sh (wI h 17 3 (bOr (gi h 17 3) 0)) := GD_w0 (hG) (r := 11) rfl rfl
          have rz339 := rk40 (x := fx h p) (by omega)
          have nu339 : gi (wI h 17 3 (bOr (gi h 17 3) 0)) u 1 = (gi h u 1) := gi_a (by omega) _
          have nw339 : gi (wI h 17 3 (bOr (gi h 17 3) 0)) 17 1 = (gi h 17 1) := gi_k (by decide) _
          have lo339 : cdL (wI h 17 3 (bOr (gi h 17 3) 0)) u ((gi h u 1)).toNat = q := (cdL_e (h := h) fun j hj => gi_a (by first | decide | omega) _).trans e2
          have lw339 : wtL (wI h 17 3 (bOr (gi h 17 3) 0)) ((gi h 17 1)).toNat = s := (wtL_e (h := h) fun j hj => gi_a (by first | decide | omega) _).trans e3
          refine x_callV 113 hK hmono rfl rfl [.ref 17, .int (I (rkI ((fx h) p) : Int)), .ref u] [] rfl rfl (Nat.le_of_ble_eq_true rfl) (Nat.le_of_ble_eq_true rfl) rfl (sp_17 (h := h) hG) (CLd_le (Nat.le_of_ble_eq_true rfl) (ctX5_releaseF hSP hGp338 (show PT h from hP) hu (r := (rkI ((fx h) p))) (by omega) (by rw [nu339, nw339]; omega) (fun j hj => wt_at (n := ((gi h 17 1)).toNat) ew lw339 j (by rw [nw339] at hj; omega)))) ?_
          rw [nu339, nw339, lo339, lw339]
          rintro v339 h339 ⟨rfl, hG339, hF339, o339, w339, t339, oa339⟩
          have gu339 := gri 0 40 hG339 (a := u) (r := 8) (k := 1) (su_r hu).1 rfl
          have gw339 := gri 0 40 hG339 (a := 17) (r := 11) (k := 1) rfl rfl
          refine x_aload_n 114 hK rfl rfl rfl ?_
          refine x_iload_n 115 hK rfl rfl rfl ?_
          have g341 := gri (0) (40) hG339 (a := 17) (r := 11) (k := 1) rfl rfl
          have nn340 : gi h339 17 1 = (gi h339 17 1) := rfl
          have lw340 : wtL h339 ((gi h339 17 1)).toNat = (rstS (rkI ((fx h) p)) s) := (wtL_e (h := h339) fun j hj => rfl).trans w339
          refine x_callV 118 hK hmono rfl rfl [.ref 17, .int (I ((fx h) p))] [] rfl rfl (Nat.le_of_ble_eq_true rfl) (Nat.le_of_ble_eq_true rfl) rfl (sp_17 (h := h339) hG339) (CLd_le (Nat.le_of_ble_eq_true rfl) (ctX5_holdF hSP hG339 (by omega) (by omega))) ?_
          rw [nn340, lw340]
          rintro v340 h340 ⟨rfl, hG340, hF340, t340, s340⟩
          refine x_aload_n 119 hK rfl rfl rfl ?_
          refine x_iconst 120 hK rfl rfl ?_
          refine x_putZ 123 hK rfl rfl (sp_17 (h := h340) hG340) (by omega) ?_
          refine x_aload_n 124 hK rfl rfl rfl ?_
          refine x_dup 125 hK rfl rfl rfl ?_
          refine x_getE 128 hK rfl (Or.inl rfl) rfl (sp_1 (h := h340) hG340) (e := p) ((gi_a (by decide) _).trans ((FRM_gi hF340 (r := 1) rfl rfl).trans ((FRM_gi hF339 (r := 1) rfl rfl).trans ((gi_a (by decide) _).trans (e1))))) ?_
          refine x_iconst 129 hK rfl rfl ?_
          refine x_iadd 130 hK rfl rfl ?_
          refine x_putI 133 hK rfl rfl (sp_1 (h := h340) hG340) ?_
          refine x_iconst 134 hK rfl rfl ?_
          have cd : cBt (gi h 17 3) d = c d := by rw [e5]
          unfold cBt at cd
          rw [decide_eq_true (show d ≤ 4 by omega), Bool.true_and] at cd
          have r40 := rk40 (x := fx h p) (by omega)
          have c0 := bOr_0 hc
          have mt : mopr (fx h) p q s d c = some (p + 1, q ++ ngs (popS (rkI (fx h p)) s), fx h p :: rstS (rkI (fx h p)) s, d, c, true) := by unfold mopr; rw [if_neg (by omega), if_neg (by first | omega | exact fun z => z.elim (fun y => absurd y (by omega)) (fun y => by have y := y.2; rw [← cd] at y; exact absurd (of_decide_eq_true y) (by omega))), if_neg (by omega)]
          have z1 : gi (wI (wI h340 17 4 1) 1 2 (p + 1)) 1 2 = (p + 1) := gi_same (by omega)
          have z2 : gi (wI (wI h340 17 4 1) 1 2 (p + 1)) u 1 = (gi h339 u 1) := (gi_a (by omega) _).trans ((gi_a (by omega) _).trans (FRM_gi hF340 (r := 8) (su_r hu).1 rfl))
          have z3 : gi (wI (wI h340 17 4 1) 1 2 (p + 1)) 17 1 = ((gi h339 17 1) + 1) := (gi_a (by decide) _).trans ((gi_k (by decide) _).trans (t340))
          have z4 : gi (wI (wI h340 17 4 1) 1 2 (p + 1)) 17 2 = (d : Int) := (gi_a (by decide) _).trans ((gi_k (by decide) _).trans ((FRM_gi hF340 (r := 11) rfl rfl).trans ((FRM_gi hF339 (r := 11) rfl rfl).trans ((gi_k (by decide) _).trans (e4)))))
          have z5 : gi (wI (wI h340 17 4 1) 1 2 (p + 1)) 17 3 = (bOr (gi h 17 3) 0) := (gi_a (by decide) _).trans ((gi_k (by decide) _).trans ((FRM_gi hF340 (r := 11) rfl rfl).trans ((FRM_gi hF339 (r := 11) rfl rfl).trans (gi_same (by omega)))))
          have z6 : gi (wI (wI h340 17 4 1) 1 2 (p + 1)) 17 4 = (b2i true) := (gi_a (by decide) _).trans (gi_same (by omega))
          have y1 : cdL (wI (wI h340 17 4 1) 1 2 (p + 1)) u ((gi h339 u 1)).toNat = (q ++ ngs (popS (rkI ((fx h) p)) s)) := (cdL_e (h := h339) fun j hj => (gi_a (by first | decide | omega) _).trans ((gi_a (by first | decide | omega) _).trans (FRM_gi hF340 (r := 9) (su_r hu).2 rfl))).trans o339
          have y2 : wtL (wI (wI h340 17 4 1) 1 2 (p + 1)) (((gi h339 17 1) + 1)).toNat = (((fx h) p) :: (rstS (rkI ((fx h) p)) s)) := (wtL_e (h := h340) fun j hj => (gi_a (by first | decide | omega) _).trans (gi_a (by first | decide | omega) _)).trans s340
          have zr : 0 ≤ (bOr (gi h 17 3) 0) ∧ (bOr (gi h 17 3) 0) ≤ 31 := (by rw [c0]; exact hc)
          have zc : cBt (bOr (gi h 17 3) 0) = c := (by rw [c0]; exact e5)
          exact x_zret hK rfl (by omega) ⟨Or.inl ⟨(p + 1), (q ++ ngs (popS (rkI ((fx h) p)) s)), (((fx h) p) :: (rstS (rkI ((fx h) p)) s)), d, c, true, mt, rfl, ⟨z1, by rw [z2]; exact y1, by rw [z3]; exact y2, z4.trans (by omega), by rw [z5]; exact zc, z6, by rw [z5]; exact zr, by omega, List.forall_mem_cons.mpr ⟨Or.inr ⟨by omega, by omega, by omega⟩, rst_sub ew⟩, (by show (if fx h p = 40 then 1 else 0) + brS (rstS (rkI (fx h p)) s) = d; rw [if_neg r40.1, rst_br (by omega), eb, Nat.zero_add])⟩, by omega, by omega⟩, GD_w0 (GD_w1 (hG340) (r := 11) rfl (by omega) rfl (by omega) (by omega)) (r := 1) rfl rfl, FRM_w (FRM_w (((FRM_w ((FRM.rf : FRM gRL [(0, 1, 2, 2), (0, 1, 5, 5), (0, 8, 1, 1), (0, 9, 0, 39), (0, 11, 1, 4), (0, 12, 0, 39)] h h)) (r := 11) rfl rfl).trans ((hF339).mono rfl)).trans ((hF340).mono rfl)) (r := 11) rfl rfl) (r := 1) rfl rfl, (fun a k n1 n2 n3 n4 n5 => (gi_a (by omega) _).trans ((gi_a (by omega) _).trans ((frm_o hF340 [17, 18] (by decide +kernel) (by simp only [List.mem_cons, List.not_mem_nil, or_false]; omega) k).trans ((oa339 a k n2 n4 n5).trans (gi_a (by omega) _)))))⟩
        · refine x_aload_n 65 hK rfl rfl rfl ?_
          have g342 := gi_r h 17 3
          refine x_getE 68 hK rfl (Or.inl rfl) rfl (sp_17 (h := h) hG) (e := (gi h 17 3)) (rfl) ?_
          refine x_aload_n 69 hK rfl rfl rfl ?_
          refine x_getE 72 hK rfl (Or.inl rfl) rfl (sp_17 (h := h) hG) (e := (d : Int)) (e4) ?_
          have g343 := bShr_r (gi h 17 3) (d : Int)
          refine x_ishrF 73 hK rfl rfl ?_
          refine x_iconst 74 hK rfl rfl ?_
          have g344 := bAnd_r (bShr (gi h 17 3) (d : Int)) 1
          refine x_iandF 75 hK rfl rfl ?_
          refine x_iconst 76 hK rfl rfl ?_
          refine x_if_icmp_ne 81 79 hK rfl rfl rfl (by omega) (by omega) (fun c131 => ?_) (fun c131 => ?_)
          · refine x_aload_n 82 hK rfl rfl rfl ?_
            refine x_dup 83 hK rfl rfl rfl ?_
            refine x_getE 86 hK rfl (Or.inl rfl) rfl (sp_17 (h := h) hG) (e := (gi h 17 3)) (rfl) ?_
            refine x_iload 88 hK rfl rfl rfl ?_
            refine x_iconst 89 hK rfl rfl ?_
            refine x_if_icmp_ne 101 92 hK rfl rfl rfl (by omega) (by omega) (fun c => by omega) (fun _ => ?_)
            refine x_iconst 93 hK rfl rfl ?_
            refine x_aload_n 94 hK rfl rfl rfl ?_
            refine x_getE 97 hK rfl (Or.inl rfl) rfl (sp_17 (h := h) hG) (e := (d : Int)) (e4) ?_
            have g345 := bShl_r 1 (d : Int)
            refine x_ishlF 98 hK rfl rfl ?_
            refine x_goto 102 hK rfl rfl ?_
            have g346 := bOr_r (gi h 17 3) (bShl 1 (d : Int))
            refine x_iorF 103 hK rfl rfl ?_
            refine x_putI 106 hK rfl rfl (sp_17 (h := h) hG) ?_
            refine x_aload_n 107 hK rfl rfl rfl ?_
            refine x_iload 109 hK rfl rfl rfl ?_
            refine x_aload_n 110 hK rfl rfl rfl ?_
            have hGp347 : GD gE gRL sh (wI h 17 3 (bOr (gi h 17 3) (bShl 1 (d : Int)))) := GD_w0 (hG) (r := 11) rfl rfl
            have rz348 := rk40 (x := fx h p) (by omega)
            have nu348 : gi (wI h 17 3 (bOr (gi h 17 3) (bShl 1 (d : Int)))) u 1 = (gi h u 1) := gi_a (by omega) _
            have nw348 : gi (wI h 17 3 (bOr (gi h 17 3) (bShl 1 (d : Int)))) 17 1 = (gi h 17 1) := gi_k (by decide) _
            have lo348 : cdL (wI h 17 3 (bOr (gi h 17 3) (bShl 1 (d : Int)))) u ((gi h u 1)).toNat = q := (cdL_e (h := h) fun j hj => gi_a (by first | decide | omega) _).trans e2
            have lw348 : wtL (wI h 17 3 (bOr (gi h 17 3) (bShl 1 (d : Int)))) ((gi h 17 1)).toNat = s := (wtL_e (h := h) fun j hj => gi_a (by first | decide | omega) _).trans e3
            refine x_callV 113 hK hmono rfl rfl [.ref 17, .int (I (rkI ((fx h) p) : Int)), .ref u] [] rfl rfl (Nat.le_of_ble_eq_true rfl) (Nat.le_of_ble_eq_true rfl) rfl (sp_17 (h := h) hG) (CLd_le (Nat.le_of_ble_eq_true rfl) (ctX5_releaseF hSP hGp347 (show PT h from hP) hu (r := (rkI ((fx h) p))) (by omega) (by rw [nu348, nw348]; omega) (fun j hj => wt_at (n := ((gi h 17 1)).toNat) ew lw348 j (by rw [nw348] at hj; omega)))) ?_
            rw [nu348, nw348, lo348, lw348]
            rintro v348 h348 ⟨rfl, hG348, hF348, o348, w348, t348, oa348⟩
            have gu348 := gri 0 40 hG348 (a := u) (r := 8) (k := 1) (su_r hu).1 rfl
            have gw348 := gri 0 40 hG348 (a := 17) (r := 11) (k := 1) rfl rfl
            refine x_aload_n 114 hK rfl rfl rfl ?_
            refine x_iload_n 115 hK rfl rfl rfl ?_
            have g350 := gri (0) (40) hG348 (a := 17) (r := 11) (k := 1) rfl rfl
            have nn349 : gi h348 17 1 = (gi h348 17 1) := rfl
            have lw349 : wtL h348 ((gi h348 17 1)).toNat = (rstS (rkI ((fx h) p)) s) := (wtL_e (h := h348) fun j hj => rfl).trans w348
            refine x_callV 118 hK hmono rfl rfl [.ref 17, .int (I ((fx h) p))] [] rfl rfl (Nat.le_of_ble_eq_true rfl) (Nat.le_of_ble_eq_true rfl) rfl (sp_17 (h := h348) hG348) (CLd_le (Nat.le_of_ble_eq_true rfl) (ctX5_holdF hSP hG348 (by omega) (by omega))) ?_
            rw [nn349, lw349]
            rintro v349 h349 ⟨rfl, hG349, hF349, t349, s349⟩
            refine x_aload_n 119 hK rfl rfl rfl ?_
            refine x_iconst 120 hK rfl rfl ?_
            refine x_putZ 123 hK rfl rfl (sp_17 (h := h349) hG349) (by omega) ?_
            refine x_aload_n 124 hK rfl rfl rfl ?_
            refine x_dup 125 hK rfl rfl rfl ?_
            refine x_getE 128 hK rfl (Or.inl rfl) rfl (sp_1 (h := h349) hG349) (e := p) ((gi_a (by decide) _).trans ((FRM_gi hF349 (r := 1) rfl rfl).trans ((FRM_gi hF348 (r := 1) rfl rfl).trans ((gi_a (by decide) _).trans (e1))))) ?_
            refine x_iconst 129 hK rfl rfl ?_
            refine x_iadd 130 hK rfl rfl ?_
            refine x_putI 133 hK rfl rfl (sp_1 (h := h349) hG349) ?_
            refine x_iconst 134 hK rfl rfl ?_
            have cd : cBt (gi h 17 3) d = c d := by rw [e5]
            unfold cBt at cd
            rw [decide_eq_true (show d ≤ 4 by omega), Bool.true_and] at cd
            have r40 := rk40 (x := fx h p) (by omega)
            have cl := cBt_set hc (k := (d : Int)) (by omega)
            rw [show ((d : Int)).toNat = d by omega, e5] at cl
            have mt : mopr (fx h) p q s d c = some (p + 1, q ++ ngs (popS (rkI (fx h p)) s), fx h p :: rstS (rkI (fx h p)) s, d, upB c d true, true) := by unfold mopr; rw [if_neg (by omega), if_neg (by first | omega | exact fun z => z.elim (fun y => absurd y (by omega)) (fun y => by have y := y.2; rw [← cd] at y; exact absurd (of_decide_eq_true y) (by omega))), if_pos (by omega)]
            have z1 : gi (wI (wI h349 17 4 1) 1 2 (p + 1)) 1 2 = (p + 1) := gi_same (by omega)
            have z2 : gi (wI (wI h349 17 4 1) 1 2 (p + 1)) u 1 = (gi h348 u 1) := (gi_a (by omega) _).trans ((gi_a (by omega) _).trans (FRM_gi hF349 (r := 8) (su_r hu).1 rfl))
            have z3 : gi (wI (wI h349 17 4 1) 1 2 (p + 1)) 17 1 = ((gi h348 17 1) + 1) := (gi_a (by decide) _).trans ((gi_k (by decide) _).trans (t349))
            have z4 : gi (wI (wI h349 17 4 1) 1 2 (p + 1)) 17 2 = (d : Int) := (gi_a (by decide) _).trans ((gi_k (by decide) _).trans ((FRM_gi hF349 (r := 11) rfl rfl).trans ((FRM_gi hF348 (r := 11) rfl rfl).trans ((gi_k (by decide) _).trans (e4)))))
            have z5 : gi (wI (wI h349 17 4 1) 1 2 (p + 1)) 17 3 = (bOr (gi h 17 3) (bShl 1 (d : Int))) := (gi_a (by decide) _).trans ((gi_k (by decide) _).trans ((FRM_gi hF349 (r := 11) rfl rfl).trans ((FRM_gi hF348 (r := 11) rfl rfl).trans (gi_same (by omega)))))
            have z6 : gi (wI (wI h349 17 4 1) 1 2 (p + 1)) 17 4 = (b2i true) := (gi_a (by decide) _).trans (gi_same (by omega))
            have y1 : cdL (wI (wI h349 17 4 1) 1 2 (p + 1)) u ((gi h348 u 1)).toNat = (q ++ ngs (popS (rkI ((fx h) p)) s)) := (cdL_e (h := h348) fun j hj => (gi_a (by first | decide | omega) _).trans ((gi_a (by first | decide | omega) _).trans (FRM_gi hF349 (r := 9) (su_r hu).2 rfl))).trans o348
            have y2 : wtL (wI (wI h349 17 4 1) 1 2 (p + 1)) (((gi h348 17 1) + 1)).toNat = (((fx h) p) :: (rstS (rkI ((fx h) p)) s)) := (wtL_e (h := h349) fun j hj => (gi_a (by first | decide | omega) _).trans (gi_a (by first | decide | omega) _)).trans s349
            have zr : 0 ≤ (bOr (gi h 17 3) (bShl 1 (d : Int))) ∧ (bOr (gi h 17 3) (bShl 1 (d : Int))) ≤ 31 := cl.1
            have zc : cBt (bOr (gi h 17 3) (bShl 1 (d : Int))) = (upB c d true) := cl.2
            exact x_zret hK rfl (by omega) ⟨Or.inl ⟨(p + 1), (q ++ ngs (popS (rkI ((fx h) p)) s)), (((fx h) p) :: (rstS (rkI ((fx h) p)) s)), d, (upB c d true), true, mt, rfl, ⟨z1, by rw [z2]; exact y1, by rw [z3]; exact y2, z4.trans (by omega), by rw [z5]; exact zc, z6, by rw [z5]; exact zr, by omega, List.forall_mem_cons.mpr ⟨Or.inr ⟨by omega, by omega, by omega⟩, rst_sub ew⟩, (by show (if fx h p = 40 then 1 else 0) + brS (rstS (rkI (fx h p)) s) = d; rw [if_neg r40.1, rst_br (by omega), eb, Nat.zero_add])⟩, by omega, by omega⟩, GD_w0 (GD_w1 (hG349) (r := 11) rfl (by omega) rfl (by omega) (by omega)) (r := 1) rfl rfl, FRM_w (FRM_w (((FRM_w ((FRM.rf : FRM gRL [(0, 1, 2, 2), (0, 1, 5, 5), (0, 8, 1, 1), (0, 9, 0, 39), (0, 11, 1, 4), (0, 12, 0, 39)] h h)) (r := 11) rfl rfl).trans ((hF348).mono rfl)).trans ((hF349).mono rfl)) (r := 11) rfl rfl) (r := 1) rfl rfl, (fun a k n1 n2 n3 n4 n5 => (gi_a (by omega) _).trans ((gi_a (by omega) _).trans ((frm_o hF349 [17, 18] (by decide +kernel) (by simp only [List.mem_cons, List.not_mem_nil, or_false]; omega) k).trans ((oa348 a k n2 n4 n5).trans (gi_a (by omega) _)))))⟩
          · refine x_iconst 80 hK rfl rfl ?_
            have cd : cBt (gi h 17 3) d = c d := by rw [e5]
            unfold cBt at cd
            rw [decide_eq_true (show d ≤ 4 by omega), Bool.true_and] at cd
            exact x_zret hK rfl (by omega) ⟨Or.inr ⟨by unfold mopr; rw [if_neg (by omega), if_pos (by first | exact Or.inl (by omega) | exact Or.inr ⟨by omega, by rw [← cd]; exact decide_eq_true (by omega)⟩)], rfl, rfl⟩, hG, FRM.rf, fun _ _ _ _ _ _ _ => rfl⟩
    · refine x_aload_n 25 hK rfl rfl rfl ?_
      refine x_iconst 26 hK rfl rfl ?_
      refine x_aload_n 27 hK rfl rfl rfl ?_
      have nu351 : gi h u 1 = (gi h u 1) := rfl
      have nw351 : gi h 17 1 = (gi h 17 1) := rfl
      have lo351 : cdL h u ((gi h u 1)).toNat = q := (cdL_e (h := h) fun j hj => rfl).trans e2
      have lw351 : wtL h ((gi h 17 1)).toNat = s := (wtL_e (h := h) fun j hj => rfl).trans e3
      refine x_callV 30 hK hmono rfl rfl [.ref 17, .int (I 1), .ref u] [] rfl rfl (Nat.le_of_ble_eq_true rfl) (Nat.le_of_ble_eq_true rfl) rfl (sp_17 (h := h) hG) (CLd_le (Nat.le_of_ble_eq_true rfl) (ctX5_releaseF hSP hG (show PT h from hP) hu (r := 1) (by omega) (by rw [nu351, nw351]; omega) (fun j hj => wt_at (n := ((gi h 17 1)).toNat) ew lw351 j (by rw [nw351] at hj; omega)))) ?_
      rw [nu351, nw351, lo351, lw351]
      rintro v351 h351 ⟨rfl, hG351, hF351, o351, w351, t351, oa351⟩
      have gu351 := gri 0 40 hG351 (a := u) (r := 8) (k := 1) (su_r hu).1 rfl
      have gw351 := gri 0 40 hG351 (a := 17) (r := 11) (k := 1) rfl rfl
      obtain ⟨tl, tl0, tl2⟩ := rst_1 ew (by omega)
      obtain ⟨wl1, wl2⟩ := wt_tl (w351.trans tl0)
      have tl1 : (rstS 1 s).tail = tl := by rw [tl0]; rfl
      refine x_aload_n 31 hK rfl rfl rfl ?_
      refine x_dup 32 hK rfl rfl rfl ?_
      have g352 := gri (0) (40) hG351 (a := 17) (r := 11) (k := 1) rfl rfl
      refine x_getE 35 hK rfl (Or.inl rfl) rfl (sp_17 (h := h351) hG351) (e := (gi h351 17 1)) (rfl) ?_
      refine x_iconst 36 hK rfl rfl ?_
      refine x_isub 37 hK rfl rfl ?_
      refine x_putI 40 hK rfl rfl (sp_17 (h := h351) hG351) ?_
      refine x_aload_n 41 hK rfl rfl rfl ?_
      refine x_dup 42 hK rfl rfl rfl ?_
      refine x_getE 45 hK rfl (Or.inl rfl) rfl (sp_17 (h := h351) hG351) (e := (d : Int)) ((gi_k (by decide) _).trans ((FRM_gi hF351 (r := 11) rfl rfl).trans (e4))) ?_
      refine x_iconst 46 hK rfl rfl ?_
      refine x_isub 47 hK rfl rfl ?_
      refine x_putI 50 hK rfl rfl (sp_17 (h := h351) hG351) ?_
      refine x_goto 123 hK rfl rfl ?_
      refine x_aload_n 124 hK rfl rfl rfl ?_
      refine x_dup 125 hK rfl rfl rfl ?_
      refine x_getE 128 hK rfl (Or.inl rfl) rfl (sp_1 (h := h351) hG351) (e := p) ((gi_a (by decide) _).trans ((gi_a (by decide) _).trans ((FRM_gi hF351 (r := 1) rfl rfl).trans (e1)))) ?_
      refine x_iconst 129 hK rfl rfl ?_
      refine x_iadd 130 hK rfl rfl ?_
      refine x_putI 133 hK rfl rfl (sp_1 (h := h351) hG351) ?_
      refine x_iconst 134 hK rfl rfl ?_
      have z1 : gi (wI (wI (wI h351 17 1 ((gi h351 17 1) - 1)) 17 2 ((d : Int) - 1)) 1 2 (p + 1)) 1 2 = (p + 1) := gi_same (by omega)
      have z2 : gi (wI (wI (wI h351 17 1 ((gi h351 17 1) - 1)) 17 2 ((d : Int) - 1)) 1 2 (p + 1)) u 1 = (gi h351 u 1) := (gi_a (by omega) _).trans ((gi_a (by omega) _).trans (gi_a (by omega) _))
      have z3 : gi (wI (wI (wI h351 17 1 ((gi h351 17 1) - 1)) 17 2 ((d : Int) - 1)) 1 2 (p + 1)) 17 1 = ((gi h351 17 1) - 1) := (gi_a (by decide) _).trans ((gi_k (by decide) _).trans (gi_same (by omega)))
      have z4 : gi (wI (wI (wI h351 17 1 ((gi h351 17 1) - 1)) 17 2 ((d : Int) - 1)) 1 2 (p + 1)) 17 2 = ((d : Int) - 1) := (gi_a (by decide) _).trans (gi_same (by omega))
      have z5 : gi (wI (wI (wI h351 17 1 ((gi h351 17 1) - 1)) 17 2 ((d : Int) - 1)) 1 2 (p + 1)) 17 3 = (gi h 17 3) := (gi_a (by decide) _).trans ((gi_k (by decide) _).trans ((gi_k (by decide) _).trans (FRM_gi hF351 (r := 11) rfl rfl)))
      have z6 : gi (wI (wI (wI h351 17 1 ((gi h351 17 1) - 1)) 17 2 ((d : Int) - 1)) 1 2 (p + 1)) 17 4 = (b2i false) := ((gi_a (by decide) _).trans ((gi_k (by decide) _).trans ((gi_k (by decide) _).trans (FRM_gi hF351 (r := 11) rfl rfl)))).trans (e6)
      have y1 : cdL (wI (wI (wI h351 17 1 ((gi h351 17 1) - 1)) 17 2 ((d : Int) - 1)) 1 2 (p + 1)) u ((gi h351 u 1)).toNat = (q ++ ngs (popS 1 s)) := (cdL_e (h := h351) fun j hj => (gi_a (by first | decide | omega) _).trans ((gi_a (by first | decide | omega) _).trans (gi_a (by first | decide | omega) _))).trans o351
      have y2 : wtL (wI (wI (wI h351 17 1 ((gi h351 17 1) - 1)) 17 2 ((d : Int) - 1)) 1 2 (p + 1)) (((gi h351 17 1) - 1)).toNat = (rstS 1 s).tail := (wtL_e (h := h351) fun j hj => (gi_a (by first | decide | omega) _).trans ((gi_a (by first | decide | omega) _).trans (gi_a (by first | decide | omega) _))).trans ((show wtL h351 (gi h351 17 1 - 1).toNat = wtL h351 ((gi h351 17 1).toNat - 1) from by congr 1; omega).trans (wl2.trans tl1.symm))
      have zr : 0 ≤ (gi h 17 3) ∧ (gi h 17 3) ≤ 31 := hc
      have zc : cBt (gi h 17 3) = c := e5
      exact x_zret hK rfl (by omega) ⟨Or.inl ⟨(p + 1), (q ++ ngs (popS 1 s)), (rstS 1 s).tail, (d - 1), c, false, by unfold mopr; rw [if_pos (by omega)], rfl, ⟨z1, by rw [z2]; exact y1, by rw [z3]; exact y2, z4.trans (by omega), by rw [z5]; exact zc, z6, by rw [z5]; exact zr, by omega, (fun x hx => rst_sub ew x (List.mem_of_mem_tail hx)), (by rw [tl1]; show brS tl = d - 1; omega)⟩, by omega, by omega⟩, GD_w0 (GD_w1 (GD_w1 (hG351) (r := 11) rfl (by omega) rfl (by omega) (by omega)) (r := 11) rfl (by omega) rfl (by omega) (by omega)) (r := 1) rfl rfl, FRM_w (FRM_w (FRM_w ((hF351).mono rfl) (r := 11) rfl rfl) (r := 11) rfl rfl) (r := 1) rfl rfl, (fun a k n1 n2 n3 n4 n5 => (gi_a (by omega) _).trans ((gi_a (by omega) _).trans ((gi_a (by omega) _).trans (oa351 a k n2 n4 n5))))⟩
end
section
/-! THE RULE, read by the class -/
set_option maxRecDepth 4000 in
theorem ctX5_readFromF {SP : CT} (hSP : MONO SP) {sh : List (Nat × Nat)} {h : aH} (hG : GD gE gRL sh h) {u : Nat} (hP : PT h) (hu : u = 11 ∨ u = 14) {n : Int} (h12 : gi h 1 2 = 0) (h13 : gi h 1 3 = min n 40) (h14 : gi h 1 4 = if 40 < n then 1 else 0) (hn : 0 ≤ n ∧ n ≤ 80) : CLd SP 7 mX5_readFrom [.ref 17, .ref 1, .ref u] h 0 0 (fun rv h' => (∃ (p : Int) (q s : List Int) (d : Nat) (c : Nat → Bool) (w : Bool), GoR (fx h) (0, [], [], 0, fun _ => false, true) (p, q, s, d, c, w) ∧ mstp (fx h) (p, q, s, d, c, w) = none ∧ (0 ≤ p ∧ p ≤ min n 40) ∧ rv = some (.int (I (cfl n 40 (!w && decide (d = 0), p)))) ∧ ((cfl n 40 (!w && decide (d = 0), p)) = -1 → cdL h' u (gi h' u 1).toNat = q ++ ngs (popS 1 s))) ∧ GD gE gRL sh h' ∧ FRM gRL [(0, 1, 2, 2), (0, 1, 5, 5), (0, 8, 1, 1), (0, 9, 0, 39), (0, 11, 1, 4), (0, 12, 0, 39)] h h' ∧ ∀ a k : Nat, a ≠ 1 → a ≠ 17 → a ≠ 18 → a ≠ u → a ≠ u + 1 → gi h' a k = gi h a k) := by
  refine x_met _ rfl (Nat.le_of_ble_eq_true rfl) (fun K hK => ?_)
  have hmono := MONO_CLd hSP 6
  have fe0 : ∀ a, min n 40 ≤ a → fx h a = -1 := fun a ha => fx_end h a (by rw [h13]; exact ha)
  have loop : ∀ (mz : Nat) (i p : Int) (h4 : aH) (ls : List (Nat × Value)), ((40 - i).toNat = mz) → (0 ≤ i ∧ i ≤ 40) → (i ≤ p ∧ p ≤ min n 40) → (∃ (q s : List Int) (d : Nat) (c : Nat → Bool) (w : Bool), GoR (fx h) (0, [], [], 0, fun _ => false, true) (p, q, s, d, c, w) ∧ RdH h4 u p q s d c w) → (∀ a k : Nat, a ≠ 1 → a ≠ 17 → a ≠ 18 → a ≠ u → a ≠ u + 1 → gi h4 a k = gi h a k) → lk ls 0 = some (.ref 17) → lk ls 1 = some (.ref 1) → lk ls 2 = some (.ref u) → lk ls 3 = some (.int (I i)) → GD gE gRL sh h4 → FRM gRL [(0, 1, 2, 2), (0, 1, 5, 5), (0, 8, 1, 1), (0, 9, 0, 39), (0, 11, 1, 4), (0, 12, 0, 39)] h h4 → K 27 ls [] h4 0 0 := by
    intro mz
    induction mz using Nat.strongRecOn with
    | ind mz ih =>
    intro i p h4 ls hm i0 pi hq oa l0 l1 l2 l3 hG4 hF4
    obtain ⟨q, s, d, c, w, hgo, hR⟩ := hq
    have hR2 := hR
    obtain ⟨e1, e2, e3, e4, e5, e6, hc, en, ew, eb⟩ := hR2
    have s3 : gi h4 1 3 = min n 40 := (FRM_gi hF4 (r := 1) rfl rfl).trans h13
    have s4 : gi h4 1 4 = (if 40 < n then (1 : Int) else 0) := (FRM_gi hF4 (r := 1) rfl rfl).trans h14
    have sF : fx h4 = fx h := fx_F hF4 rfl rfl
    have gn := gri 0 40 hG4 (a := u) (r := 8) (k := 1) (su_r hu).1 rfl
    have gw0 := gri 0 40 hG4 (a := 17) (r := 11) (k := 1) rfl rfl
    have gd0 := gri 0 4 hG4 (a := 17) (r := 11) (k := 2) rfl rfl
    have stop : min n 40 ≤ p → mstp (fx h) (p, q, s, d, c, w) = none := fun z => by
      have z2 := fe0 p z
      cases w with
      | true =>
        show mthg (fx h) p q s d c = none
        unfold mthg
        rw [if_neg (by omega), if_neg (by unfold askI; omega), if_neg (by omega), if_neg (by omega)]
      | false =>
        show mopr (fx h) p q s d c = none
        unfold mopr
        rw [if_neg (by omega), if_pos (Or.inl (by rw [z2]; rfl))]
    refine x_iload_n 28 hK rfl rfl l3 ?_
    refine x_bipush 30 hK rfl rfl rfl ?_
    refine x_if_icmp_ge 80 33 hK rfl rfl rfl (by omega) (by omega) (fun c3 => ?_) (fun c3 => ?_)
    · refine x_aload_n 81 hK rfl rfl l0 ?_
      have g358 := gri (0) (1) hG4 (a := 17) (r := 11) (k := 4) rfl rfl
      refine x_getE 84 hK rfl (Or.inr rfl) rfl (sp_17 (h := h4) hG4) (e := (gi h4 17 4)) (rfl) ?_
      obtain wv | wv : w = true ∨ w = false := Bool.eq_false_or_eq_true w
      · rw [show (gi h4 17 4) = 1 from by rw [e6, wv]; rfl]
        refine x_if_ne 94 87 hK rfl rfl rfl (by omega) (fun _ => ?_) (fun c => by omega)
        refine x_aload_n 95 hK rfl rfl l1 ?_
        refine x_getE 98 hK rfl (Or.inl rfl) rfl (sp_1 (h := h4) hG4) (e := p) (e1) ?_
        have e9 : (cfl n 40 (!w && decide (d = 0), p)) = p := by unfold cfl; exact if_neg (fun z => by have z1 : (!w && decide (d = 0)) = true := z.1; first | (simp [wv] at z1; done) | (simp [wv] at z1; omega))
        exact x_iret hK rfl ⟨⟨p, q, s, d, c, w, hgo, stop (by omega), ⟨by omega, by omega⟩, by rw [e9], fun z => by rw [e9] at z; omega⟩, hG4, hF4, fun a k n1 n2 n3 n4 n5 => oa a k n1 n2 n3 n4 n5⟩
      · rw [show (gi h4 17 4) = 0 from by rw [e6, wv]; rfl]
        refine x_if_ne 94 87 hK rfl rfl rfl (by omega) (fun c => by omega) (fun _ => ?_)
        refine x_aload_n 88 hK rfl rfl l0 ?_
        refine x_getE 91 hK rfl (Or.inl rfl) rfl (sp_17 (h := h4) hG4) (e := (d : Int)) (e4) ?_
        refine x_if_le 99 94 hK rfl rfl rfl (by omega) (fun c14 => ?_) (fun c14 => ?_)
        · refine x_aload_n 100 hK rfl rfl l0 ?_
          refine x_iconst 101 hK rfl rfl ?_
          refine x_aload_n 102 hK rfl rfl l2 ?_
          refine x_callV 105 hK hmono rfl rfl [.ref 17, .int (I 1), .ref u] [] rfl rfl (Nat.le_of_ble_eq_true rfl) (Nat.le_of_ble_eq_true rfl) rfl (sp_17 (h := h4) hG4) (CLd_le (Nat.le_of_ble_eq_true rfl) (ctX5_releaseF hSP hG4 (show PT h4 from (PT_F hF4 (by decide) hP)) hu (r := 1) (by omega) (by omega) (fun j hj => wt_at ew e3 j (by omega)))) ?_
          rw [e2, e3]
          rintro v359 h359 ⟨rfl, hG359, hF359, o359, w359, t359, oa359⟩
          refine x_aload_n 106 hK rfl rfl l1 ?_
          have to360 : gi h359 1 3 = (min n 40) := (FRM_gi hF359 (r := 1) rfl rfl).trans (s3)
          have mo360 : gi h359 1 4 = (if 40 < n then (1 : Int) else 0) := (FRM_gi hF359 (r := 1) rfl rfl).trans (s4)
          refine x_callV 109 hK hmono rfl rfl [.ref 1] [] rfl rfl (Nat.le_of_ble_eq_true rfl) (Nat.le_of_ble_eq_true rfl) rfl (sp_1 (h := h359) hG359) (CLd_le (Nat.le_of_ble_eq_true rfl) (ctX9_faultAtEnd hSP hG359)) ?_
          rw [to360, mo360]
          rintro v9 h9 ⟨e9, rfl⟩
          rw [e9]
          clear e9
          have e9 : (cfl n 40 (!w && decide (d = 0), p)) = (if (if 40 < n then (1 : Int) else 0) = 1 then (min n 40) else -1) := by
            unfold cfl
            rw [wv, show d = 0 by omega, show p = min n 40 by omega]
            refine (if_pos ⟨rfl, rfl⟩).trans ?_
            by_cases z : 40 < n
            · rw [if_pos z, if_pos z, if_pos rfl]
            · rw [if_neg z, if_neg z, if_neg (by decide)]
          exact x_iret hK rfl ⟨⟨p, q, s, d, c, w, hgo, stop (by omega), ⟨by omega, by omega⟩, by rw [e9], fun _ => o359⟩, hG359, (hF4).trans ((hF359).mono rfl), fun a k n1 n2 n3 n4 n5 => (oa359 a k n2 n4 n5).trans (oa a k n1 n2 n3 n4 n5)⟩
        · refine x_aload_n 95 hK rfl rfl l1 ?_
          refine x_getE 98 hK rfl (Or.inl rfl) rfl (sp_1 (h := h4) hG4) (e := p) (e1) ?_
          have e9 : (cfl n 40 (!w && decide (d = 0), p)) = p := by unfold cfl; exact if_neg (fun z => by have z1 : (!w && decide (d = 0)) = true := z.1; first | (simp [wv] at z1; done) | (simp [wv] at z1; omega))
          exact x_iret hK rfl ⟨⟨p, q, s, d, c, w, hgo, stop (by omega), ⟨by omega, by omega⟩, by rw [e9], fun z => by rw [e9] at z; omega⟩, hG4, hF4, fun a k n1 n2 n3 n4 n5 => oa a k n1 n2 n3 n4 n5⟩
    · refine x_aload_n 34 hK rfl rfl l1 ?_
      have at361 : gi h4 1 2 = p := e1
      have to361 : gi h4 1 3 = (min n 40) := s3
      refine x_callV 37 hK hmono rfl rfl [.ref 1] [] rfl rfl (Nat.le_of_ble_eq_true rfl) (Nat.le_of_ble_eq_true rfl) rfl (sp_1 (h := h4) hG4) (CLd_le (Nat.le_of_ble_eq_true rfl) (ctX9_ended hSP hG4)) ?_
      rw [at361, to361]
      rintro v9 h9 ⟨e9, ⟨rfl, en361⟩ | ⟨rfl, en361⟩⟩ <;> rw [e9] <;> clear e9
      · refine x_if_ne 80 40 hK rfl rfl rfl (by omega) (fun _ => ?_) (fun c => by omega)
        refine x_aload_n 81 hK rfl rfl l0 ?_
        have g362 := gri (0) (1) hG4 (a := 17) (r := 11) (k := 4) rfl rfl
        refine x_getE 84 hK rfl (Or.inr rfl) rfl (sp_17 (h := h4) hG4) (e := (gi h4 17 4)) (rfl) ?_
        obtain wv | wv : w = true ∨ w = false := Bool.eq_false_or_eq_true w
        · rw [show (gi h4 17 4) = 1 from by rw [e6, wv]; rfl]
          refine x_if_ne 94 87 hK rfl rfl rfl (by omega) (fun _ => ?_) (fun c => by omega)
          refine x_aload_n 95 hK rfl rfl l1 ?_
          refine x_getE 98 hK rfl (Or.inl rfl) rfl (sp_1 (h := h4) hG4) (e := p) (e1) ?_
          have e9 : (cfl n 40 (!w && decide (d = 0), p)) = p := by unfold cfl; exact if_neg (fun z => by have z1 : (!w && decide (d = 0)) = true := z.1; first | (simp [wv] at z1; done) | (simp [wv] at z1; omega))
          exact x_iret hK rfl ⟨⟨p, q, s, d, c, w, hgo, stop (by omega), ⟨by omega, by omega⟩, by rw [e9], fun z => by rw [e9] at z; omega⟩, hG4, hF4, fun a k n1 n2 n3 n4 n5 => oa a k n1 n2 n3 n4 n5⟩
        · rw [show (gi h4 17 4) = 0 from by rw [e6, wv]; rfl]
          refine x_if_ne 94 87 hK rfl rfl rfl (by omega) (fun c => by omega) (fun _ => ?_)
          refine x_aload_n 88 hK rfl rfl l0 ?_
          refine x_getE 91 hK rfl (Or.inl rfl) rfl (sp_17 (h := h4) hG4) (e := (d : Int)) (e4) ?_
          refine x_if_le 99 94 hK rfl rfl rfl (by omega) (fun c38 => ?_) (fun c38 => ?_)
          · refine x_aload_n 100 hK rfl rfl l0 ?_
            refine x_iconst 101 hK rfl rfl ?_
            refine x_aload_n 102 hK rfl rfl l2 ?_
            refine x_callV 105 hK hmono rfl rfl [.ref 17, .int (I 1), .ref u] [] rfl rfl (Nat.le_of_ble_eq_true rfl) (Nat.le_of_ble_eq_true rfl) rfl (sp_17 (h := h4) hG4) (CLd_le (Nat.le_of_ble_eq_true rfl) (ctX5_releaseF hSP hG4 (show PT h4 from (PT_F hF4 (by decide) hP)) hu (r := 1) (by omega) (by omega) (fun j hj => wt_at ew e3 j (by omega)))) ?_
            rw [e2, e3]
            rintro v363 h363 ⟨rfl, hG363, hF363, o363, w363, t363, oa363⟩
            refine x_aload_n 106 hK rfl rfl l1 ?_
            have to364 : gi h363 1 3 = (min n 40) := (FRM_gi hF363 (r := 1) rfl rfl).trans (s3)
            have mo364 : gi h363 1 4 = (if 40 < n then (1 : Int) else 0) := (FRM_gi hF363 (r := 1) rfl rfl).trans (s4)
            refine x_callV 109 hK hmono rfl rfl [.ref 1] [] rfl rfl (Nat.le_of_ble_eq_true rfl) (Nat.le_of_ble_eq_true rfl) rfl (sp_1 (h := h363) hG363) (CLd_le (Nat.le_of_ble_eq_true rfl) (ctX9_faultAtEnd hSP hG363)) ?_
            rw [to364, mo364]
            rintro v9 h9 ⟨e9, rfl⟩
            rw [e9]
            clear e9
            have e9 : (cfl n 40 (!w && decide (d = 0), p)) = (if (if 40 < n then (1 : Int) else 0) = 1 then (min n 40) else -1) := by
              unfold cfl
              rw [wv, show d = 0 by omega, show p = min n 40 by omega]
              refine (if_pos ⟨rfl, rfl⟩).trans ?_
              by_cases z : 40 < n
              · rw [if_pos z, if_pos z, if_pos rfl]
              · rw [if_neg z, if_neg z, if_neg (by decide)]
            exact x_iret hK rfl ⟨⟨p, q, s, d, c, w, hgo, stop (by omega), ⟨by omega, by omega⟩, by rw [e9], fun _ => o363⟩, hG363, (hF4).trans ((hF363).mono rfl), fun a k n1 n2 n3 n4 n5 => (oa363 a k n2 n4 n5).trans (oa a k n1 n2 n3 n4 n5)⟩
          · refine x_aload_n 95 hK rfl rfl l1 ?_
            refine x_getE 98 hK rfl (Or.inl rfl) rfl (sp_1 (h := h4) hG4) (e := p) (e1) ?_
            have e9 : (cfl n 40 (!w && decide (d = 0), p)) = p := by unfold cfl; exact if_neg (fun z => by have z1 : (!w && decide (d = 0)) = true := z.1; first | (simp [wv] at z1; done) | (simp [wv] at z1; omega))
            exact x_iret hK rfl ⟨⟨p, q, s, d, c, w, hgo, stop (by omega), ⟨by omega, by omega⟩, by rw [e9], fun z => by rw [e9] at z; omega⟩, hG4, hF4, fun a k n1 n2 n3 n4 n5 => oa a k n1 n2 n3 n4 n5⟩
      · refine x_if_ne 80 40 hK rfl rfl rfl (by omega) (fun c => by omega) (fun _ => ?_)
        refine x_aload_n 41 hK rfl rfl l0 ?_
        have g365 := gri (0) (1) hG4 (a := 17) (r := 11) (k := 4) rfl rfl
        refine x_getE 44 hK rfl (Or.inr rfl) rfl (sp_17 (h := h4) hG4) (e := (gi h4 17 4)) (rfl) ?_
        obtain wv | wv : w = true ∨ w = false := Bool.eq_false_or_eq_true w
        · rw [show (gi h4 17 4) = 1 from by rw [e6, wv]; rfl]
          refine x_if_eq 56 47 hK rfl rfl rfl (by omega) (fun c => by omega) (fun _ => ?_)
          refine x_aload_n 48 hK rfl rfl l0 ?_
          refine x_aload_n 49 hK rfl rfl l1 ?_
          refine x_aload_n 50 hK rfl rfl l2 ?_
          rw [wv] at hR hgo stop
          refine x_callV 53 hK hmono rfl rfl [.ref 17, .ref 1, .ref u] [] rfl rfl (Nat.le_of_ble_eq_true rfl) (Nat.le_of_ble_eq_true rfl) rfl (sp_17 (h := h4) hG4) (CLd_le (Nat.le_of_ble_eq_true rfl) (ctX5_takeThingF hSP hG4 (show PT h4 from (PT_F hF4 (by decide) hP)) hu hR (by omega) (by omega))) ?_
          rw [sF, s3]
          rintro v366 h366 ⟨⟨p366, q366, s366, d366, c366, w366, st366, rfl, hR366, lt366, le366⟩ | ⟨st366, rfl, e9366⟩, hG366, hF366, oa366⟩
          · refine x_goto 62 hK rfl rfl ?_
            refine x_istore 64 hK rfl rfl _ rfl ?_
            refine x_iload 66 hK rfl rfl lk1_s ?_
            refine x_if_ne 74 69 hK rfl rfl rfl (by omega) (fun _ => ?_) (fun c => by omega)
            refine x_iinc 77 hK rfl rfl (lk1_n l3 (by decide) (Or.inl rfl)) _ rfl ?_
            refine x_goto 27 hK rfl rfl ?_
            exact ih _ (by omega) (i + 1) p366 _ _ rfl (by omega) (⟨by omega, by omega⟩) (⟨_, _, _, _, _, hgo.tr (GoR.one st366), hR366⟩) ((fun a k n1 n2 n3 n4 n5 => (oa366 a k n1 n2 n3 n4 n5).trans (oa a k n1 n2 n3 n4 n5))) (lk1_n (lk1_n l0 (by decide) (Or.inl rfl)) (by decide) (Or.inl rfl)) (lk1_n (lk1_n l1 (by decide) (Or.inl rfl)) (by decide) (Or.inl rfl)) (lk1_n (lk1_n l2 (by decide) (Or.inl rfl)) (by decide) (Or.inl rfl)) lk1_s (hG366) ((hF4).trans ((hF366).mono rfl))
          · rw [e9366]
            have st9 := st366
            refine x_goto 62 hK rfl rfl ?_
            refine x_istore 64 hK rfl rfl _ rfl ?_
            refine x_iload 66 hK rfl rfl lk1_s ?_
            refine x_if_ne 74 69 hK rfl rfl rfl (by omega) (fun c => by omega) (fun _ => ?_)
            refine x_aload_n 70 hK rfl rfl (lk1_n l1 (by decide) (Or.inl rfl)) ?_
            refine x_getE 73 hK rfl (Or.inl rfl) rfl (sp_1 (h := h4) hG4) (e := p) (e1) ?_
            have pl : p < min n 40 := by omega
            have e9 : (cfl n 40 (!w && decide (d = 0), p)) = p := by unfold cfl; exact if_neg (fun z => by have z2 : p = min n 40 := z.2; omega)
            exact x_iret hK rfl ⟨⟨p, q, s, d, c, w, by rw [wv]; exact hgo, by rw [wv]; exact st9, ⟨by omega, by omega⟩, by rw [e9], fun z => by rw [e9] at z; omega⟩, hG4, hF4, fun a k n1 n2 n3 n4 n5 => oa a k n1 n2 n3 n4 n5⟩
        · rw [show (gi h4 17 4) = 0 from by rw [e6, wv]; rfl]
          refine x_if_eq 56 47 hK rfl rfl rfl (by omega) (fun _ => ?_) (fun c => by omega)
          refine x_aload_n 57 hK rfl rfl l0 ?_
          refine x_aload_n 58 hK rfl rfl l1 ?_
          refine x_aload_n 59 hK rfl rfl l2 ?_
          rw [wv] at hR hgo stop
          refine x_callV 62 hK hmono rfl rfl [.ref 17, .ref 1, .ref u] [] rfl rfl (Nat.le_of_ble_eq_true rfl) (Nat.le_of_ble_eq_true rfl) rfl (sp_17 (h := h4) hG4) (CLd_le (Nat.le_of_ble_eq_true rfl) (ctX5_takeOperatorF hSP hG4 (show PT h4 from (PT_F hF4 (by decide) hP)) hu hR (by omega) (by omega))) ?_
          rw [sF, s3]
          rintro v367 h367 ⟨⟨p367, q367, s367, d367, c367, w367, st367, rfl, hR367, lt367, le367⟩ | ⟨st367, rfl, e9367⟩, hG367, hF367, oa367⟩
          · refine x_istore 64 hK rfl rfl _ rfl ?_
            refine x_iload 66 hK rfl rfl lk1_s ?_
            refine x_if_ne 74 69 hK rfl rfl rfl (by omega) (fun _ => ?_) (fun c => by omega)
            refine x_iinc 77 hK rfl rfl (lk1_n l3 (by decide) (Or.inl rfl)) _ rfl ?_
            refine x_goto 27 hK rfl rfl ?_
            exact ih _ (by omega) (i + 1) p367 _ _ rfl (by omega) (⟨by omega, by omega⟩) (⟨_, _, _, _, _, hgo.tr (GoR.one st367), hR367⟩) ((fun a k n1 n2 n3 n4 n5 => (oa367 a k n1 n2 n3 n4 n5).trans (oa a k n1 n2 n3 n4 n5))) (lk1_n (lk1_n l0 (by decide) (Or.inl rfl)) (by decide) (Or.inl rfl)) (lk1_n (lk1_n l1 (by decide) (Or.inl rfl)) (by decide) (Or.inl rfl)) (lk1_n (lk1_n l2 (by decide) (Or.inl rfl)) (by decide) (Or.inl rfl)) lk1_s (hG367) ((hF4).trans ((hF367).mono rfl))
          · rw [e9367]
            have st9 := st367
            refine x_istore 64 hK rfl rfl _ rfl ?_
            refine x_iload 66 hK rfl rfl lk1_s ?_
            refine x_if_ne 74 69 hK rfl rfl rfl (by omega) (fun c => by omega) (fun _ => ?_)
            refine x_aload_n 70 hK rfl rfl (lk1_n l1 (by decide) (Or.inl rfl)) ?_
            refine x_getE 73 hK rfl (Or.inl rfl) rfl (sp_1 (h := h4) hG4) (e := p) (e1) ?_
            have pl : p < min n 40 := by omega
            have e9 : (cfl n 40 (!w && decide (d = 0), p)) = p := by unfold cfl; exact if_neg (fun z => by have z2 : p = min n 40 := z.2; omega)
            exact x_iret hK rfl ⟨⟨p, q, s, d, c, w, by rw [wv]; exact hgo, by rw [wv]; exact st9, ⟨by omega, by omega⟩, by rw [e9], fun z => by rw [e9] at z; omega⟩, hG4, hF4, fun a k n1 n2 n3 n4 n5 => oa a k n1 n2 n3 n4 n5⟩
  refine x_aload_n 1 hK rfl rfl rfl ?_
  refine x_iconst 2 hK rfl rfl ?_
  refine x_putI 5 hK rfl rfl (shx (h := h) hG (r := 8) (su_r hu).1 rfl) ?_
  refine x_aload_n 6 hK rfl rfl rfl ?_
  refine x_iconst 7 hK rfl rfl ?_
  refine x_putI 10 hK rfl rfl (sp_17 (h := h) hG) ?_
  refine x_aload_n 11 hK rfl rfl rfl ?_
  refine x_iconst 12 hK rfl rfl ?_
  refine x_putI 15 hK rfl rfl (sp_17 (h := h) hG) ?_
  refine x_aload_n 16 hK rfl rfl rfl ?_
  refine x_iconst 17 hK rfl rfl ?_
  refine x_putI 20 hK rfl rfl (sp_17 (h := h) hG) ?_
  refine x_aload_n 21 hK rfl rfl rfl ?_
  refine x_iconst 22 hK rfl rfl ?_
  refine x_putZ 25 hK rfl rfl (sp_17 (h := h) hG) (by omega) ?_
  refine x_iconst 26 hK rfl rfl ?_
  refine x_istore_n 27 hK rfl rfl [(3, .int (I 0)), (0, .ref 17), (1, .ref 1), (2, .ref u)] rfl ?_
  exact loop _ 0 0 _ _ rfl (by omega) (⟨by omega, by omega⟩) (⟨[], [], 0, fun _ => false, true, GoR.rf _, (gi_a (by decide) _).trans ((gi_a (by decide) _).trans ((gi_a (by decide) _).trans ((gi_a (by decide) _).trans ((gi_a (by omega) _).trans (h12))))), by rw [show gi (wI (wI (wI (wI (wI h u 1 0) 17 1 0) 17 2 0) 17 3 0) 17 4 1) u 1 = 0 from (gi_a (by omega) _).trans ((gi_a (by omega) _).trans ((gi_a (by omega) _).trans ((gi_a (by omega) _).trans (gi_same (by omega)))))]; rfl, by rw [show gi (wI (wI (wI (wI (wI h u 1 0) 17 1 0) 17 2 0) 17 3 0) 17 4 1) 17 1 = 0 from (gi_k (by decide) _).trans ((gi_k (by decide) _).trans ((gi_k (by decide) _).trans (gi_same (by omega))))]; rfl, (gi_k (by decide) _).trans ((gi_k (by decide) _).trans (gi_same (by omega))), by rw [show gi (wI (wI (wI (wI (wI h u 1 0) 17 1 0) 17 2 0) 17 3 0) 17 4 1) 17 3 = 0 from (gi_k (by decide) _).trans (gi_same (by omega))]; exact cBt_0, gi_same (by omega), by rw [show gi (wI (wI (wI (wI (wI h u 1 0) 17 1 0) 17 2 0) 17 3 0) 17 4 1) 17 3 = 0 from (gi_k (by decide) _).trans (gi_same (by omega))]; omega, by rw [show gi (wI (wI (wI (wI (wI h u 1 0) 17 1 0) 17 2 0) 17 3 0) 17 4 1) 17 1 = 0 from (gi_k (by decide) _).trans ((gi_k (by decide) _).trans ((gi_k (by decide) _).trans (gi_same (by omega)))), show gi (wI (wI (wI (wI (wI h u 1 0) 17 1 0) 17 2 0) 17 3 0) 17 4 1) u 1 = 0 from (gi_a (by omega) _).trans ((gi_a (by omega) _).trans ((gi_a (by omega) _).trans ((gi_a (by omega) _).trans (gi_same (by omega)))))]; omega, fun x hx => absurd hx List.not_mem_nil, rfl⟩) ((fun a k n1 n2 n3 n4 n5 => (gi_a (by omega) _).trans ((gi_a (by omega) _).trans ((gi_a (by omega) _).trans ((gi_a (by omega) _).trans (gi_a (by omega) _)))))) rfl rfl rfl rfl (GD_w1 (GD_w0 (GD_w1 (GD_w1 (GD_w1 (hG) (r := 8) (su_r hu).1 (by omega) rfl (by omega) (by omega)) (r := 11) rfl (by omega) rfl (by omega) (by omega)) (r := 11) rfl (by omega) rfl (by omega) (by omega)) (r := 11) rfl rfl) (r := 11) rfl (by omega) rfl (by omega) (by omega)) (FRM_w (FRM_w (FRM_w (FRM_w (FRM_w ((FRM.rf : FRM gRL [(0, 1, 2, 2), (0, 1, 5, 5), (0, 8, 1, 1), (0, 9, 0, 39), (0, 11, 1, 4), (0, 12, 0, 39)] h h)) (r := 8) (su_r hu).1 rfl) (r := 11) rfl rfl) (r := 11) rfl rfl) (r := 11) rfl rfl) (r := 11) rfl rfl)
/-- the law at u, the other one at v -/
noncomputable def LW (h : aH) (u v : Nat) : Prop := ((u = 11 ∧ v = 14) ∨ (u = 14 ∧ v = 11)) ∧ aR h 0 4 = some u ∧ aR h 0 5 = some v
set_option maxRecDepth 4000 in
theorem ctX10_ruleF {SP : CT} (hSP : MONO SP) {sh : List (Nat × Nat)} {h : aH} (hG : GD gE gRL sh h) {u v : Nat} (hP : PT h) (hw : LW h u v) : CLd SP 9 mX10_rule [.ref 0] h 0 0 (fun rv h' => ((gi h 1 1 = 0 ∧ rv = some (.int (I 0)) ∧ aR h' 0 4 = some u ∧ aR h' 0 5 = some v ∧ gi h' u 1 = 0) ∨ (gi h 1 1 ≠ 0 ∧ ∃ (p : Int) (q s : List Int) (d : Nat) (c : Nat → Bool) (w : Bool), GoR (txF (gi h 2) (min (gi h 1 1) 40)) (0, [], [], 0, fun _ => false, true) (p, q, s, d, c, w) ∧ mstp (txF (gi h 2) (min (gi h 1 1) 40)) (p, q, s, d, c, w) = none ∧ (0 ≤ p ∧ p ≤ min (gi h 1 1) 40) ∧ (((cfl (gi h 1 1) 40 (!w && decide (d = 0), p)) ≠ -1 ∧ rv = some (.int (I (-1 - (cfl (gi h 1 1) 40 (!w && decide (d = 0), p))))) ∧ aR h' 0 4 = some u ∧ aR h' 0 5 = some v ∧ gi h' u 1 = gi h u 1 ∧ ∀ j, gi h' (u + 1) j = gi h (u + 1) j) ∨ ((cfl (gi h 1 1) 40 (!w && decide (d = 0), p)) = -1 ∧ rv = some (.int (I 0)) ∧ aR h' 0 4 = some v ∧ aR h' 0 5 = some u ∧ cdL h' v (gi h' v 1).toNat = q ++ ngs (popS 1 s))))) ∧ GD gE gRL sh h' ∧ FRM gRL [(0, 1, 1, 5), (0, 8, 1, 1), (0, 9, 0, 39), (0, 11, 1, 4), (0, 12, 0, 39), (2, 0, 4, 5)] h h' ∧ gi h' 1 1 = 0) := by
  refine x_met _ rfl (Nat.le_of_ble_eq_true rfl) (fun K hK => ?_)
  have hmono := MONO_CLd hSP 8
  have h5u : u = 11 ∨ u = 14 := by have := hw.1; omega
  have h5v : v = 11 ∨ v = 14 := by have := hw.1; omega
  have huv := hw.1
  have gs := gri 0 80 hG (a := 1) (r := 1) (k := 1) rfl rfl
  obtain ⟨T, hT⟩ : ∃ T, (txF (gi h 2) (min (gi h 1 1) 40)) = T := ⟨_, rfl⟩
  rw [hT] at hK
  refine x_aload_n 1 hK rfl rfl rfl ?_
  refine x_getR 4 hK rfl rfl (sp_0 (h := h) hG) (rf_0_0 (h := h) hG) ?_
  have g368 := gri (0) (80) hG (a := 1) (r := 1) (k := 1) rfl rfl
  refine x_getE 7 hK rfl (Or.inl rfl) rfl (sp_1 (h := h) hG) (e := (gi h 1 1)) (rfl) ?_
  refine x_if_ne 20 10 hK rfl rfl rfl (by omega) (fun c4 => ?_) (fun c4 => ?_)
  · refine x_aload_n 21 hK rfl rfl rfl ?_
    refine x_getR 24 hK rfl rfl (sp_0 (h := h) hG) (rf_0_0 (h := h) hG) ?_
    refine x_bipush 26 hK rfl rfl rfl ?_
    have z370 : gi h 1 1 = (gi h 1 1) := rfl
    refine x_callV 29 hK hmono rfl rfl [.ref 1, .int (I 40)] [] rfl rfl (Nat.le_of_ble_eq_true rfl) (Nat.le_of_ble_eq_true rfl) rfl (sp_1 (h := h) hG) (CLd_le (Nat.le_of_ble_eq_true rfl) (ctX9_open hSP hG (by omega))) ?_
    rintro v369 h369 ⟨rfl, hG369, hF369, o369, p369, q369, r369⟩
    rw [z370] at p369 q369
    refine x_aload_n 30 hK rfl rfl rfl ?_
    refine x_getR 33 hK rfl rfl (sp_0 (h := h369) hG369) (rf_0_6 (h := h369) hG369) ?_
    refine x_aload_n 34 hK rfl rfl rfl ?_
    refine x_getR 37 hK rfl rfl (sp_0 (h := h369) hG369) (rf_0_0 (h := h369) hG369) ?_
    refine x_aload_n 38 hK rfl rfl rfl ?_
    refine x_getR 41 hK rfl rfl (sp_0 (h := h369) hG369) ((FRM_aR hF369 (r := 0) rfl rfl).trans (hw.2.2)) ?_
    have z2 : gi h369 1 2 = 0 := o369
    have z3 : gi h369 1 3 = min (gi h 1 1) 40 := p369
    have z4 : gi h369 1 4 = (if 40 < gi h 1 1 then (1 : Int) else 0) := q369
    have zt : fx h369 = T := by rw [fx_tx, z3, ← hT, show gi h369 2 = gi h 2 from funext fun k => FRM_gi hF369 (r := 2) rfl rfl]
    refine x_callV 44 hK hmono rfl rfl [.ref 17, .ref 1, .ref v] [] rfl rfl (Nat.le_of_ble_eq_true rfl) (Nat.le_of_ble_eq_true rfl) rfl (sp_17 (h := h369) hG369) (CLd_le (Nat.le_of_ble_eq_true rfl) (ctX5_readFromF hSP hG369 (u := v) (PT_F hF369 (by decide) hP) h5v (n := gi h 1 1) z2 z3 z4 (by omega))) ?_
    rw [zt]
    rintro v371 h371 ⟨⟨p, q, s, d, c, w, hgo, hst, hp, rfl, hcd⟩, hG371, hF371, oa371⟩
    have cb : -1 ≤ (cfl (gi h 1 1) 40 (!w && decide (d = 0), p)) ∧ (cfl (gi h 1 1) 40 (!w && decide (d = 0), p)) ≤ 40 := by unfold cfl; (try dsimp only); (repeat' split) <;> omega
    refine x_istore_n 45 hK rfl rfl [(1, .int (I (cfl (gi h 1 1) 40 (!w && decide (d = 0), p)))), (0, .ref 0)] rfl ?_
    refine x_aload_n 46 hK rfl rfl rfl ?_
    refine x_getR 49 hK rfl rfl (sp_0 (h := h371) hG371) (rf_0_0 (h := h371) hG371) ?_
    refine x_iconst 50 hK rfl rfl ?_
    refine x_putI 53 hK rfl rfl (sp_1 (h := h371) hG371) ?_
    refine x_iload_n 54 hK rfl rfl rfl ?_
    refine x_iconst 55 hK rfl rfl ?_
    refine x_if_icmp_eq 62 58 hK rfl rfl rfl (by omega) (by omega) (fun c23 => ?_) (fun c23 => ?_)
    · refine x_aload_n 63 hK rfl rfl rfl ?_
      refine x_getR 66 hK rfl rfl (sp_0 (h := h371) hG371) ((FRM_aR hF371 (r := 0) rfl rfl).trans ((FRM_aR hF369 (r := 0) rfl rfl).trans (hw.2.1))) ?_
      refine x_astore_n 67 hK rfl rfl [(2, .ref u), (1, .int (I (cfl (gi h 1 1) 40 (!w && decide (d = 0), p)))), (0, .ref 0)] rfl ?_
      refine x_aload_n 68 hK rfl rfl rfl ?_
      refine x_aload_n 69 hK rfl rfl rfl ?_
      refine x_getR 72 hK rfl rfl (sp_0 (h := h371) hG371) ((FRM_aR hF371 (r := 0) rfl rfl).trans ((FRM_aR hF369 (r := 0) rfl rfl).trans (hw.2.2))) ?_
      refine x_putR 75 hK rfl rfl (sp_0 (h := h371) hG371) (List.getElem?_eq_some_iff.mp (shx (h := h371) hG371 (r := 8) (su_r h5v).1 rfl)).1 ?_
      obtain ⟨h91, e91⟩ : ∃ z, z = sR (wI h371 1 1 0) 0 4 (some v) := ⟨_, rfl⟩
      rw [← e91]
      have hG91 : GD gE gRL sh h91 := by rw [e91]; exact GD_R (GD_w1 (hG371) (r := 1) rfl (by omega) rfl (by omega) (by omega)) (r := 0) rfl (rb := 8) (by decide +kernel) (su_r h5v).1
      have hF91 : FRM gRL [(2, 0, 4, 4)] (wI h371 1 1 0) h91 := by rw [e91]; exact FRM_R FRM.rf (r := 0) rfl rfl
      have r491 : aR h91 0 4 = some v := by rw [e91]; exact aR_s
      have r591 : aR h91 0 5 = some v := by rw [e91]; exact (aR_n (Or.inr (by decide))).trans ((FRM_aR hF371 (r := 0) rfl rfl).trans ((FRM_aR hF369 (r := 0) rfl rfl).trans (hw.2.2)))
      refine x_aload_n 76 hK rfl rfl rfl ?_
      refine x_aload_n 77 hK rfl rfl rfl ?_
      refine x_putR 80 hK rfl rfl (sp_0 (h := h91) hG91) (List.getElem?_eq_some_iff.mp (shx (h := h91) hG91 (r := 8) (su_r h5u).1 rfl)).1 ?_
      obtain ⟨h92, e92⟩ : ∃ z, z = sR h91 0 5 (some u) := ⟨_, rfl⟩
      rw [← e92]
      have hG92 : GD gE gRL sh h92 := by rw [e92]; exact GD_R (hG91) (r := 0) rfl (rb := 8) (by decide +kernel) (su_r h5u).1
      have hF92 : FRM gRL [(2, 0, 5, 5)] h91 h92 := by rw [e92]; exact FRM_R FRM.rf (r := 0) rfl rfl
      have r592 : aR h92 0 5 = some u := by rw [e92]; exact aR_s
      have r492 : aR h92 0 4 = some v := by rw [e92]; exact (aR_n (Or.inr (by decide))).trans (r491)
      refine x_iconst 81 hK rfl rfl ?_
      have nv : gi h92 v 1 = gi h371 v 1 := (FRM_gi hF92 (r := 8) (su_r h5v).1 rfl).trans ((FRM_gi hF91 (r := 8) (su_r h5v).1 rfl).trans (gi_a (by omega) _))
      exact x_iret hK rfl ⟨Or.inr ⟨by omega, p, q, s, d, c, w, hgo, hst, hp, Or.inr ⟨by omega, rfl, (r492), (r592), by rw [nv]; exact (cdL_e fun j hj => (FRM_gi hF92 (r := 9) (su_r h5v).2 rfl).trans ((FRM_gi hF91 (r := 9) (su_r h5v).2 rfl).trans (gi_a (by omega) _))).trans (hcd (by omega))⟩⟩, hG92, ((FRM_w (((hF369).mono rfl).trans ((hF371).mono rfl)) (r := 1) rfl rfl).trans ((hF91).mono rfl)).trans ((hF92).mono rfl), (FRM_gi hF92 (r := 1) rfl rfl).trans ((FRM_gi hF91 (r := 1) rfl rfl).trans (gi_same (by omega)))⟩
    · refine x_iconst 59 hK rfl rfl ?_
      refine x_iload_n 60 hK rfl rfl rfl ?_
      refine x_isub 61 hK rfl rfl ?_
      exact x_iret hK rfl ⟨Or.inr ⟨by omega, p, q, s, d, c, w, hgo, hst, hp, Or.inl ⟨by omega, rfl, ((FRM_aR hF371 (r := 0) rfl rfl).trans ((FRM_aR hF369 (r := 0) rfl rfl).trans (hw.2.1))), ((FRM_aR hF371 (r := 0) rfl rfl).trans ((FRM_aR hF369 (r := 0) rfl rfl).trans (hw.2.2))), (gi_a (by omega) _).trans ((oa371 u 1 (by omega) (by omega) (by omega) (by omega) (by omega)).trans (FRM_gi hF369 (r := 8) (su_r h5u).1 rfl)), fun j => (gi_a (by omega) _).trans ((oa371 (u + 1) j (by omega) (by omega) (by omega) (by omega) (by omega)).trans (FRM_gi hF369 (r := 9) (su_r h5u).2 rfl))⟩⟩, GD_w1 (hG371) (r := 1) rfl (by omega) rfl (by omega) (by omega), FRM_w (((hF369).mono rfl).trans ((hF371).mono rfl)) (r := 1) rfl rfl, gi_same (by omega)⟩
  · refine x_aload_n 11 hK rfl rfl rfl ?_
    refine x_getR 14 hK rfl rfl (sp_0 (h := h) hG) (hw.2.1) ?_
    refine x_iconst 15 hK rfl rfl ?_
    refine x_putI 18 hK rfl rfl (shx (h := h) hG (r := 8) (su_r h5u).1 rfl) ?_
    refine x_iconst 19 hK rfl rfl ?_
    exact x_iret hK rfl ⟨Or.inl ⟨by omega, rfl, (hw.2.1), (hw.2.2), gi_same (by omega)⟩, GD_w1 (hG) (r := 8) (su_r h5u).1 (by omega) rfl (by omega) (by omega), FRM_w ((FRM.rf : FRM gRL [(0, 1, 1, 5), (0, 8, 1, 1), (0, 9, 0, 39), (0, 11, 1, 4), (0, 12, 0, 39), (2, 0, 4, 5)] h h)) (r := 8) (su_r h5u).1 rfl, (gi_a (by omega) _).trans (by omega)⟩
end
section
/-! THE RULE, read by the reference: what the codes are worth -/
noncomputable def dlt (c : Int) : Int := if c = 3000 then 0 else if 2000 ≤ c then -1 else 1
noncomputable def dls : List Int → Int
  | [] => 0
  | c :: t => dlt c + dls t
noncomputable def ok1 (c x : Int) : Prop := 0 ≤ x ∧ (c = 3000 → 1 ≤ x) ∧ (c ≠ 3000 → 2000 ≤ c → 2 ≤ x) ∧ (1000 ≤ c → c < 2000 → c ≤ 1003)
/-- these codes can be worked out over a stack of x -/
noncomputable def WL : Int → List Int → Prop
  | _, [] => True
  | x, c :: t => ok1 c x ∧ WL (x + dlt c) t
theorem dls_a : ∀ A B : List Int, dls (A ++ B) = dls A + dls B
  | [], B => (Int.zero_add _).symm
  | c :: t, B => by
    show dlt c + dls (t ++ B) = dlt c + dls t + dls B
    rw [dls_a t B, Int.add_assoc]
theorem WL_a : ∀ {A B : List Int} {x : Int}, WL x A → WL (x + dls A) B → WL x (A ++ B)
  | [], B, x, _, h => by rw [show x + dls [] = x from Int.add_zero x] at h; exact h
  | c :: t, B, x, a, h => ⟨a.1, WL_a a.2 (by rw [Int.add_assoc]; exact h)⟩
theorem hgt_dls (c : Nat → Int) : ∀ k : Nat, hgt c k = dls ((List.range k).map c)
  | 0 => rfl
  | k + 1 => by
    rw [List.range_succ, List.map_append, dls_a, ← hgt_dls c k]
    show hgt c k + _ = hgt c k + (dlt (c k) + 0)
    rw [Int.add_zero]
    rfl
theorem WL_at : ∀ {L : List Int} {x : Int}, WL x L → ∀ (k : Nat) (c : Int), L[k]? = some c → ok1 c (x + dls (L.take k))
  | [], x, _, k, c, h => by cases h
  | b :: t, x, w, 0, c, h => by
    cases h
    show ok1 b (x + 0)
    rw [Int.add_zero]
    exact w.1
  | b :: t, x, w, k + 1, c, h => by
    have z := WL_at w.2 k c h
    show ok1 c (x + (dlt b + dls (t.take k)))
    rw [← Int.add_assoc]
    exact z
theorem VC_of {c : Nat → Int} {n : Nat} {L : List Int} (e : (List.range n).map c = L) (w : WL 0 L) (hn : n ≤ 80) : VCd c (n : Int) := by
  have key : ∀ k : Nat, k < n → ok1 (c k) (hgt c k) := fun k hk => by
    have z := WL_at w k (c k) (by rw [← e, List.getElem?_map, List.getElem?_range hk]; rfl)
    rw [← e, ← List.map_take, List.take_range, Nat.min_eq_left (by omega), ← hgt_dls, Int.zero_add] at z
    exact z
  exact ⟨by omega, fun k hk => by
    obtain ⟨z1, z2, z3, z4⟩ := key k (by omega)
    exact ⟨z1, hgt_le c k, z2, z3, z4⟩⟩
theorem rc_op {s : Int} (h : 1 ≤ rkI s ∧ rkI s ≤ 3) : 2000 ≤ rcC (-s) ∧ rcC (-s) < 3000 := by
  have c : s = 60 ∨ s = 62 ∨ s = 61 ∨ s = 43 ∨ s = 45 ∨ s = 42 ∨ s = 47 := by
    unfold rkI at h
    (repeat' split at h) <;> omega
  rcases c with rfl | rfl | rfl | rfl | rfl | rfl | rfl <;> decide
theorem rc_ask {s : Int} (h : askI s) : 1000 ≤ rcC (-s) ∧ rcC (-s) ≤ 1003 := by
  rcases h with rfl | rfl | rfl | rfl <;> decide
theorem ten_p : ∀ n : Nat, (1 : Int) ≤ 10 ^ n
  | 0 => by decide
  | n + 1 => by
    have := ten_p n
    rw [Int.pow_succ]
    omega
theorem nm_999 {f : Int → Int} {p : Int} (h : 48 ≤ f p ∧ f p ≤ 57) : 0 ≤ (nmF f 3 p).1 ∧ (nmF f 3 p).1 ≤ 999 := by
  have a : ∀ (n : Nat) (p v b : Int), 0 ≤ v → v ≤ b → 0 ≤ (tkv f n p v).1 ∧ (tkv f n p v).1 + 1 ≤ (b + 1) * 10 ^ n := by
    intro n
    induction n with
    | zero => intro p v b h0 h1; show 0 ≤ v ∧ v + 1 ≤ (b + 1) * 1; omega
    | succ n ih =>
      intro p v b h0 h1
      have hp : (1 : Int) ≤ 10 ^ n := ten_p n
      unfold tkv
      split
      · rename_i c
        have z := ih (p + 1) (v * 10 + f p - 48) (b * 10 + 9) (by omega) (by omega)
        refine ⟨z.1, Int.le_trans z.2 ?_⟩
        rw [Int.pow_succ, show b * 10 + 9 + 1 = (b + 1) * 10 by omega, Int.mul_assoc, Int.mul_comm 10]
        exact Int.le_refl _
      · refine ⟨h0, ?_⟩
        show v + 1 ≤ _
        have hb : 0 ≤ b + 1 := by omega
        have : (b + 1) * 1 ≤ (b + 1) * 10 ^ (n + 1) := Int.mul_le_mul_of_nonneg_left (ten_p _) hb
        omega
  have z := a 3 p 0 0 (Int.le_refl _) (Int.le_refl _)
  have y : ¬ (tkv f 3 p 0).2 = p := by
    rw [tkv_step h]
    have := (tkv_lb f 2 (p + 1) (0 * 10 + f p - 48)).1
    omega
  unfold nmF
  rw [if_neg y]
  have e : ((0 : Int) + 1) * 10 ^ 3 = 1000 := by decide
  rw [e] at z
  exact ⟨z.1, by show (tkv f 3 p 0).1 ≤ 999; omega⟩
theorem ok1_num {c x : Int} (hc : c ≤ 999) (hx : 0 ≤ x) : ok1 c x := ⟨hx, fun z => by omega, fun _ z => by omega, fun z _ => by omega⟩
theorem rcC_pos {c : Int} (h : 0 ≤ c) : rcC c = c := by
  unfold rcC
  rw [if_neg (by omega), if_neg (by omega), if_neg (by omega), if_neg (by omega), if_neg (by omega), if_neg (by omega), if_neg (by omega), if_neg (by omega), if_neg (by omega), if_neg (by omega), if_neg (by omega), if_neg (by omega)]
noncomputable def gdC (L : List Int) (d b : Int) : Prop := dls (L.map rcC) = d ∧ ∀ x : Int, b ≤ x → WL x (L.map rcC)
theorem gdC_a {A B : List Int} {d e b : Int} (h1 : gdC A d b) (h2 : gdC B e (b + d)) : gdC (A ++ B) (d + e) b := by
  refine ⟨by rw [List.map_append, dls_a, h1.1, h2.1], fun x hx => ?_⟩
  rw [List.map_append]
  exact WL_a (h1.2 x hx) (h2.2 _ (by rw [h1.1]; omega))
theorem gdC_op {s : Int} (h : 1 ≤ rkI s ∧ rkI s ≤ 3) {b : Int} (hb : 2 ≤ b) : gdC [-s] (-1) b := by
  have z := rc_op h
  have e : dlt (rcC (-s)) = -1 := by unfold dlt; rw [if_neg (by omega), if_pos z.1]
  refine ⟨by show dlt (rcC (-s)) + 0 = -1; rw [e]; rfl, fun x hx => ⟨⟨by omega, fun y => by omega, fun _ _ => by omega, fun _ y => by omega⟩, trivial⟩⟩
theorem gdC_b {A : List Int} {d b b' : Int} (h : gdC A d b) (hb : b ≤ b') : gdC A d b' := ⟨h.1, fun x hx => h.2 x (by omega)⟩
/-- what the reference reads can be worked out -/
theorem pr_wl {f : Int → Int} {m d : Nat} {p q : Int} {ok : Bool} {L : List Int} (h : PR f m d p ok q L) : ok = true → (m < 4 → gdC L 1 0) ∧ (4 ≤ m → gdC L 0 1) := by
  refine h (fun m d p ok q L => ok = true → (m < 4 → gdC L 1 0) ∧ (4 ≤ m → gdC L 0 1)) ⟨?_, ?_, ?_, ?_, ?_, ?_, ?_, ?_, ?_, ?_, ?_, ?_, ?_⟩
  · intro d p q ok L _ ih hk
    refine ⟨fun _ => ?_, fun z => absurd z (by omega)⟩
    have a := gdC_a (B := [-256]) (e := 0) ((ih hk).1 (by omega)) ⟨rfl, fun x hx => ⟨⟨by omega, fun _ => by omega, fun z => absurd rfl z, fun _ z => absurd z (by decide)⟩, trivial⟩⟩
    exact a
  · intro d p hp _
    have z := nm_999 hp
    refine ⟨fun _ => ⟨?_, fun x hx => ⟨?_, trivial⟩⟩, fun z => absurd z (by omega)⟩
    · show dlt (rcC (nmF f 3 p).1) + 0 = 1
      rw [rcC_pos z.1]
      unfold dlt
      rw [if_neg (by omega), if_neg (by omega)]
      rfl
    · rw [rcC_pos z.1]; exact ok1_num z.2 hx
  · intro d p hp _
    have z := rc_ask hp
    refine ⟨fun _ => ⟨?_, fun x hx => ⟨⟨hx, fun _ => by omega, fun _ _ => by omega, fun _ _ => by omega⟩, trivial⟩⟩, fun z => absurd z (by omega)⟩
    show dlt (rcC (-(f p))) + 0 = 1
    unfold dlt
    rw [if_neg (by omega), if_neg (by omega)]
    rfl
  · intro d p _ _ _ _ hk; cases hk
  · intro d p q L _ _ _ hk; cases hk
  · intro d p q L _ _ _ _ hk; cases hk
  · intro d p q L _ _ ih _ _
    exact ⟨fun _ => (ih rfl).1 (by omega), fun z => absurd z (by omega)⟩
  · intro r d p q L _ _ hk; cases hk
  · intro r d p q q' ok L L' hr i1 i2 hk
    exact ⟨fun _ => gdC_a ((i1 rfl).1 (by omega)) ((i2 hk).2 (by omega)), fun z => absurd z (by omega)⟩
  · intro r d p _ _ _
    exact ⟨fun z => absurd z (by omega), fun _ => ⟨rfl, fun _ _ => trivial⟩⟩
  · intro r d p q L _ _ _ hk; cases hk
  · intro d p q L hr ih _
    refine ⟨fun z => absurd z (by omega), fun _ => ?_⟩
    exact gdC_a (gdC_b ((ih rfl).1 (by omega)) (by omega)) (gdC_op (by omega) (by omega))
  · intro r d p q q' ok L L' h0 h1 hr i1 i2 hk
    refine ⟨fun z => absurd z (by omega), fun _ => ?_⟩
    refine gdC_a (d := 0) (e := 0) ?_ ((i2 hk).2 (by omega))
    exact gdC_a (gdC_b ((i1 rfl).1 (by omega)) (by omega)) (gdC_op (by omega) (by omega))
set_option maxRecDepth 4000 in
theorem ctX11_ruleG (hSP : MONO SPt) {sh : List (Nat × Nat)} {h : aH} (hG : GD gE gRL sh h) (hX : XI h) : CLd SPt 300 mX11_rule [.ref 171] h 0 0 (fun rv h' => (((gi h 171 17) = 0 ∧ rv = some (.int (I 0)) ∧ gi h' 171 25 = 0) ∨ ((gi h 171 17) ≠ 0 ∧ ∃ (ok : Bool) (q : Int) (L : List Int), PR (txF (gi h 180) (min (gi h 171 17) 40)) 0 0 0 ok q L ∧ (0 ≤ q ∧ q ≤ min (gi h 171 17) 40) ∧ (((fltF (gi h 171 17) 40 (ok, q)) < 0 ∧ rv = some (.int (I (fltF (gi h 171 17) 40 (ok, q)))) ∧ gi h' 171 25 = gi h 171 25 ∧ ∀ j, gi h' 182 j = gi h 182 j) ∨ ((fltF (gi h 171 17) 40 (ok, q)) = 0 ∧ ok = true ∧ rv = some (.int (I 0)) ∧ gi h' 171 25 = (L.length : Nat) ∧ (List.range L.length).map (gi h' 182) = L.map rcC)))) ∧ GD gE gRL sh h' ∧ FRM gRL [(0, 54, 0, 0), (0, 54, 17, 20), (0, 54, 25, 26), (0, 65, 0, 79), (0, 66, 0, 79)] h h' ∧ gi h' 171 0 = 0 ∧ gi h' 171 17 = 0 ∧ XI h') := by
  refine x_met _ rfl (Nat.le_of_ble_eq_true rfl) (fun K hK => ?_)
  have hmono := MONO_CLd hSP 299
  have gsz := gri 0 80 hG (a := 171) (r := 54) (k := 17) rfl rfl
  obtain ⟨T, hT⟩ : ∃ T, (txF (gi h 180) (min (gi h 171 17) 40)) = T := ⟨_, rfl⟩
  rw [hT] at hK
  have loop2 : ∀ (q : Int) (L : List Int), ∀ (mz : Nat) (k : Int) (h5 : aH) (ls : List (Nat × Value)), ((((L.length : Nat) : Int) - k).toNat = mz) → (0 ≤ k ∧ k ≤ (L.length : Nat)) → (gi h5 171 0 = 0) → (gi h5 171 17 = 0) → (gi h5 171 26 = (L.length : Nat)) → (gi h5 171 25 = (L.length : Nat)) → (((gi h 171 17) = 0 ∧ q = 0 ∧ L = []) ∨ ((gi h 171 17) ≠ 0 ∧ PR T 0 0 0 true q L)) → (0 ≤ q ∧ q ≤ min (gi h 171 17) 40) → (fltF (gi h 171 17) 40 (true, q) = 0) → (rcL h5 L.length = L.map rcC) → (∀ j : Nat, (j : Int) < k → gi h5 182 j = gi h5 183 j) → lk ls 0 = some (.ref 171) → lk ls 4 = some (.int (I k)) → GD gE gRL sh h5 → FRM gRL [(0, 54, 0, 0), (0, 54, 17, 20), (0, 54, 25, 26), (0, 65, 0, 79), (0, 66, 0, 79)] h h5 → K 61 ls [] h5 0 0 := by
    intro q L
    intro mz
    induction mz using Nat.strongRecOn with
    | ind mz ih =>
    intro k h5 ls hm k0 t5 z5 r26 r25 hD bq f0 rc cp l0 l4 hG5 hF5
    have g26 := gri 0 80 hG5 (a := 171) (r := 54) (k := 26) rfl rfl
    refine x_iload 63 hK rfl rfl l4 ?_
    refine x_aload_n 64 hK rfl rfl l0 ?_
    refine x_getE 67 hK rfl (Or.inl rfl) rfl (sp_171 (h := h5) hG5) (e := ((L.length : Nat) : Int)) (r26) ?_
    refine x_if_icmp_ge 90 70 hK rfl rfl rfl (by omega) (by omega) (fun c4 => ?_) (fun c4 => ?_)
    · refine x_iconst 91 hK rfl rfl ?_
      obtain rfl : k = (L.length : Nat) := by omega
      have mp : (List.range L.length).map (gi h5 182) = L.map rcC := by
        rw [← rc]
        exact List.map_congr_left fun j hj => cp j (by have := List.mem_range.mp hj; omega)
      have hx : XI h5 := by
        show VCd (gi h5 182) (gi h5 171 25)
        rw [r25]
        refine VC_of mp ?_ (by omega)
        rcases hD with d | d
        · rw [d.2.2]; exact trivial
        · exact ((pr_wl d.2 rfl).1 (by omega)).2 0 (Int.le_refl _)
      exact x_iret hK rfl ⟨hD.elim (fun d => Or.inl ⟨d.1, rfl, by rw [r25, d.2.2]; rfl⟩) (fun d => Or.inr ⟨d.1, true, q, L, d.2, bq, Or.inr ⟨f0, rfl, rfl, r25, mp⟩⟩), hG5, hF5, t5, z5, hx⟩
    · refine x_aload_n 71 hK rfl rfl l0 ?_
      refine x_getR 74 hK rfl rfl (sp_171 (h := h5) hG5) (rf_171_23 (h := h5) hG5) ?_
      refine x_iload 76 hK rfl rfl l4 ?_
      refine x_aload_n 77 hK rfl rfl l0 ?_
      refine x_getR 80 hK rfl rfl (sp_171 (h := h5) hG5) (rf_171_24 (h := h5) hG5) ?_
      refine x_iload 82 hK rfl rfl l4 ?_
      have g292 := gi_r h5 183 k.toNat
      refine x_ialoadE 83 hK rfl rfl (sp_183 (h := h5) hG5) (by omega) (by omega) (by omega) (e' := (gi h5 183 k.toNat)) (rfl) ?_
      refine x_iastore 84 hK rfl rfl (sp_182 (h := h5) hG5) (by omega) (by omega) (by omega) ?_
      refine x_iinc 87 hK rfl rfl l4 _ rfl ?_
      refine x_goto 61 hK rfl rfl ?_
      have cn : ∀ j : Nat, (j : Int) < k + 1 → gi (wI h5 182 k.toNat (gi h5 183 k.toNat)) 182 j = gi (wI h5 182 k.toNat (gi h5 183 k.toNat)) 183 j := fun j hj => by
        by_cases c : j = k.toNat
        · rw [c]
          exact (gi_same (by omega)).trans (gi_a (by decide) _).symm
        · exact ((gi_k (by omega) _).trans (cp j (by omega))).trans (gi_a (by decide) _).symm
      exact ih _ (by omega) (k + 1) _ _ rfl (by omega) ((gi_a (by decide) _).trans (t5)) ((gi_a (by decide) _).trans (z5)) ((gi_a (by decide) _).trans (r26)) ((gi_a (by decide) _).trans (r25)) (hD) (bq) (f0) ((rcL_e fun j hj => gi_a (by decide) _).trans rc) (cn) (lk1_n l0 (by decide) (Or.inl rfl)) lk1_s (GD_wn (hG5) (r := 65) rfl rfl) (FRM_wn 0 79 (hF5) (r := 65) rfl rfl rfl (by omega) (by omega))
  have end1 : ∀ (ok : Bool) (q : Int) (L : List Int), ∀ (is : Int) (h4 : aH) (ls : List (Nat × Value)), (is = b2i ok) → (gi h4 171 18 = q) → (gi h4 171 19 = min (gi h 171 17) 40) → (gi h4 171 0 = 0) → (gi h4 171 17 = 0) → (0 ≤ q ∧ q ≤ min (gi h 171 17) 40) → (((gi h 171 17) = 0 ∧ ok = true ∧ q = 0 ∧ L = []) ∨ ((gi h 171 17) ≠ 0 ∧ PR T 0 0 0 ok q L)) → (ok = true → rcL h4 (gi h4 171 26).toNat = L.map rcC) → lk ls 0 = some (.ref 171) → lk ls 1 = some (.int (I (gi h 171 17))) → lk ls 2 = some (.int (I is)) → GD gE gRL sh h4 → FRM gRL [(0, 54, 0, 0), (0, 54, 17, 20), (0, 54, 26, 26), (0, 66, 0, 79)] h h4 → K 35 ls [] h4 0 0 := by
    intro ok q L
    intro is h4 ls ib a18 a19 t4 z4 bq hD rc l0 l1 l2 hG4 hF4
    have g26 := gri 0 80 hG4 (a := 171) (r := 54) (k := 26) rfl rfl
    have is01 := b2i_r ok
    have fb := fltF_le (n := (gi h 171 17)) (most := 40) (r := (ok, q)) (by omega) bq.1
    refine x_aload_n 36 hK rfl rfl l0 ?_
    refine x_iload_n 37 hK rfl rfl l1 ?_
    refine x_bipush 39 hK rfl rfl rfl ?_
    refine x_iload_n 40 hK rfl rfl l2 ?_
    refine x_callV 43 hK hmono rfl rfl [.ref 171, .int (I (gi h 171 17)), .int (I 40), .int (I is)] [] rfl rfl (Nat.le_of_ble_eq_true rfl) (Nat.le_of_ble_eq_true rfl) rfl (sp_171 (h := h4) hG4) (CLd_le (Nat.le_of_ble_eq_true rfl) (ctX11_faultOf hSP hG4 (by omega) (by omega) (by omega))) ?_
    rintro v9 h9 ⟨e9, rfl⟩
    rw [e9, a18, a19]
    clear e9
    rw [show (if 40 < (gi h 171 17) ∧ ((is = 1 ∧ q = min (gi h 171 17) 40) ∨ 40 ≤ q) then -1 - 40 else if is = 1 ∧ q = min (gi h 171 17) 40 then 0 else -1 - q) = (fltF (gi h 171 17) 40 (ok, q)) from by rw [ib]; exact flt_i (r := (ok, q))]
    have fr : r32 (fltF (gi h 171 17) 40 (ok, q)) := by unfold fltF at fb ⊢; (try dsimp only at fb ⊢); (repeat' split) <;> omega
    refine x_istore_n 44 hK rfl rfl _ rfl ?_
    refine x_iload_n 45 hK rfl rfl lk1_s ?_
    refine x_if_ge 50 48 hK rfl rfl rfl (by omega) (fun c8 => ?_) (fun c8 => ?_)
    · have f0 : (fltF (gi h 171 17) 40 (ok, q)) = 0 := by omega
      obtain rfl : ok = true := (fltF_0 (n := (gi h 171 17)) (most := 40) (r := (ok, q)) (by omega) bq.1 f0).1
      have rc1 := rc rfl
      have ln : (gi h4 171 26).toNat = L.length := by
        have z := congrArg List.length rc1
        rw [rcL_l, List.length_map] at z
        exact z
      refine x_aload_n 51 hK rfl rfl (lk1_n l0 (by decide) (Or.inl rfl)) ?_
      refine x_aload_n 52 hK rfl rfl (lk1_n l0 (by decide) (Or.inl rfl)) ?_
      have g293 := gri (0) (80) hG4 (a := 171) (r := 54) (k := 26) rfl rfl
      refine x_getE 55 hK rfl (Or.inl rfl) rfl (sp_171 (h := h4) hG4) (e := (gi h4 171 26)) (rfl) ?_
      refine x_putI 58 hK rfl rfl (sp_171 (h := h4) hG4) ?_
      refine x_iconst 59 hK rfl rfl ?_
      refine x_istore 61 hK rfl rfl _ rfl ?_
      exact loop2 q L _ 0 _ _ rfl (by omega) ((gi_k (by decide) _).trans (t4)) ((gi_k (by decide) _).trans (z4)) ((gi_k (by decide) _).trans (by omega)) ((gi_same (by omega)).trans (by omega)) (hD.imp (fun d => ⟨d.1, d.2.2⟩) id) (bq) (f0) (by rw [← rc1, ln]; exact rcL_e fun j hj => gi_a (by decide) _) (fun j hj => absurd hj (by omega)) (lk1_n (lk1_n l0 (by decide) (Or.inl rfl)) (by decide) (Or.inl rfl)) lk1_s (GD_w1 (hG4) (r := 54) rfl (by omega) rfl (by omega) (by omega)) (FRM_w ((hF4).mono rfl) (r := 54) rfl rfl)
    · refine x_iload_n 49 hK rfl rfl lk1_s ?_
      have fn : (fltF (gi h 171 17) 40 (ok, q)) < 0 := by omega
      rcases hD with ⟨d1, d2, d3, d4⟩ | ⟨d1, d2⟩
      · exfalso
        rw [d1, d2, d3] at fn
        exact absurd fn (by decide)
      · exact x_iret hK rfl ⟨Or.inr ⟨d1, ok, q, L, d2, bq, Or.inl ⟨fn, rfl, FRM_gi hF4 (r := 54) rfl rfl, fun j => FRM_gi hF4 (r := 65) rfl rfl⟩⟩, hG4, hF4.mono rfl, t4, z4, xOk_ok rfl h h4 hF4 hX⟩
  refine x_aload_n 1 hK rfl rfl rfl ?_
  refine x_iconst 2 hK rfl rfl ?_
  refine x_putI 5 hK rfl rfl (sp_171 (h := h) hG) ?_
  refine x_aload_n 6 hK rfl rfl rfl ?_
  refine x_bipush 8 hK rfl rfl rfl ?_
  have hGp294 : GD gE gRL sh (wI h 171 0 0) := GD_w1 (hG) (r := 54) rfl (by omega) rfl (by omega) (by omega)
  have sz0 : gi (wI h 171 0 0) 171 17 = gi h 171 17 := gi_k (by decide) _
  refine x_callV 11 hK hmono rfl rfl [.ref 171, .int (I 40)] [] rfl rfl (Nat.le_of_ble_eq_true rfl) (Nat.le_of_ble_eq_true rfl) rfl (sp_171 (h := h) hG) (CLd_le (Nat.le_of_ble_eq_true rfl) (ctX11_begins hSP hGp294 (by omega))) ?_
  rintro v1 h1 ⟨rfl, hG1, hF1, b17, b18, b20, b19⟩
  rw [sz0] at b19 ⊢
  have f1 : fm h1 = T := by rw [fm_tx, b19, ← hT, show gi h1 180 = gi h 180 from funext fun k => (FRM_gi hF1 (r := 63) rfl rfl).trans (gi_a (by decide) _)]
  refine x_istore_n 12 hK rfl rfl [(1, .int (I (gi h 171 17))), (0, .ref 171)] rfl ?_
  refine x_aload_n 13 hK rfl rfl rfl ?_
  refine x_iconst 14 hK rfl rfl ?_
  refine x_putI 17 hK rfl rfl (sp_171 (h := h1) hG1) ?_
  refine x_iload_n 18 hK rfl rfl rfl ?_
  refine x_if_eq 29 21 hK rfl rfl rfl (by omega) (fun c12 => ?_) (fun c12 => ?_)
  · refine x_iconst 30 hK rfl rfl ?_
    refine x_goto 34 hK rfl rfl ?_
    refine x_istore_n 35 hK rfl rfl [(2, .int (I 1)), (1, .int (I (gi h 171 17))), (0, .ref 171)] rfl ?_
    exact end1 true 0 [] 1 _ _ (rfl) ((gi_k (by decide) _).trans (b18)) ((gi_k (by decide) _).trans (b19)) ((gi_k (by decide) _).trans ((FRM_gi hF1 (r := 54) rfl rfl).trans (gi_same (by omega)))) ((gi_k (by decide) _).trans (b17)) (by omega) (Or.inl ⟨by omega, rfl, rfl, rfl⟩) (fun _ => by rw [show gi (wI h1 171 26 0) 171 26 = 0 from gi_same (by omega)]; rfl) rfl rfl rfl (GD_w1 (hG1) (r := 54) rfl (by omega) rfl (by omega) (by omega)) (FRM_w ((FRM_w ((FRM.rf : FRM gRL [(0, 54, 0, 0), (0, 54, 17, 20), (0, 54, 26, 26), (0, 66, 0, 79)] h h)) (r := 54) rfl rfl).trans ((hF1).mono rfl)) (r := 54) rfl rfl)
  · refine x_aload_n 22 hK rfl rfl rfl ?_
    refine x_iconst 23 hK rfl rfl ?_
    have hGp295 : GD gE gRL sh (wI h1 171 26 0) := GD_w1 (hG1) (r := 54) rfl (by omega) rfl (by omega) (by omega)
    have s18 : gi (wI h1 171 26 0) 171 18 = 0 := (gi_k (by decide) _).trans (b18)
    have s19 : gi (wI h1 171 26 0) 171 19 = min (gi h 171 17) 40 := (gi_k (by decide) _).trans (b19)
    have s20 : gi (wI h1 171 26 0) 171 20 = 0 := (gi_k (by decide) _).trans (b20)
    have s26 : gi (wI h1 171 26 0) 171 26 = 0 := gi_same (by omega)
    have fe3 : fm (wI h1 171 26 0) = T := (fm_wI (by decide) (Or.inr (by decide))).trans (f1)
    refine x_callV 26 hK hmono rfl rfl [.ref 171, .int (I 0)] [] rfl rfl (Nat.le_of_ble_eq_true rfl) (Nat.le_of_ble_eq_true rfl) rfl (sp_171 (h := h1) hG1) (CLd_le (Nat.le_of_ble_eq_true rfl) ((reads_allG hSP 40).2 hGp295 (by omega) (by omega))) ?_
    rintro v3 h3 ⟨ok, q, L, pr, rfl, hG3, hF3, eq3, bd3, bc3, sc3⟩
    rw [fe3, s18, s20] at pr
    rw [s18, s19] at bd3
    rw [s18, s26] at sc3
    have pr : PR T 0 0 0 ok q L := pr
    cases ok
    · rw [show b2i false = 0 from rfl]
      refine x_if_eq 33 29 hK rfl rfl rfl (by omega) (fun _ => ?_) (fun c => by omega)
      refine x_iconst 34 hK rfl rfl ?_
      refine x_istore_n 35 hK rfl rfl [(2, .int (I 0)), (1, .int (I (gi h 171 17))), (0, .ref 171)] rfl ?_
      exact end1 false q L 0 _ _ (rfl) (eq3) ((FRM_gi hF3 (r := 54) rfl rfl).trans ((gi_k (by decide) _).trans (b19))) ((FRM_gi hF3 (r := 54) rfl rfl).trans ((gi_k (by decide) _).trans ((FRM_gi hF1 (r := 54) rfl rfl).trans (gi_same (by omega))))) ((FRM_gi hF3 (r := 54) rfl rfl).trans ((gi_k (by decide) _).trans (b17))) (bd3) (Or.inr ⟨by omega, pr⟩) (fun z => by cases z) rfl rfl rfl (hG3) ((FRM_w ((FRM_w ((FRM.rf : FRM gRL [(0, 54, 0, 0), (0, 54, 17, 20), (0, 54, 26, 26), (0, 66, 0, 79)] h h)) (r := 54) rfl rfl).trans ((hF1).mono rfl)) (r := 54) rfl rfl).trans ((hF3).mono rfl))
    · rw [show b2i true = 1 from rfl]
      refine x_if_eq 33 29 hK rfl rfl rfl (by omega) (fun c => by omega) (fun _ => ?_)
      refine x_iconst 30 hK rfl rfl ?_
      refine x_goto 34 hK rfl rfl ?_
      refine x_istore_n 35 hK rfl rfl [(2, .int (I 1)), (1, .int (I (gi h 171 17))), (0, .ref 171)] rfl ?_
      exact end1 true q L 1 _ _ (rfl) (eq3) ((FRM_gi hF3 (r := 54) rfl rfl).trans ((gi_k (by decide) _).trans (b19))) ((FRM_gi hF3 (r := 54) rfl rfl).trans ((gi_k (by decide) _).trans ((FRM_gi hF1 (r := 54) rfl rfl).trans (gi_same (by omega))))) ((FRM_gi hF3 (r := 54) rfl rfl).trans ((gi_k (by decide) _).trans (b17))) (bd3) (Or.inr ⟨by omega, pr⟩) (fun _ => (sc3 rfl).2.2) rfl rfl rfl (hG3) ((FRM_w ((FRM_w ((FRM.rf : FRM gRL [(0, 54, 0, 0), (0, 54, 17, 20), (0, 54, 26, 26), (0, 66, 0, 79)] h h)) (r := 54) rfl rfl).trans ((hF1).mono rfl)) (r := 54) rfl rfl).trans ((hF3).mono rfl))
end
section
/-! THE RULE: both ways, one answer -/
theorem rule_fit {h h' : aH} {u v : Nat} {rv : Option Value} (hn : 0 ≤ gi h 1 1 ∧ gi h 1 1 ≤ 80) (hd : (gi h 1 1 = 0 ∧ rv = some (.int (I 0)) ∧ aR h' 0 4 = some u ∧ aR h' 0 5 = some v ∧ gi h' u 1 = 0) ∨ (gi h 1 1 ≠ 0 ∧ ∃ (p : Int) (q s : List Int) (d : Nat) (c : Nat → Bool) (w : Bool), GoR (txF (gi h 2) (min (gi h 1 1) 40)) (0, [], [], 0, fun _ => false, true) (p, q, s, d, c, w) ∧ mstp (txF (gi h 2) (min (gi h 1 1) 40)) (p, q, s, d, c, w) = none ∧ (0 ≤ p ∧ p ≤ min (gi h 1 1) 40) ∧ (((cfl (gi h 1 1) 40 (!w && decide (d = 0), p)) ≠ -1 ∧ rv = some (.int (I (-1 - (cfl (gi h 1 1) 40 (!w && decide (d = 0), p))))) ∧ aR h' 0 4 = some u ∧ aR h' 0 5 = some v ∧ gi h' u 1 = gi h u 1 ∧ ∀ j, gi h' (u + 1) j = gi h (u + 1) j) ∨ ((cfl (gi h 1 1) 40 (!w && decide (d = 0), p)) = -1 ∧ rv = some (.int (I 0)) ∧ aR h' 0 4 = some v ∧ aR h' 0 5 = some u ∧ cdL h' v (gi h' v 1).toNat = q ++ ngs (popS 1 s))))) :
    ∃ e : Int, rv = some (.int (I e)) ∧ r32 e ∧ (gi h 1 1 = 0 → e = 0 ∧ aR h' 0 4 = some u ∧ aR h' 0 5 = some v ∧ gi h' u 1 = 0) ∧
      (gi h 1 1 ≠ 0 → (∀ a, (txF (gi h 2) (min (gi h 1 1) 40)) a ≤ 255) → ∀ (ok : Bool) (z : Int) (L : List Int), PR (txF (gi h 2) (min (gi h 1 1) 40)) 0 0 0 ok z L → (0 ≤ z ∧ z ≤ min (gi h 1 1) 40) → e = fltF (gi h 1 1) 40 (ok, z) ∧
        (fltF (gi h 1 1) 40 (ok, z) < 0 → aR h' 0 4 = some u ∧ aR h' 0 5 = some v ∧ gi h' u 1 = gi h u 1 ∧ ∀ j, gi h' (u + 1) j = gi h (u + 1) j) ∧
        (fltF (gi h 1 1) 40 (ok, z) = 0 → aR h' 0 4 = some v ∧ aR h' 0 5 = some u ∧ cdL h' v (gi h' v 1).toNat = L)) := by
  rcases hd with ⟨n0, rfl, a1, a2, a3⟩ | ⟨n0, p, q, s, d, c, w, hgo, hst, hp, hd⟩
  · exact ⟨0, rfl, by omega, fun _ => ⟨rfl, a1, a2, a3⟩, fun z => absurd n0 z⟩
  · have key : ∀ (ok : Bool) (z : Int) (L : List Int), (∀ a, (txF (gi h 2) (min (gi h 1 1) 40)) a ≤ 255) → PR (txF (gi h 2) (min (gi h 1 1) 40)) 0 0 0 ok z L → (!w && decide (d = 0)) = ok ∧ p = z ∧ (ok = true → q ++ ngs (popS 1 s) = L) := by
      intro ok z L h255 hpr
      obtain ⟨k1, k2, k3⟩ := pr_all h255 hpr hgo hst
      refine ⟨?_, k1, fun y => (k2 y).2.2⟩
      cases ok with
      | true =>
        obtain ⟨y1, y2, -⟩ := k2 rfl
        have y1 : w = false := y1
        have y2 : d = 0 := y2
        rw [y1, y2]; rfl
      | false =>
        have y := k3 rfl
        have y : w = true ∨ 0 < d := y
        rcases y with y | y
        · rw [y]; rfl
        · rw [decide_eq_false (show ¬ d = 0 by omega), Bool.and_false]
    have cb : -1 ≤ (cfl (gi h 1 1) 40 (!w && decide (d = 0), p)) ∧ (cfl (gi h 1 1) 40 (!w && decide (d = 0), p)) ≤ 40 := by unfold cfl; (try dsimp only); (repeat' split) <;> omega
    rcases hd with ⟨c1, rfl, b1, b2, b3, b4⟩ | ⟨c1, rfl, b1, b2, b3⟩
    · refine ⟨_, rfl, by omega, fun z => absurd z n0, fun _ h255 ok z L hpr hz => ?_⟩
      obtain ⟨k1, k2, k3⟩ := key ok z L h255 hpr
      rw [k1, k2] at c1 ⊢
      have f1 := cfl_flt (n := (gi h 1 1)) (most := 40) (r := (ok, z)) (by omega) hn.1 hz.1 hz.2
      have f2 := fltF_lt (n := (gi h 1 1)) (most := 40) (r := (ok, z)) (by omega) hn.1 hz.1 hz.2 c1
      exact ⟨f1.2 c1, fun _ => ⟨b1, b2, b3, b4⟩, fun y => by omega⟩
    · refine ⟨_, rfl, by omega, fun z => absurd z n0, fun _ h255 ok z L hpr hz => ?_⟩
      obtain ⟨k1, k2, k3⟩ := key ok z L h255 hpr
      rw [k1, k2] at c1
      have f1 := cfl_flt (n := (gi h 1 1)) (most := 40) (r := (ok, z)) (by omega) hn.1 hz.1 hz.2
      have f0 := f1.1.mp c1
      have ot := (fltF_0 (n := (gi h 1 1)) (most := 40) (r := (ok, z)) (by omega) hz.1 f0).1
      exact ⟨f0.symm, fun y => by omega, fun _ => ⟨b1, b2, by rw [b3]; exact k3 ot⟩⟩
/-- what stands in a rule's code -/
noncomputable def cdP (x : Int) : Prop := (0 ≤ x ∧ x ≤ 999) ∨ x = -256 ∨ (x = -60 ∨ x = -62 ∨ x = -61 ∨ x = -43 ∨ x = -45 ∨ x = -42 ∨ x = -47) ∨ (x = -108 ∨ x = -112 ∨ x = -120 ∨ x = -110)
theorem cdP_op {s : Int} (h : 1 ≤ rkI s ∧ rkI s ≤ 3) : cdP (-s) := by
  refine Or.inr (Or.inr (Or.inl ?_))
  unfold rkI at h
  (repeat' split at h) <;> omega
theorem cdP_ask {s : Int} (h : askI s) : cdP (-s) := by
  refine Or.inr (Or.inr (Or.inr ?_))
  unfold askI at h
  omega
theorem cdP_app {A B : List Int} (ha : ∀ x ∈ A, cdP x) (hb : ∀ x ∈ B, cdP x) : ∀ x ∈ A ++ B, cdP x := fun x hx => (List.mem_append.mp hx).elim (ha x) (hb x)
theorem cdP_one {y : Int} (h : cdP y) : ∀ x ∈ [y], cdP x := fun x hx => by rw [List.mem_singleton.mp hx]; exact h
theorem pr_cd {f : Int → Int} {m d : Nat} {p q : Int} {ok : Bool} {L : List Int} (h : PR f m d p ok q L) : ok = true → ∀ x ∈ L, cdP x := by
  refine h (fun m d p ok q L => ok = true → ∀ x ∈ L, cdP x) ⟨?_, ?_, ?_, ?_, ?_, ?_, ?_, ?_, ?_, ?_, ?_, ?_, ?_⟩
  · intro d p q ok L _ ih hk
    exact cdP_app (ih hk) (cdP_one (Or.inr (Or.inl rfl)))
  · intro d p hp _
    exact cdP_one (Or.inl (nm_999 hp))
  · intro d p hp _
    exact cdP_one (cdP_ask hp)
  · intro d p _ _ _ _ hk; cases hk
  · intro d p q L _ _ _ hk; cases hk
  · intro d p q L _ _ _ _ hk; cases hk
  · intro d p q L _ _ ih _ _
    exact ih rfl
  · intro r d p q L _ _ hk; cases hk
  · intro r d p q q' ok L L' hr i1 i2 hk
    exact cdP_app (i1 rfl) (i2 hk)
  · intro r d p _ _ _ x hx
    exact absurd hx List.not_mem_nil
  · intro r d p q L _ _ _ hk; cases hk
  · intro d p q L hr ih _
    exact cdP_app (ih rfl) (cdP_one (cdP_op (by omega)))
  · intro r d p q q' ok L L' h0 h1 hr i1 i2 hk
    exact cdP_app (cdP_app (i1 rfl) (cdP_one (cdP_op (by omega)))) (i2 hk)
end
