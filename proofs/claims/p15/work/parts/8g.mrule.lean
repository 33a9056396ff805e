/-! THE RULE as the reference reads it -/
/-- a code as the reference has it -/
def rcC (c : Int) : Int := if c = -256 then 3000 else if c = -60 then 2000 else if c = -62 then 2001 else if c = -61 then 2002 else if c = -43 then 2003 else if c = -45 then 2004 else if c = -42 then 2005 else if c = -47 then 2006 else if c = -108 then 1000 else if c = -112 then 1001 else if c = -120 then 1002 else if c = -110 then 1003 else c
def rcL (h : aH) (n : Nat) : List Int := (List.range n).map (gi h 183)
theorem rcL_s {h h' : aH} {n : Nat} {v : Int} (h1 : gi h' 183 n = v) (h2 : ∀ j, j ≠ n → gi h' 183 j = gi h 183 j) : rcL h' (n + 1) = rcL h n ++ [v] := by
  unfold rcL
  rw [List.range_succ, List.map_append, List.map_cons, List.map_nil, h1]
  congr 1
  exact List.map_congr_left fun j hj => h2 j (by have := List.mem_range.mp hj; omega)
theorem rcL_e {h h' : aH} {n : Nat} (h2 : ∀ j, j < n → gi h' 183 j = gi h 183 j) : rcL h' n = rcL h n := by
  unfold rcL
  exact List.map_congr_left fun j hj => h2 j (List.mem_range.mp hj)
theorem rcL_l (h : aH) (n : Nat) : (rcL h n).length = n := by unfold rcL; rw [List.length_map, List.length_range]
def RSG (sh : List (Nat × Nat)) (h : aH) (m : Nat) (rv : Option Value) (h' : aH) : Prop := ∃ (ok : Bool) (q : Int) (L : List Int), PR (fm h) m (gi h 171 20).toNat (gi h 171 18) ok q L ∧ rv = some (.int (I (b2i ok))) ∧ GD gE gRL sh h' ∧ FRM gRL [(0, 54, 18, 18), (0, 54, 20, 20), (0, 54, 26, 26), (0, 66, 0, 79)] h h' ∧ gi h' 171 18 = q ∧ (gi h 171 18 ≤ q ∧ q ≤ gi h 171 19) ∧ (gi h 171 26 ≤ gi h' 171 26 ∧ gi h' 171 26 - gi h 171 26 ≤ q - gi h 171 18) ∧ (ok = true → gi h 171 18 < q ∧ gi h' 171 20 = gi h 171 20 ∧ rcL h' (gi h' 171 26).toNat = rcL h (gi h 171 26).toNat ++ L.map rcC)
theorem ask_l (s : Int) : fidx s (byJ.getD 1 []) 0 = if s = 108 then 0 else if s = 112 then 1 else if s = 120 then 2 else if s = 110 then 3 else -1 := by
  by_cases c : s = 108 ∨ s = 112 ∨ s = 120 ∨ s = 110
  · rcases c with rfl | rfl | rfl | rfl <;> decide
  · rw [if_neg (by omega), if_neg (by omega), if_neg (by omega), if_neg (by omega)]
    refine fidx_e _ _ fun d hd => ?_
    have : ∀ d ∈ byJ.getD 1 [], d.toInt = 108 ∨ d.toInt = 112 ∨ d.toInt = 120 ∨ d.toInt = 110 := by decide
    have := this d hd
    omega
theorem op_l0 (s : Int) : fidx s (byJ.getD 2 []) 0 = if s = 60 then 0 else if s = 62 then 1 else if s = 61 then 2 else -1 := by
  by_cases c : s = 60 ∨ s = 62 ∨ s = 61
  · rcases c with rfl | rfl | rfl <;> decide
  · rw [if_neg (by omega), if_neg (by omega), if_neg (by omega)]
    refine fidx_e _ _ fun d hd => ?_
    have : ∀ d ∈ byJ.getD 2 [], d.toInt = 60 ∨ d.toInt = 62 ∨ d.toInt = 61 := by decide
    have := this d hd
    omega
theorem op_l1 (s : Int) : fidx s (byJ.getD 3 []) 0 = if s = 43 then 0 else if s = 45 then 1 else -1 := by
  by_cases c : s = 43 ∨ s = 45
  · rcases c with rfl | rfl <;> decide
  · rw [if_neg (by omega), if_neg (by omega)]
    refine fidx_e _ _ fun d hd => ?_
    have : ∀ d ∈ byJ.getD 3 [], d.toInt = 43 ∨ d.toInt = 45 := by decide
    have := this d hd
    omega
theorem op_l2 (s : Int) : fidx s (byJ.getD 4 []) 0 = if s = 42 then 0 else if s = 47 then 1 else -1 := by
  by_cases c : s = 42 ∨ s = 47
  · rcases c with rfl | rfl <;> decide
  · rw [if_neg (by omega), if_neg (by omega)]
    refine fidx_e _ _ fun d hd => ?_
    have : ∀ d ∈ byJ.getD 4 [], d.toInt = 42 ∨ d.toInt = 47 := by decide
    have := this d hd
    omega
set_option maxRecDepth 4000 in
theorem ctX11_readsThingG (hSP : MONO SPt) {sh : List (Nat × Nat)} {m : Nat} (ihT : ∀ m', m' < m → ∀ {h : aH}, GD gE gRL sh h → (gi h 171 26 ≤ gi h 171 18 ∧ gi h 171 18 ≤ gi h 171 19) → (gi h 171 19 - gi h 171 18).toNat ≤ m' → CLd SPt (5 * m' + 5) mX11_readsThing [.ref 171] h 0 0 (RSG sh h 3)) (ihR : ∀ m', m' < m → ∀ {h : aH}, GD gE gRL sh h → (gi h 171 26 ≤ gi h 171 18 ∧ gi h 171 18 ≤ gi h 171 19) → (gi h 171 19 - gi h 171 18).toNat ≤ m' → CLd SPt (5 * m' + 9) mX11_readsRank [.ref 171, .int (I 0)] h 0 0 (RSG sh h 0)) {h : aH} (hG : GD gE gRL sh h) (hA : gi h 171 26 ≤ gi h 171 18 ∧ gi h 171 18 ≤ gi h 171 19) (hm : (gi h 171 19 - gi h 171 18).toNat ≤ m) : CLd SPt (5 * m + 4 + 1) mX11_readsThing [.ref 171] h 0 0 (RSG sh h 3) := by
  refine x_met _ rfl (Nat.le_of_ble_eq_true rfl) (fun K hK => ?_)
  have hmono := MONO_CLd hSP (5 * m + 4)
  have g20 := gri 0 4 hG (a := 171) (r := 54) (k := 20) rfl rfl
  have g19 := (at_r hG).2.2
  have g18 := (at_r hG).1
  have g26 := gri 0 80 hG (a := 171) (r := 54) (k := 26) rfl rfl
  have fe0 : ∀ a, gi h 171 19 ≤ a → fm h a = -1 := fun a ha => if_neg (by omega)
  refine x_aload_n 1 hK rfl rfl rfl ?_
  refine x_bipush 3 hK rfl rfl rfl ?_
  have g293 := gri (0) (81) hG (a := 171) (r := 54) (k := 18) rfl rfl
  have at292 : gi h 171 18 = (gi h 171 18) := rfl
  have fe292 : fm h = (fm h) := rfl
  have to292 : gi h 171 19 = (gi h 171 19) := rfl
  refine x_callV 6 hK hmono rfl rfl [.ref 171, .int (I 45)] [] rfl rfl (Nat.le_of_ble_eq_true rfl) (Nat.le_of_ble_eq_true rfl) rfl (sp_171 (h := h) hG) (CLd_le (Nat.le_of_ble_eq_true rfl) (ctX11_takes hSP hG (s := 45) (by omega))) ?_
  rw [fe292, at292, to292]
  rintro v292 h292 ⟨hG292, hF292, ⟨rfl, tk292, tt292, eq292⟩ | ⟨rfl, tk292, eq292⟩⟩
  · refine x_if_eq 23 9 hK rfl rfl rfl (by omega) (fun c => by omega) (fun _ => ?_)
    refine x_aload_n 10 hK rfl rfl rfl ?_
    have g295 := gri (0) (80) hG (a := 171) (r := 54) (k := 26) rfl rfl
    have g296 := gri (0) (4) hG (a := 171) (r := 54) (k := 20) rfl rfl
    have at294 : gi h292 171 18 = ((gi h 171 18) + 1) := eq292
    have nn294 : gi h292 171 26 = (gi h 171 26) := FRM_gi hF292 (r := 54) rfl rfl
    have dd294 : gi h292 171 20 = (gi h 171 20) := FRM_gi hF292 (r := 54) rfl rfl
    have fe294 : fm h292 = (fm h) := fm_F hF292 rfl rfl
    have to294 : gi h292 171 19 = (gi h 171 19) := FRM_gi hF292 (r := 54) rfl rfl
    have rr294 : rcL h292 ((gi h 171 26)).toNat = rcL h ((gi h 171 26)).toNat := rcL_e fun j hj => FRM_gi hF292 (r := 66) rfl (by rfl)
    refine x_callV 13 hK hmono rfl rfl [.ref 171] [] rfl rfl (Nat.le_of_ble_eq_true rfl) (Nat.le_of_ble_eq_true rfl) rfl (sp_171 (h := h292) hG292) (CLd_le (by omega) (ihT (m - 1) (by omega) hG292 (by omega) (by omega))) ?_
    rintro v294 h294 ⟨ok294, q294, L294, pr294, rfl, hG294, hF294, eq294, bd294, bc294, sc294⟩
    rw [fe294, dd294, at294] at pr294
    rw [at294, to294] at bd294
    rw [nn294, at294] at bc294
    rw [at294, nn294, dd294, rr294] at sc294
    cases ok294
    · rw [show b2i false = 0 from rfl]
      refine x_istore_n 14 hK rfl rfl [(1, .int (I 0)), (0, .ref 171)] rfl ?_
      refine x_aload_n 15 hK rfl rfl rfl ?_
      refine x_sipush 18 hK rfl rfl rfl ?_
      have g298 := gri (0) (80) hG294 (a := 171) (r := 54) (k := 26) rfl rfl
      have nn297 : gi h294 171 26 = (gi h294 171 26) := rfl
      refine x_callV 21 hK hmono rfl rfl [.ref 171, .int (I 3000)] [] rfl rfl (Nat.le_of_ble_eq_true rfl) (Nat.le_of_ble_eq_true rfl) rfl (sp_171 (h := h294) hG294) (CLd_le (by omega) (ctX11_codes hSP hG294 (by omega) (by omega))) ?_
      rintro v297 h297 ⟨rfl, hG297, hF297, e26297, ev297, eo297⟩
      rw [nn297] at e26297 ev297 eo297
      refine x_iload_n 22 hK rfl rfl rfl ?_
      have zn : gi h297 171 26 = ((gi h294 171 26) + 1) := e26297
      exact x_zret hK rfl (by omega) ⟨false, q294, (L294 ++ [-256]), (PR_neg (by omega) pr294), rfl, hG297, (((hF292).mono rfl).trans ((hF294).mono rfl)).trans ((hF297).mono rfl), (FRM_gi hF297 (r := 54) rfl rfl).trans (eq294), ⟨by omega, by omega⟩, ⟨by rw [zn]; omega, by rw [zn]; omega⟩, nofun⟩
    · rw [show b2i true = 1 from rfl]
      obtain ⟨lt294, ed294, cl294⟩ := sc294 rfl
      refine x_istore_n 14 hK rfl rfl [(1, .int (I 1)), (0, .ref 171)] rfl ?_
      refine x_aload_n 15 hK rfl rfl rfl ?_
      refine x_sipush 18 hK rfl rfl rfl ?_
      have g300 := gri (0) (80) hG294 (a := 171) (r := 54) (k := 26) rfl rfl
      have nn299 : gi h294 171 26 = (gi h294 171 26) := rfl
      refine x_callV 21 hK hmono rfl rfl [.ref 171, .int (I 3000)] [] rfl rfl (Nat.le_of_ble_eq_true rfl) (Nat.le_of_ble_eq_true rfl) rfl (sp_171 (h := h294) hG294) (CLd_le (by omega) (ctX11_codes hSP hG294 (by omega) (by omega))) ?_
      rintro v299 h299 ⟨rfl, hG299, hF299, e26299, ev299, eo299⟩
      rw [nn299] at e26299 ev299 eo299
      have cl299 : rcL h299 ((gi h294 171 26) + 1).toNat = rcL h294 ((gi h294 171 26)).toNat ++ [3000] := by rw [tn_s (by omega), ← show rcL h294 ((gi h294 171 26)).toNat = _ from rfl]; exact rcL_s ev299 eo299
      refine x_iload_n 22 hK rfl rfl rfl ?_
      have zn : gi h299 171 26 = ((gi h294 171 26) + 1) := e26299
      have zd : gi h299 171 20 = (gi h 171 20) := (FRM_gi hF299 (r := 54) rfl rfl).trans (ed294)
      have zr : rcL h299 (((gi h294 171 26) + 1)).toNat = rcL h299 (((gi h294 171 26) + 1)).toNat := rfl
      have zl : rcL h299 (((gi h294 171 26) + 1)).toNat = rcL h (gi h 171 26).toNat ++ ((L294 ++ [-256])).map rcC := by
        rw [zr, cl299, cl294]
        rw [List.map_append, List.append_assoc]; rfl
      exact x_zret hK rfl (by omega) ⟨true, q294, (L294 ++ [-256]), (PR_neg (by omega) pr294), rfl, hG299, (((hF292).mono rfl).trans ((hF294).mono rfl)).trans ((hF299).mono rfl), (FRM_gi hF299 (r := 54) rfl rfl).trans (eq294), ⟨by omega, by omega⟩, ⟨by rw [zn]; omega, by rw [zn]; omega⟩, fun _ => ⟨by omega, by omega, by rw [zn]; exact zl⟩⟩
  · refine x_if_eq 23 9 hK rfl rfl rfl (by omega) (fun _ => ?_) (fun c => by omega)
    refine x_aload_n 24 hK rfl rfl rfl ?_
    have at301 : gi h292 171 18 = (gi h 171 18) := eq292
    have fe301 : fm h292 = (fm h) := fm_F hF292 rfl rfl
    have to301 : gi h292 171 19 = (gi h 171 19) := FRM_gi hF292 (r := 54) rfl rfl
    refine x_callV 27 hK hmono rfl rfl [.ref 171] [] rfl rfl (Nat.le_of_ble_eq_true rfl) (Nat.le_of_ble_eq_true rfl) rfl (sp_171 (h := h292) hG292) (CLd_le (by omega) (ctX11_isDigit hSP hG292)) ?_
    rw [fe301, at301, to301]
    rintro v9 h9 ⟨e9, ⟨rfl, i1, i2, i3⟩ | ⟨rfl, i1⟩⟩ <;> rw [e9] <;> clear e9
    · refine x_if_eq 41 30 hK rfl rfl rfl (by omega) (fun c => by omega) (fun _ => ?_)
      refine x_aload_n 31 hK rfl rfl rfl ?_
      refine x_aload_n 32 hK rfl rfl rfl ?_
      refine x_iconst 33 hK rfl rfl ?_
      have at302 : gi h292 171 18 = (gi h 171 18) := eq292
      have fe302 : fm h292 = (fm h) := fm_F hF292 rfl rfl
      have to302 : gi h292 171 19 = (gi h 171 19) := FRM_gi hF292 (r := 54) rfl rfl
      refine x_callV 36 hK hmono rfl rfl [.ref 171, .int (I 3)] [.ref 171] rfl rfl (Nat.le_of_ble_eq_true rfl) (Nat.le_of_ble_eq_true rfl) rfl (sp_171 (h := h292) hG292) (CLd_le (Nat.le_of_ble_eq_true rfl) (ctX11_number hSP hG292 (n := 3) (by omega))) ?_
      rw [fe302, at302, to302]
      rintro v302 h302 ⟨⟨e302, rfl, nu302, ne302, nf302, ng302⟩, hG302, hF302, np302, nq302, nr302⟩
      have nm302 : nmF (fm h) 3 (gi h 171 18) = (e302, gi h302 171 18) := by rw [nu302, np302]; rfl
      clear nu302 np302
      generalize eq302 : gi h302 171 18 = p302 at *
      have m5 : (gi h 171 18) + 1 ≤ p302 := by
        have z : (nmF (fm h) 3 (gi h 171 18)).2 = p302 := by rw [nm302]
        rw [← z]
        show _ ≤ (tkv (fm h) 3 (gi h 171 18) 0).2
        rw [tkv_step ⟨i1, i2⟩]
        exact tkv_le _ _ _ _
      have g304 := gri (0) (80) hG (a := 171) (r := 54) (k := 26) rfl rfl
      have nn303 : gi h302 171 26 = (gi h 171 26) := (FRM_gi hF302 (r := 54) rfl rfl).trans (FRM_gi hF292 (r := 54) rfl rfl)
      refine x_callV 39 hK hmono rfl rfl [.ref 171, .int (I e302)] [] rfl rfl (Nat.le_of_ble_eq_true rfl) (Nat.le_of_ble_eq_true rfl) rfl (sp_171 (h := h302) hG302) (CLd_le (by omega) (ctX11_codes hSP hG302 (by omega) (by omega))) ?_
      rintro v303 h303 ⟨rfl, hG303, hF303, e26303, ev303, eo303⟩
      rw [nn303] at e26303 ev303 eo303
      have cl303 : rcL h303 ((gi h 171 26) + 1).toNat = rcL h ((gi h 171 26)).toNat ++ [e302] := by rw [tn_s (by omega), ← show rcL h302 ((gi h 171 26)).toNat = _ from rcL_e fun j hj => (FRM_gi hF302 (r := 66) rfl (by rfl)).trans (FRM_gi hF292 (r := 66) rfl (by rfl))]; exact rcL_s ev303 eo303
      refine x_iconst 40 hK rfl rfl ?_
      have zn : gi h303 171 26 = ((gi h 171 26) + 1) := e26303
      have zd : gi h303 171 20 = (gi h 171 20) := (FRM_gi hF303 (r := 54) rfl rfl).trans ((FRM_gi hF302 (r := 54) rfl rfl).trans (FRM_gi hF292 (r := 54) rfl rfl))
      have zr : rcL h303 (((gi h 171 26) + 1)).toNat = rcL h303 (((gi h 171 26) + 1)).toNat := rfl
      have zl : rcL h303 (((gi h 171 26) + 1)).toNat = rcL h (gi h 171 26).toNat ++ ([e302]).map rcC := by
        rw [zr, cl303]
        rw [show [e302].map rcC = [e302] from by show [rcC e302] = _; unfold rcC; rw [if_neg (by omega), if_neg (by omega), if_neg (by omega), if_neg (by omega), if_neg (by omega), if_neg (by omega), if_neg (by omega), if_neg (by omega), if_neg (by omega), if_neg (by omega), if_neg (by omega), if_neg (by omega)]]
      exact x_zret hK rfl (by omega) ⟨true, p302, [e302], (by have z : PR (fm h) 3 (gi h 171 20).toNat (gi h 171 18) true (nmF (fm h) 3 (gi h 171 18)).2 [(nmF (fm h) 3 (gi h 171 18)).1] := PR_num ⟨i1, i2⟩; rw [nm302] at z; exact z), rfl, hG303, (((hF292).mono rfl).trans ((hF302).mono rfl)).trans ((hF303).mono rfl), (FRM_gi hF303 (r := 54) rfl rfl).trans (eq302), ⟨by omega, by omega⟩, ⟨by rw [zn]; omega, by rw [zn]; omega⟩, fun _ => ⟨by omega, by omega, by rw [zn]; exact zl⟩⟩
    · refine x_if_eq 41 30 hK rfl rfl rfl (by omega) (fun _ => ?_) (fun c => by omega)
      refine x_aload_n 42 hK rfl rfl rfl ?_
      refine x_ldcS 44 hK rfl rfl ?_
      have at305 : gi h292 171 18 = (gi h 171 18) := eq292
      have fe305 : fm h292 = (fm h) := fm_F hF292 rfl rfl
      have to305 : gi h292 171 19 = (gi h 171 19) := FRM_gi hF292 (r := 54) rfl rfl
      refine x_callV 47 hK hmono rfl rfl [.ref 171, .ref 1000001] [] rfl rfl (Nat.le_of_ble_eq_true rfl) (Nat.le_of_ble_eq_true rfl) rfl (sp_171 (h := h292) hG292) (CLd_le (Nat.le_of_ble_eq_true rfl) (ctX11_takesOf hSP hG292 (b := 1) (by omega))) ?_
      rw [fe305, at305, to305]
      rintro v305 h305 ⟨⟨e305, rfl, eo305, ep305, eq_305, er305, es305⟩, hG305, hF305⟩
      by_cases ce305 : e305 < 0
      · have es305 : gi h305 171 18 = (gi h 171 18) := er305.trans (by rw [if_pos ce305]; omega)
        refine x_istore_n 48 hK rfl rfl [(1, .int (I e305)), (0, .ref 171)] rfl ?_
        refine x_iload_n 49 hK rfl rfl rfl ?_
        refine x_if_lt 63 52 hK rfl rfl rfl (by omega) (fun _ => ?_) (fun c => by omega)
        refine x_aload_n 64 hK rfl rfl rfl ?_
        have g306 := gri (0) (4) hG (a := 171) (r := 54) (k := 20) rfl rfl
        refine x_getE 67 hK rfl (Or.inl rfl) rfl (sp_171 (h := h305) hG305) (e := (gi h 171 20)) ((FRM_gi hF305 (r := 54) rfl rfl).trans (FRM_gi hF292 (r := 54) rfl rfl)) ?_
        refine x_iconst 68 hK rfl rfl ?_
        refine x_if_icmp_eq 80 71 hK rfl rfl rfl (by omega) (by omega) (fun c40 => ?_) (fun c40 => ?_)
        · refine x_iconst 81 hK rfl rfl ?_
          have al := ask_l (fm h (gi h 171 18))
          rw [← eo305] at al
          have as : ¬ askI (fm h (gi h 171 18)) := by unfold askI; (repeat' split at al) <;> omega
          have zn : gi h305 171 26 = (gi h 171 26) := (FRM_gi hF305 (r := 54) rfl rfl).trans (FRM_gi hF292 (r := 54) rfl rfl)
          exact x_zret hK rfl (by omega) ⟨false, (gi h 171 18), [], (PR_no (d := (gi h 171 20).toNat) (p := gi h 171 18) (by omega) (by omega) as (by omega)), rfl, hG305, ((hF292).mono rfl).trans ((hF305).mono rfl), es305, ⟨by omega, by omega⟩, ⟨by rw [zn]; omega, by rw [zn]; omega⟩, nofun⟩
        · refine x_aload_n 72 hK rfl rfl rfl ?_
          refine x_bipush 74 hK rfl rfl rfl ?_
          have at307 : gi h305 171 18 = (gi h 171 18) := es305
          have fe307 : fm h305 = (fm h) := (fm_F hF305 rfl rfl).trans (fm_F hF292 rfl rfl)
          have to307 : gi h305 171 19 = (gi h 171 19) := (FRM_gi hF305 (r := 54) rfl rfl).trans (FRM_gi hF292 (r := 54) rfl rfl)
          refine x_callV 77 hK hmono rfl rfl [.ref 171, .int (I 40)] [] rfl rfl (Nat.le_of_ble_eq_true rfl) (Nat.le_of_ble_eq_true rfl) rfl (sp_171 (h := h305) hG305) (CLd_le (Nat.le_of_ble_eq_true rfl) (ctX11_takes hSP hG305 (s := 40) (by omega))) ?_
          rw [fe307, at307, to307]
          rintro v307 h307 ⟨hG307, hF307, ⟨rfl, tk307, tt307, eq307⟩ | ⟨rfl, tk307, eq307⟩⟩
          · refine x_if_ne 82 80 hK rfl rfl rfl (by omega) (fun _ => ?_) (fun c => by omega)
            refine x_aload_n 83 hK rfl rfl rfl ?_
            refine x_dup 84 hK rfl rfl rfl ?_
            refine x_getE 87 hK rfl (Or.inl rfl) rfl (sp_171 (h := h307) hG307) (e := (gi h 171 20)) ((FRM_gi hF307 (r := 54) rfl rfl).trans ((FRM_gi hF305 (r := 54) rfl rfl).trans (FRM_gi hF292 (r := 54) rfl rfl))) ?_
            refine x_iconst 88 hK rfl rfl ?_
            refine x_iadd 89 hK rfl rfl ?_
            refine x_putI 92 hK rfl rfl (sp_171 (h := h307) hG307) ?_
            refine x_aload_n 93 hK rfl rfl rfl ?_
            refine x_iconst 94 hK rfl rfl ?_
            have g309 := gri (0) (80) hG (a := 171) (r := 54) (k := 26) rfl rfl
            have hGp310 : GD gE gRL sh (wI h307 171 20 ((gi h 171 20) + 1)) := GD_w1 (hG307) (r := 54) rfl (by omega) rfl (by omega) (by omega)
            have at308 : gi (wI h307 171 20 ((gi h 171 20) + 1)) 171 18 = ((gi h 171 18) + 1) := (gi_k (by decide) _).trans (eq307)
            have nn308 : gi (wI h307 171 20 ((gi h 171 20) + 1)) 171 26 = (gi h 171 26) := (gi_k (by decide) _).trans ((FRM_gi hF307 (r := 54) rfl rfl).trans ((FRM_gi hF305 (r := 54) rfl rfl).trans (FRM_gi hF292 (r := 54) rfl rfl)))
            have dd308 : gi (wI h307 171 20 ((gi h 171 20) + 1)) 171 20 = ((gi h 171 20) + 1) := gi_same (by omega)
            have fe308 : fm (wI h307 171 20 ((gi h 171 20) + 1)) = (fm h) := (fm_wI (by decide) (Or.inr (by decide))).trans ((fm_F hF307 rfl rfl).trans ((fm_F hF305 rfl rfl).trans (fm_F hF292 rfl rfl)))
            have to308 : gi (wI h307 171 20 ((gi h 171 20) + 1)) 171 19 = (gi h 171 19) := (gi_k (by decide) _).trans ((FRM_gi hF307 (r := 54) rfl rfl).trans ((FRM_gi hF305 (r := 54) rfl rfl).trans (FRM_gi hF292 (r := 54) rfl rfl)))
            have rr308 : rcL (wI h307 171 20 ((gi h 171 20) + 1)) ((gi h 171 26)).toNat = rcL h ((gi h 171 26)).toNat := rcL_e fun j hj => (gi_a (by decide) _).trans ((FRM_gi hF307 (r := 66) rfl (by rfl)).trans ((FRM_gi hF305 (r := 66) rfl (by rfl)).trans (FRM_gi hF292 (r := 66) rfl (by rfl))))
            refine x_callV 97 hK hmono rfl rfl [.ref 171, .int (I 0)] [] rfl rfl (Nat.le_of_ble_eq_true rfl) (Nat.le_of_ble_eq_true rfl) rfl (sp_171 (h := h307) hG307) (CLd_le (by omega) (ihR (m - 1) (by omega) hGp310 (by omega) (by omega))) ?_
            rintro v308 h308 ⟨ok308, q308, L308, pr308, rfl, hG308, hF308, eq308, bd308, bc308, sc308⟩
            rw [fe308, dd308, at308] at pr308
            rw [at308, to308] at bd308
            rw [nn308, at308] at bc308
            rw [at308, nn308, dd308, rr308] at sc308
            cases ok308
            · rw [show b2i false = 0 from rfl]
              refine x_if_eq 109 100 hK rfl rfl rfl (by omega) (fun _ => ?_) (fun c => by omega)
              refine x_iconst 110 hK rfl rfl ?_
              rw [show (gi h 171 20 + 1).toNat = (gi h 171 20).toNat + 1 by omega] at pr308
              have zn : gi h308 171 26 = (gi h308 171 26) := rfl
              exact x_zret hK rfl (by omega) ⟨false, q308, L308, (PR_brF (d := (gi h 171 20).toNat) (p := gi h 171 18) (by omega) (show (gi h 171 20).toNat < 4 by omega) pr308), rfl, hG308, (FRM_w ((((hF292).mono rfl).trans ((hF305).mono rfl)).trans ((hF307).mono rfl)) (r := 54) rfl rfl).trans ((hF308).mono rfl), eq308, ⟨by omega, by omega⟩, ⟨by rw [zn]; omega, by rw [zn]; omega⟩, nofun⟩
            · rw [show b2i true = 1 from rfl]
              obtain ⟨lt308, ed308, cl308⟩ := sc308 rfl
              refine x_if_eq 109 100 hK rfl rfl rfl (by omega) (fun c => by omega) (fun _ => ?_)
              refine x_aload_n 101 hK rfl rfl rfl ?_
              refine x_bipush 103 hK rfl rfl rfl ?_
              have at311 : gi h308 171 18 = q308 := eq308
              have fe311 : fm h308 = (fm h) := (fm_F hF308 rfl rfl).trans ((fm_wI (by decide) (Or.inr (by decide))).trans ((fm_F hF307 rfl rfl).trans ((fm_F hF305 rfl rfl).trans (fm_F hF292 rfl rfl))))
              have to311 : gi h308 171 19 = (gi h 171 19) := (FRM_gi hF308 (r := 54) rfl rfl).trans ((gi_k (by decide) _).trans ((FRM_gi hF307 (r := 54) rfl rfl).trans ((FRM_gi hF305 (r := 54) rfl rfl).trans (FRM_gi hF292 (r := 54) rfl rfl))))
              refine x_callV 106 hK hmono rfl rfl [.ref 171, .int (I 41)] [] rfl rfl (Nat.le_of_ble_eq_true rfl) (Nat.le_of_ble_eq_true rfl) rfl (sp_171 (h := h308) hG308) (CLd_le (Nat.le_of_ble_eq_true rfl) (ctX11_takes hSP hG308 (s := 41) (by omega))) ?_
              rw [fe311, at311, to311]
              rintro v311 h311 ⟨hG311, hF311, ⟨rfl, tk311, tt311, eq311⟩ | ⟨rfl, tk311, eq311⟩⟩
              · refine x_if_ne 111 109 hK rfl rfl rfl (by omega) (fun _ => ?_) (fun c => by omega)
                refine x_aload_n 112 hK rfl rfl rfl ?_
                refine x_dup 113 hK rfl rfl rfl ?_
                refine x_getE 116 hK rfl (Or.inl rfl) rfl (sp_171 (h := h311) hG311) (e := ((gi h 171 20) + 1)) ((FRM_gi hF311 (r := 54) rfl rfl).trans (ed308)) ?_
                refine x_iconst 117 hK rfl rfl ?_
                refine x_isub 118 hK rfl rfl ?_
                refine x_putI 121 hK rfl rfl (sp_171 (h := h311) hG311) ?_
                refine x_iconst 122 hK rfl rfl ?_
                rw [show (gi h 171 20 + 1).toNat = (gi h 171 20).toNat + 1 by omega] at pr308
                have zn : gi (wI h311 171 20 (((gi h 171 20) + 1) - 1)) 171 26 = (gi h308 171 26) := (gi_k (by decide) _).trans (FRM_gi hF311 (r := 54) rfl rfl)
                have zd : gi (wI h311 171 20 (((gi h 171 20) + 1) - 1)) 171 20 = (((gi h 171 20) + 1) - 1) := gi_same (by omega)
                have zr : rcL (wI h311 171 20 (((gi h 171 20) + 1) - 1)) ((gi h308 171 26)).toNat = rcL h308 ((gi h308 171 26)).toNat := rcL_e fun j hj => (gi_a (by decide) _).trans (FRM_gi hF311 (r := 66) rfl (by rfl))
                have zl : rcL (wI h311 171 20 (((gi h 171 20) + 1) - 1)) ((gi h308 171 26)).toNat = rcL h (gi h 171 26).toNat ++ (L308).map rcC := by
                  rw [zr, cl308]
                  
                exact x_zret hK rfl (by omega) ⟨true, (q308 + 1), L308, (PR_brT (d := (gi h 171 20).toNat) (p := gi h 171 18) (by omega) (show (gi h 171 20).toNat < 4 by omega) pr308 (by omega)), rfl, GD_w1 (hG311) (r := 54) rfl (by omega) rfl (by omega) (by omega), FRM_w (((FRM_w ((((hF292).mono rfl).trans ((hF305).mono rfl)).trans ((hF307).mono rfl)) (r := 54) rfl rfl).trans ((hF308).mono rfl)).trans ((hF311).mono rfl)) (r := 54) rfl rfl, (gi_k (by decide) _).trans (eq311), ⟨by omega, by omega⟩, ⟨by rw [zn]; omega, by rw [zn]; omega⟩, fun _ => ⟨by omega, by omega, by rw [zn]; exact zl⟩⟩
              · refine x_if_ne 111 109 hK rfl rfl rfl (by omega) (fun c => by omega) (fun _ => ?_)
                refine x_iconst 110 hK rfl rfl ?_
                rw [show (gi h 171 20 + 1).toNat = (gi h 171 20).toNat + 1 by omega] at pr308
                have zn : gi h311 171 26 = (gi h308 171 26) := FRM_gi hF311 (r := 54) rfl rfl
                exact x_zret hK rfl (by omega) ⟨false, q308, L308, (PR_brN (d := (gi h 171 20).toNat) (p := gi h 171 18) (by omega) (show (gi h 171 20).toNat < 4 by omega) pr308 (by omega)), rfl, hG311, ((FRM_w ((((hF292).mono rfl).trans ((hF305).mono rfl)).trans ((hF307).mono rfl)) (r := 54) rfl rfl).trans ((hF308).mono rfl)).trans ((hF311).mono rfl), eq311, ⟨by omega, by omega⟩, ⟨by rw [zn]; omega, by rw [zn]; omega⟩, nofun⟩
          · refine x_if_ne 82 80 hK rfl rfl rfl (by omega) (fun c => by omega) (fun _ => ?_)
            refine x_iconst 81 hK rfl rfl ?_
            have al := ask_l (fm h (gi h 171 18))
            rw [← eo305] at al
            have as : ¬ askI (fm h (gi h 171 18)) := by unfold askI; (repeat' split at al) <;> omega
            have zn : gi h307 171 26 = (gi h 171 26) := (FRM_gi hF307 (r := 54) rfl rfl).trans ((FRM_gi hF305 (r := 54) rfl rfl).trans (FRM_gi hF292 (r := 54) rfl rfl))
            exact x_zret hK rfl (by omega) ⟨false, (gi h 171 18), [], (PR_no (d := (gi h 171 20).toNat) (p := gi h 171 18) (by omega) (by omega) as (by omega)), rfl, hG307, (((hF292).mono rfl).trans ((hF305).mono rfl)).trans ((hF307).mono rfl), eq307, ⟨by omega, by omega⟩, ⟨by rw [zn]; omega, by rw [zn]; omega⟩, nofun⟩
      · have es305 : gi h305 171 18 = (gi h 171 18) + 1 := er305.trans (by rw [if_neg ce305])
        refine x_istore_n 48 hK rfl rfl [(1, .int (I e305)), (0, .ref 171)] rfl ?_
        refine x_iload_n 49 hK rfl rfl rfl ?_
        refine x_if_lt 63 52 hK rfl rfl rfl (by omega) (fun c => by omega) (fun _ => ?_)
        refine x_aload_n 53 hK rfl rfl rfl ?_
        refine x_sipush 56 hK rfl rfl rfl ?_
        refine x_iload_n 57 hK rfl rfl rfl ?_
        refine x_iadd 58 hK rfl rfl ?_
        have g313 := gri (0) (80) hG (a := 171) (r := 54) (k := 26) rfl rfl
        have nn312 : gi h305 171 26 = (gi h 171 26) := (FRM_gi hF305 (r := 54) rfl rfl).trans (FRM_gi hF292 (r := 54) rfl rfl)
        refine x_callV 61 hK hmono rfl rfl [.ref 171, .int (I (1000 + e305))] [] rfl rfl (Nat.le_of_ble_eq_true rfl) (Nat.le_of_ble_eq_true rfl) rfl (sp_171 (h := h305) hG305) (CLd_le (by omega) (ctX11_codes hSP hG305 (by omega) (by omega))) ?_
        rintro v312 h312 ⟨rfl, hG312, hF312, e26312, ev312, eo312⟩
        rw [nn312] at e26312 ev312 eo312
        have cl312 : rcL h312 ((gi h 171 26) + 1).toNat = rcL h ((gi h 171 26)).toNat ++ [(1000 + e305)] := by rw [tn_s (by omega), ← show rcL h305 ((gi h 171 26)).toNat = _ from rcL_e fun j hj => (FRM_gi hF305 (r := 66) rfl (by rfl)).trans (FRM_gi hF292 (r := 66) rfl (by rfl))]; exact rcL_s ev312 eo312
        refine x_iconst 62 hK rfl rfl ?_
        have al := ask_l (fm h (gi h 171 18))
        rw [← eo305] at al
        have as : askI (fm h (gi h 171 18)) := by unfold askI; (repeat' split at al) <;> omega
        have rx : rcC (-(fm h (gi h 171 18))) = 1000 + e305 := by
          rcases as with as | as | as | as <;> rw [as] at al ⊢ <;> rw [al] <;> rfl
        have zn : gi h312 171 26 = ((gi h 171 26) + 1) := e26312
        have zd : gi h312 171 20 = (gi h 171 20) := (FRM_gi hF312 (r := 54) rfl rfl).trans ((FRM_gi hF305 (r := 54) rfl rfl).trans (FRM_gi hF292 (r := 54) rfl rfl))
        have zr : rcL h312 (((gi h 171 26) + 1)).toNat = rcL h312 (((gi h 171 26) + 1)).toNat := rfl
        have zl : rcL h312 (((gi h 171 26) + 1)).toNat = rcL h (gi h 171 26).toNat ++ ([-(fm h (gi h 171 18))]).map rcC := by
          rw [zr, cl312]
          rw [show [-(fm h (gi h 171 18))].map rcC = [rcC (-(fm h (gi h 171 18)))] from rfl, rx]
        exact x_zret hK rfl (by omega) ⟨true, ((gi h 171 18) + 1), [-(fm h (gi h 171 18))], (PR_ask as), rfl, hG312, (((hF292).mono rfl).trans ((hF305).mono rfl)).trans ((hF312).mono rfl), (FRM_gi hF312 (r := 54) rfl rfl).trans (es305), ⟨by omega, by omega⟩, ⟨by rw [zn]; omega, by rw [zn]; omega⟩, fun _ => ⟨by omega, by omega, by rw [zn]; exact zl⟩⟩
theorem op_n0 {s : Int} (h : fidx s (byJ.getD 2 []) 0 < 0) : rkI s ≠ 0 + 1 := by
  rw [op_l0] at h
  have c : ¬ (s = 60 ∨ s = 62 ∨ s = 61) := fun z => by (repeat' split at h) <;> omega
  unfold rkI
  (repeat' split) <;> omega
theorem op_y0 {s : Int} (h : ¬ fidx s (byJ.getD 2 []) 0 < 0) : rkI s = 0 + 1 ∧ rcC (-s) = 2000 + fidx s (byJ.getD 2 []) 0 + 0 := by
  rw [op_l0] at h
  have c : s = 60 ∨ s = 62 ∨ s = 61 := by (repeat' split at h) <;> omega
  rcases c with rfl | rfl | rfl <;> decide
theorem op_n1 {s : Int} (h : fidx s (byJ.getD 3 []) 0 < 0) : rkI s ≠ 1 + 1 := by
  rw [op_l1] at h
  have c : ¬ (s = 43 ∨ s = 45) := fun z => by (repeat' split at h) <;> omega
  unfold rkI
  (repeat' split) <;> omega
theorem op_y1 {s : Int} (h : ¬ fidx s (byJ.getD 3 []) 0 < 0) : rkI s = 1 + 1 ∧ rcC (-s) = 2000 + fidx s (byJ.getD 3 []) 0 + 3 := by
  rw [op_l1] at h
  have c : s = 43 ∨ s = 45 := by (repeat' split at h) <;> omega
  rcases c with rfl | rfl <;> decide
theorem op_n2 {s : Int} (h : fidx s (byJ.getD 4 []) 0 < 0) : rkI s ≠ 2 + 1 := by
  rw [op_l2] at h
  have c : ¬ (s = 42 ∨ s = 47) := fun z => by (repeat' split at h) <;> omega
  unfold rkI
  (repeat' split) <;> omega
theorem op_y2 {s : Int} (h : ¬ fidx s (byJ.getD 4 []) 0 < 0) : rkI s = 2 + 1 ∧ rcC (-s) = 2000 + fidx s (byJ.getD 4 []) 0 + 5 := by
  rw [op_l2] at h
  have c : s = 42 ∨ s = 47 := by (repeat' split at h) <;> omega
  rcases c with rfl | rfl <;> decide
set_option maxRecDepth 4000 in
theorem ctX11_readsRank3G (hSP : MONO SPt) {sh : List (Nat × Nat)} {m : Nat} (hT : ∀ {h : aH}, GD gE gRL sh h → (gi h 171 26 ≤ gi h 171 18 ∧ gi h 171 18 ≤ gi h 171 19) → (gi h 171 19 - gi h 171 18).toNat ≤ m → CLd SPt (5 * m + 5) mX11_readsThing [.ref 171] h 0 0 (RSG sh h 3)) {h : aH} (hG : GD gE gRL sh h) (hA : gi h 171 26 ≤ gi h 171 18 ∧ gi h 171 18 ≤ gi h 171 19) (hm : (gi h 171 19 - gi h 171 18).toNat ≤ m) : CLd SPt (5 * m + 5 + 1) mX11_readsRank [.ref 171, .int (I 3)] h 0 0 (RSG sh h 3) := by
  refine x_met _ rfl (Nat.le_of_ble_eq_true rfl) (fun K hK => ?_)
  have hmono := MONO_CLd hSP (5 * m + 5)
  have g20 := gri 0 4 hG (a := 171) (r := 54) (k := 20) rfl rfl
  have g19 := (at_r hG).2.2
  have g18 := (at_r hG).1
  have g26 := gri 0 80 hG (a := 171) (r := 54) (k := 26) rfl rfl
  have fe0 : ∀ a, gi h 171 19 ≤ a → fm h a = -1 := fun a ha => if_neg (by omega)
  refine x_iload_n 1 hK rfl rfl rfl ?_
  refine x_iconst 2 hK rfl rfl ?_
  refine x_if_icmp_ne 10 5 hK rfl rfl rfl (by omega) (by omega) (fun c => by omega) (fun _ => ?_)
  refine x_aload_n 6 hK rfl rfl rfl ?_
  have g315 := gri (0) (81) hG (a := 171) (r := 54) (k := 18) rfl rfl
  have g316 := gri (0) (80) hG (a := 171) (r := 54) (k := 26) rfl rfl
  have g317 := gri (0) (4) hG (a := 171) (r := 54) (k := 20) rfl rfl
  have at314 : gi h 171 18 = (gi h 171 18) := rfl
  have nn314 : gi h 171 26 = (gi h 171 26) := rfl
  have dd314 : gi h 171 20 = (gi h 171 20) := rfl
  have fe314 : fm h = (fm h) := rfl
  have to314 : gi h 171 19 = (gi h 171 19) := rfl
  have rr314 : rcL h ((gi h 171 26)).toNat = rcL h ((gi h 171 26)).toNat := rfl
  refine x_callV 9 hK hmono rfl rfl [.ref 171] [] rfl rfl (Nat.le_of_ble_eq_true rfl) (Nat.le_of_ble_eq_true rfl) rfl (sp_171 (h := h) hG) (CLd_le (by omega) (hT hG (by omega) (by omega))) ?_
  rintro v314 h314 ⟨ok314, q314, L314, pr314, rfl, hG314, hF314, eq314, bd314, bc314, sc314⟩
  rw [fe314, dd314, at314] at pr314
  rw [at314, to314] at bd314
  rw [nn314, at314] at bc314
  rw [at314, nn314, dd314, rr314] at sc314
  cases ok314
  · rw [show b2i false = 0 from rfl]
    have zn : gi h314 171 26 = (gi h314 171 26) := rfl
    exact x_zret hK rfl (by omega) ⟨false, q314, L314, pr314, rfl, hG314, hF314, eq314, ⟨by omega, by omega⟩, ⟨by rw [zn]; omega, by rw [zn]; omega⟩, nofun⟩
  · rw [show b2i true = 1 from rfl]
    obtain ⟨lt314, ed314, cl314⟩ := sc314 rfl
    have zn : gi h314 171 26 = (gi h314 171 26) := rfl
    have zd : gi h314 171 20 = (gi h 171 20) := ed314
    have zr : rcL h314 ((gi h314 171 26)).toNat = rcL h314 ((gi h314 171 26)).toNat := rfl
    have zl : rcL h314 ((gi h314 171 26)).toNat = rcL h (gi h 171 26).toNat ++ (L314).map rcC := by
      rw [zr, cl314]
      
    exact x_zret hK rfl (by omega) ⟨true, q314, L314, pr314, rfl, hG314, hF314, eq314, ⟨by omega, by omega⟩, ⟨by rw [zn]; omega, by rw [zn]; omega⟩, fun _ => ⟨by omega, by omega, by rw [zn]; exact zl⟩⟩
set_option maxRecDepth 4000 in
theorem ctX11_readsRank2G (hSP : MONO SPt) {sh : List (Nat × Nat)} {m : Nat} (hR : ∀ {h : aH}, GD gE gRL sh h → (gi h 171 26 ≤ gi h 171 18 ∧ gi h 171 18 ≤ gi h 171 19) → (gi h 171 19 - gi h 171 18).toNat ≤ m → CLd SPt (5 * m + 6) mX11_readsRank [.ref 171, .int (I 3)] h 0 0 (RSG sh h 3)) {h : aH} (hG : GD gE gRL sh h) (hA : gi h 171 26 ≤ gi h 171 18 ∧ gi h 171 18 ≤ gi h 171 19) (hm : (gi h 171 19 - gi h 171 18).toNat ≤ m) : CLd SPt (5 * m + 6 + 1) mX11_readsRank [.ref 171, .int (I 2)] h 0 0 (RSG sh h 2) := by
  refine x_met _ rfl (Nat.le_of_ble_eq_true rfl) (fun K hK => ?_)
  have hmono := MONO_CLd hSP (5 * m + 6)
  have g20 := gri 0 4 hG (a := 171) (r := 54) (k := 20) rfl rfl
  have g19 := (at_r hG).2.2
  have g18 := (at_r hG).1
  have g26 := gri 0 80 hG (a := 171) (r := 54) (k := 26) rfl rfl
  have fe0 : ∀ a, gi h 171 19 ≤ a → fm h a = -1 := fun a ha => if_neg (by omega)
  have loop : ∀ (mz : Nat) (h4 : aH) (ls : List (Nat × Value)), ((gi h 171 19 - gi h4 171 18).toNat = mz) → (gi h4 171 20 = gi h 171 20) → (gi h 171 18 < gi h4 171 18 ∧ gi h4 171 18 ≤ gi h 171 19) → (gi h 171 26 ≤ gi h4 171 26 ∧ gi h4 171 26 - gi h 171 26 ≤ gi h4 171 18 - gi h 171 18) → (∃ Lc : List Int, rcL h4 (gi h4 171 26).toNat = rcL h (gi h 171 26).toNat ++ Lc.map rcC ∧ ∀ (ok : Bool) (q : Int) (L' : List Int), PR (fm h) (4 + 2) (gi h 171 20).toNat (gi h4 171 18) ok q L' → PR (fm h) 2 (gi h 171 20).toNat (gi h 171 18) ok q (Lc ++ L')) → lk ls 0 = some (.ref 171) → lk ls 1 = some (.int (I 2)) → lk ls 2 = some (.int (I 1)) → GD gE gRL sh h4 → FRM gRL [(0, 54, 18, 18), (0, 54, 20, 20), (0, 54, 26, 26), (0, 66, 0, 79)] h h4 → K 28 ls [] h4 0 0 := by
    intro mz
    induction mz using Nat.strongRecOn with
    | ind mz ih =>
    intro  h4 ls hm d20 b18 b26 hk l0 l1 l2 hG4 hF4
    obtain ⟨Lc, lc, hk⟩ := hk
    have tf4 : fm h4 = fm h := fm_F hF4 rfl rfl
    have to4 : gi h4 171 19 = gi h 171 19 := FRM_gi hF4 (r := 54) rfl rfl
    obtain ⟨c, hc⟩ : ∃ c, gi h4 171 18 = c := ⟨_, rfl⟩
    rw [hc] at b18 b26 hk hm
    have g426 := gri 0 80 hG4 (a := 171) (r := 54) (k := 26) rfl rfl
    refine x_aload_n 29 hK rfl rfl l0 ?_
    refine x_iload_n 30 hK rfl rfl l1 ?_
    refine x_if_ne 38 33 hK rfl rfl rfl (by omega) (fun _ => ?_) (fun c => by omega)
    refine x_iload_n 39 hK rfl rfl l1 ?_
    refine x_iconst 40 hK rfl rfl ?_
    refine x_if_icmp_ne 48 43 hK rfl rfl rfl (by omega) (by omega) (fun _ => ?_) (fun c => by omega)
    refine x_ldcS 50 hK rfl rfl ?_
    have at318 : gi h4 171 18 = c := hc
    have fe318 : fm h4 = (fm h) := tf4
    have to318 : gi h4 171 19 = (gi h 171 19) := FRM_gi hF4 (r := 54) rfl rfl
    refine x_callV 53 hK hmono rfl rfl [.ref 171, .ref 1000004] [] rfl rfl (Nat.le_of_ble_eq_true rfl) (Nat.le_of_ble_eq_true rfl) rfl (sp_171 (h := h4) hG4) (CLd_le (Nat.le_of_ble_eq_true rfl) (ctX11_takesOf hSP hG4 (b := 4) (by omega))) ?_
    rw [fe318, at318, to318]
    rintro v318 h318 ⟨⟨e318, rfl, eo318, ep318, eq_318, er318, es318⟩, hG318, hF318⟩
    by_cases ce318 : e318 < 0
    · have es318 : gi h318 171 18 = c := er318.trans (by rw [if_pos ce318]; omega)
      refine x_istore_n 54 hK rfl rfl _ rfl ?_
      refine x_iload_n 55 hK rfl rfl lk1_s ?_
      refine x_if_ge 60 58 hK rfl rfl rfl (by omega) (fun c => by omega) (fun _ => ?_)
      refine x_iconst 59 hK rfl rfl ?_
      have hn := op_n2 (s := fm h c) (by rw [← eo318]; omega)
      have zn : gi h318 171 26 = (gi h4 171 26) := FRM_gi hF318 (r := 54) rfl rfl
      have zd : gi h318 171 20 = (gi h 171 20) := (FRM_gi hF318 (r := 54) rfl rfl).trans (d20)
      have zr : rcL h318 ((gi h4 171 26)).toNat = rcL h4 ((gi h4 171 26)).toNat := rcL_e fun j hj => FRM_gi hF318 (r := 66) rfl (by rfl)
      have zl : rcL h318 ((gi h4 171 26)).toNat = rcL h (gi h 171 26).toNat ++ ((Lc ++ [])).map rcC := by
        rw [zr, lc]
        rw [List.append_nil]
      exact x_zret hK rfl (by omega) ⟨true, c, (Lc ++ []), (hk true c [] (PR_lpE (by omega) hn)), rfl, hG318, (hF4).trans ((hF318).mono rfl), es318, ⟨by omega, by omega⟩, ⟨by rw [zn]; omega, by rw [zn]; omega⟩, fun _ => ⟨by omega, by omega, by rw [zn]; exact zl⟩⟩
    · have es318 : gi h318 171 18 = c + 1 := er318.trans (by rw [if_neg ce318])
      refine x_istore_n 54 hK rfl rfl _ rfl ?_
      refine x_iload_n 55 hK rfl rfl lk1_s ?_
      refine x_if_ge 60 58 hK rfl rfl rfl (by omega) (fun _ => ?_) (fun c => by omega)
      refine x_aload_n 61 hK rfl rfl (lk1_n l0 (by decide) (Or.inl rfl)) ?_
      refine x_iload_n 62 hK rfl rfl (lk1_n l1 (by decide) (Or.inl rfl)) ?_
      refine x_iconst 63 hK rfl rfl ?_
      refine x_iadd 64 hK rfl rfl ?_
      have g320 := gri (0) (80) hG4 (a := 171) (r := 54) (k := 26) rfl rfl
      have g321 := gri (0) (4) hG (a := 171) (r := 54) (k := 20) rfl rfl
      have at319 : gi h318 171 18 = (c + 1) := es318
      have nn319 : gi h318 171 26 = (gi h4 171 26) := FRM_gi hF318 (r := 54) rfl rfl
      have dd319 : gi h318 171 20 = (gi h 171 20) := (FRM_gi hF318 (r := 54) rfl rfl).trans (d20)
      have fe319 : fm h318 = (fm h) := (fm_F hF318 rfl rfl).trans (tf4)
      have to319 : gi h318 171 19 = (gi h 171 19) := (FRM_gi hF318 (r := 54) rfl rfl).trans (FRM_gi hF4 (r := 54) rfl rfl)
      have rr319 : rcL h318 ((gi h4 171 26)).toNat = rcL h4 ((gi h4 171 26)).toNat := rcL_e fun j hj => FRM_gi hF318 (r := 66) rfl (by rfl)
      refine x_callV 67 hK hmono rfl rfl [.ref 171, .int (I (2 + 1))] [] rfl rfl (Nat.le_of_ble_eq_true rfl) (Nat.le_of_ble_eq_true rfl) rfl (sp_171 (h := h318) hG318) (CLd_le (by omega) (hR hG318 (by omega) (by omega))) ?_
      rintro v319 h319 ⟨ok319, q319, L319, pr319, rfl, hG319, hF319, eq319, bd319, bc319, sc319⟩
      rw [fe319, dd319, at319] at pr319
      rw [at319, to319] at bd319
      rw [nn319, at319] at bc319
      rw [at319, nn319, dd319, rr319] at sc319
      cases ok319
      · rw [show b2i false = 0 from rfl]
        refine x_if_ne 72 70 hK rfl rfl rfl (by omega) (fun c => by omega) (fun _ => ?_)
        refine x_iconst 71 hK rfl rfl ?_
        obtain ⟨hy1, hy2⟩ := op_y2 (s := fm h c) (by rw [← eo318]; omega)
        rw [← eo318] at hy2
        have zn : gi h319 171 26 = (gi h319 171 26) := rfl
        exact x_zret hK rfl (by omega) ⟨false, q319, (Lc ++ L319), (hk false _ _ (PR_lpF (by omega) hy1 pr319)), rfl, hG319, ((hF4).trans ((hF318).mono rfl)).trans ((hF319).mono rfl), eq319, ⟨by omega, by omega⟩, ⟨by rw [zn]; omega, by rw [zn]; omega⟩, nofun⟩
      · rw [show b2i true = 1 from rfl]
        obtain ⟨lt319, ed319, cl319⟩ := sc319 rfl
        refine x_if_ne 72 70 hK rfl rfl rfl (by omega) (fun _ => ?_) (fun c => by omega)
        refine x_aload_n 73 hK rfl rfl (lk1_n l0 (by decide) (Or.inl rfl)) ?_
        refine x_sipush 76 hK rfl rfl rfl ?_
        refine x_iload_n 77 hK rfl rfl lk1_s ?_
        refine x_iadd 78 hK rfl rfl ?_
        refine x_iload_n 79 hK rfl rfl (lk1_n l1 (by decide) (Or.inl rfl)) ?_
        refine x_if_ne 86 82 hK rfl rfl rfl (by omega) (fun _ => ?_) (fun c => by omega)
        refine x_iload_n 87 hK rfl rfl (lk1_n l1 (by decide) (Or.inl rfl)) ?_
        refine x_iconst 88 hK rfl rfl ?_
        refine x_if_icmp_ne 95 91 hK rfl rfl rfl (by omega) (by omega) (fun _ => ?_) (fun c => by omega)
        refine x_iconst 96 hK rfl rfl ?_
        refine x_iadd 97 hK rfl rfl ?_
        have g323 := gri (0) (80) hG319 (a := 171) (r := 54) (k := 26) rfl rfl
        have nn322 : gi h319 171 26 = (gi h319 171 26) := rfl
        refine x_callV 100 hK hmono rfl rfl [.ref 171, .int (I ((2000 + e318) + 5))] [] rfl rfl (Nat.le_of_ble_eq_true rfl) (Nat.le_of_ble_eq_true rfl) rfl (sp_171 (h := h319) hG319) (CLd_le (by omega) (ctX11_codes hSP hG319 (by omega) (by omega))) ?_
        rintro v322 h322 ⟨rfl, hG322, hF322, e26322, ev322, eo322⟩
        rw [nn322] at e26322 ev322 eo322
        have cl322 : rcL h322 ((gi h319 171 26) + 1).toNat = rcL h319 ((gi h319 171 26)).toNat ++ [((2000 + e318) + 5)] := by rw [tn_s (by omega), ← show rcL h319 ((gi h319 171 26)).toNat = _ from rfl]; exact rcL_s ev322 eo322
        refine x_iload_n 101 hK rfl rfl (lk1_n l1 (by decide) (Or.inl rfl)) ?_
        refine x_if_le 108 104 hK rfl rfl rfl (by omega) (fun c => by omega) (fun _ => ?_)
        refine x_iconst 105 hK rfl rfl ?_
        refine x_goto 109 hK rfl rfl ?_
        refine x_istore_n 110 hK rfl rfl _ rfl ?_
        refine x_goto 24 hK rfl rfl ?_
        refine x_iload_n 25 hK rfl rfl lk1_s ?_
        refine x_if_eq 113 28 hK rfl rfl rfl (by omega) (fun c => by omega) (fun _ => ?_)
        obtain ⟨hy1, hy2⟩ := op_y2 (s := fm h c) (by rw [← eo318]; omega)
        rw [← eo318] at hy2
        have zn : gi h322 171 26 = ((gi h319 171 26) + 1) := e26322
        have zq : gi h322 171 18 = q319 := (FRM_gi hF322 (r := 54) rfl rfl).trans (eq319)
        have zl : rcL h322 (((gi h319 171 26) + 1)).toNat = rcL h (gi h 171 26).toNat ++ (Lc ++ (L319 ++ [-(fm h c)])).map rcC := by
          rw [cl322, cl319, lc]
          rw [List.map_append, List.map_append, List.append_assoc, List.append_assoc, show [-(fm h c)].map rcC = [rcC (-(fm h c))] from rfl, hy2]
        exact ih _ (by rw [zq]; omega)  _ _ rfl ((FRM_gi hF322 (r := 54) rfl rfl).trans (ed319)) (by rw [zq]; omega) (by rw [zn, zq]; omega) (⟨_, by rw [zn]; exact zl, fun ok q L' z => by rw [zq] at z; have w := hk ok q _ (PR_lpM (by omega) (by omega) hy1 pr319 z); simpa only [List.append_assoc] using w⟩) (lk1_n (lk1_n l0 (by decide) (Or.inl rfl)) (by decide) (Or.inl rfl)) (lk1_n (lk1_n l1 (by decide) (Or.inl rfl)) (by decide) (Or.inl rfl)) lk1_s (hG322) ((((hF4).trans ((hF318).mono rfl)).trans ((hF319).mono rfl)).trans ((hF322).mono rfl))
  refine x_iload_n 1 hK rfl rfl rfl ?_
  refine x_iconst 2 hK rfl rfl ?_
  refine x_if_icmp_ne 10 5 hK rfl rfl rfl (by omega) (by omega) (fun _ => ?_) (fun c => by omega)
  refine x_aload_n 11 hK rfl rfl rfl ?_
  refine x_iload_n 12 hK rfl rfl rfl ?_
  refine x_iconst 13 hK rfl rfl ?_
  refine x_iadd 14 hK rfl rfl ?_
  have g325 := gri (0) (81) hG (a := 171) (r := 54) (k := 18) rfl rfl
  have g326 := gri (0) (80) hG (a := 171) (r := 54) (k := 26) rfl rfl
  have g327 := gri (0) (4) hG (a := 171) (r := 54) (k := 20) rfl rfl
  have at324 : gi h 171 18 = (gi h 171 18) := rfl
  have nn324 : gi h 171 26 = (gi h 171 26) := rfl
  have dd324 : gi h 171 20 = (gi h 171 20) := rfl
  have fe324 : fm h = (fm h) := rfl
  have to324 : gi h 171 19 = (gi h 171 19) := rfl
  have rr324 : rcL h ((gi h 171 26)).toNat = rcL h ((gi h 171 26)).toNat := rfl
  refine x_callV 17 hK hmono rfl rfl [.ref 171, .int (I (2 + 1))] [] rfl rfl (Nat.le_of_ble_eq_true rfl) (Nat.le_of_ble_eq_true rfl) rfl (sp_171 (h := h) hG) (CLd_le (by omega) (hR hG (by omega) (by omega))) ?_
  rintro v324 h324 ⟨ok324, q324, L324, pr324, rfl, hG324, hF324, eq324, bd324, bc324, sc324⟩
  rw [fe324, dd324, at324] at pr324
  rw [at324, to324] at bd324
  rw [nn324, at324] at bc324
  rw [at324, nn324, dd324, rr324] at sc324
  cases ok324
  · rw [show b2i false = 0 from rfl]
    refine x_if_ne 22 20 hK rfl rfl rfl (by omega) (fun c => by omega) (fun _ => ?_)
    refine x_iconst 21 hK rfl rfl ?_
    have zn : gi h324 171 26 = (gi h324 171 26) := rfl
    exact x_zret hK rfl (by omega) ⟨false, q324, L324, (PR_rkF (by omega) pr324), rfl, hG324, hF324, eq324, ⟨by omega, by omega⟩, ⟨by rw [zn]; omega, by rw [zn]; omega⟩, nofun⟩
  · rw [show b2i true = 1 from rfl]
    obtain ⟨lt324, ed324, cl324⟩ := sc324 rfl
    refine x_if_ne 22 20 hK rfl rfl rfl (by omega) (fun _ => ?_) (fun c => by omega)
    refine x_iconst 23 hK rfl rfl ?_
    refine x_istore_n 24 hK rfl rfl [(2, .int (I 1)), (0, .ref 171), (1, .int (I 2))] rfl ?_
    refine x_iload_n 25 hK rfl rfl rfl ?_
    refine x_if_eq 113 28 hK rfl rfl rfl (by omega) (fun c => by omega) (fun _ => ?_)
    have zn : gi h324 171 26 = (gi h324 171 26) := rfl
    have zq : gi h324 171 18 = q324 := eq324
    exact loop _  _ _ rfl (ed324) (by rw [zq]; omega) (by rw [zn, zq]; omega) (⟨L324, by rw [cl324], fun ok q L' z => by rw [zq] at z; exact PR_rkT (by omega) pr324 z⟩) rfl rfl rfl (hG324) (hF324)
set_option maxRecDepth 4000 in
theorem ctX11_readsRank1G (hSP : MONO SPt) {sh : List (Nat × Nat)} {m : Nat} (hR : ∀ {h : aH}, GD gE gRL sh h → (gi h 171 26 ≤ gi h 171 18 ∧ gi h 171 18 ≤ gi h 171 19) → (gi h 171 19 - gi h 171 18).toNat ≤ m → CLd SPt (5 * m + 7) mX11_readsRank [.ref 171, .int (I 2)] h 0 0 (RSG sh h 2)) {h : aH} (hG : GD gE gRL sh h) (hA : gi h 171 26 ≤ gi h 171 18 ∧ gi h 171 18 ≤ gi h 171 19) (hm : (gi h 171 19 - gi h 171 18).toNat ≤ m) : CLd SPt (5 * m + 7 + 1) mX11_readsRank [.ref 171, .int (I 1)] h 0 0 (RSG sh h 1) := by
  refine x_met _ rfl (Nat.le_of_ble_eq_true rfl) (fun K hK => ?_)
  have hmono := MONO_CLd hSP (5 * m + 7)
  have g20 := gri 0 4 hG (a := 171) (r := 54) (k := 20) rfl rfl
  have g19 := (at_r hG).2.2
  have g18 := (at_r hG).1
  have g26 := gri 0 80 hG (a := 171) (r := 54) (k := 26) rfl rfl
  have fe0 : ∀ a, gi h 171 19 ≤ a → fm h a = -1 := fun a ha => if_neg (by omega)
  have loop : ∀ (mz : Nat) (h4 : aH) (ls : List (Nat × Value)), ((gi h 171 19 - gi h4 171 18).toNat = mz) → (gi h4 171 20 = gi h 171 20) → (gi h 171 18 < gi h4 171 18 ∧ gi h4 171 18 ≤ gi h 171 19) → (gi h 171 26 ≤ gi h4 171 26 ∧ gi h4 171 26 - gi h 171 26 ≤ gi h4 171 18 - gi h 171 18) → (∃ Lc : List Int, rcL h4 (gi h4 171 26).toNat = rcL h (gi h 171 26).toNat ++ Lc.map rcC ∧ ∀ (ok : Bool) (q : Int) (L' : List Int), PR (fm h) (4 + 1) (gi h 171 20).toNat (gi h4 171 18) ok q L' → PR (fm h) 1 (gi h 171 20).toNat (gi h 171 18) ok q (Lc ++ L')) → lk ls 0 = some (.ref 171) → lk ls 1 = some (.int (I 1)) → lk ls 2 = some (.int (I 1)) → GD gE gRL sh h4 → FRM gRL [(0, 54, 18, 18), (0, 54, 20, 20), (0, 54, 26, 26), (0, 66, 0, 79)] h h4 → K 28 ls [] h4 0 0 := by
    intro mz
    induction mz using Nat.strongRecOn with
    | ind mz ih =>
    intro  h4 ls hm d20 b18 b26 hk l0 l1 l2 hG4 hF4
    obtain ⟨Lc, lc, hk⟩ := hk
    have tf4 : fm h4 = fm h := fm_F hF4 rfl rfl
    have to4 : gi h4 171 19 = gi h 171 19 := FRM_gi hF4 (r := 54) rfl rfl
    obtain ⟨c, hc⟩ : ∃ c, gi h4 171 18 = c := ⟨_, rfl⟩
    rw [hc] at b18 b26 hk hm
    have g426 := gri 0 80 hG4 (a := 171) (r := 54) (k := 26) rfl rfl
    refine x_aload_n 29 hK rfl rfl l0 ?_
    refine x_iload_n 30 hK rfl rfl l1 ?_
    refine x_if_ne 38 33 hK rfl rfl rfl (by omega) (fun _ => ?_) (fun c => by omega)
    refine x_iload_n 39 hK rfl rfl l1 ?_
    refine x_iconst 40 hK rfl rfl ?_
    refine x_if_icmp_ne 48 43 hK rfl rfl rfl (by omega) (by omega) (fun c => by omega) (fun _ => ?_)
    refine x_ldcS 45 hK rfl rfl ?_
    refine x_goto 50 hK rfl rfl ?_
    have at328 : gi h4 171 18 = c := hc
    have fe328 : fm h4 = (fm h) := tf4
    have to328 : gi h4 171 19 = (gi h 171 19) := FRM_gi hF4 (r := 54) rfl rfl
    refine x_callV 53 hK hmono rfl rfl [.ref 171, .ref 1000003] [] rfl rfl (Nat.le_of_ble_eq_true rfl) (Nat.le_of_ble_eq_true rfl) rfl (sp_171 (h := h4) hG4) (CLd_le (Nat.le_of_ble_eq_true rfl) (ctX11_takesOf hSP hG4 (b := 3) (by omega))) ?_
    rw [fe328, at328, to328]
    rintro v328 h328 ⟨⟨e328, rfl, eo328, ep328, eq_328, er328, es328⟩, hG328, hF328⟩
    by_cases ce328 : e328 < 0
    · have es328 : gi h328 171 18 = c := er328.trans (by rw [if_pos ce328]; omega)
      refine x_istore_n 54 hK rfl rfl _ rfl ?_
      refine x_iload_n 55 hK rfl rfl lk1_s ?_
      refine x_if_ge 60 58 hK rfl rfl rfl (by omega) (fun c => by omega) (fun _ => ?_)
      refine x_iconst 59 hK rfl rfl ?_
      have hn := op_n1 (s := fm h c) (by rw [← eo328]; omega)
      have zn : gi h328 171 26 = (gi h4 171 26) := FRM_gi hF328 (r := 54) rfl rfl
      have zd : gi h328 171 20 = (gi h 171 20) := (FRM_gi hF328 (r := 54) rfl rfl).trans (d20)
      have zr : rcL h328 ((gi h4 171 26)).toNat = rcL h4 ((gi h4 171 26)).toNat := rcL_e fun j hj => FRM_gi hF328 (r := 66) rfl (by rfl)
      have zl : rcL h328 ((gi h4 171 26)).toNat = rcL h (gi h 171 26).toNat ++ ((Lc ++ [])).map rcC := by
        rw [zr, lc]
        rw [List.append_nil]
      exact x_zret hK rfl (by omega) ⟨true, c, (Lc ++ []), (hk true c [] (PR_lpE (by omega) hn)), rfl, hG328, (hF4).trans ((hF328).mono rfl), es328, ⟨by omega, by omega⟩, ⟨by rw [zn]; omega, by rw [zn]; omega⟩, fun _ => ⟨by omega, by omega, by rw [zn]; exact zl⟩⟩
    · have es328 : gi h328 171 18 = c + 1 := er328.trans (by rw [if_neg ce328])
      refine x_istore_n 54 hK rfl rfl _ rfl ?_
      refine x_iload_n 55 hK rfl rfl lk1_s ?_
      refine x_if_ge 60 58 hK rfl rfl rfl (by omega) (fun _ => ?_) (fun c => by omega)
      refine x_aload_n 61 hK rfl rfl (lk1_n l0 (by decide) (Or.inl rfl)) ?_
      refine x_iload_n 62 hK rfl rfl (lk1_n l1 (by decide) (Or.inl rfl)) ?_
      refine x_iconst 63 hK rfl rfl ?_
      refine x_iadd 64 hK rfl rfl ?_
      have g330 := gri (0) (80) hG4 (a := 171) (r := 54) (k := 26) rfl rfl
      have g331 := gri (0) (4) hG (a := 171) (r := 54) (k := 20) rfl rfl
      have at329 : gi h328 171 18 = (c + 1) := es328
      have nn329 : gi h328 171 26 = (gi h4 171 26) := FRM_gi hF328 (r := 54) rfl rfl
      have dd329 : gi h328 171 20 = (gi h 171 20) := (FRM_gi hF328 (r := 54) rfl rfl).trans (d20)
      have fe329 : fm h328 = (fm h) := (fm_F hF328 rfl rfl).trans (tf4)
      have to329 : gi h328 171 19 = (gi h 171 19) := (FRM_gi hF328 (r := 54) rfl rfl).trans (FRM_gi hF4 (r := 54) rfl rfl)
      have rr329 : rcL h328 ((gi h4 171 26)).toNat = rcL h4 ((gi h4 171 26)).toNat := rcL_e fun j hj => FRM_gi hF328 (r := 66) rfl (by rfl)
      refine x_callV 67 hK hmono rfl rfl [.ref 171, .int (I (1 + 1))] [] rfl rfl (Nat.le_of_ble_eq_true rfl) (Nat.le_of_ble_eq_true rfl) rfl (sp_171 (h := h328) hG328) (CLd_le (by omega) (hR hG328 (by omega) (by omega))) ?_
      rintro v329 h329 ⟨ok329, q329, L329, pr329, rfl, hG329, hF329, eq329, bd329, bc329, sc329⟩
      rw [fe329, dd329, at329] at pr329
      rw [at329, to329] at bd329
      rw [nn329, at329] at bc329
      rw [at329, nn329, dd329, rr329] at sc329
      cases ok329
      · rw [show b2i false = 0 from rfl]
        refine x_if_ne 72 70 hK rfl rfl rfl (by omega) (fun c => by omega) (fun _ => ?_)
        refine x_iconst 71 hK rfl rfl ?_
        obtain ⟨hy1, hy2⟩ := op_y1 (s := fm h c) (by rw [← eo328]; omega)
        rw [← eo328] at hy2
        have zn : gi h329 171 26 = (gi h329 171 26) := rfl
        exact x_zret hK rfl (by omega) ⟨false, q329, (Lc ++ L329), (hk false _ _ (PR_lpF (by omega) hy1 pr329)), rfl, hG329, ((hF4).trans ((hF328).mono rfl)).trans ((hF329).mono rfl), eq329, ⟨by omega, by omega⟩, ⟨by rw [zn]; omega, by rw [zn]; omega⟩, nofun⟩
      · rw [show b2i true = 1 from rfl]
        obtain ⟨lt329, ed329, cl329⟩ := sc329 rfl
        refine x_if_ne 72 70 hK rfl rfl rfl (by omega) (fun _ => ?_) (fun c => by omega)
        refine x_aload_n 73 hK rfl rfl (lk1_n l0 (by decide) (Or.inl rfl)) ?_
        refine x_sipush 76 hK rfl rfl rfl ?_
        refine x_iload_n 77 hK rfl rfl lk1_s ?_
        refine x_iadd 78 hK rfl rfl ?_
        refine x_iload_n 79 hK rfl rfl (lk1_n l1 (by decide) (Or.inl rfl)) ?_
        refine x_if_ne 86 82 hK rfl rfl rfl (by omega) (fun _ => ?_) (fun c => by omega)
        refine x_iload_n 87 hK rfl rfl (lk1_n l1 (by decide) (Or.inl rfl)) ?_
        refine x_iconst 88 hK rfl rfl ?_
        refine x_if_icmp_ne 95 91 hK rfl rfl rfl (by omega) (by omega) (fun c => by omega) (fun _ => ?_)
        refine x_iconst 92 hK rfl rfl ?_
        refine x_goto 96 hK rfl rfl ?_
        refine x_iadd 97 hK rfl rfl ?_
        have g333 := gri (0) (80) hG329 (a := 171) (r := 54) (k := 26) rfl rfl
        have nn332 : gi h329 171 26 = (gi h329 171 26) := rfl
        refine x_callV 100 hK hmono rfl rfl [.ref 171, .int (I ((2000 + e328) + 3))] [] rfl rfl (Nat.le_of_ble_eq_true rfl) (Nat.le_of_ble_eq_true rfl) rfl (sp_171 (h := h329) hG329) (CLd_le (by omega) (ctX11_codes hSP hG329 (by omega) (by omega))) ?_
        rintro v332 h332 ⟨rfl, hG332, hF332, e26332, ev332, eo332⟩
        rw [nn332] at e26332 ev332 eo332
        have cl332 : rcL h332 ((gi h329 171 26) + 1).toNat = rcL h329 ((gi h329 171 26)).toNat ++ [((2000 + e328) + 3)] := by rw [tn_s (by omega), ← show rcL h329 ((gi h329 171 26)).toNat = _ from rfl]; exact rcL_s ev332 eo332
        refine x_iload_n 101 hK rfl rfl (lk1_n l1 (by decide) (Or.inl rfl)) ?_
        refine x_if_le 108 104 hK rfl rfl rfl (by omega) (fun c => by omega) (fun _ => ?_)
        refine x_iconst 105 hK rfl rfl ?_
        refine x_goto 109 hK rfl rfl ?_
        refine x_istore_n 110 hK rfl rfl _ rfl ?_
        refine x_goto 24 hK rfl rfl ?_
        refine x_iload_n 25 hK rfl rfl lk1_s ?_
        refine x_if_eq 113 28 hK rfl rfl rfl (by omega) (fun c => by omega) (fun _ => ?_)
        obtain ⟨hy1, hy2⟩ := op_y1 (s := fm h c) (by rw [← eo328]; omega)
        rw [← eo328] at hy2
        have zn : gi h332 171 26 = ((gi h329 171 26) + 1) := e26332
        have zq : gi h332 171 18 = q329 := (FRM_gi hF332 (r := 54) rfl rfl).trans (eq329)
        have zl : rcL h332 (((gi h329 171 26) + 1)).toNat = rcL h (gi h 171 26).toNat ++ (Lc ++ (L329 ++ [-(fm h c)])).map rcC := by
          rw [cl332, cl329, lc]
          rw [List.map_append, List.map_append, List.append_assoc, List.append_assoc, show [-(fm h c)].map rcC = [rcC (-(fm h c))] from rfl, hy2]
        exact ih _ (by rw [zq]; omega)  _ _ rfl ((FRM_gi hF332 (r := 54) rfl rfl).trans (ed329)) (by rw [zq]; omega) (by rw [zn, zq]; omega) (⟨_, by rw [zn]; exact zl, fun ok q L' z => by rw [zq] at z; have w := hk ok q _ (PR_lpM (by omega) (by omega) hy1 pr329 z); simpa only [List.append_assoc] using w⟩) (lk1_n (lk1_n l0 (by decide) (Or.inl rfl)) (by decide) (Or.inl rfl)) (lk1_n (lk1_n l1 (by decide) (Or.inl rfl)) (by decide) (Or.inl rfl)) lk1_s (hG332) ((((hF4).trans ((hF328).mono rfl)).trans ((hF329).mono rfl)).trans ((hF332).mono rfl))
  refine x_iload_n 1 hK rfl rfl rfl ?_
  refine x_iconst 2 hK rfl rfl ?_
  refine x_if_icmp_ne 10 5 hK rfl rfl rfl (by omega) (by omega) (fun _ => ?_) (fun c => by omega)
  refine x_aload_n 11 hK rfl rfl rfl ?_
  refine x_iload_n 12 hK rfl rfl rfl ?_
  refine x_iconst 13 hK rfl rfl ?_
  refine x_iadd 14 hK rfl rfl ?_
  have g335 := gri (0) (81) hG (a := 171) (r := 54) (k := 18) rfl rfl
  have g336 := gri (0) (80) hG (a := 171) (r := 54) (k := 26) rfl rfl
  have g337 := gri (0) (4) hG (a := 171) (r := 54) (k := 20) rfl rfl
  have at334 : gi h 171 18 = (gi h 171 18) := rfl
  have nn334 : gi h 171 26 = (gi h 171 26) := rfl
  have dd334 : gi h 171 20 = (gi h 171 20) := rfl
  have fe334 : fm h = (fm h) := rfl
  have to334 : gi h 171 19 = (gi h 171 19) := rfl
  have rr334 : rcL h ((gi h 171 26)).toNat = rcL h ((gi h 171 26)).toNat := rfl
  refine x_callV 17 hK hmono rfl rfl [.ref 171, .int (I (1 + 1))] [] rfl rfl (Nat.le_of_ble_eq_true rfl) (Nat.le_of_ble_eq_true rfl) rfl (sp_171 (h := h) hG) (CLd_le (by omega) (hR hG (by omega) (by omega))) ?_
  rintro v334 h334 ⟨ok334, q334, L334, pr334, rfl, hG334, hF334, eq334, bd334, bc334, sc334⟩
  rw [fe334, dd334, at334] at pr334
  rw [at334, to334] at bd334
  rw [nn334, at334] at bc334
  rw [at334, nn334, dd334, rr334] at sc334
  cases ok334
  · rw [show b2i false = 0 from rfl]
    refine x_if_ne 22 20 hK rfl rfl rfl (by omega) (fun c => by omega) (fun _ => ?_)
    refine x_iconst 21 hK rfl rfl ?_
    have zn : gi h334 171 26 = (gi h334 171 26) := rfl
    exact x_zret hK rfl (by omega) ⟨false, q334, L334, (PR_rkF (by omega) pr334), rfl, hG334, hF334, eq334, ⟨by omega, by omega⟩, ⟨by rw [zn]; omega, by rw [zn]; omega⟩, nofun⟩
  · rw [show b2i true = 1 from rfl]
    obtain ⟨lt334, ed334, cl334⟩ := sc334 rfl
    refine x_if_ne 22 20 hK rfl rfl rfl (by omega) (fun _ => ?_) (fun c => by omega)
    refine x_iconst 23 hK rfl rfl ?_
    refine x_istore_n 24 hK rfl rfl [(2, .int (I 1)), (0, .ref 171), (1, .int (I 1))] rfl ?_
    refine x_iload_n 25 hK rfl rfl rfl ?_
    refine x_if_eq 113 28 hK rfl rfl rfl (by omega) (fun c => by omega) (fun _ => ?_)
    have zn : gi h334 171 26 = (gi h334 171 26) := rfl
    have zq : gi h334 171 18 = q334 := eq334
    exact loop _  _ _ rfl (ed334) (by rw [zq]; omega) (by rw [zn, zq]; omega) (⟨L334, by rw [cl334], fun ok q L' z => by rw [zq] at z; exact PR_rkT (by omega) pr334 z⟩) rfl rfl rfl (hG334) (hF334)
set_option maxRecDepth 4000 in
theorem ctX11_readsRank0G (hSP : MONO SPt) {sh : List (Nat × Nat)} {m : Nat} (hR : ∀ {h : aH}, GD gE gRL sh h → (gi h 171 26 ≤ gi h 171 18 ∧ gi h 171 18 ≤ gi h 171 19) → (gi h 171 19 - gi h 171 18).toNat ≤ m → CLd SPt (5 * m + 8) mX11_readsRank [.ref 171, .int (I 1)] h 0 0 (RSG sh h 1)) {h : aH} (hG : GD gE gRL sh h) (hA : gi h 171 26 ≤ gi h 171 18 ∧ gi h 171 18 ≤ gi h 171 19) (hm : (gi h 171 19 - gi h 171 18).toNat ≤ m) : CLd SPt (5 * m + 8 + 1) mX11_readsRank [.ref 171, .int (I 0)] h 0 0 (RSG sh h 0) := by
  refine x_met _ rfl (Nat.le_of_ble_eq_true rfl) (fun K hK => ?_)
  have hmono := MONO_CLd hSP (5 * m + 8)
  have g20 := gri 0 4 hG (a := 171) (r := 54) (k := 20) rfl rfl
  have g19 := (at_r hG).2.2
  have g18 := (at_r hG).1
  have g26 := gri 0 80 hG (a := 171) (r := 54) (k := 26) rfl rfl
  have fe0 : ∀ a, gi h 171 19 ≤ a → fm h a = -1 := fun a ha => if_neg (by omega)
  have loop : ∀ (mz : Nat) (h4 : aH) (ls : List (Nat × Value)), ((gi h 171 19 - gi h4 171 18).toNat = mz) → (gi h4 171 20 = gi h 171 20) → (gi h 171 18 < gi h4 171 18 ∧ gi h4 171 18 ≤ gi h 171 19) → (gi h 171 26 ≤ gi h4 171 26 ∧ gi h4 171 26 - gi h 171 26 ≤ gi h4 171 18 - gi h 171 18) → (∃ Lc : List Int, rcL h4 (gi h4 171 26).toNat = rcL h (gi h 171 26).toNat ++ Lc.map rcC ∧ ∀ (ok : Bool) (q : Int) (L' : List Int), PR (fm h) (4 + 0) (gi h 171 20).toNat (gi h4 171 18) ok q L' → PR (fm h) 0 (gi h 171 20).toNat (gi h 171 18) ok q (Lc ++ L')) → lk ls 0 = some (.ref 171) → lk ls 1 = some (.int (I 0)) → lk ls 2 = some (.int (I 1)) → GD gE gRL sh h4 → FRM gRL [(0, 54, 18, 18), (0, 54, 20, 20), (0, 54, 26, 26), (0, 66, 0, 79)] h h4 → K 28 ls [] h4 0 0 := by
    intro mz
    induction mz using Nat.strongRecOn with
    | ind mz ih =>
    intro  h4 ls hm d20 b18 b26 hk l0 l1 l2 hG4 hF4
    obtain ⟨Lc, lc, hk⟩ := hk
    have tf4 : fm h4 = fm h := fm_F hF4 rfl rfl
    have to4 : gi h4 171 19 = gi h 171 19 := FRM_gi hF4 (r := 54) rfl rfl
    obtain ⟨c, hc⟩ : ∃ c, gi h4 171 18 = c := ⟨_, rfl⟩
    rw [hc] at b18 b26 hk hm
    have g426 := gri 0 80 hG4 (a := 171) (r := 54) (k := 26) rfl rfl
    refine x_aload_n 29 hK rfl rfl l0 ?_
    refine x_iload_n 30 hK rfl rfl l1 ?_
    refine x_if_ne 38 33 hK rfl rfl rfl (by omega) (fun c => by omega) (fun _ => ?_)
    refine x_ldcS 35 hK rfl rfl ?_
    refine x_goto 50 hK rfl rfl ?_
    have at338 : gi h4 171 18 = c := hc
    have fe338 : fm h4 = (fm h) := tf4
    have to338 : gi h4 171 19 = (gi h 171 19) := FRM_gi hF4 (r := 54) rfl rfl
    refine x_callV 53 hK hmono rfl rfl [.ref 171, .ref 1000002] [] rfl rfl (Nat.le_of_ble_eq_true rfl) (Nat.le_of_ble_eq_true rfl) rfl (sp_171 (h := h4) hG4) (CLd_le (Nat.le_of_ble_eq_true rfl) (ctX11_takesOf hSP hG4 (b := 2) (by omega))) ?_
    rw [fe338, at338, to338]
    rintro v338 h338 ⟨⟨e338, rfl, eo338, ep338, eq_338, er338, es338⟩, hG338, hF338⟩
    by_cases ce338 : e338 < 0
    · have es338 : gi h338 171 18 = c := er338.trans (by rw [if_pos ce338]; omega)
      refine x_istore_n 54 hK rfl rfl _ rfl ?_
      refine x_iload_n 55 hK rfl rfl lk1_s ?_
      refine x_if_ge 60 58 hK rfl rfl rfl (by omega) (fun c => by omega) (fun _ => ?_)
      refine x_iconst 59 hK rfl rfl ?_
      have hn := op_n0 (s := fm h c) (by rw [← eo338]; omega)
      have zn : gi h338 171 26 = (gi h4 171 26) := FRM_gi hF338 (r := 54) rfl rfl
      have zd : gi h338 171 20 = (gi h 171 20) := (FRM_gi hF338 (r := 54) rfl rfl).trans (d20)
      have zr : rcL h338 ((gi h4 171 26)).toNat = rcL h4 ((gi h4 171 26)).toNat := rcL_e fun j hj => FRM_gi hF338 (r := 66) rfl (by rfl)
      have zl : rcL h338 ((gi h4 171 26)).toNat = rcL h (gi h 171 26).toNat ++ ((Lc ++ [])).map rcC := by
        rw [zr, lc]
        rw [List.append_nil]
      exact x_zret hK rfl (by omega) ⟨true, c, (Lc ++ []), (hk true c [] (PR_lpE (by omega) hn)), rfl, hG338, (hF4).trans ((hF338).mono rfl), es338, ⟨by omega, by omega⟩, ⟨by rw [zn]; omega, by rw [zn]; omega⟩, fun _ => ⟨by omega, by omega, by rw [zn]; exact zl⟩⟩
    · have es338 : gi h338 171 18 = c + 1 := er338.trans (by rw [if_neg ce338])
      refine x_istore_n 54 hK rfl rfl _ rfl ?_
      refine x_iload_n 55 hK rfl rfl lk1_s ?_
      refine x_if_ge 60 58 hK rfl rfl rfl (by omega) (fun _ => ?_) (fun c => by omega)
      refine x_aload_n 61 hK rfl rfl (lk1_n l0 (by decide) (Or.inl rfl)) ?_
      refine x_iload_n 62 hK rfl rfl (lk1_n l1 (by decide) (Or.inl rfl)) ?_
      refine x_iconst 63 hK rfl rfl ?_
      refine x_iadd 64 hK rfl rfl ?_
      have g340 := gri (0) (80) hG4 (a := 171) (r := 54) (k := 26) rfl rfl
      have g341 := gri (0) (4) hG (a := 171) (r := 54) (k := 20) rfl rfl
      have at339 : gi h338 171 18 = (c + 1) := es338
      have nn339 : gi h338 171 26 = (gi h4 171 26) := FRM_gi hF338 (r := 54) rfl rfl
      have dd339 : gi h338 171 20 = (gi h 171 20) := (FRM_gi hF338 (r := 54) rfl rfl).trans (d20)
      have fe339 : fm h338 = (fm h) := (fm_F hF338 rfl rfl).trans (tf4)
      have to339 : gi h338 171 19 = (gi h 171 19) := (FRM_gi hF338 (r := 54) rfl rfl).trans (FRM_gi hF4 (r := 54) rfl rfl)
      have rr339 : rcL h338 ((gi h4 171 26)).toNat = rcL h4 ((gi h4 171 26)).toNat := rcL_e fun j hj => FRM_gi hF338 (r := 66) rfl (by rfl)
      refine x_callV 67 hK hmono rfl rfl [.ref 171, .int (I (0 + 1))] [] rfl rfl (Nat.le_of_ble_eq_true rfl) (Nat.le_of_ble_eq_true rfl) rfl (sp_171 (h := h338) hG338) (CLd_le (by omega) (hR hG338 (by omega) (by omega))) ?_
      rintro v339 h339 ⟨ok339, q339, L339, pr339, rfl, hG339, hF339, eq339, bd339, bc339, sc339⟩
      rw [fe339, dd339, at339] at pr339
      rw [at339, to339] at bd339
      rw [nn339, at339] at bc339
      rw [at339, nn339, dd339, rr339] at sc339
      cases ok339
      · rw [show b2i false = 0 from rfl]
        refine x_if_ne 72 70 hK rfl rfl rfl (by omega) (fun c => by omega) (fun _ => ?_)
        refine x_iconst 71 hK rfl rfl ?_
        obtain ⟨hy1, hy2⟩ := op_y0 (s := fm h c) (by rw [← eo338]; omega)
        rw [← eo338] at hy2
        have zn : gi h339 171 26 = (gi h339 171 26) := rfl
        exact x_zret hK rfl (by omega) ⟨false, q339, (Lc ++ L339), (hk false _ _ (PR_lpF (by omega) hy1 pr339)), rfl, hG339, ((hF4).trans ((hF338).mono rfl)).trans ((hF339).mono rfl), eq339, ⟨by omega, by omega⟩, ⟨by rw [zn]; omega, by rw [zn]; omega⟩, nofun⟩
      · rw [show b2i true = 1 from rfl]
        obtain ⟨lt339, ed339, cl339⟩ := sc339 rfl
        refine x_if_ne 72 70 hK rfl rfl rfl (by omega) (fun _ => ?_) (fun c => by omega)
        refine x_aload_n 73 hK rfl rfl (lk1_n l0 (by decide) (Or.inl rfl)) ?_
        refine x_sipush 76 hK rfl rfl rfl ?_
        refine x_iload_n 77 hK rfl rfl lk1_s ?_
        refine x_iadd 78 hK rfl rfl ?_
        refine x_iload_n 79 hK rfl rfl (lk1_n l1 (by decide) (Or.inl rfl)) ?_
        refine x_if_ne 86 82 hK rfl rfl rfl (by omega) (fun c => by omega) (fun _ => ?_)
        refine x_iconst 83 hK rfl rfl ?_
        refine x_goto 96 hK rfl rfl ?_
        refine x_iadd 97 hK rfl rfl ?_
        have g343 := gri (0) (80) hG339 (a := 171) (r := 54) (k := 26) rfl rfl
        have nn342 : gi h339 171 26 = (gi h339 171 26) := rfl
        refine x_callV 100 hK hmono rfl rfl [.ref 171, .int (I ((2000 + e338) + 0))] [] rfl rfl (Nat.le_of_ble_eq_true rfl) (Nat.le_of_ble_eq_true rfl) rfl (sp_171 (h := h339) hG339) (CLd_le (by omega) (ctX11_codes hSP hG339 (by omega) (by omega))) ?_
        rintro v342 h342 ⟨rfl, hG342, hF342, e26342, ev342, eo342⟩
        rw [nn342] at e26342 ev342 eo342
        have cl342 : rcL h342 ((gi h339 171 26) + 1).toNat = rcL h339 ((gi h339 171 26)).toNat ++ [((2000 + e338) + 0)] := by rw [tn_s (by omega), ← show rcL h339 ((gi h339 171 26)).toNat = _ from rfl]; exact rcL_s ev342 eo342
        refine x_iload_n 101 hK rfl rfl (lk1_n l1 (by decide) (Or.inl rfl)) ?_
        refine x_if_le 108 104 hK rfl rfl rfl (by omega) (fun _ => ?_) (fun c => by omega)
        refine x_iconst 109 hK rfl rfl ?_
        refine x_istore_n 110 hK rfl rfl _ rfl ?_
        refine x_goto 24 hK rfl rfl ?_
        refine x_iload_n 25 hK rfl rfl lk1_s ?_
        refine x_if_eq 113 28 hK rfl rfl rfl (by omega) (fun _ => ?_) (fun c => by omega)
        refine x_iconst 114 hK rfl rfl ?_
        obtain ⟨hy1, hy2⟩ := op_y0 (s := fm h c) (by rw [← eo338]; omega)
        rw [← eo338] at hy2
        have zn : gi h342 171 26 = ((gi h339 171 26) + 1) := e26342
        have zd : gi h342 171 20 = (gi h 171 20) := (FRM_gi hF342 (r := 54) rfl rfl).trans (ed339)
        have zr : rcL h342 (((gi h339 171 26) + 1)).toNat = rcL h342 (((gi h339 171 26) + 1)).toNat := rfl
        have zl : rcL h342 (((gi h339 171 26) + 1)).toNat = rcL h (gi h 171 26).toNat ++ ((Lc ++ (L339 ++ [-(fm h c)]))).map rcC := by
          rw [zr, cl342, cl339, lc]
          rw [List.map_append, List.map_append, List.append_assoc, List.append_assoc, show [-(fm h c)].map rcC = [rcC (-(fm h c))] from rfl, hy2]
        exact x_zret hK rfl (by omega) ⟨true, q339, (Lc ++ (L339 ++ [-(fm h c)])), (hk true _ _ (PR_lpC hy1 pr339)), rfl, hG342, (((hF4).trans ((hF338).mono rfl)).trans ((hF339).mono rfl)).trans ((hF342).mono rfl), (FRM_gi hF342 (r := 54) rfl rfl).trans (eq339), ⟨by omega, by omega⟩, ⟨by rw [zn]; omega, by rw [zn]; omega⟩, fun _ => ⟨by omega, by omega, by rw [zn]; exact zl⟩⟩
  refine x_iload_n 1 hK rfl rfl rfl ?_
  refine x_iconst 2 hK rfl rfl ?_
  refine x_if_icmp_ne 10 5 hK rfl rfl rfl (by omega) (by omega) (fun _ => ?_) (fun c => by omega)
  refine x_aload_n 11 hK rfl rfl rfl ?_
  refine x_iload_n 12 hK rfl rfl rfl ?_
  refine x_iconst 13 hK rfl rfl ?_
  refine x_iadd 14 hK rfl rfl ?_
  have g345 := gri (0) (81) hG (a := 171) (r := 54) (k := 18) rfl rfl
  have g346 := gri (0) (80) hG (a := 171) (r := 54) (k := 26) rfl rfl
  have g347 := gri (0) (4) hG (a := 171) (r := 54) (k := 20) rfl rfl
  have at344 : gi h 171 18 = (gi h 171 18) := rfl
  have nn344 : gi h 171 26 = (gi h 171 26) := rfl
  have dd344 : gi h 171 20 = (gi h 171 20) := rfl
  have fe344 : fm h = (fm h) := rfl
  have to344 : gi h 171 19 = (gi h 171 19) := rfl
  have rr344 : rcL h ((gi h 171 26)).toNat = rcL h ((gi h 171 26)).toNat := rfl
  refine x_callV 17 hK hmono rfl rfl [.ref 171, .int (I (0 + 1))] [] rfl rfl (Nat.le_of_ble_eq_true rfl) (Nat.le_of_ble_eq_true rfl) rfl (sp_171 (h := h) hG) (CLd_le (by omega) (hR hG (by omega) (by omega))) ?_
  rintro v344 h344 ⟨ok344, q344, L344, pr344, rfl, hG344, hF344, eq344, bd344, bc344, sc344⟩
  rw [fe344, dd344, at344] at pr344
  rw [at344, to344] at bd344
  rw [nn344, at344] at bc344
  rw [at344, nn344, dd344, rr344] at sc344
  cases ok344
  · rw [show b2i false = 0 from rfl]
    refine x_if_ne 22 20 hK rfl rfl rfl (by omega) (fun c => by omega) (fun _ => ?_)
    refine x_iconst 21 hK rfl rfl ?_
    have zn : gi h344 171 26 = (gi h344 171 26) := rfl
    exact x_zret hK rfl (by omega) ⟨false, q344, L344, (PR_rkF (by omega) pr344), rfl, hG344, hF344, eq344, ⟨by omega, by omega⟩, ⟨by rw [zn]; omega, by rw [zn]; omega⟩, nofun⟩
  · rw [show b2i true = 1 from rfl]
    obtain ⟨lt344, ed344, cl344⟩ := sc344 rfl
    refine x_if_ne 22 20 hK rfl rfl rfl (by omega) (fun _ => ?_) (fun c => by omega)
    refine x_iconst 23 hK rfl rfl ?_
    refine x_istore_n 24 hK rfl rfl [(2, .int (I 1)), (0, .ref 171), (1, .int (I 0))] rfl ?_
    refine x_iload_n 25 hK rfl rfl rfl ?_
    refine x_if_eq 113 28 hK rfl rfl rfl (by omega) (fun c => by omega) (fun _ => ?_)
    have zn : gi h344 171 26 = (gi h344 171 26) := rfl
    have zq : gi h344 171 18 = q344 := eq344
    exact loop _  _ _ rfl (ed344) (by rw [zq]; omega) (by rw [zn, zq]; omega) (⟨L344, by rw [cl344], fun ok q L' z => by rw [zq] at z; exact PR_rkT (by omega) pr344 z⟩) rfl rfl rfl (hG344) (hF344)
theorem reads_allG (hSP : MONO SPt) {sh : List (Nat × Nat)} : ∀ m : Nat, (∀ {h : aH}, GD gE gRL sh h → (gi h 171 26 ≤ gi h 171 18 ∧ gi h 171 18 ≤ gi h 171 19) → (gi h 171 19 - gi h 171 18).toNat ≤ m → CLd SPt (5 * m + 5) mX11_readsThing [.ref 171] h 0 0 (RSG sh h 3)) ∧ (∀ {h : aH}, GD gE gRL sh h → (gi h 171 26 ≤ gi h 171 18 ∧ gi h 171 18 ≤ gi h 171 19) → (gi h 171 19 - gi h 171 18).toNat ≤ m → CLd SPt (5 * m + 9) mX11_readsRank [.ref 171, .int (I 0)] h 0 0 (RSG sh h 0)) := by
  intro m
  induction m using Nat.strongRecOn with
  | ind m ih =>
    have hT : ∀ {h : aH}, GD gE gRL sh h → (gi h 171 26 ≤ gi h 171 18 ∧ gi h 171 18 ≤ gi h 171 19) → (gi h 171 19 - gi h 171 18).toNat ≤ m → CLd SPt (5 * m + 5) mX11_readsThing [.ref 171] h 0 0 (RSG sh h 3) := fun hG hA hm => ctX11_readsThingG hSP (fun m' h' => (ih m' h').1) (fun m' h' => (ih m' h').2) hG hA hm
    have h3 : ∀ {h : aH}, GD gE gRL sh h → (gi h 171 26 ≤ gi h 171 18 ∧ gi h 171 18 ≤ gi h 171 19) → (gi h 171 19 - gi h 171 18).toNat ≤ m → CLd SPt (5 * m + 6) mX11_readsRank [.ref 171, .int (I 3)] h 0 0 (RSG sh h 3) := fun hG hA hm => ctX11_readsRank3G hSP hT hG hA hm
    have h2 : ∀ {h : aH}, GD gE gRL sh h → (gi h 171 26 ≤ gi h 171 18 ∧ gi h 171 18 ≤ gi h 171 19) → (gi h 171 19 - gi h 171 18).toNat ≤ m → CLd SPt (5 * m + 7) mX11_readsRank [.ref 171, .int (I 2)] h 0 0 (RSG sh h 2) := fun hG hA hm => ctX11_readsRank2G hSP h3 hG hA hm
    have h1 : ∀ {h : aH}, GD gE gRL sh h → (gi h 171 26 ≤ gi h 171 18 ∧ gi h 171 18 ≤ gi h 171 19) → (gi h 171 19 - gi h 171 18).toNat ≤ m → CLd SPt (5 * m + 8) mX11_readsRank [.ref 171, .int (I 1)] h 0 0 (RSG sh h 1) := fun hG hA hm => ctX11_readsRank1G hSP h2 hG hA hm
    exact ⟨hT, fun hG hA hm => ctX11_readsRank0G hSP h1 hG hA hm⟩
