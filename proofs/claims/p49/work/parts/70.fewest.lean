section
/-! THE FEWEST ORDERS (the reference): its methods -/
set_option maxRecDepth 4000 in
theorem ctX11_mayGive {SP : CT} (hSP : MONO SP) {sh : List (Nat × Nat)} {h : aH} (hG : GD gE gRL sh h) {k : Int} (rk : r32 k) : CLd SP 1 mX11_mayGive [.ref 171, .int (I k)] h 0 0 (fun rv h' => h' = h ∧ rv = some (.int (I (b2i (decide (0 < k) || decide (gi h 178 4 ≠ gi h 178 0)))))) := by
  refine x_met _ rfl (Nat.le_of_ble_eq_true rfl) (fun K hK => ?_)
  have hmono := MONO_CLd hSP 0
  refine x_iload_n 1 hK rfl rfl rfl ?_
  refine x_if_gt 19 4 hK rfl rfl rfl (by omega) (fun c2 => ?_) (fun c2 => ?_)
  · refine x_iconst 20 hK rfl rfl ?_
    refine x_goto 24 hK rfl rfl ?_
    exact x_zret hK rfl (by omega) ⟨rfl, by rw [show (decide (0 < k) || decide (gi h 178 4 ≠ gi h 178 0)) = true from by rw [Bool.or_eq_true, decide_eq_true_eq, decide_eq_true_eq]; omega]; rfl⟩
  · refine x_aload_n 5 hK rfl rfl rfl ?_
    refine x_getR 8 hK rfl rfl (sp_171 (h := h) hG) (rf_171_14 (h := h) hG) ?_
    refine x_iconst 9 hK rfl rfl ?_
    have g255 := gi_r h 178 4
    refine x_ialoadE 10 hK rfl rfl (sp_178 (h := h) hG) (by omega) (by omega) (by omega) (e' := (gi h 178 4)) (rfl) ?_
    refine x_aload_n 11 hK rfl rfl rfl ?_
    refine x_getR 14 hK rfl rfl (sp_171 (h := h) hG) (rf_171_14 (h := h) hG) ?_
    refine x_iconst 15 hK rfl rfl ?_
    have g256 := gi_r h 178 0
    refine x_ialoadE 16 hK rfl rfl (sp_178 (h := h) hG) (by omega) (by omega) (by omega) (e' := (gi h 178 0)) (rfl) ?_
    refine x_if_icmp_eq 23 19 hK rfl rfl rfl (by omega) (by omega) (fun c14 => ?_) (fun c14 => ?_)
    · refine x_iconst 24 hK rfl rfl ?_
      exact x_zret hK rfl (by omega) ⟨rfl, by rw [show (decide (0 < k) || decide (gi h 178 4 ≠ gi h 178 0)) = false from by rw [decide_eq_false (by omega), decide_eq_false (by omega)]; rfl]; rfl⟩
    · refine x_iconst 20 hK rfl rfl ?_
      refine x_goto 24 hK rfl rfl ?_
      exact x_zret hK rfl (by omega) ⟨rfl, by rw [show (decide (0 < k) || decide (gi h 178 4 ≠ gi h 178 0)) = true from by rw [Bool.or_eq_true, decide_eq_true_eq, decide_eq_true_eq]; omega]; rfl⟩
set_option maxRecDepth 4000 in
theorem ctX11_comesAtF {SP : CT} (hSP : MONO SP) {sh : List (Nat × Nat)} {h : aH} (hG : GD gE gRL sh h) {k t : Int} (hX : XI h) (hk : 0 ≤ k ∧ k ≤ 1000) (rt : r32 t) (h0 : 0 ≤ gi h 178 0 ∧ gi h 178 0 ≤ 1000000) : CLd SP 6 mX11_comesAt [.ref 171, .int (I k), .int (I t)] h 0 0 (fun rv h' => rv = some (.int (I (b2i (cmF (gi h 178 0) (gi h 178 4) (dlA h) k t)))) ∧ GD gE gRL sh h' ∧ FRM gRL [(0, 67, 0, 79), (0, 68, 0, 3)] h h') := by
  refine x_met _ rfl (Nat.le_of_ble_eq_true rfl) (fun K hK => ?_)
  have hmono := MONO_CLd hSP 5
  have db := dlA_b h (gi h 178 0 + k)
  refine x_aload_n 1 hK rfl rfl rfl ?_
  refine x_iload_n 2 hK rfl rfl rfl ?_
  refine x_callV 5 hK hmono rfl rfl [.ref 171, .int (I k)] [] rfl rfl (Nat.le_of_ble_eq_true rfl) (Nat.le_of_ble_eq_true rfl) rfl (sp_171 (h := h) hG) (CLd_le (Nat.le_of_ble_eq_true rfl) (ctX11_mayGive hSP hG (by omega))) ?_
  rintro v9 h9 ⟨e9, rfl⟩
  rw [e9]
  clear e9
  have mb := b2i_r (decide (0 < k) || decide (gi h 178 4 ≠ gi h 178 0))
  refine x_if_eq 30 8 hK rfl rfl rfl (by omega) (fun c4 => ?_) (fun c4 => ?_)
  · refine x_iconst 31 hK rfl rfl ?_
    have er : cmF (gi h 178 0) (gi h 178 4) (dlA h) k t = false := by unfold cmF; rw [b2i_0 (b := decide (0 < k) || decide (gi h 178 4 ≠ gi h 178 0)) (by omega)]; rfl
    exact x_zret hK rfl (by omega) ⟨by rw [er]; rfl, hG, (FRM.rf : FRM gRL [(0, 67, 0, 79), (0, 68, 0, 3)] h h)⟩
  · refine x_iload_n 9 hK rfl rfl rfl ?_
    refine x_aload_n 10 hK rfl rfl rfl ?_
    refine x_aload_n 11 hK rfl rfl rfl ?_
    refine x_getR 14 hK rfl rfl (sp_171 (h := h) hG) (rf_171_14 (h := h) hG) ?_
    refine x_iconst 15 hK rfl rfl ?_
    have g257 := gi_r h 178 0
    refine x_ialoadE 16 hK rfl rfl (sp_178 (h := h) hG) (by omega) (by omega) (by omega) (e' := (gi h 178 0)) (rfl) ?_
    refine x_iload_n 17 hK rfl rfl rfl ?_
    refine x_iadd 18 hK rfl rfl ?_
    refine x_callV 21 hK hmono rfl rfl [.ref 171, .int (I ((gi h 178 0) + k))] [.int (I k)] rfl rfl (Nat.le_of_ble_eq_true rfl) (Nat.le_of_ble_eq_true rfl) rfl (sp_171 (h := h) hG) (CLd_le (Nat.le_of_ble_eq_true rfl) (ctX11_delayAtF hSP hG hX (by omega))) ?_
    rintro v8 h8 ⟨rfl, hG8, hF8⟩
    refine x_iadd 22 hK rfl rfl ?_
    refine x_iload_n 23 hK rfl rfl rfl ?_
    refine x_if_icmp_ne 30 26 hK rfl rfl rfl (by omega) (by omega) (fun c18 => ?_) (fun c18 => ?_)
    · refine x_iconst 31 hK rfl rfl ?_
      have er : cmF (gi h 178 0) (gi h 178 4) (dlA h) k t = false := by unfold cmF; rw [b2i_1 (b := decide (0 < k) || decide (gi h 178 4 ≠ gi h 178 0)) (by omega), decide_eq_false (by omega)]; rfl
      exact x_zret hK rfl (by omega) ⟨by rw [er]; rfl, hG8, hF8⟩
    · refine x_iconst 27 hK rfl rfl ?_
      refine x_goto 31 hK rfl rfl ?_
      have er : cmF (gi h 178 0) (gi h 178 4) (dlA h) k t = true := by unfold cmF; rw [b2i_1 (b := decide (0 < k) || decide (gi h 178 4 ≠ gi h 178 0)) (by omega), decide_eq_true (by omega)]; rfl
      exact x_zret hK rfl (by omega) ⟨by rw [er]; rfl, hG8, hF8⟩
theorem gbL_out {u a : Nat → Int} {w c : Int} (ha : ∀ g, 9 ≤ g → a g = 1000) : ∀ (n : Nat) (g : Nat), 9 ≤ g → gbL u w c n a g = 1000
  | 0, g, h => ha g h
  | n + 1, g, h => by
    show (if (g : Int) = max 0 (min 8 (n + w)) then min (gbL u w c n a g) (u n + c) else gbL u w c n a g) = 1000
    rw [if_neg (by omega)]
    exact gbL_out ha n g h
theorem gbV_out (v : Int) (any : Bool) (u : Nat → Int) : ∀ g, 9 ≤ g → gbV v any u g = 1000 := by
  unfold gbV
  split
  · exact gbL_out (gbL_out (gbL_out (fun _ _ => rfl) 9) 9) 9
  · exact gbL_out (fun _ _ => rfl) 9
theorem lv_eq {h : aH} {a : Nat} {u : Nat → Int} (hr : rgV u) (h1 : ∀ l, l < 9 → gi h a l = u l) (h2 : ∀ g, 9 ≤ g → u g = 1000) : LV h a = u := by
  funext l
  unfold LV
  by_cases c : l < 9
  · rw [if_pos c, h1 l c]
  · rw [if_neg c, h2 l (by omega)]
theorem gbL_s {u a : Nat → Int} {w c i : Int} (h : 0 ≤ i) : gbL u w c (i + 1).toNat a = fun (g : Nat) => if (g : Int) = max 0 (min 8 (i + w)) then min (gbL u w c i.toNat a g) (u i.toNat + c) else gbL u w c i.toNat a g := by
  rw [tn_s h]
  show (fun g : Nat => if (g : Int) = max 0 (min 8 ((i.toNat : Int) + w)) then _ else _) = _
  rw [tn_c h]
/-- what is told by w so far -/
noncomputable def gbW (v : Int) (any : Bool) (u : Nat → Int) (w : Int) : Nat → Int := match any with
  | true => if w = -1 then nev else if w = 0 then gbL u (-1) 1 9 nev else if w = 1 then gbL u 0 0 9 (gbL u (-1) 1 9 nev) else gbL u 1 1 9 (gbL u 0 0 9 (gbL u (-1) 1 9 nev))
  | false => if w = v then nev else gbL u v 0 9 nev
theorem gbW_n {v w : Int} {any : Bool} {u : Nat → Int} (hw : (any = true ∧ -1 ≤ w ∧ w ≤ 1) ∨ (any = false ∧ w = v)) : gbW v any u (w + 1) = gbL u w (if any = true ∧ w ≠ 0 then 1 else 0) 9 (gbW v any u w) := by
  rcases hw with ⟨rfl, h1, h2⟩ | ⟨rfl, rfl⟩
  · rcases (show w = -1 ∨ w = 0 ∨ w = 1 by omega) with rfl | rfl | rfl
    · rfl
    · rfl
    · rfl
  · show (if w + 1 = w then nev else gbL u w 0 9 nev) = gbL u w (if false = true ∧ w ≠ 0 then 1 else 0) 9 (if w = w then nev else gbL u w 0 9 nev)
    rw [if_neg (show ¬ w + 1 = w by omega), if_neg (show ¬ (false = true ∧ w ≠ 0) from fun z => Bool.noConfusion z.1), if_pos (show w = w from rfl)]
theorem gbW_r {v w : Int} {any : Bool} {u : Nat → Int} (hu : rgV u) : rgV (gbW v any u w) := by
  unfold gbW
  cases any
  · show rgV (if w = v then nev else gbL u v 0 9 nev)
    split
    · exact nev_r
    · exact gbL_r hu (by omega) nev_r 9
  · show rgV (if w = -1 then nev else if w = 0 then gbL u (-1) 1 9 nev else if w = 1 then gbL u 0 0 9 (gbL u (-1) 1 9 nev) else gbL u 1 1 9 (gbL u 0 0 9 (gbL u (-1) 1 9 nev)))
    split
    · exact nev_r
    · split
      · exact gbL_r hu (by omega) nev_r 9
      · split
        · exact gbL_r hu (by omega) (gbL_r hu (by omega) nev_r 9) 9
        · exact gbL_r hu (by omega) (gbL_r hu (by omega) (gbL_r hu (by omega) nev_r 9) 9) 9
theorem gbW_0 {v : Int} {u : Nat → Int} : gbW v true u (-1) = nev ∧ gbW v false u v = nev := ⟨rfl, if_pos rfl⟩
theorem gbW_e {v : Int} {u : Nat → Int} : gbW v true u 2 = gbV v true u ∧ gbW v false u (v + 1) = gbV v false u := ⟨rfl, if_neg (by omega)⟩
theorem anyT {b : Bool} (h : ¬ b2i b = 0) : b = true := b2i_1 h
theorem anyB {b : Bool} (h : b = true) : b2i b = 1 := by rw [h]; rfl
set_option maxRecDepth 4000 in
theorem ctX11_goesBy {SP : CT} (hSP : MONO SP) {sh : List (Nat × Nat)} {h : aH} (hG : GD gE gRL sh h) {v : Int} {any : Bool} (hv : -2 ≤ v ∧ v ≤ 2) (hr : rgV (LV h 190)) : CLd SP 2 mX11_goesBy [.ref 171, .int (I v), .int (I (b2i any))] h 0 0 (fun rv h' => rv = none ∧ GD gE gRL sh h' ∧ FRM gRL [(0, 73, 0, 8), (0, 74, 0, 8)] h h' ∧ LV h' 190 = gbV v any (LV h 190)) := by
  refine x_met _ rfl (Nat.le_of_ble_eq_true rfl) (fun K hK => ?_)
  have hmono := MONO_CLd hSP 1
  have ab := b2i_r any
  have loopC : ∀ (mz : Nat) (i : Int) (h6 : aH) (ls : List (Nat × Value)), ((9 - i).toNat = mz) → (0 ≤ i ∧ i ≤ 9) → (∀ l : Nat, l < 9 → gi h6 191 l = gbV v any (LV h 190) l) → (∀ l : Nat, l < i → gi h6 190 l = gbV v any (LV h 190) l) → lk ls 0 = some (.ref 171) → lk ls 1 = some (.int (I v)) → lk ls 2 = some (.int (I (b2i any))) → lk ls 3 = some (.int (I i)) → GD gE gRL sh h6 → FRM gRL [(0, 73, 0, 8), (0, 74, 0, 8)] h h6 → K 120 ls [] h6 0 0 := by
    intro mz
    induction mz using Nat.strongRecOn with
    | ind mz ih =>
    intro i h6 ls hm i0 nx dn l0 l1 l2 l3 hG6 hF6
    refine x_iload_n 121 hK rfl rfl l3 ?_
    refine x_bipush 123 hK rfl rfl rfl ?_
    refine x_if_icmp_ge 144 126 hK rfl rfl rfl (by omega) (by omega) (fun c3 => ?_) (fun c3 => ?_)
    · exact x_vret hK rfl ⟨rfl, hG6, hF6, lv_eq (gbV_r hr) (fun l hl => dn l (by omega)) (gbV_out _ _ _)⟩
    · refine x_aload_n 127 hK rfl rfl l0 ?_
      refine x_getR 130 hK rfl rfl (sp_171 (h := h6) hG6) (rf_171_37 (h := h6) hG6) ?_
      refine x_iload_n 131 hK rfl rfl l3 ?_
      refine x_aload_n 132 hK rfl rfl l0 ?_
      refine x_getR 135 hK rfl rfl (sp_171 (h := h6) hG6) (rf_171_38 (h := h6) hG6) ?_
      refine x_iload_n 136 hK rfl rfl l3 ?_
      refine x_ialoadE 137 hK rfl rfl (sp_191 (h := h6) hG6) (by omega) (by omega) (by omega) (e' := (gbV v any (LV h 190) i.toNat)) ((nx i.toNat (by omega))) ?_
      refine x_iastore 138 hK rfl rfl (sp_190 (h := h6) hG6) (by omega) (by omega) (by omega) ?_
      refine x_iinc 141 hK rfl rfl l3 _ rfl ?_
      refine x_goto 120 hK rfl rfl ?_
      have gr := gbV_r (v := v) (any := any) hr i.toNat
      exact ih _ (by omega) (i + 1) _ _ rfl (by omega) ((fun l hl => (gi_a (by decide) _).trans (nx l hl))) ((fun l hl => if c : l = i.toNat then (by subst c; exact gi_same (by omega)) else (gi_k (by omega) _).trans (dn l (by omega)))) (lk1_n l0 (by decide) (Or.inl rfl)) (lk1_n l1 (by decide) (Or.inl rfl)) (lk1_n l2 (by decide) (Or.inl rfl)) lk1_s (GD_wn (hG6) (r := 73) rfl rfl) (FRM_wn 0 8 (hF6) (r := 73) rfl rfl rfl (by omega) (by omega))
  have loopW : ∀ (mz : Nat) (w : Int) (h4 : aH) (ls : List (Nat × Value)), ((5 - w).toNat = mz) → ((any = true ∧ -1 ≤ w ∧ w ≤ 2) ∨ (any = false ∧ v ≤ w ∧ w ≤ v + 1)) → (∀ l : Nat, l < 9 → gi h4 191 l = gbW v any (LV h 190) w l) → (∀ l : Nat, gi h4 190 l = gi h 190 l) → lk ls 0 = some (.ref 171) → lk ls 1 = some (.int (I v)) → lk ls 2 = some (.int (I (b2i any))) → lk ls 3 = some (.int (I w)) → GD gE gRL sh h4 → FRM gRL [(0, 73, 0, 8), (0, 74, 0, 8)] h h4 → K 33 ls [] h4 0 0 := by
    intro mz
    induction mz using Nat.strongRecOn with
    | ind mz ih =>
    intro w h4 ls hm w0 nx ol l0 l1 l2 l3 hG4 hF4
    have ihW := ih
    have gwr := gbW_r (v := v) (w := w) (any := any) hr
    have loopI : ∀ (mz : Nat) (i : Int) (h5 : aH) (ls : List (Nat × Value)), ((9 - i).toNat = mz) → ((any = true ∧ -1 ≤ w ∧ w ≤ 1) ∨ (any = false ∧ w = v)) → (0 ≤ i ∧ i ≤ 9) → (∀ l : Nat, l < 9 → gi h5 191 l = gbL (LV h 190) w (if any = true ∧ w ≠ 0 then 1 else 0) i.toNat (gbW v any (LV h 190) w) l) → (∀ l : Nat, gi h5 190 l = gi h 190 l) → lk ls 0 = some (.ref 171) → lk ls 1 = some (.int (I v)) → lk ls 2 = some (.int (I (b2i any))) → lk ls 3 = some (.int (I w)) → lk ls 4 = some (.int (I i)) → GD gE gRL sh h5 → FRM gRL [(0, 73, 0, 8), (0, 74, 0, 8)] h h5 → K 49 ls [] h5 0 0 := by
      intro mz
      induction mz using Nat.strongRecOn with
      | ind mz ih =>
      intro i h5 ls hm w1 i0 ni oi l0 l1 l2 l3 l4 hG5 hF5
      have gir := gbL_r (w := w) (c := (if any = true ∧ w ≠ 0 then 1 else 0)) hr (by split <;> omega) gwr i.toNat
      have lr := LV_rng hr (l := i.toNat)
      have gs := gbL_s (u := LV h 190) (a := gbW v any (LV h 190) w) (w := w) (c := (if any = true ∧ w ≠ 0 then 1 else 0)) i0.1
      refine x_iload 51 hK rfl rfl l4 ?_
      refine x_bipush 53 hK rfl rfl rfl ?_
      refine x_if_icmp_ge 112 56 hK rfl rfl rfl (by omega) (by omega) (fun c3 => ?_) (fun c3 => ?_)
      · refine x_iinc 115 hK rfl rfl l3 _ rfl ?_
        refine x_goto 33 hK rfl rfl ?_
        exact ihW _ (by omega) (w + 1) _ _ rfl ((by rcases w1 with ⟨a, b1, b2⟩ | ⟨a, b1⟩; exact Or.inl ⟨a, by omega, by omega⟩; exact Or.inr ⟨a, by omega, by omega⟩)) ((fun l hl => by rw [gbW_n w1, ni l hl, show i.toNat = 9 by omega])) (oi) (lk1_n l0 (by decide) (Or.inl rfl)) (lk1_n l1 (by decide) (Or.inl rfl)) (lk1_n l2 (by decide) (Or.inl rfl)) lk1_s (hG5) (hF5)
      · refine x_iload 58 hK rfl rfl l4 ?_
        refine x_iload_n 59 hK rfl rfl l3 ?_
        refine x_iadd 60 hK rfl rfl ?_
        refine x_callS 63 hK hmono rfl (Or.inl rfl) rfl [.int (I (i + w))] [] rfl rfl (Nat.le_of_ble_eq_true rfl) (Nat.le_of_ble_eq_true rfl) (CLd_le (Nat.le_of_ble_eq_true rfl) (ctX11_put hSP (by omega))) ?_
        rintro v9 h9 ⟨e9, rfl⟩
        rw [e9]
        clear e9
        refine x_istore 65 hK rfl rfl _ rfl ?_
        refine x_aload_n 66 hK rfl rfl (lk1_n l0 (by decide) (Or.inl rfl)) ?_
        refine x_getR 69 hK rfl rfl (sp_171 (h := h5) hG5) (rf_171_38 (h := h5) hG5) ?_
        refine x_iload 71 hK rfl rfl lk1_s ?_
        refine x_aload_n 72 hK rfl rfl (lk1_n l0 (by decide) (Or.inl rfl)) ?_
        refine x_getR 75 hK rfl rfl (sp_171 (h := h5) hG5) (rf_171_38 (h := h5) hG5) ?_
        refine x_iload 77 hK rfl rfl lk1_s ?_
        refine x_ialoadE 78 hK rfl rfl (sp_191 (h := h5) hG5) (by omega) (by omega) (by omega) (e' := (gbL (LV h 190) w (if any = true ∧ w ≠ 0 then 1 else 0) i.toNat (gbW v any (LV h 190) w) (max 0 (min 8 (i + w))).toNat)) ((ni (max 0 (min 8 (i + w))).toNat (by omega))) ?_
        refine x_aload_n 79 hK rfl rfl (lk1_n l0 (by decide) (Or.inl rfl)) ?_
        refine x_getR 82 hK rfl rfl (sp_171 (h := h5) hG5) (rf_171_37 (h := h5) hG5) ?_
        refine x_iload 84 hK rfl rfl (lk1_n l4 (by decide) (Or.inl rfl)) ?_
        have g259 := gi_r h 190 i.toNat
        refine x_ialoadE 85 hK rfl rfl (sp_190 (h := h5) hG5) (by omega) (by omega) (by omega) (e' := (gi h 190 i.toNat)) ((oi _)) ?_
        have gp := gir (max 0 (min 8 (i + w))).toNat
        have lp := lr (by omega)
        refine x_iload_n 86 hK rfl rfl (lk1_n l2 (by decide) (Or.inl rfl)) ?_
        refine x_if_eq 97 89 hK rfl rfl rfl (by omega) (fun c25 => ?_) (fun c25 => ?_)
        · refine x_iconst 98 hK rfl rfl ?_
          refine x_callS 101 hK hmono rfl (Or.inl rfl) rfl [.int (I 0)] [.int (I (gi h 190 i.toNat)), .int (I (gbL (LV h 190) w (if any = true ∧ w ≠ 0 then 1 else 0) i.toNat (gbW v any (LV h 190) w) (max 0 (min 8 (i + w))).toNat)), .int (I (max 0 (min 8 (i + w)))), .ref 191] rfl rfl (Nat.le_of_ble_eq_true rfl) (Nat.le_of_ble_eq_true rfl) (CLd_le (Nat.le_of_ble_eq_true rfl) (ctX11_flag (by omega))) ?_
          rintro v9 h9 ⟨e9, rfl⟩
          rw [e9]
          clear e9
          refine x_iadd 102 hK rfl rfl ?_
          refine x_min 105 hK rfl rfl (Nat.le_of_ble_eq_true rfl) (by omega) (by omega) ?_
          refine x_iastore 106 hK rfl rfl (sp_191 (h := h5) hG5) (by omega) (by omega) (by omega) ?_
          refine x_iinc 109 hK rfl rfl (lk1_n l4 (by decide) (Or.inl rfl)) _ rfl ?_
          refine x_goto 49 hK rfl rfl ?_
          have ce : (if any = true ∧ w ≠ 0 then 1 else 0) = (0 : Int) := by rw [if_neg (fun z => by have := anyB z.1; omega)]
          have nn : ∀ l : Nat, l < 9 → gi (wI h5 191 (max 0 (min 8 (i + w))).toNat (min (gbL (LV h 190) w (if any = true ∧ w ≠ 0 then 1 else 0) i.toNat (gbW v any (LV h 190) w) (max 0 (min 8 (i + w))).toNat) ((gi h 190 i.toNat) + 0))) 191 l = gbL (LV h 190) w (if any = true ∧ w ≠ 0 then 1 else 0) (i + 1).toNat (gbW v any (LV h 190) w) l := by
            intro l hl
            rw [gs]
            show _ = if (l : Int) = max 0 (min 8 (i + w)) then min _ (LV h 190 i.toNat + (if any = true ∧ w ≠ 0 then 1 else 0)) else _
            by_cases c : (l : Int) = (max 0 (min 8 (i + w)))
            · rw [if_pos c, LV_at (by omega), (show l = (max 0 (min 8 (i + w))).toNat by omega), ce]
              rw [ce] at gp
              exact gi_same (by omega)
            · rw [if_neg c]
              exact (gi_k (by omega) _).trans (ni l hl)
          exact ih _ (by omega) (i + 1) _ _ rfl (w1) (by omega) (nn) ((fun l => (gi_a (by decide) _).trans (oi l))) (lk1_n (lk1_n l0 (by decide) (Or.inl rfl)) (by decide) (Or.inl rfl)) (lk1_n (lk1_n l1 (by decide) (Or.inl rfl)) (by decide) (Or.inl rfl)) (lk1_n (lk1_n l2 (by decide) (Or.inl rfl)) (by decide) (Or.inl rfl)) (lk1_n (lk1_n l3 (by decide) (Or.inl rfl)) (by decide) (Or.inl rfl)) lk1_s (GD_wn (hG5) (r := 74) rfl rfl) (FRM_wn 0 8 (hF5) (r := 74) rfl rfl rfl (by omega) (by omega))
        · refine x_iload_n 90 hK rfl rfl (lk1_n l3 (by decide) (Or.inl rfl)) ?_
          refine x_if_eq 97 93 hK rfl rfl rfl (by omega) (fun c35 => ?_) (fun c35 => ?_)
          · refine x_iconst 98 hK rfl rfl ?_
            refine x_callS 101 hK hmono rfl (Or.inl rfl) rfl [.int (I 0)] [.int (I (gi h 190 i.toNat)), .int (I (gbL (LV h 190) w (if any = true ∧ w ≠ 0 then 1 else 0) i.toNat (gbW v any (LV h 190) w) (max 0 (min 8 (i + w))).toNat)), .int (I (max 0 (min 8 (i + w)))), .ref 191] rfl rfl (Nat.le_of_ble_eq_true rfl) (Nat.le_of_ble_eq_true rfl) (CLd_le (Nat.le_of_ble_eq_true rfl) (ctX11_flag (by omega))) ?_
            rintro v9 h9 ⟨e9, rfl⟩
            rw [e9]
            clear e9
            refine x_iadd 102 hK rfl rfl ?_
            refine x_min 105 hK rfl rfl (Nat.le_of_ble_eq_true rfl) (by omega) (by omega) ?_
            refine x_iastore 106 hK rfl rfl (sp_191 (h := h5) hG5) (by omega) (by omega) (by omega) ?_
            refine x_iinc 109 hK rfl rfl (lk1_n l4 (by decide) (Or.inl rfl)) _ rfl ?_
            refine x_goto 49 hK rfl rfl ?_
            have ce : (if any = true ∧ w ≠ 0 then 1 else 0) = (0 : Int) := by rw [if_neg (fun z => by have := anyB z.1; omega)]
            have nn : ∀ l : Nat, l < 9 → gi (wI h5 191 (max 0 (min 8 (i + w))).toNat (min (gbL (LV h 190) w (if any = true ∧ w ≠ 0 then 1 else 0) i.toNat (gbW v any (LV h 190) w) (max 0 (min 8 (i + w))).toNat) ((gi h 190 i.toNat) + 0))) 191 l = gbL (LV h 190) w (if any = true ∧ w ≠ 0 then 1 else 0) (i + 1).toNat (gbW v any (LV h 190) w) l := by
              intro l hl
              rw [gs]
              show _ = if (l : Int) = max 0 (min 8 (i + w)) then min _ (LV h 190 i.toNat + (if any = true ∧ w ≠ 0 then 1 else 0)) else _
              by_cases c : (l : Int) = (max 0 (min 8 (i + w)))
              · rw [if_pos c, LV_at (by omega), (show l = (max 0 (min 8 (i + w))).toNat by omega), ce]
                rw [ce] at gp
                exact gi_same (by omega)
              · rw [if_neg c]
                exact (gi_k (by omega) _).trans (ni l hl)
            exact ih _ (by omega) (i + 1) _ _ rfl (w1) (by omega) (nn) ((fun l => (gi_a (by decide) _).trans (oi l))) (lk1_n (lk1_n l0 (by decide) (Or.inl rfl)) (by decide) (Or.inl rfl)) (lk1_n (lk1_n l1 (by decide) (Or.inl rfl)) (by decide) (Or.inl rfl)) (lk1_n (lk1_n l2 (by decide) (Or.inl rfl)) (by decide) (Or.inl rfl)) (lk1_n (lk1_n l3 (by decide) (Or.inl rfl)) (by decide) (Or.inl rfl)) lk1_s (GD_wn (hG5) (r := 74) rfl rfl) (FRM_wn 0 8 (hF5) (r := 74) rfl rfl rfl (by omega) (by omega))
          · refine x_iconst 94 hK rfl rfl ?_
            refine x_goto 98 hK rfl rfl ?_
            refine x_callS 101 hK hmono rfl (Or.inl rfl) rfl [.int (I 1)] [.int (I (gi h 190 i.toNat)), .int (I (gbL (LV h 190) w (if any = true ∧ w ≠ 0 then 1 else 0) i.toNat (gbW v any (LV h 190) w) (max 0 (min 8 (i + w))).toNat)), .int (I (max 0 (min 8 (i + w)))), .ref 191] rfl rfl (Nat.le_of_ble_eq_true rfl) (Nat.le_of_ble_eq_true rfl) (CLd_le (Nat.le_of_ble_eq_true rfl) (ctX11_flag (by omega))) ?_
            rintro v9 h9 ⟨e9, rfl⟩
            rw [e9]
            clear e9
            refine x_iadd 102 hK rfl rfl ?_
            refine x_min 105 hK rfl rfl (Nat.le_of_ble_eq_true rfl) (by omega) (by omega) ?_
            refine x_iastore 106 hK rfl rfl (sp_191 (h := h5) hG5) (by omega) (by omega) (by omega) ?_
            refine x_iinc 109 hK rfl rfl (lk1_n l4 (by decide) (Or.inl rfl)) _ rfl ?_
            refine x_goto 49 hK rfl rfl ?_
            have ce : (if any = true ∧ w ≠ 0 then 1 else 0) = (1 : Int) := by rw [if_pos ⟨anyT (by omega), by omega⟩]
            have nn : ∀ l : Nat, l < 9 → gi (wI h5 191 (max 0 (min 8 (i + w))).toNat (min (gbL (LV h 190) w (if any = true ∧ w ≠ 0 then 1 else 0) i.toNat (gbW v any (LV h 190) w) (max 0 (min 8 (i + w))).toNat) ((gi h 190 i.toNat) + 1))) 191 l = gbL (LV h 190) w (if any = true ∧ w ≠ 0 then 1 else 0) (i + 1).toNat (gbW v any (LV h 190) w) l := by
              intro l hl
              rw [gs]
              show _ = if (l : Int) = max 0 (min 8 (i + w)) then min _ (LV h 190 i.toNat + (if any = true ∧ w ≠ 0 then 1 else 0)) else _
              by_cases c : (l : Int) = (max 0 (min 8 (i + w)))
              · rw [if_pos c, LV_at (by omega), (show l = (max 0 (min 8 (i + w))).toNat by omega), ce]
                rw [ce] at gp
                exact gi_same (by omega)
              · rw [if_neg c]
                exact (gi_k (by omega) _).trans (ni l hl)
            exact ih _ (by omega) (i + 1) _ _ rfl (w1) (by omega) (nn) ((fun l => (gi_a (by decide) _).trans (oi l))) (lk1_n (lk1_n l0 (by decide) (Or.inl rfl)) (by decide) (Or.inl rfl)) (lk1_n (lk1_n l1 (by decide) (Or.inl rfl)) (by decide) (Or.inl rfl)) (lk1_n (lk1_n l2 (by decide) (Or.inl rfl)) (by decide) (Or.inl rfl)) (lk1_n (lk1_n l3 (by decide) (Or.inl rfl)) (by decide) (Or.inl rfl)) lk1_s (GD_wn (hG5) (r := 74) rfl rfl) (FRM_wn 0 8 (hF5) (r := 74) rfl rfl rfl (by omega) (by omega))
    refine x_iload_n 34 hK rfl rfl l3 ?_
    refine x_iload_n 35 hK rfl rfl l2 ?_
    refine x_if_eq 42 38 hK rfl rfl rfl (by omega) (fun c3 => ?_) (fun c3 => ?_)
    · refine x_iload_n 43 hK rfl rfl l1 ?_
      refine x_if_icmp_gt 118 46 hK rfl rfl rfl (by omega) (by omega) (fun c5 => ?_) (fun c5 => ?_)
      · refine x_iconst 119 hK rfl rfl ?_
        refine x_istore_n 120 hK rfl rfl _ rfl ?_
        have we : gbW v any (LV h 190) w = gbV v any (LV h 190) := by
          rcases w0 with ⟨a, b1, b2⟩ | ⟨a, b1, b2⟩
          · have := anyB a; rw [a, show w = 2 by omega]; exact gbW_e.1
          · have : b2i any = 0 := by rw [a]; rfl
            rw [a, show w = v + 1 by omega]; exact gbW_e.2
        exact loopC _ 0 _ _ rfl (by omega) ((fun l hl => by rw [← we]; exact nx l hl)) ((fun l hl => absurd hl (by omega))) (lk1_n l0 (by decide) (Or.inl rfl)) (lk1_n l1 (by decide) (Or.inl rfl)) (lk1_n l2 (by decide) (Or.inl rfl)) lk1_s (hG4) (hF4)
      · refine x_iconst 47 hK rfl rfl ?_
        refine x_istore 49 hK rfl rfl _ rfl ?_
        have w1 : (any = true ∧ -1 ≤ w ∧ w ≤ 1) ∨ (any = false ∧ w = v) := by
          rcases w0 with ⟨a, b1, b2⟩ | ⟨a, b1, b2⟩
          · have := anyB a; exact Or.inl ⟨a, by omega, by omega⟩
          · have : b2i any = 0 := by rw [a]; rfl
            exact Or.inr ⟨a, by omega⟩
        exact loopI _ 0 _ _ rfl (w1) (by omega) (nx) (ol) (lk1_n l0 (by decide) (Or.inl rfl)) (lk1_n l1 (by decide) (Or.inl rfl)) (lk1_n l2 (by decide) (Or.inl rfl)) (lk1_n l3 (by decide) (Or.inl rfl)) lk1_s (hG4) (hF4)
    · refine x_iconst 39 hK rfl rfl ?_
      refine x_goto 43 hK rfl rfl ?_
      refine x_if_icmp_gt 118 46 hK rfl rfl rfl (by omega) (by omega) (fun c14 => ?_) (fun c14 => ?_)
      · refine x_iconst 119 hK rfl rfl ?_
        refine x_istore_n 120 hK rfl rfl _ rfl ?_
        have we : gbW v any (LV h 190) w = gbV v any (LV h 190) := by
          rcases w0 with ⟨a, b1, b2⟩ | ⟨a, b1, b2⟩
          · have := anyB a; rw [a, show w = 2 by omega]; exact gbW_e.1
          · have : b2i any = 0 := by rw [a]; rfl
            rw [a, show w = v + 1 by omega]; exact gbW_e.2
        exact loopC _ 0 _ _ rfl (by omega) ((fun l hl => by rw [← we]; exact nx l hl)) ((fun l hl => absurd hl (by omega))) (lk1_n l0 (by decide) (Or.inl rfl)) (lk1_n l1 (by decide) (Or.inl rfl)) (lk1_n l2 (by decide) (Or.inl rfl)) lk1_s (hG4) (hF4)
      · refine x_iconst 47 hK rfl rfl ?_
        refine x_istore 49 hK rfl rfl _ rfl ?_
        have w1 : (any = true ∧ -1 ≤ w ∧ w ≤ 1) ∨ (any = false ∧ w = v) := by
          rcases w0 with ⟨a, b1, b2⟩ | ⟨a, b1, b2⟩
          · have := anyB a; exact Or.inl ⟨a, by omega, by omega⟩
          · have : b2i any = 0 := by rw [a]; rfl
            exact Or.inr ⟨a, by omega⟩
        exact loopI _ 0 _ _ rfl (w1) (by omega) (nx) (ol) (lk1_n l0 (by decide) (Or.inl rfl)) (lk1_n l1 (by decide) (Or.inl rfl)) (lk1_n l2 (by decide) (Or.inl rfl)) (lk1_n l3 (by decide) (Or.inl rfl)) lk1_s (hG4) (hF4)
  have loop0 : ∀ (mz : Nat) (i : Int) (h3 : aH) (ls : List (Nat × Value)), ((9 - i).toNat = mz) → (0 ≤ i ∧ i ≤ 9) → (∀ l : Nat, l < i → gi h3 191 l = 1000) → (∀ l : Nat, gi h3 190 l = gi h 190 l) → lk ls 0 = some (.ref 171) → lk ls 1 = some (.int (I v)) → lk ls 2 = some (.int (I (b2i any))) → lk ls 3 = some (.int (I i)) → GD gE gRL sh h3 → FRM gRL [(0, 73, 0, 8), (0, 74, 0, 8)] h h3 → K 2 ls [] h3 0 0 := by
    intro mz
    induction mz using Nat.strongRecOn with
    | ind mz ih =>
    intro i h3 ls hm i0 n3 o3 l0 l1 l2 l3 hG3 hF3
    refine x_iload_n 3 hK rfl rfl l3 ?_
    refine x_bipush 5 hK rfl rfl rfl ?_
    refine x_if_icmp_ge 23 8 hK rfl rfl rfl (by omega) (by omega) (fun c3 => ?_) (fun c3 => ?_)
    · refine x_iload_n 24 hK rfl rfl l2 ?_
      refine x_if_eq 31 27 hK rfl rfl rfl (by omega) (fun c5 => ?_) (fun c5 => ?_)
      · refine x_iload_n 32 hK rfl rfl l1 ?_
        refine x_istore_n 33 hK rfl rfl _ rfl ?_
        have ae : any = false := b2i_0 (by omega)
        exact loopW _ v _ _ rfl ((Or.inr ⟨ae, by omega, by omega⟩)) ((fun l hl => by rw [show gbW v any (LV h 190) v = nev from by rw [ae]; exact gbW_0.2]; exact n3 l (by omega))) (o3) (lk1_n l0 (by decide) (Or.inl rfl)) (lk1_n l1 (by decide) (Or.inl rfl)) (lk1_n l2 (by decide) (Or.inl rfl)) lk1_s (hG3) (hF3)
      · refine x_iconst 28 hK rfl rfl ?_
        refine x_goto 32 hK rfl rfl ?_
        refine x_istore_n 33 hK rfl rfl _ rfl ?_
        have ae : any = true := b2i_1 (by omega)
        exact loopW _ (-1) _ _ rfl ((Or.inl ⟨ae, by omega, by omega⟩)) ((fun l hl => by rw [show gbW v any (LV h 190) (-1) = nev from by rw [ae]; exact gbW_0.1]; exact n3 l (by omega))) (o3) (lk1_n l0 (by decide) (Or.inl rfl)) (lk1_n l1 (by decide) (Or.inl rfl)) (lk1_n l2 (by decide) (Or.inl rfl)) lk1_s (hG3) (hF3)
    · refine x_aload_n 9 hK rfl rfl l0 ?_
      refine x_getR 12 hK rfl rfl (sp_171 (h := h3) hG3) (rf_171_38 (h := h3) hG3) ?_
      refine x_iload_n 13 hK rfl rfl l3 ?_
      refine x_sipush 16 hK rfl rfl rfl ?_
      refine x_iastore 17 hK rfl rfl (sp_191 (h := h3) hG3) (by omega) (by omega) (by omega) ?_
      refine x_iinc 20 hK rfl rfl l3 _ rfl ?_
      refine x_goto 2 hK rfl rfl ?_
      exact ih _ (by omega) (i + 1) _ _ rfl (by omega) ((fun l hl => if c : l = i.toNat then (by subst c; exact gi_same (by omega)) else (gi_k (by omega) _).trans (n3 l (by omega)))) ((fun l => (gi_a (by decide) _).trans (o3 l))) (lk1_n l0 (by decide) (Or.inl rfl)) (lk1_n l1 (by decide) (Or.inl rfl)) (lk1_n l2 (by decide) (Or.inl rfl)) lk1_s (GD_wn (hG3) (r := 74) rfl rfl) (FRM_wn 0 8 (hF3) (r := 74) rfl rfl rfl (by omega) (by omega))
  refine x_iconst 1 hK rfl rfl ?_
  refine x_istore_n 2 hK rfl rfl [(3, .int (I 0)), (0, .ref 171), (1, .int (I v)), (2, .int (I (b2i any)))] rfl ?_
  exact loop0 _ 0 _ _ rfl (by omega) ((fun l hl => absurd hl (by omega))) ((fun _ => rfl)) rfl rfl rfl rfl (hG) ((FRM.rf : FRM gRL [(0, 73, 0, 8), (0, 74, 0, 8)] h h))
theorem dlA_w {h : aH} {a k : Nat} {e s : Int} (h1 : a ≠ 182) (h2 : a ≠ 171 ∨ (k ≠ 25 ∧ k ≠ 3 ∧ k ≠ 4 ∧ k ≠ 5)) : dlA (wI h a k e) s = dlA h s := by
  have g : ∀ j, (j = 25 ∨ j = 3 ∨ j = 4 ∨ j = 5) → gi (wI h a k e) 171 j = gi h 171 j := fun j hj => by
    rcases h2 with h2 | h2
    · exact gi_a (fun z => h2 z.symm) _
    · exact gi_k (by omega) _
  exact dlA_eq (g 25 (by omega)) (g 3 (by omega)) (g 4 (by omega)) (g 5 (by omega)) (fun j => gi_a (fun z => h1 z.symm) j) s
theorem opsF_s {ch : Int → Int} {l : Int} {hit : Int → Nat → Int} {L : List (Int × Int)} {q : Int × Int} {u : Nat → Int} : opsF ch l hit (L ++ [q]) u = opF ch l hit q (opsF ch l hit L u) := by rw [opsF_app]; rfl
theorem wyF_s (f : Nat → Int) (d : Int) (n : Nat) : wyF (wlK f (n + 1)) d = wyF (wlK f n) d ++ if f (5 + 3 * n) = d then [(0, f (6 + 3 * n))] else [] := by
  unfold wyF
  rw [wlK_s, List.filter_append, List.map_append]
  congr 1
  by_cases c : f (5 + 3 * n) = d
  · rw [if_pos c, flt_y (show decide ((tri f n).1 = d) = true from decide_eq_true c)]; rfl
  · rw [if_neg c, flt_n (show decide ((tri f n).1 = d) = false from decide_eq_false c)]; rfl
theorem opsF_out {ch : Int → Int} {l : Int} {hit : Int → Nat → Int} : ∀ (L : List (Int × Int)) (u : Nat → Int), (∀ g, 9 ≤ g → u g = 1000) → ∀ g, 9 ≤ g → opsF ch l hit L u g = 1000
  | [], u, h, g, hg => h g hg
  | q :: r, u, h, g, hg => by
    refine opsF_out r (opF ch l hit q u) (fun g hg => ?_) g hg
    unfold opF
    split
    · exact gbV_out _ _ _ g hg
    · split
      · exact gbV_out _ _ _ g hg
      · show (if _ then (1000 : Int) else u g) = 1000
        split
        · rfl
        · exact h g hg
theorem u0_r {l : Int} : rgV (fun (g : Nat) => if (g : Int) = l then 0 else 1000) := fun g => by
  show 0 ≤ (if (g : Int) = l then (0 : Int) else 1000) ∧ (if (g : Int) = l then (0 : Int) else 1000) ≤ 1000
  split <;> omega
set_option maxRecDepth 4000 in
theorem ctX11_laysLeast {SP : CT} (hSP : MONO SP) {sh : List (Nat × Nat)} {h : aH} (hG : GD gE gRL sh h) {n : Int} (hX : XI h) (hn : 0 ≤ n ∧ n ≤ 30) (h0 : 0 ≤ gi h 178 0 ∧ gi h 178 0 ≤ 1000000) : CLd SP 8 mX11_laysLeast [.ref 171, .int (I n)] h 0 0 (fun rv h' => rv = none ∧ GD gE gRL sh h' ∧ FRM gRL [(0, 67, 0, 79), (0, 68, 0, 3), (0, 73, 0, 8), (0, 74, 0, 8)] h h' ∧ LV h' 190 = (opsF (fun k => gi h 189 k.toNat) (gi h 171 5) (fun t g => hitN (gi h 175) (gi h 176) ((gi h 178 0) + t) (g : Int) (gi h 171 6).toNat) (opsT (wl (RC h 178 0)) (gi h 178 0) (gi h 178 4) (dlA h) n.toNat) (fun (l : Nat) => if (l : Int) = gi h 178 1 then 0 else 1000))) := by
  refine x_met _ rfl (Nat.le_of_ble_eq_true rfl) (fun K hK => ?_)
  have hmono := MONO_CLd hSP 7
  have g1 := gri 0 8 hG (a := 178) (r := 61) (k := 1) rfl rfl
  have g3 := gri 0 12 hG (a := 178) (r := 61) (k := 3) rfl rfl
  have g6 := gri 0 16 hG (a := 171) (r := 54) (k := 6) rfl rfl
  obtain ⟨fop, hfop⟩ : ∃ fop : List (Int × Int) → (Nat → Int) → Nat → Int, opsF (fun k => gi h 189 k.toNat) (gi h 171 5) (fun t g => hitN (gi h 175) (gi h 176) ((gi h 178 0) + t) (g : Int) (gi h 171 6).toNat) = fop := ⟨_, rfl⟩
  have fr : ∀ L u, rgV u → rgV (fop L u) := fun L u hu => by rw [← hfop]; exact opsF_r L u hu
  have fs : ∀ L q u, fop (L ++ [q]) u = opF (fun k => gi h 189 k.toNat) (gi h 171 5) (fun t g => hitN (gi h 175) (gi h 176) ((gi h 178 0) + t) (g : Int) (gi h 171 6).toNat) q (fop L u) := fun L q u => by rw [← hfop]; exact opsF_s
  have fa : ∀ L R u, fop (L ++ R) u = fop R (fop L u) := fun L R u => by rw [← hfop]; exact opsF_app
  obtain ⟨u0, hu0⟩ : ∃ u0 : Nat → Int, (fun (l : Nat) => if (l : Int) = gi h 178 1 then 0 else 1000) = u0 := ⟨_, rfl⟩
  have ur : rgV u0 := by rw [← hu0]; exact u0_r
  rw [hfop, hu0] at hK
  obtain ⟨OT, hOT⟩ : ∃ OT : Nat → List (Int × Int), opsT (wl (RC h 178 0)) (gi h 178 0) (gi h 178 4) (dlA h) = OT := ⟨_, rfl⟩
  rw [hOT] at hK
  have loopT : ∀ (mz : Nat) (t : Int) (h3 : aH) (ls : List (Nat × Value)), ((n + 1 - t).toNat = mz) → (1 ≤ t ∧ t ≤ n + 1) → (LV h3 190 = fop (OT (t - 1).toNat) u0) → lk ls 0 = some (.ref 171) → lk ls 1 = some (.int (I n)) → lk ls 2 = some (.int (I t)) → GD gE gRL sh h3 → FRM gRL [(0, 67, 0, 79), (0, 68, 0, 3), (0, 73, 0, 8), (0, 74, 0, 8)] h h3 → K 39 ls [] h3 0 0 := by
    intro mz
    induction mz using Nat.strongRecOn with
    | ind mz ih =>
    intro t h3 ls hm t0 lv l0 l1 l2 hG3 hF3
    have ihT := ih
    have xr : rgV (fop (OT (t - 1).toNat) u0) := fr _ _ ur
    have wr : rgV (fop (wyF (wl (RC h 178 0)) ((gi h 178 0) + t)) (fop (OT (t - 1).toNat) u0)) := fr _ _ xr
    have yr : rgV (fop (blkC (gi h 178 0) (gi h 178 4) (dlA h) t t.toNat) (fop (wyF (wl (RC h 178 0)) ((gi h 178 0) + t)) (fop (OT (t - 1).toNat) u0))) := fr _ _ wr
    have lvn : ∀ (i : Int) {hh : aH}, 9 ≤ i → (∀ l : Nat, l < 9 → gi hh 190 l = if (l : Int) < i ∧ 0 < hitN (gi h 175) (gi h 176) ((gi h 178 0) + t) l (gi h 171 6).toNat then 1000 else (fop (blkC (gi h 178 0) (gi h 178 4) (dlA h) t t.toNat) (fop (wyF (wl (RC h 178 0)) ((gi h 178 0) + t)) (fop (OT (t - 1).toNat) u0))) l) → LV hh 190 = fop (OT (t + 1 - 1).toNat) u0 := fun i hh hi lr => by
      have e : OT (t + 1 - 1).toNat = OT (t - 1).toNat ++ blkT (wl (RC h 178 0)) (gi h 178 0) (gi h 178 4) (dlA h) ((t - 1).toNat + 1) := by
        rw [show (t + 1 - 1).toNat = (t - 1).toNat + 1 by omega, ← hOT]; rfl
      rw [e, fa]
      unfold blkT
      rw [show (((t - 1).toNat + 1 : Nat) : Int) = t by omega, show (t - 1).toNat + 1 = t.toNat by omega, fa, fs]
      refine lv_eq (opF_r yr) (fun l hl => ?_) ?_
      · rw [lr l hl]
        show _ = if 0 < hitN (gi h 175) (gi h 176) ((gi h 178 0) + t) (l : Int) (gi h 171 6).toNat then 1000 else (fop (blkC (gi h 178 0) (gi h 178 4) (dlA h) t t.toNat) (fop (wyF (wl (RC h 178 0)) ((gi h 178 0) + t)) (fop (OT (t - 1).toNat) u0))) l
        exact if_c ⟨fun z => z.2, fun z => ⟨by omega, z⟩⟩
      · intro g hg
        have yo : (fop (blkC (gi h 178 0) (gi h 178 4) (dlA h) t t.toNat) (fop (wyF (wl (RC h 178 0)) ((gi h 178 0) + t)) (fop (OT (t - 1).toNat) u0))) g = 1000 := by
          rw [← hfop]
          exact opsF_out _ _ (opsF_out _ _ (opsF_out _ _ (by rw [← hu0]; exact fun g hg => if_neg (by omega)))) g hg
        show (if _ then (1000 : Int) else (fop (blkC (gi h 178 0) (gi h 178 4) (dlA h) t t.toNat) (fop (wyF (wl (RC h 178 0)) ((gi h 178 0) + t)) (fop (OT (t - 1).toNat) u0))) g) = 1000
        rw [yo]; split <;> rfl
    have loopRk : ∀ (mz : Nat) (i : Int) (h6 : aH) (ls : List (Nat × Value)), ((9 - i).toNat = mz) → (t ≤ n) → (0 ≤ i ∧ i ≤ 9) → (∀ l : Nat, l < 9 → gi h6 190 l = if (l : Int) < i ∧ 0 < hitN (gi h 175) (gi h 176) ((gi h 178 0) + t) l (gi h 171 6).toNat then 1000 else (fop (blkC (gi h 178 0) (gi h 178 4) (dlA h) t t.toNat) (fop (wyF (wl (RC h 178 0)) ((gi h 178 0) + t)) (fop (OT (t - 1).toNat) u0))) l) → lk ls 0 = some (.ref 171) → lk ls 1 = some (.int (I n)) → lk ls 2 = some (.int (I t)) → lk ls 3 = some (.int (I i)) → GD gE gRL sh h6 → FRM gRL [(0, 67, 0, 79), (0, 68, 0, 3), (0, 73, 0, 8), (0, 74, 0, 8)] h h6 → K 156 ls [] h6 0 0 := by
      intro mz
      induction mz using Nat.strongRecOn with
      | ind mz ih =>
      intro i h6 ls hm t1 i0 lr l0 l1 l2 l3 hG6 hF6
      have yi := yr i.toNat
      refine x_iload_n 157 hK rfl rfl l3 ?_
      refine x_bipush 159 hK rfl rfl rfl ?_
      refine x_if_icmp_ge 202 162 hK rfl rfl rfl (by omega) (by omega) (fun c3 => ?_) (fun c3 => ?_)
      · refine x_iinc 205 hK rfl rfl l2 _ rfl ?_
        refine x_goto 39 hK rfl rfl ?_
        exact ihT _ (by omega) (t + 1) _ _ rfl (by omega) ((lvn i (by omega) lr)) (lk1_n l0 (by decide) (Or.inl rfl)) (lk1_n l1 (by decide) (Or.inl rfl)) lk1_s (hG6) (hF6)
      · refine x_aload_n 163 hK rfl rfl l0 ?_
        refine x_getR 166 hK rfl rfl (sp_171 (h := h6) hG6) (rf_171_37 (h := h6) hG6) ?_
        refine x_iload_n 167 hK rfl rfl l3 ?_
        refine x_aload_n 168 hK rfl rfl l0 ?_
        refine x_aload_n 169 hK rfl rfl l0 ?_
        refine x_getR 172 hK rfl rfl (sp_171 (h := h6) hG6) (rf_171_14 (h := h6) hG6) ?_
        refine x_iconst 173 hK rfl rfl ?_
        have g263 := gi_r h 178 0
        refine x_ialoadE 174 hK rfl rfl (sp_178 (h := h6) hG6) (by omega) (by omega) (by omega) (e' := (gi h 178 0)) (FRM_gi hF6 (r := 61) rfl rfl) ?_
        refine x_iload_n 175 hK rfl rfl l2 ?_
        refine x_iadd 176 hK rfl rfl ?_
        refine x_iload_n 177 hK rfl rfl l3 ?_
        refine x_callV 180 hK hmono rfl rfl [.ref 171, .int (I ((gi h 178 0) + t)), .int (I i)] [.int (I i), .ref 190] rfl rfl (Nat.le_of_ble_eq_true rfl) (Nat.le_of_ble_eq_true rfl) rfl (sp_171 (h := h6) hG6) (CLd_le (Nat.le_of_ble_eq_true rfl) (ctX11_hitsAtF hSP hG6 (by omega) (by omega))) ?_
        rintro v9 h9 ⟨e9, rfl⟩
        rw [e9, show gi h6 175 = gi h 175 from funext fun j => FRM_gi hF6 (r := 58) rfl rfl, show gi h6 176 = gi h 176 from funext fun j => FRM_gi hF6 (r := 59) rfl rfl, show gi h6 171 6 = gi h 171 6 from FRM_gi hF6 (r := 54) rfl rfl]
        clear e9
        have hb := hitN_b (gi h 175) (gi h 176) ((gi h 178 0) + t) i (gi h 171 6).toNat
        refine x_if_le 189 183 hK rfl rfl rfl (by omega) (fun c19 => ?_) (fun c19 => ?_)
        · refine x_aload_n 190 hK rfl rfl l0 ?_
          refine x_getR 193 hK rfl rfl (sp_171 (h := h6) hG6) (rf_171_37 (h := h6) hG6) ?_
          refine x_iload_n 194 hK rfl rfl l3 ?_
          refine x_ialoadE 195 hK rfl rfl (sp_190 (h := h6) hG6) (by omega) (by omega) (by omega) (e' := ((fop (blkC (gi h 178 0) (gi h 178 4) (dlA h) t t.toNat) (fop (wyF (wl (RC h 178 0)) ((gi h 178 0) + t)) (fop (OT (t - 1).toNat) u0))) i.toNat)) (((lr i.toNat (by omega)).trans (if_neg (fun z => by omega)))) ?_
          refine x_iastore 196 hK rfl rfl (sp_190 (h := h6) hG6) (by omega) (by omega) (by omega) ?_
          refine x_iinc 199 hK rfl rfl l3 _ rfl ?_
          refine x_goto 156 hK rfl rfl ?_
          have nn : ∀ l : Nat, l < 9 → gi (wI h6 190 i.toNat ((fop (blkC (gi h 178 0) (gi h 178 4) (dlA h) t t.toNat) (fop (wyF (wl (RC h 178 0)) ((gi h 178 0) + t)) (fop (OT (t - 1).toNat) u0))) i.toNat)) 190 l = if (l : Int) < i + 1 ∧ 0 < hitN (gi h 175) (gi h 176) ((gi h 178 0) + t) l (gi h 171 6).toNat then 1000 else (fop (blkC (gi h 178 0) (gi h 178 4) (dlA h) t t.toNat) (fop (wyF (wl (RC h 178 0)) ((gi h 178 0) + t)) (fop (OT (t - 1).toNat) u0))) l := by
            intro l hl
            by_cases c : l = i.toNat
            · subst c
              rw [tn_c i0.1, if_neg (fun z => by omega)]
              exact gi_same (by omega)
            · rw [gi_k c, lr l hl]
              exact if_c ⟨fun z => ⟨by omega, z.2⟩, fun z => ⟨by omega, z.2⟩⟩
          exact ih _ (by omega) (i + 1) _ _ rfl (t1) (by omega) (nn) (lk1_n l0 (by decide) (Or.inl rfl)) (lk1_n l1 (by decide) (Or.inl rfl)) (lk1_n l2 (by decide) (Or.inl rfl)) lk1_s (GD_wn (hG6) (r := 73) rfl rfl) (FRM_wn 0 8 (hF6) (r := 73) rfl rfl rfl (by omega) (by omega))
        · refine x_sipush 186 hK rfl rfl rfl ?_
          refine x_goto 195 hK rfl rfl ?_
          refine x_iastore 196 hK rfl rfl (sp_190 (h := h6) hG6) (by omega) (by omega) (by omega) ?_
          refine x_iinc 199 hK rfl rfl l3 _ rfl ?_
          refine x_goto 156 hK rfl rfl ?_
          have nn : ∀ l : Nat, l < 9 → gi (wI h6 190 i.toNat 1000) 190 l = if (l : Int) < i + 1 ∧ 0 < hitN (gi h 175) (gi h 176) ((gi h 178 0) + t) l (gi h 171 6).toNat then 1000 else (fop (blkC (gi h 178 0) (gi h 178 4) (dlA h) t t.toNat) (fop (wyF (wl (RC h 178 0)) ((gi h 178 0) + t)) (fop (OT (t - 1).toNat) u0))) l := by
            intro l hl
            by_cases c : l = i.toNat
            · subst c
              rw [tn_c i0.1, if_pos ⟨by omega, by omega⟩]
              exact gi_same (by omega)
            · rw [gi_k c, lr l hl]
              exact if_c ⟨fun z => ⟨by omega, z.2⟩, fun z => ⟨by omega, z.2⟩⟩
          exact ih _ (by omega) (i + 1) _ _ rfl (t1) (by omega) (nn) (lk1_n l0 (by decide) (Or.inl rfl)) (lk1_n l1 (by decide) (Or.inl rfl)) (lk1_n l2 (by decide) (Or.inl rfl)) lk1_s (GD_wn (hG6) (r := 73) rfl rfl) (FRM_wn 0 8 (hF6) (r := 73) rfl rfl rfl (by omega) (by omega))
    have loopCh : ∀ (mz : Nat) (k : Int) (h5 : aH) (ls : List (Nat × Value)), ((t - k).toNat = mz) → (t ≤ n) → (0 ≤ k ∧ k ≤ t) → (LV h5 190 = fop (blkC (gi h 178 0) (gi h 178 4) (dlA h) t k.toNat) (fop (wyF (wl (RC h 178 0)) ((gi h 178 0) + t)) (fop (OT (t - 1).toNat) u0))) → lk ls 0 = some (.ref 171) → lk ls 1 = some (.int (I n)) → lk ls 2 = some (.int (I t)) → lk ls 3 = some (.int (I k)) → GD gE gRL sh h5 → FRM gRL [(0, 67, 0, 79), (0, 68, 0, 3), (0, 73, 0, 8), (0, 74, 0, 8)] h h5 → K 105 ls [] h5 0 0 := by
      intro mz
      induction mz using Nat.strongRecOn with
      | ind mz ih =>
      intro k h5 ls hm t1 k0 lc l0 l1 l2 l3 hG5 hF5
      have lr5 : rgV (LV h5 190) := by rw [lc]; exact fr _ _ wr
      have bs : blkC (gi h 178 0) (gi h 178 4) (dlA h) t (k + 1).toNat = (blkC (gi h 178 0) (gi h 178 4) (dlA h) t k.toNat) ++ if cmF (gi h 178 0) (gi h 178 4) (dlA h) k t = true then [(1, k)] else [] := by rw [tn_s k0.1]; show blkC _ _ _ _ _ ++ (if cmF _ _ _ ((k.toNat : Nat) : Int) t = true then [(1, ((k.toNat : Nat) : Int))] else []) = _; rw [tn_c k0.1]
      refine x_iload_n 106 hK rfl rfl l3 ?_
      refine x_iload_n 107 hK rfl rfl l2 ?_
      refine x_if_icmp_ge 154 110 hK rfl rfl rfl (by omega) (by omega) (fun c3 => ?_) (fun c3 => ?_)
      · refine x_iconst 155 hK rfl rfl ?_
        refine x_istore_n 156 hK rfl rfl _ rfl ?_
        exact loopRk _ 0 _ _ rfl (t1) (by omega) ((fun l hl => by rw [if_neg (fun z => by omega), ← LV_at (a := 190) hl, lc, show k.toNat = t.toNat by omega])) (lk1_n l0 (by decide) (Or.inl rfl)) (lk1_n l1 (by decide) (Or.inl rfl)) (lk1_n l2 (by decide) (Or.inl rfl)) lk1_s (hG5) (hF5)
      · refine x_aload_n 111 hK rfl rfl l0 ?_
        refine x_iload_n 112 hK rfl rfl l3 ?_
        refine x_iload_n 113 hK rfl rfl l2 ?_
        have hXc : XI h5 := (xOk_ok rfl _ h5 hF5 hX)
        refine x_callV 116 hK hmono rfl rfl [.ref 171, .int (I k), .int (I t)] [] rfl rfl (Nat.le_of_ble_eq_true rfl) (Nat.le_of_ble_eq_true rfl) rfl (sp_171 (h := h5) hG5) (CLd_le (Nat.le_of_ble_eq_true rfl) (ctX11_comesAtF hSP hG5 hXc (by omega) (by omega) (by rw [show gi h5 178 0 = gi h 178 0 from FRM_gi hF5 (r := 61) rfl rfl]; exact h0))) ?_
        rw [show gi h5 178 0 = gi h 178 0 from FRM_gi hF5 (r := 61) rfl rfl, show gi h5 178 4 = gi h 178 4 from FRM_gi hF5 (r := 61) rfl rfl, show dlA h5 = dlA h from funext fun s => dlA_F hF5 rfl s]
        rintro v264 h264 ⟨rfl, hG264, hF264⟩
        have cb264 := b2i_r (cmF (gi h 178 0) (gi h 178 4) (dlA h) k t)
        refine x_if_eq 148 119 hK rfl rfl rfl (by omega) (fun c11 => ?_) (fun c11 => ?_)
        · refine x_iinc 151 hK rfl rfl l3 _ rfl ?_
          refine x_goto 105 hK rfl rfl ?_
          have cm : cmF (gi h 178 0) (gi h 178 4) (dlA h) k t = false := b2i_0 (by omega)
          exact ih _ (by omega) (k + 1) _ _ rfl (t1) (by omega) ((by rw [LV_F hF264 (r := 73) rfl rfl, lc, bs, cm, if_neg Bool.noConfusion, List.append_nil])) (lk1_n l0 (by decide) (Or.inl rfl)) (lk1_n l1 (by decide) (Or.inl rfl)) (lk1_n l2 (by decide) (Or.inl rfl)) lk1_s (hG264) ((hF5).trans ((hF264).mono rfl))
        · refine x_aload_n 120 hK rfl rfl l0 ?_
          refine x_aload_n 121 hK rfl rfl l0 ?_
          refine x_aload_n 122 hK rfl rfl l0 ?_
          refine x_getR 125 hK rfl rfl (sp_171 (h := h264) hG264) (rf_171_36 (h := h264) hG264) ?_
          refine x_iload_n 126 hK rfl rfl l3 ?_
          have g265 := grn (-1) (2) hG (a := 189) (r := 72) (k := k.toNat) rfl rfl (by omega)
          refine x_ialoadE 127 hK rfl rfl (sp_189 (h := h264) hG264) (by omega) (by omega) (by omega) (e' := (gi h 189 k.toNat)) ((FRM_gi hF264 (r := 72) rfl rfl).trans (FRM_gi hF5 (r := 72) rfl rfl)) ?_
          refine x_callV 130 hK hmono rfl rfl [.ref 171, .int (I (gi h 189 k.toNat))] [.ref 171] rfl rfl (Nat.le_of_ble_eq_true rfl) (Nat.le_of_ble_eq_true rfl) rfl (sp_171 (h := h264) hG264) (CLd_le (Nat.le_of_ble_eq_true rfl) (ctX11_turned hSP hG264)) ?_
          rintro v9 h9 ⟨e9, rfl⟩
          rw [e9, show gi h264 171 5 = gi h 171 5 from (FRM_gi hF264 (r := 54) rfl rfl).trans (FRM_gi hF5 (r := 54) rfl rfl)]
          clear e9
          change K 130 _ (.int (I (tvF (gi h 171 5) (gi h 189 k.toNat))) :: _) _ _ _
          have tb1 : -2 ≤ (tvF (gi h 171 5) (gi h 189 k.toNat)) ∧ (tvF (gi h 171 5) (gi h 189 k.toNat)) ≤ 2 := by unfold tvF; split <;> omega
          refine x_aload_n 131 hK rfl rfl l0 ?_
          refine x_getR 134 hK rfl rfl (sp_171 (h := h264) hG264) (rf_171_36 (h := h264) hG264) ?_
          refine x_iload_n 135 hK rfl rfl l3 ?_
          refine x_ialoadE 136 hK rfl rfl (sp_189 (h := h264) hG264) (by omega) (by omega) (by omega) (e' := (gi h 189 k.toNat)) ((FRM_gi hF264 (r := 72) rfl rfl).trans (FRM_gi hF5 (r := 72) rfl rfl)) ?_
          refine x_iconst 137 hK rfl rfl ?_
          refine x_if_icmp_ne 144 140 hK rfl rfl rfl (by omega) (by omega) (fun c27 => ?_) (fun c27 => ?_)
          · refine x_iconst 145 hK rfl rfl ?_
            have le266 : LV h264 190 = LV h5 190 := LV_F hF264 (r := 73) rfl rfl
            refine x_callV 148 hK hmono rfl rfl [.ref 171, .int (I (tvF (gi h 171 5) (gi h 189 k.toNat))), .int (I 0)] [] rfl rfl (Nat.le_of_ble_eq_true rfl) (Nat.le_of_ble_eq_true rfl) rfl (sp_171 (h := h264) hG264) (CLd_le (Nat.le_of_ble_eq_true rfl) (ctX11_goesBy hSP hG264 (v := (tvF (gi h 171 5) (gi h 189 k.toNat))) (any := false) (by omega) (by rw [le266]; exact lr5))) ?_
            rintro v266 h266 ⟨rfl, hG266, hF266, lg266⟩
            rw [le266, lc] at lg266
            refine x_iinc 151 hK rfl rfl l3 _ rfl ?_
            refine x_goto 105 hK rfl rfl ?_
            have cm : cmF (gi h 178 0) (gi h 178 4) (dlA h) k t = true := b2i_1 (by omega)
            exact ih _ (by omega) (k + 1) _ _ rfl (t1) (by omega) ((by rw [lg266, bs, if_pos cm, fs]; show _ = gbV (tvF (gi h 171 5) (gi h 189 k.toNat)) (decide (gi h 189 k.toNat = 2)) _; rw [decide_eq_false (by omega)])) (lk1_n l0 (by decide) (Or.inl rfl)) (lk1_n l1 (by decide) (Or.inl rfl)) (lk1_n l2 (by decide) (Or.inl rfl)) lk1_s (hG266) (((hF5).trans ((hF264).mono rfl)).trans ((hF266).mono rfl))
          · refine x_iconst 141 hK rfl rfl ?_
            refine x_goto 145 hK rfl rfl ?_
            have le267 : LV h264 190 = LV h5 190 := LV_F hF264 (r := 73) rfl rfl
            refine x_callV 148 hK hmono rfl rfl [.ref 171, .int (I (tvF (gi h 171 5) (gi h 189 k.toNat))), .int (I 1)] [] rfl rfl (Nat.le_of_ble_eq_true rfl) (Nat.le_of_ble_eq_true rfl) rfl (sp_171 (h := h264) hG264) (CLd_le (Nat.le_of_ble_eq_true rfl) (ctX11_goesBy hSP hG264 (v := (tvF (gi h 171 5) (gi h 189 k.toNat))) (any := true) (by omega) (by rw [le267]; exact lr5))) ?_
            rintro v267 h267 ⟨rfl, hG267, hF267, lg267⟩
            rw [le267, lc] at lg267
            refine x_iinc 151 hK rfl rfl l3 _ rfl ?_
            refine x_goto 105 hK rfl rfl ?_
            have cm : cmF (gi h 178 0) (gi h 178 4) (dlA h) k t = true := b2i_1 (by omega)
            exact ih _ (by omega) (k + 1) _ _ rfl (t1) (by omega) ((by rw [lg267, bs, if_pos cm, fs]; show _ = gbV (tvF (gi h 171 5) (gi h 189 k.toNat)) (decide (gi h 189 k.toNat = 2)) _; rw [decide_eq_true (by omega)])) (lk1_n l0 (by decide) (Or.inl rfl)) (lk1_n l1 (by decide) (Or.inl rfl)) (lk1_n l2 (by decide) (Or.inl rfl)) lk1_s (hG267) (((hF5).trans ((hF264).mono rfl)).trans ((hF267).mono rfl))
    have loopWy : ∀ (mz : Nat) (k : Int) (h4 : aH) (ls : List (Nat × Value)), ((gi h 178 3 - k).toNat = mz) → (t ≤ n) → (0 ≤ k ∧ k ≤ gi h 178 3) → (LV h4 190 = fop (wyF (wlK (gi h 178) k.toNat) ((gi h 178 0) + t)) (fop (OT (t - 1).toNat) u0)) → lk ls 0 = some (.ref 171) → lk ls 1 = some (.int (I n)) → lk ls 2 = some (.int (I t)) → lk ls 3 = some (.int (I k)) → GD gE gRL sh h4 → FRM gRL [(0, 67, 0, 79), (0, 68, 0, 3), (0, 73, 0, 8), (0, 74, 0, 8)] h h4 → K 46 ls [] h4 0 0 := by
      intro mz
      induction mz using Nat.strongRecOn with
      | ind mz ih =>
      intro k h4 ls hm t1 k0 lw l0 l1 l2 l3 hG4 hF4
      have lr4 : rgV (LV h4 190) := by rw [lw]; exact fr _ _ xr
      have ws : (wyF (wlK (gi h 178) (k + 1).toNat) ((gi h 178 0) + t)) = (wyF (wlK (gi h 178) k.toNat) ((gi h 178 0) + t)) ++ if gi h 178 (5 + 3 * k.toNat) = (gi h 178 0) + t then [(0, gi h 178 (6 + 3 * k.toNat))] else [] := by rw [tn_s k0.1]; exact wyF_s _ _ _
      have wt : k < 12 → -1 ≤ gi h 178 (6 + 3 * k.toNat) ∧ gi h 178 (6 + 3 * k.toNat) ≤ 1 := fun z => what_r hG (r := 61) rfl rfl (by omega)
      refine x_iload_n 47 hK rfl rfl l3 ?_
      refine x_aload_n 48 hK rfl rfl l0 ?_
      refine x_getR 51 hK rfl rfl (sp_171 (h := h4) hG4) (rf_171_14 (h := h4) hG4) ?_
      refine x_iconst 52 hK rfl rfl ?_
      have g268 := gri (0) (12) hG (a := 178) (r := 61) (k := 3) rfl rfl
      refine x_ialoadE 53 hK rfl rfl (sp_178 (h := h4) hG4) (by omega) (by omega) (by omega) (e' := (gi h 178 3)) (FRM_gi hF4 (r := 61) rfl rfl) ?_
      refine x_if_icmp_ge 103 56 hK rfl rfl rfl (by omega) (by omega) (fun c6 => ?_) (fun c6 => ?_)
      · refine x_iconst 104 hK rfl rfl ?_
        refine x_istore_n 105 hK rfl rfl _ rfl ?_
        exact loopCh _ 0 _ _ rfl (t1) (by omega) ((by rw [lw, show k.toNat = (gi h 178 3).toNat by omega, ← wl_RC (by omega)]; rw [← hfop]; rfl)) (lk1_n l0 (by decide) (Or.inl rfl)) (lk1_n l1 (by decide) (Or.inl rfl)) (lk1_n l2 (by decide) (Or.inl rfl)) lk1_s (hG4) (hF4)
      · refine x_iconst 57 hK rfl rfl ?_
        refine x_iconst 58 hK rfl rfl ?_
        refine x_iload_n 59 hK rfl rfl l3 ?_
        refine x_imul 60 hK rfl rfl ?_
        refine x_iadd 61 hK rfl rfl ?_
        refine x_istore 63 hK rfl rfl _ rfl ?_
        have d5 := gi_r h 178 (5 + 3 * k.toNat)
        refine x_aload_n 64 hK rfl rfl (lk1_n l0 (by decide) (Or.inl rfl)) ?_
        refine x_getR 67 hK rfl rfl (sp_171 (h := h4) hG4) (rf_171_14 (h := h4) hG4) ?_
        refine x_iload 69 hK rfl rfl lk1_s ?_
        refine x_iconst 70 hK rfl rfl ?_
        refine x_iadd 71 hK rfl rfl ?_
        refine x_ialoadE 72 hK rfl rfl (sp_178 (h := h4) hG4) (by omega) (by omega) (by omega) (e' := (gi h 178 (5 + 3 * k.toNat))) (((gi_to (by omega)).trans (FRM_gi hF4 (r := 61) rfl rfl))) ?_
        refine x_aload_n 73 hK rfl rfl (lk1_n l0 (by decide) (Or.inl rfl)) ?_
        refine x_getR 76 hK rfl rfl (sp_171 (h := h4) hG4) (rf_171_14 (h := h4) hG4) ?_
        refine x_iconst 77 hK rfl rfl ?_
        have g269 := gi_r h 178 0
        refine x_ialoadE 78 hK rfl rfl (sp_178 (h := h4) hG4) (by omega) (by omega) (by omega) (e' := (gi h 178 0)) (FRM_gi hF4 (r := 61) rfl rfl) ?_
        refine x_iload_n 79 hK rfl rfl (lk1_n l2 (by decide) (Or.inl rfl)) ?_
        refine x_iadd 80 hK rfl rfl ?_
        refine x_if_icmp_ne 97 83 hK rfl rfl rfl (by omega) (by omega) (fun c29 => ?_) (fun c29 => ?_)
        · refine x_iinc 100 hK rfl rfl (lk1_n l3 (by decide) (Or.inl rfl)) _ rfl ?_
          refine x_goto 46 hK rfl rfl ?_
          exact ih _ (by omega) (k + 1) _ _ rfl (t1) (by omega) ((by rw [lw, ws, if_neg (by omega), List.append_nil])) (lk1_n (lk1_n l0 (by decide) (Or.inl rfl)) (by decide) (Or.inl rfl)) (lk1_n (lk1_n l1 (by decide) (Or.inl rfl)) (by decide) (Or.inl rfl)) (lk1_n (lk1_n l2 (by decide) (Or.inl rfl)) (by decide) (Or.inl rfl)) lk1_s (hG4) (hF4)
        · refine x_aload_n 84 hK rfl rfl (lk1_n l0 (by decide) (Or.inl rfl)) ?_
          refine x_aload_n 85 hK rfl rfl (lk1_n l0 (by decide) (Or.inl rfl)) ?_
          refine x_getR 88 hK rfl rfl (sp_171 (h := h4) hG4) (rf_171_14 (h := h4) hG4) ?_
          refine x_iload 90 hK rfl rfl lk1_s ?_
          refine x_iconst 91 hK rfl rfl ?_
          refine x_iadd 92 hK rfl rfl ?_
          refine x_ialoadE 93 hK rfl rfl (sp_178 (h := h4) hG4) (by omega) (by omega) (by omega) (e' := (gi h 178 (6 + 3 * k.toNat))) (((gi_to (by omega)).trans (FRM_gi hF4 (r := 61) rfl rfl))) ?_
          refine x_iconst 94 hK rfl rfl ?_
          have le270 : LV h4 190 = LV h4 190 := rfl
          refine x_callV 97 hK hmono rfl rfl [.ref 171, .int (I (gi h 178 (6 + 3 * k.toNat))), .int (I 0)] [] rfl rfl (Nat.le_of_ble_eq_true rfl) (Nat.le_of_ble_eq_true rfl) rfl (sp_171 (h := h4) hG4) (CLd_le (Nat.le_of_ble_eq_true rfl) (ctX11_goesBy hSP hG4 (v := (gi h 178 (6 + 3 * k.toNat))) (any := false) (by omega) (by rw [le270]; exact lr4))) ?_
          rintro v270 h270 ⟨rfl, hG270, hF270, lg270⟩
          rw [le270, lw] at lg270
          refine x_iinc 100 hK rfl rfl (lk1_n l3 (by decide) (Or.inl rfl)) _ rfl ?_
          refine x_goto 46 hK rfl rfl ?_
          exact ih _ (by omega) (k + 1) _ _ rfl (t1) (by omega) ((by rw [lg270, ws, if_pos (by omega), fs]; rfl)) (lk1_n (lk1_n l0 (by decide) (Or.inl rfl)) (by decide) (Or.inl rfl)) (lk1_n (lk1_n l1 (by decide) (Or.inl rfl)) (by decide) (Or.inl rfl)) (lk1_n (lk1_n l2 (by decide) (Or.inl rfl)) (by decide) (Or.inl rfl)) lk1_s (hG270) ((hF4).trans ((hF270).mono rfl))
    refine x_iload_n 40 hK rfl rfl l2 ?_
    refine x_iload_n 41 hK rfl rfl l1 ?_
    refine x_if_icmp_gt 208 44 hK rfl rfl rfl (by omega) (by omega) (fun c3 => ?_) (fun c3 => ?_)
    · exact x_vret hK rfl ⟨rfl, hG3, hF3, by rw [lv, show t - 1 = n by omega]⟩
    · refine x_iconst 45 hK rfl rfl ?_
      refine x_istore_n 46 hK rfl rfl _ rfl ?_
      exact loopWy _ 0 _ _ rfl (by omega) (by omega) ((by rw [lv]; rw [← hfop]; rfl)) (lk1_n l0 (by decide) (Or.inl rfl)) (lk1_n l1 (by decide) (Or.inl rfl)) (lk1_n l2 (by decide) (Or.inl rfl)) lk1_s (hG3) (hF3)
  have loop0 : ∀ (mz : Nat) (i : Int) (h2 : aH) (ls : List (Nat × Value)), ((9 - i).toNat = mz) → (0 ≤ i ∧ i ≤ 9) → (∀ l : Nat, l < i → gi h2 190 l = u0 l) → lk ls 0 = some (.ref 171) → lk ls 1 = some (.int (I n)) → lk ls 2 = some (.int (I i)) → GD gE gRL sh h2 → FRM gRL [(0, 67, 0, 79), (0, 68, 0, 3), (0, 73, 0, 8), (0, 74, 0, 8)] h h2 → K 2 ls [] h2 0 0 := by
    intro mz
    induction mz using Nat.strongRecOn with
    | ind mz ih =>
    intro i h2 ls hm i0 n2 l0 l1 l2 hG2 hF2
    have ui : u0 i.toNat = if i = gi h 178 1 then 0 else 1000 := by rw [← hu0]; show (if ((i.toNat : Nat) : Int) = _ then _ else _) = _; rw [tn_c i0.1]
    refine x_iload_n 3 hK rfl rfl l2 ?_
    refine x_bipush 5 hK rfl rfl rfl ?_
    refine x_if_icmp_ge 37 8 hK rfl rfl rfl (by omega) (by omega) (fun c3 => ?_) (fun c3 => ?_)
    · refine x_iconst 38 hK rfl rfl ?_
      refine x_istore_n 39 hK rfl rfl _ rfl ?_
      exact loopT _ 1 _ _ rfl (by omega) ((by rw [lv_eq ur (fun l hl => n2 l (by omega)) (by rw [← hu0]; exact fun g hg => if_neg (by omega)), ← hOT, ← hfop]; rfl)) (lk1_n l0 (by decide) (Or.inl rfl)) (lk1_n l1 (by decide) (Or.inl rfl)) lk1_s (hG2) (hF2)
    · refine x_aload_n 9 hK rfl rfl l0 ?_
      refine x_getR 12 hK rfl rfl (sp_171 (h := h2) hG2) (rf_171_37 (h := h2) hG2) ?_
      refine x_iload_n 13 hK rfl rfl l2 ?_
      refine x_iload_n 14 hK rfl rfl l2 ?_
      refine x_aload_n 15 hK rfl rfl l0 ?_
      refine x_getR 18 hK rfl rfl (sp_171 (h := h2) hG2) (rf_171_14 (h := h2) hG2) ?_
      refine x_iconst 19 hK rfl rfl ?_
      have g271 := gri (0) (8) hG (a := 178) (r := 61) (k := 1) rfl rfl
      refine x_ialoadE 20 hK rfl rfl (sp_178 (h := h2) hG2) (by omega) (by omega) (by omega) (e' := (gi h 178 1)) (FRM_gi hF2 (r := 61) rfl rfl) ?_
      refine x_if_icmp_ne 27 23 hK rfl rfl rfl (by omega) (by omega) (fun c15 => ?_) (fun c15 => ?_)
      · refine x_sipush 30 hK rfl rfl rfl ?_
        refine x_iastore 31 hK rfl rfl (sp_190 (h := h2) hG2) (by omega) (by omega) (by omega) ?_
        refine x_iinc 34 hK rfl rfl l2 _ rfl ?_
        refine x_goto 2 hK rfl rfl ?_
        exact ih _ (by omega) (i + 1) _ _ rfl (by omega) ((fun l hl => if c : l = i.toNat then (by subst c; rw [ui, if_neg (by omega)]; exact gi_same (by omega)) else (gi_k (by omega) _).trans (n2 l (by omega)))) (lk1_n l0 (by decide) (Or.inl rfl)) (lk1_n l1 (by decide) (Or.inl rfl)) lk1_s (GD_wn (hG2) (r := 73) rfl rfl) (FRM_wn 0 8 (hF2) (r := 73) rfl rfl rfl (by omega) (by omega))
      · refine x_iconst 24 hK rfl rfl ?_
        refine x_goto 30 hK rfl rfl ?_
        refine x_iastore 31 hK rfl rfl (sp_190 (h := h2) hG2) (by omega) (by omega) (by omega) ?_
        refine x_iinc 34 hK rfl rfl l2 _ rfl ?_
        refine x_goto 2 hK rfl rfl ?_
        exact ih _ (by omega) (i + 1) _ _ rfl (by omega) ((fun l hl => if c : l = i.toNat then (by subst c; rw [ui, if_pos (by omega)]; exact gi_same (by omega)) else (gi_k (by omega) _).trans (n2 l (by omega)))) (lk1_n l0 (by decide) (Or.inl rfl)) (lk1_n l1 (by decide) (Or.inl rfl)) lk1_s (GD_wn (hG2) (r := 73) rfl rfl) (FRM_wn 0 8 (hF2) (r := 73) rfl rfl rfl (by omega) (by omega))
  refine x_iconst 1 hK rfl rfl ?_
  refine x_istore_n 2 hK rfl rfl [(2, .int (I 0)), (0, .ref 171), (1, .int (I n))] rfl ?_
  exact loop0 _ 0 _ _ rfl (by omega) ((fun l hl => absurd hl (by omega))) rfl rfl rfl (hG) ((FRM.rf : FRM gRL [(0, 67, 0, 79), (0, 68, 0, 3), (0, 73, 0, 8), (0, 74, 0, 8)] h h))
set_option maxRecDepth 4000 in
theorem ctX11_fewestOrders {SP : CT} (hSP : MONO SP) {sh : List (Nat × Nat)} {h : aH} (hG : GD gE gRL sh h) {n : Int} (hX : XI h) (hn : 0 ≤ n ∧ n ≤ 30) (h0 : 0 ≤ gi h 178 0 ∧ gi h 178 0 ≤ 1000000) : CLd SP 9 mX11_fewestOrders [.ref 171, .int (I n)] h 0 0 (fun rv h' => rv = some (.int (I (fwN (opsF (fun k => gi h 189 k.toNat) (gi h 171 5) (fun t g => hitN (gi h 175) (gi h 176) ((gi h 178 0) + t) (g : Int) (gi h 171 6).toNat) (opsT (wl (RC h 178 0)) (gi h 178 0) (gi h 178 4) (dlA h) n.toNat) (fun (l : Nat) => if (l : Int) = gi h 178 1 then 0 else 1000)) 9))) ∧ GD gE gRL sh h' ∧ FRM gRL [(0, 67, 0, 79), (0, 68, 0, 3), (0, 73, 0, 8), (0, 74, 0, 8)] h h') := by
  refine x_met _ rfl (Nat.le_of_ble_eq_true rfl) (fun K hK => ?_)
  have hmono := MONO_CLd hSP 8
  have lrr : rgV (opsF (fun k => gi h 189 k.toNat) (gi h 171 5) (fun t g => hitN (gi h 175) (gi h 176) ((gi h 178 0) + t) (g : Int) (gi h 171 6).toNat) (opsT (wl (RC h 178 0)) (gi h 178 0) (gi h 178 4) (dlA h) n.toNat) (fun (l : Nat) => if (l : Int) = gi h 178 1 then 0 else 1000)) := opsF_r _ _ u0_r
  have loop : ∀ (mz : Nat) (e i : Int) (h2 : aH) (ls : List (Nat × Value)), ((9 - i).toNat = mz) → (0 ≤ i ∧ i ≤ 9) → (LV h2 190 = (opsF (fun k => gi h 189 k.toNat) (gi h 171 5) (fun t g => hitN (gi h 175) (gi h 176) ((gi h 178 0) + t) (g : Int) (gi h 171 6).toNat) (opsT (wl (RC h 178 0)) (gi h 178 0) (gi h 178 4) (dlA h) n.toNat) (fun (l : Nat) => if (l : Int) = gi h 178 1 then 0 else 1000))) → (e = fwN (opsF (fun k => gi h 189 k.toNat) (gi h 171 5) (fun t g => hitN (gi h 175) (gi h 176) ((gi h 178 0) + t) (g : Int) (gi h 171 6).toNat) (opsT (wl (RC h 178 0)) (gi h 178 0) (gi h 178 4) (dlA h) n.toNat) (fun (l : Nat) => if (l : Int) = gi h 178 1 then 0 else 1000)) i.toNat) → lk ls 0 = some (.ref 171) → lk ls 1 = some (.int (I n)) → lk ls 2 = some (.int (I e)) → lk ls 3 = some (.int (I i)) → GD gE gRL sh h2 → FRM gRL [(0, 67, 0, 79), (0, 68, 0, 3), (0, 73, 0, 8), (0, 74, 0, 8)] h h2 → K 11 ls [] h2 0 0 := by
    intro mz
    induction mz using Nat.strongRecOn with
    | ind mz ih =>
    intro e i h2 ls hm i0 lv2 ee l0 l1 l2 l3 hG2 hF2
    have fb := fwN_r lrr i.toNat
    have le : i < 9 → (opsF (fun k => gi h 189 k.toNat) (gi h 171 5) (fun t g => hitN (gi h 175) (gi h 176) ((gi h 178 0) + t) (g : Int) (gi h 171 6).toNat) (opsT (wl (RC h 178 0)) (gi h 178 0) (gi h 178 4) (dlA h) n.toNat) (fun (l : Nat) => if (l : Int) = gi h 178 1 then 0 else 1000)) i.toNat = gi h2 190 i.toNat := fun z => by rw [← lv2, LV_at (by omega)]
    refine x_iload_n 12 hK rfl rfl l3 ?_
    refine x_bipush 14 hK rfl rfl rfl ?_
    refine x_if_icmp_ge 34 17 hK rfl rfl rfl (by omega) (by omega) (fun c3 => ?_) (fun c3 => ?_)
    · refine x_iload_n 35 hK rfl rfl l2 ?_
      exact x_iret hK rfl ⟨by rw [ee, show i = 9 by omega]; rfl, hG2, hF2⟩
    · refine x_iload_n 18 hK rfl rfl l2 ?_
      refine x_aload_n 19 hK rfl rfl l0 ?_
      refine x_getR 22 hK rfl rfl (sp_171 (h := h2) hG2) (rf_171_37 (h := h2) hG2) ?_
      refine x_iload_n 23 hK rfl rfl l3 ?_
      have g272 := gi_r h2 190 i.toNat
      refine x_ialoadE 24 hK rfl rfl (sp_190 (h := h2) hG2) (by omega) (by omega) (by omega) (e' := (gi h2 190 i.toNat)) (rfl) ?_
      refine x_min 27 hK rfl rfl (Nat.le_of_ble_eq_true rfl) (by omega) (by omega) ?_
      refine x_istore_n 28 hK rfl rfl _ rfl ?_
      refine x_iinc 31 hK rfl rfl (lk1_n l3 (by decide) (Or.inl rfl)) _ rfl ?_
      refine x_goto 11 hK rfl rfl ?_
      exact ih _ (by omega) (min e (gi h2 190 i.toNat)) (i + 1) _ _ rfl (by omega) (lv2) ((by rw [fwN_s i0.1, ee, le (by omega)])) (lk1_n (lk1_n l0 (by decide) (Or.inl rfl)) (by decide) (Or.inl rfl)) (lk1_n (lk1_n l1 (by decide) (Or.inl rfl)) (by decide) (Or.inl rfl)) (lk1_n lk1_s (by decide) (Or.inl rfl)) lk1_s (hG2) (hF2)
  refine x_aload_n 1 hK rfl rfl rfl ?_
  refine x_iload_n 2 hK rfl rfl rfl ?_
  refine x_callV 5 hK hmono rfl rfl [.ref 171, .int (I n)] [] rfl rfl (Nat.le_of_ble_eq_true rfl) (Nat.le_of_ble_eq_true rfl) rfl (sp_171 (h := h) hG) (CLd_le (Nat.le_of_ble_eq_true rfl) (ctX11_laysLeast hSP hG hX hn h0)) ?_
  rintro v2 h2 ⟨rfl, hG2, hF2, lv2⟩
  refine x_sipush 8 hK rfl rfl rfl ?_
  refine x_istore_n 9 hK rfl rfl [(2, .int (I 1000)), (0, .ref 171), (1, .int (I n))] rfl ?_
  refine x_iconst 10 hK rfl rfl ?_
  refine x_istore_n 11 hK rfl rfl [(3, .int (I 0)), (2, .int (I 1000)), (0, .ref 171), (1, .int (I n))] rfl ?_
  exact loop _ 1000 0 _ _ rfl (by omega) (lv2) (rfl) rfl rfl rfl rfl (hG2) (hF2)
set_option maxRecDepth 4000 in
theorem ctX11_choosesAny {SP : CT} (hSP : MONO SP) {sh : List (Nat × Nat)} {h : aH} (hG : GD gE gRL sh h) {a : Int} (ra : r32 a) : CLd SP 1 mX11_choosesAny [.ref 171, .int (I a)] h 0 0 (fun rv h' => rv = none ∧ GD gE gRL sh h' ∧ FRM gRL [(0, 72, 0, 29)] h h' ∧ ∀ k : Nat, k < 30 → gi h' 189 k = if (k : Int) < a then 0 else 2) := by
  refine x_met _ rfl (Nat.le_of_ble_eq_true rfl) (fun K hK => ?_)
  have hmono := MONO_CLd hSP 0
  have loop : ∀ (mz : Nat) (i : Int) (h4 : aH) (ls : List (Nat × Value)), ((30 - i).toNat = mz) → (0 ≤ i ∧ i ≤ 30) → (∀ k : Nat, k < i → gi h4 189 k = if (k : Int) < a then 0 else 2) → lk ls 0 = some (.ref 171) → lk ls 1 = some (.int (I a)) → lk ls 2 = some (.int (I i)) → GD gE gRL sh h4 → FRM gRL [(0, 72, 0, 29)] h h4 → K 2 ls [] h4 0 0 := by
    intro mz
    induction mz using Nat.strongRecOn with
    | ind mz ih =>
    intro i h4 ls hm i0 n4 l0 l1 l2 hG4 hF4
    refine x_iload_n 3 hK rfl rfl l2 ?_
    refine x_bipush 5 hK rfl rfl rfl ?_
    refine x_if_icmp_ge 30 8 hK rfl rfl rfl (by omega) (by omega) (fun c3 => ?_) (fun c3 => ?_)
    · exact x_vret hK rfl ⟨rfl, hG4, hF4, fun k hk => n4 k (by omega)⟩
    · refine x_aload_n 9 hK rfl rfl l0 ?_
      refine x_getR 12 hK rfl rfl (sp_171 (h := h4) hG4) (rf_171_36 (h := h4) hG4) ?_
      refine x_iload_n 13 hK rfl rfl l2 ?_
      refine x_iload_n 14 hK rfl rfl l2 ?_
      refine x_iload_n 15 hK rfl rfl l1 ?_
      refine x_if_icmp_ge 22 18 hK rfl rfl rfl (by omega) (by omega) (fun c10 => ?_) (fun c10 => ?_)
      · refine x_iconst 23 hK rfl rfl ?_
        refine x_iastore 24 hK rfl rfl (sp_189 (h := h4) hG4) (by omega) (by omega) (by omega) ?_
        refine x_iinc 27 hK rfl rfl l2 _ rfl ?_
        refine x_goto 2 hK rfl rfl ?_
        exact ih _ (by omega) (i + 1) _ _ rfl (by omega) ((fun l hl => if c : l = i.toNat then (by subst c; rw [if_neg (by omega)]; exact gi_same (by omega)) else (gi_k (by omega) _).trans (n4 l (by omega)))) (lk1_n l0 (by decide) (Or.inl rfl)) (lk1_n l1 (by decide) (Or.inl rfl)) lk1_s (GD_wu (hG4) (r := 72) rfl (by omega) rfl (by omega) (by omega)) (FRM_wn 0 29 (hF4) (r := 72) rfl rfl rfl (by omega) (by omega))
      · refine x_iconst 19 hK rfl rfl ?_
        refine x_goto 23 hK rfl rfl ?_
        refine x_iastore 24 hK rfl rfl (sp_189 (h := h4) hG4) (by omega) (by omega) (by omega) ?_
        refine x_iinc 27 hK rfl rfl l2 _ rfl ?_
        refine x_goto 2 hK rfl rfl ?_
        exact ih _ (by omega) (i + 1) _ _ rfl (by omega) ((fun l hl => if c : l = i.toNat then (by subst c; rw [if_pos (by omega)]; exact gi_same (by omega)) else (gi_k (by omega) _).trans (n4 l (by omega)))) (lk1_n l0 (by decide) (Or.inl rfl)) (lk1_n l1 (by decide) (Or.inl rfl)) lk1_s (GD_wu (hG4) (r := 72) rfl (by omega) rfl (by omega) (by omega)) (FRM_wn 0 29 (hF4) (r := 72) rfl rfl rfl (by omega) (by omega))
  refine x_iconst 1 hK rfl rfl ?_
  refine x_istore_n 2 hK rfl rfl [(2, .int (I 0)), (0, .ref 171), (1, .int (I a))] rfl ?_
  exact loop _ 0 _ _ rfl (by omega) ((fun l hl => absurd hl (by omega))) rfl rfl rfl (hG) ((FRM.rf : FRM gRL [(0, 72, 0, 29)] h h))
end
section
/-! A PLAN (the reference) -/
/-- choices: those that are made, else any -/
noncomputable def chL (vs : List Int) : Int → Int := fun j => if 0 ≤ j ∧ j < (vs.length : Nat) then vs.getD j.toNat 0 else 2
theorem chL_k (vs : List Int) : chL vs (vs.length : Nat) = 2 := if_neg (fun z => by omega)
theorem chL_s (vs : List Int) (v : Int) : chL (vs ++ [v]) = upC (chL vs) (vs.length : Nat) v := by
  funext j
  show (if 0 ≤ j ∧ j < ((vs ++ [v]).length : Nat) then (vs ++ [v]).getD j.toNat 0 else 2) = if j = (vs.length : Nat) then v else if 0 ≤ j ∧ j < (vs.length : Nat) then vs.getD j.toNat 0 else 2
  by_cases c : j = (vs.length : Nat)
  · rw [if_pos c, if_pos (by simp; omega), c]
    simp
  · rw [if_neg c]
    by_cases c2 : 0 ≤ j ∧ j < (vs.length : Nat)
    · rw [if_pos c2, if_pos (by simp; omega), List.getD_eq_getElem?_getD, List.getElem?_append_left (by omega), ← List.getD_eq_getElem?_getD]
    · rw [if_neg c2, if_neg (by simp; omega)]
/-- the fewest orders with which she hits nothing in n STEPS, those that are chosen among them -/
noncomputable def plP (h : aH) (n : Int) (vs : List Int) : Int := fwN (opsF (chL vs) (gi h 171 5) (fun t g => hitN (gi h 175) (gi h 176) ((gi h 178 0) + t) (g : Int) (gi h 171 6).toNat) (opsT (wl (RC h 178 0)) (gi h 178 0) (gi h 178 4) (dlA h) n.toNat) (fun (l : Nat) => if (l : Int) = gi h 178 1 then 0 else 1000)) 9
noncomputable def plV (h : aH) (n left : Int) (vs : List Int) : Int := if (0 < ((vs.length : Nat) : Int) ∨ (gi h 178 4) ≠ (gi h 178 0)) ∧ ((vs.length : Nat) : Int) + dlA h ((gi h 178 0) + (vs.length : Nat)) ≤ n then (if plP h n (vs ++ [-1]) + 1 = left then -1 else if plP h n (vs ++ [0]) = left then 0 else 1) else 0
noncomputable def plR (h : aH) (n : Int) : Nat → Int → List Int → List Int
  | 0, _, vs => vs
  | d + 1, left, vs => plR h n d (left - if plV h n left vs = 0 then 0 else 1) (vs ++ [plV h n left vs])
theorem opsT_n {L : List (Int × Int × Int)} {now last : Int} {dl : Int → Int} : ∀ (n : Nat) {q : Int × Int}, q ∈ opsT L now last dl n → q.1 = 1 → 0 ≤ q.2 ∧ q.2 < n
  | 0, q, h, _ => absurd h List.not_mem_nil
  | n + 1, q, h, h1 => by
    rcases List.mem_append.mp h with h | h
    · have := opsT_n n h h1; omega
    · rcases List.mem_append.mp h with h | h
      · have := wyF_1 h; omega
      · rcases List.mem_append.mp h with h | h
        · have := blkC_1 (n + 1) h; omega
        · obtain rfl := List.mem_singleton.mp h
          exact absurd h1 (by show ¬ (2 : Int) = 1; omega)
theorem plP_r (h : aH) (n : Int) (vs : List Int) : 0 ≤ plP h n vs ∧ plP h n vs ≤ 1000 := fwN_r (opsF_r _ _ u0_r) 9
/-- one that can be given in time -/
theorem plP_any {h : aH} {n : Int} {vs : List Int} (hn : 0 ≤ n) (hc : (0 < ((vs.length : Nat) : Int) ∨ (gi h 178 4) ≠ (gi h 178 0)) ∧ ((vs.length : Nat) : Int) + dlA h ((gi h 178 0) + (vs.length : Nat)) ≤ n) :
    plP h n vs = min (min (min 1000 (plP h n (vs ++ [-1]) + 1)) (plP h n (vs ++ [0]))) (min 1000 (plP h n (vs ++ [1]) + 1)) := by
  obtain ⟨A, B, e, a, b⟩ := opsT_at (L := wl (RC h 178 0)) (now := (gi h 178 0)) (last := (gi h 178 4)) (dl := dlA h) (k := ((vs.length : Nat) : Int)) (by omega) (dlA_b h _).1 hc.1 n.toNat (by omega)
  unfold plP
  rw [e, chL_s, chL_s, chL_s]
  exact one_ch u0_r a b (chL_k vs)
/-- one that can't -/
theorem plP_not {h : aH} {n : Int} {vs : List Int} (hn : 0 ≤ n) (v : Int) (hc : ¬ ((0 < ((vs.length : Nat) : Int) ∨ (gi h 178 4) ≠ (gi h 178 0)) ∧ ((vs.length : Nat) : Int) + dlA h ((gi h 178 0) + (vs.length : Nat)) ≤ n)) : plP h n (vs ++ [v]) = plP h n vs := by
  unfold plP
  rw [chL_s, opsF_ch (ch := upC (chL vs) (vs.length : Nat) v) (ch' := chL vs)]
  intro q hq h1
  refine if_neg fun z => hc ?_
  have := opsT_1 n.toNat hq h1
  rw [z] at this
  exact ⟨this.1, by omega⟩
theorem plV_ok {h : aH} {n left : Int} {vs : List Int} (hn : 0 ≤ n) (hl : plP h n vs = left) (h1 : left < 1000) : plP h n (vs ++ [plV h n left vs]) = left - (if plV h n left vs = 0 then 0 else 1) := by
  unfold plV
  by_cases c : (0 < ((vs.length : Nat) : Int) ∨ (gi h 178 4) ≠ (gi h 178 0)) ∧ ((vs.length : Nat) : Int) + dlA h ((gi h 178 0) + (vs.length : Nat)) ≤ n
  · rw [if_pos c]
    have e := plP_any hn c
    by_cases c1 : plP h n (vs ++ [-1]) + 1 = left
    · rw [if_pos c1, if_neg (by omega)]; omega
    · rw [if_neg c1]
      by_cases c2 : plP h n (vs ++ [0]) = left
      · rw [if_pos c2, if_pos rfl]; omega
      · rw [if_neg c2, if_neg (by omega)]; omega
  · rw [if_neg c, if_pos rfl, plP_not hn 0 c]; omega
theorem plV_b (h : aH) (n left : Int) (vs : List Int) : -1 ≤ plV h n left vs ∧ plV h n left vs ≤ 1 := by
  unfold plV
  (repeat' split) <;> omega
theorem may_i {k a b : Int} : b2i (decide (0 < k) || decide (a ≠ b)) = 0 ↔ ¬ (0 < k ∨ a ≠ b) := by
  by_cases c1 : 0 < k
  · rw [decide_eq_true c1]; simp [b2i, c1]
  · rw [decide_eq_false c1]
    by_cases c2 : a ≠ b
    · rw [decide_eq_true c2]; simp [b2i, c2]
    · rw [decide_eq_false c2]; simp [b2i, c1, c2]
theorem mh72 (k : Nat) : mHas [(0, 67, 0, 79), (0, 68, 0, 3), (0, 73, 0, 8), (0, 74, 0, 8)] 0 72 k = false := mHas_non (by rfl) k
set_option maxHeartbeats 16000000 in
set_option maxRecDepth 4000 in
theorem ctX11_plan {SP : CT} (hSP : MONO SP) {sh : List (Nat × Nat)} {h : aH} (hG : GD gE gRL sh h) {n : Int} (hX : XI h) (rn : r32 n) (h0 : 0 ≤ gi h 178 0 ∧ gi h 178 0 ≤ 1000000) : CLd SP 12 mX11_plan [.ref 171, .int (I n)] h 0 0 (fun rv h' => ((¬ (1 ≤ n ∧ n ≤ 30) ∧ rv = some (.int (I (-1))) ∧ mrow h' = mrow h) ∨ ((1 ≤ n ∧ n ≤ 30) ∧ 1000 ≤ (plP h n []) ∧ rv = some (.int (I (-2))) ∧ mrow h' = mrow h) ∨ ((1 ≤ n ∧ n ≤ 30) ∧ (plP h n []) < 1000 ∧ rv = some (.int (I (plP h n []))) ∧ mrow h' = plR h n n.toNat (plP h n []) [])) ∧ GD gE gRL sh h' ∧ FRM gRL [(0, 54, 0, 0), (0, 54, 1, 1), (0, 67, 0, 79), (0, 68, 0, 3), (0, 72, 0, 29), (0, 73, 0, 8), (0, 74, 0, 8), (1, 55, 0, 39)] h h' ∧ gi h' 171 0 = 0) := by
  refine x_met _ rfl (Nat.le_of_ble_eq_true rfl) (fun K hK => ?_)
  have hmono := MONO_CLd hSP 11
  have loopK : ∀ (mz : Nat) (left k : Int) (h4 : aH) (ls : List (Nat × Value)), ((n - k).toNat = mz) → (0 ≤ n ∧ n ≤ 30) → (1 ≤ n) → ((plP h n []) < 1000) → (0 ≤ k ∧ k ≤ n) → (gi h4 171 0 = 0) → ((((mrow h4).length : Nat) : Int) = k) → (gi h4 171 1 = k) → (∀ j : Int, 0 ≤ j → j < 30 → gi h4 189 j.toNat = chL (mrow h4) j) → (plP h n (mrow h4) = left) → (left < 1000) → (plR h n (n - k).toNat left (mrow h4) = plR h n n.toNat (plP h n []) []) → lk ls 0 = some (.ref 171) → lk ls 1 = some (.int (I n)) → lk ls 2 = some (.int (I (plP h n []))) → lk ls 3 = some (.int (I left)) → lk ls 4 = some (.int (I k)) → GD gE gRL sh h4 → FRM gRL [(0, 54, 0, 0), (0, 54, 1, 1), (0, 67, 0, 79), (0, 68, 0, 3), (0, 72, 0, 29), (0, 73, 0, 8), (0, 74, 0, 8), (1, 55, 0, 39)] h h4 → K 50 ls [] h4 0 0 := by
    intro mz
    induction mz using Nat.strongRecOn with
    | ind mz ih =>
    intro left k h4 ls hm hn n1 p1 k0 t4 vl rl cv lf lt1 e4 l0 l1 l2 l3 l4 hG4 hF4
    have p4 := plP_r h n (mrow h4)
    obtain ⟨vs, hvs⟩ : ∃ vs, mrow h4 = vs := ⟨_, rfl⟩
    rw [hvs] at vl cv lf e4 p4
    have vo := plV_ok hn.1 lf lt1
    have vb := plV_b h n left vs
    have vd : plV h n left vs = if (0 < k ∨ (gi h 178 4) ≠ (gi h 178 0)) ∧ k + dlA h ((gi h 178 0) + k) ≤ n then (if plP h n (vs ++ [-1]) + 1 = left then -1 else if plP h n (vs ++ [0]) = left then 0 else 1) else 0 := by rw [← vl]; rfl
    have db := dlA_b h ((gi h 178 0) + k)
    have g41 := gri 0 40 hG4 (a := 171) (r := 54) (k := 1) rfl rfl
    have pa := plP_any (h := h) (n := n) (vs := vs) hn.1
    rw [vl] at pa
    refine x_iload 52 hK rfl rfl l4 ?_
    refine x_iload_n 53 hK rfl rfl l1 ?_
    refine x_if_icmp_ge 206 56 hK rfl rfl rfl (by omega) (by omega) (fun c3 => ?_) (fun c3 => ?_)
    · refine x_iload_n 207 hK rfl rfl l2 ?_
      have ke : (n - k).toNat = 0 := by omega
      rw [ke] at e4
      exact x_iret hK rfl ⟨Or.inr (Or.inr ⟨⟨n1, hn.2⟩, p1, rfl, hvs.trans e4⟩), hG4, hF4, t4⟩
    · have md : (n - k).toNat = (n - (k + 1)).toNat + 1 := by omega
      refine x_aload_n 57 hK rfl rfl l0 ?_
      refine x_iload 59 hK rfl rfl l4 ?_
      refine x_callV 62 hK hmono rfl rfl [.ref 171, .int (I k)] [] rfl rfl (Nat.le_of_ble_eq_true rfl) (Nat.le_of_ble_eq_true rfl) rfl (sp_171 (h := h4) hG4) (CLd_le (Nat.le_of_ble_eq_true rfl) (ctX11_mayGive hSP hG4 (by omega))) ?_
      rintro v9 h9 ⟨e9, rfl⟩
      rw [e9, show gi h4 178 0 = gi h 178 0 from FRM_gi hF4 (r := 61) rfl rfl, show gi h4 178 4 = gi h 178 4 from FRM_gi hF4 (r := 61) rfl rfl]
      clear e9
      have mb := b2i_r (decide (0 < k) || decide ((gi h 178 4) ≠ (gi h 178 0)))
      have mi : b2i (decide (0 < k) || decide ((gi h 178 4) ≠ (gi h 178 0))) = 0 ↔ ¬ (0 < k ∨ (gi h 178 4) ≠ (gi h 178 0)) := may_i
      refine x_if_eq 89 65 hK rfl rfl rfl (by omega) (fun c10 => ?_) (fun c10 => ?_)
      · refine x_iconst 90 hK rfl rfl ?_
        refine x_istore 92 hK rfl rfl _ rfl ?_
        refine x_iload 94 hK rfl rfl lk1_s ?_
        refine x_if_eq 101 97 hK rfl rfl rfl (by omega) (fun _ => ?_) (fun c => by omega)
        refine x_iconst 102 hK rfl rfl ?_
        refine x_istore 104 hK rfl rfl _ rfl ?_
        refine x_iconst 105 hK rfl rfl ?_
        refine x_istore 107 hK rfl rfl _ rfl ?_
        refine x_iload 109 hK rfl rfl lk1_s ?_
        refine x_if_ne 177 112 hK rfl rfl rfl (by omega) (fun c => by omega) (fun _ => ?_)
        refine x_aload_n 113 hK rfl rfl (lk1_n (lk1_n (lk1_n l0 (by decide) (Or.inl rfl)) (by decide) (Or.inl rfl)) (by decide) (Or.inl rfl)) ?_
        refine x_getR 116 hK rfl rfl (sp_171 (h := h4) hG4) (rf_171_36 (h := h4) hG4) ?_
        refine x_iload 118 hK rfl rfl (lk1_n (lk1_n (lk1_n l4 (by decide) (Or.inl rfl)) (by decide) (Or.inl rfl)) (by decide) (Or.inl rfl)) ?_
        refine x_iload 120 hK rfl rfl (lk1_n lk1_s (by decide) (Or.inl rfl)) ?_
        refine x_iastore 121 hK rfl rfl (sp_189 (h := h4) hG4) (by omega) (by omega) (by omega) ?_
        refine x_iload 123 hK rfl rfl (lk1_n (lk1_n lk1_s (by decide) (Or.inl rfl)) (by decide) (Or.inl rfl)) ?_
        refine x_if_eq 149 126 hK rfl rfl rfl (by omega) (fun _ => ?_) (fun c => by omega)
        refine x_iconst 150 hK rfl rfl ?_
        refine x_goto 154 hK rfl rfl ?_
        refine x_istore 156 hK rfl rfl _ rfl ?_
        refine x_iload 158 hK rfl rfl (lk1_n (lk1_n lk1_s (by decide) (Or.inl rfl)) (by decide) (Or.inl rfl)) ?_
        refine x_iload 160 hK rfl rfl lk1_s ?_
        refine x_if_ne 167 163 hK rfl rfl rfl (by omega) (fun _ => ?_) (fun c => by omega)
        refine x_iconst 168 hK rfl rfl ?_
        have hGp273 : GD gE gRL sh (wI h4 189 k.toNat 0) := GD_wu (hG4) (r := 72) rfl (by omega) rfl (by omega) (by omega)
        refine x_callS 171 hK hmono rfl (Or.inl rfl) rfl [.int (I 0)] [.int (I 0)] rfl rfl (Nat.le_of_ble_eq_true rfl) (Nat.le_of_ble_eq_true rfl) (CLd_le (Nat.le_of_ble_eq_true rfl) (ctX11_flag (by omega))) ?_
        rintro v9 h9 ⟨e9, rfl⟩
        rw [e9]
        clear e9
        refine x_iadd 172 hK rfl rfl ?_
        refine x_istore 174 hK rfl rfl _ rfl ?_
        refine x_goto 107 hK rfl rfl ?_
        refine x_iload 109 hK rfl rfl (lk1_n lk1_s (by decide) (Or.inl rfl)) ?_
        refine x_if_ne 177 112 hK rfl rfl rfl (by omega) (fun _ => ?_) (fun c => by omega)
        have ve : plV h n left vs = 0 := by rw [vd, if_neg (by omega)]
        rw [ve] at vo
        refine x_iload_n 178 hK rfl rfl (lk1_n (lk1_n (lk1_n (lk1_n (lk1_n l3 (by decide) (Or.inl rfl)) (by decide) (Or.inl rfl)) (by decide) (Or.inl rfl)) (by decide) (Or.inl rfl)) (by decide) (Or.inl rfl)) ?_
        refine x_iload 180 hK rfl rfl lk1_s ?_
        refine x_if_eq 187 183 hK rfl rfl rfl (by omega) (fun _ => ?_) (fun c => by omega)
        refine x_iconst 188 hK rfl rfl ?_
        have hGp275 : GD gE gRL sh (wI h4 189 k.toNat 0) := GD_wu (hG4) (r := 72) rfl (by omega) rfl (by omega) (by omega)
        refine x_callS 191 hK hmono rfl (Or.inl rfl) rfl [.int (I 0)] [.int (I left)] rfl rfl (Nat.le_of_ble_eq_true rfl) (Nat.le_of_ble_eq_true rfl) (CLd_le (Nat.le_of_ble_eq_true rfl) (ctX11_flag (by omega))) ?_
        rintro v9 h9 ⟨e9, rfl⟩
        rw [e9]
        clear e9
        refine x_isub 192 hK rfl rfl ?_
        refine x_istore_n 193 hK rfl rfl _ rfl ?_
        refine x_aload_n 194 hK rfl rfl (lk1_n (lk1_n (lk1_n (lk1_n (lk1_n (lk1_n l0 (by decide) (Or.inl rfl)) (by decide) (Or.inl rfl)) (by decide) (Or.inl rfl)) (by decide) (Or.inl rfl)) (by decide) (Or.inl rfl)) (by decide) (Or.inl rfl)) ?_
        refine x_iload 196 hK rfl rfl (lk1_n lk1_s (by decide) (Or.inl rfl)) ?_
        refine x_i2l 197 hK rfl rfl (by omega) ?_
        have hGp277 : GD gE gRL sh (wI h4 189 k.toNat 0) := GD_wu (hG4) (r := 72) rfl (by omega) rfl (by omega) (by omega)
        have z279 : gi (wI h4 189 k.toNat 0) 171 1 = k := (gi_a (by decide) _).trans (rl)
        have z279r : mrow (wI h4 189 k.toNat 0) = vs := (mrow_a (by decide)).trans (hvs)
        refine x_callV 200 hK hmono rfl rfl [.ref 171, .long (J 0)] [] rfl rfl (Nat.le_of_ble_eq_true rfl) (Nat.le_of_ble_eq_true rfl) rfl (sp_171 (h := h4) hG4) (CLd_le (Nat.le_of_ble_eq_true rfl) (ctX11_entersF hSP hGp277 (by omega) (by omega))) ?_
        rintro v278 h278 ⟨rfl, hG278, hF278, t278, s278⟩
        rw [z279] at t278
        rw [z279r] at s278
        refine x_iinc 203 hK rfl rfl (lk1_n (lk1_n (lk1_n (lk1_n (lk1_n (lk1_n l4 (by decide) (Or.inl rfl)) (by decide) (Or.inl rfl)) (by decide) (Or.inl rfl)) (by decide) (Or.inl rfl)) (by decide) (Or.inl rfl)) (by decide) (Or.inl rfl)) _ rfl ?_
        refine x_goto 50 hK rfl rfl ?_
        exact ih _ (by rw [← hm, md]; exact Nat.lt_succ_self _) (left - 0) (k + 1) _ _ rfl (hn) (n1) (p1) (by omega) ((FRM_gi hF278 (r := 54) rfl rfl).trans ((gi_a (by decide) _).trans (t4))) ((by rw [show mrow h278 = vs ++ [0] from s278, List.length_append]; simp; omega)) ((t278)) ((by rw [show mrow h278 = vs ++ [0] from s278]; exact fun j j0 j1 => if c : j = k then (by subst c; rw [chL_s, vl]; exact ((FRM_gi hF278 (r := 72) rfl rfl).trans (gi_same (by omega))).trans (if_pos rfl).symm) else (by rw [chL_s, vl]; exact ((FRM_gi hF278 (r := 72) rfl rfl).trans (gi_k (by omega) _)).trans ((cv j j0 j1).trans (if_neg c).symm)))) ((by rw [show mrow h278 = vs ++ [0] from s278, vo, if_pos rfl])) ((by omega)) ((by rw [show mrow h278 = vs ++ [0] from s278, ← e4, md]; show _ = plR h n _ (left - if plV h n left vs = 0 then 0 else 1) (vs ++ [plV h n left vs]); rw [ve, if_pos rfl])) (lk1_n (lk1_n (lk1_n (lk1_n (lk1_n (lk1_n (lk1_n l0 (by decide) (Or.inl rfl)) (by decide) (Or.inl rfl)) (by decide) (Or.inl rfl)) (by decide) (Or.inl rfl)) (by decide) (Or.inl rfl)) (by decide) (Or.inl rfl)) (by decide) (Or.inl rfl)) (lk1_n (lk1_n (lk1_n (lk1_n (lk1_n (lk1_n (lk1_n l1 (by decide) (Or.inl rfl)) (by decide) (Or.inl rfl)) (by decide) (Or.inl rfl)) (by decide) (Or.inl rfl)) (by decide) (Or.inl rfl)) (by decide) (Or.inl rfl)) (by decide) (Or.inl rfl)) (lk1_n (lk1_n (lk1_n (lk1_n (lk1_n (lk1_n (lk1_n l2 (by decide) (Or.inl rfl)) (by decide) (Or.inl rfl)) (by decide) (Or.inl rfl)) (by decide) (Or.inl rfl)) (by decide) (Or.inl rfl)) (by decide) (Or.inl rfl)) (by decide) (Or.inl rfl)) (lk1_n lk1_s (by decide) (Or.inl rfl)) lk1_s (hG278) ((FRM_wn 0 29 (hF4) (r := 72) rfl rfl rfl (by omega) (by omega)).trans ((hF278).mono rfl))
      · refine x_iload 67 hK rfl rfl l4 ?_
        refine x_aload_n 68 hK rfl rfl l0 ?_
        refine x_aload_n 69 hK rfl rfl l0 ?_
        refine x_getR 72 hK rfl rfl (sp_171 (h := h4) hG4) (rf_171_14 (h := h4) hG4) ?_
        refine x_iconst 73 hK rfl rfl ?_
        have g280 := gi_r h 178 0
        refine x_ialoadE 74 hK rfl rfl (sp_178 (h := h4) hG4) (by omega) (by omega) (by omega) (e' := (gi h 178 0)) (FRM_gi hF4 (r := 61) rfl rfl) ?_
        refine x_iload 76 hK rfl rfl l4 ?_
        refine x_iadd 77 hK rfl rfl ?_
        have hXd : XI h4 := (xOk_ok rfl _ h4 hF4 hX)
        refine x_callV 80 hK hmono rfl rfl [.ref 171, .int (I ((gi h 178 0) + k))] [.int (I k)] rfl rfl (Nat.le_of_ble_eq_true rfl) (Nat.le_of_ble_eq_true rfl) rfl (sp_171 (h := h4) hG4) (CLd_le (Nat.le_of_ble_eq_true rfl) (ctX11_delayAtF hSP hG4 hXd (by omega))) ?_
        rw [show dlA h4 = dlA h from funext fun s => dlA_F hF4 rfl s]
        rintro v281 h281 ⟨rfl, hG281, hF281⟩
        refine x_iadd 81 hK rfl rfl ?_
        refine x_iload_n 82 hK rfl rfl l1 ?_
        refine x_if_icmp_gt 89 85 hK rfl rfl rfl (by omega) (by omega) (fun c67 => ?_) (fun c67 => ?_)
        · refine x_iconst 90 hK rfl rfl ?_
          refine x_istore 92 hK rfl rfl _ rfl ?_
          refine x_iload 94 hK rfl rfl lk1_s ?_
          refine x_if_eq 101 97 hK rfl rfl rfl (by omega) (fun _ => ?_) (fun c => by omega)
          refine x_iconst 102 hK rfl rfl ?_
          refine x_istore 104 hK rfl rfl _ rfl ?_
          refine x_iconst 105 hK rfl rfl ?_
          refine x_istore 107 hK rfl rfl _ rfl ?_
          refine x_iload 109 hK rfl rfl lk1_s ?_
          refine x_if_ne 177 112 hK rfl rfl rfl (by omega) (fun c => by omega) (fun _ => ?_)
          refine x_aload_n 113 hK rfl rfl (lk1_n (lk1_n (lk1_n l0 (by decide) (Or.inl rfl)) (by decide) (Or.inl rfl)) (by decide) (Or.inl rfl)) ?_
          refine x_getR 116 hK rfl rfl (sp_171 (h := h281) hG281) (rf_171_36 (h := h281) hG281) ?_
          refine x_iload 118 hK rfl rfl (lk1_n (lk1_n (lk1_n l4 (by decide) (Or.inl rfl)) (by decide) (Or.inl rfl)) (by decide) (Or.inl rfl)) ?_
          refine x_iload 120 hK rfl rfl (lk1_n lk1_s (by decide) (Or.inl rfl)) ?_
          refine x_iastore 121 hK rfl rfl (sp_189 (h := h281) hG281) (by omega) (by omega) (by omega) ?_
          refine x_iload 123 hK rfl rfl (lk1_n (lk1_n lk1_s (by decide) (Or.inl rfl)) (by decide) (Or.inl rfl)) ?_
          refine x_if_eq 149 126 hK rfl rfl rfl (by omega) (fun _ => ?_) (fun c => by omega)
          refine x_iconst 150 hK rfl rfl ?_
          refine x_goto 154 hK rfl rfl ?_
          refine x_istore 156 hK rfl rfl _ rfl ?_
          refine x_iload 158 hK rfl rfl (lk1_n (lk1_n lk1_s (by decide) (Or.inl rfl)) (by decide) (Or.inl rfl)) ?_
          refine x_iload 160 hK rfl rfl lk1_s ?_
          refine x_if_ne 167 163 hK rfl rfl rfl (by omega) (fun _ => ?_) (fun c => by omega)
          refine x_iconst 168 hK rfl rfl ?_
          have hGp282 : GD gE gRL sh (wI h281 189 k.toNat 0) := GD_wu (hG281) (r := 72) rfl (by omega) rfl (by omega) (by omega)
          refine x_callS 171 hK hmono rfl (Or.inl rfl) rfl [.int (I 0)] [.int (I 0)] rfl rfl (Nat.le_of_ble_eq_true rfl) (Nat.le_of_ble_eq_true rfl) (CLd_le (Nat.le_of_ble_eq_true rfl) (ctX11_flag (by omega))) ?_
          rintro v9 h9 ⟨e9, rfl⟩
          rw [e9]
          clear e9
          refine x_iadd 172 hK rfl rfl ?_
          refine x_istore 174 hK rfl rfl _ rfl ?_
          refine x_goto 107 hK rfl rfl ?_
          refine x_iload 109 hK rfl rfl (lk1_n lk1_s (by decide) (Or.inl rfl)) ?_
          refine x_if_ne 177 112 hK rfl rfl rfl (by omega) (fun _ => ?_) (fun c => by omega)
          have ve : plV h n left vs = 0 := by rw [vd, if_neg (by omega)]
          rw [ve] at vo
          refine x_iload_n 178 hK rfl rfl (lk1_n (lk1_n (lk1_n (lk1_n (lk1_n l3 (by decide) (Or.inl rfl)) (by decide) (Or.inl rfl)) (by decide) (Or.inl rfl)) (by decide) (Or.inl rfl)) (by decide) (Or.inl rfl)) ?_
          refine x_iload 180 hK rfl rfl lk1_s ?_
          refine x_if_eq 187 183 hK rfl rfl rfl (by omega) (fun _ => ?_) (fun c => by omega)
          refine x_iconst 188 hK rfl rfl ?_
          have hGp284 : GD gE gRL sh (wI h281 189 k.toNat 0) := GD_wu (hG281) (r := 72) rfl (by omega) rfl (by omega) (by omega)
          refine x_callS 191 hK hmono rfl (Or.inl rfl) rfl [.int (I 0)] [.int (I left)] rfl rfl (Nat.le_of_ble_eq_true rfl) (Nat.le_of_ble_eq_true rfl) (CLd_le (Nat.le_of_ble_eq_true rfl) (ctX11_flag (by omega))) ?_
          rintro v9 h9 ⟨e9, rfl⟩
          rw [e9]
          clear e9
          refine x_isub 192 hK rfl rfl ?_
          refine x_istore_n 193 hK rfl rfl _ rfl ?_
          refine x_aload_n 194 hK rfl rfl (lk1_n (lk1_n (lk1_n (lk1_n (lk1_n (lk1_n l0 (by decide) (Or.inl rfl)) (by decide) (Or.inl rfl)) (by decide) (Or.inl rfl)) (by decide) (Or.inl rfl)) (by decide) (Or.inl rfl)) (by decide) (Or.inl rfl)) ?_
          refine x_iload 196 hK rfl rfl (lk1_n lk1_s (by decide) (Or.inl rfl)) ?_
          refine x_i2l 197 hK rfl rfl (by omega) ?_
          have hGp286 : GD gE gRL sh (wI h281 189 k.toNat 0) := GD_wu (hG281) (r := 72) rfl (by omega) rfl (by omega) (by omega)
          have z288 : gi (wI h281 189 k.toNat 0) 171 1 = k := (gi_a (by decide) _).trans ((FRM_gi hF281 (r := 54) rfl rfl).trans (rl))
          have z288r : mrow (wI h281 189 k.toNat 0) = vs := (mrow_a (by decide)).trans ((mrow_F hF281 rfl rfl).trans (hvs))
          refine x_callV 200 hK hmono rfl rfl [.ref 171, .long (J 0)] [] rfl rfl (Nat.le_of_ble_eq_true rfl) (Nat.le_of_ble_eq_true rfl) rfl (sp_171 (h := h281) hG281) (CLd_le (Nat.le_of_ble_eq_true rfl) (ctX11_entersF hSP hGp286 (by omega) (by omega))) ?_
          rintro v287 h287 ⟨rfl, hG287, hF287, t287, s287⟩
          rw [z288] at t287
          rw [z288r] at s287
          refine x_iinc 203 hK rfl rfl (lk1_n (lk1_n (lk1_n (lk1_n (lk1_n (lk1_n l4 (by decide) (Or.inl rfl)) (by decide) (Or.inl rfl)) (by decide) (Or.inl rfl)) (by decide) (Or.inl rfl)) (by decide) (Or.inl rfl)) (by decide) (Or.inl rfl)) _ rfl ?_
          refine x_goto 50 hK rfl rfl ?_
          exact ih _ (by rw [← hm, md]; exact Nat.lt_succ_self _) (left - 0) (k + 1) _ _ rfl (hn) (n1) (p1) (by omega) ((FRM_gi hF287 (r := 54) rfl rfl).trans ((gi_a (by decide) _).trans ((FRM_gi hF281 (r := 54) rfl rfl).trans (t4)))) ((by rw [show mrow h287 = vs ++ [0] from s287, List.length_append]; simp; omega)) ((t287)) ((by rw [show mrow h287 = vs ++ [0] from s287]; exact fun j j0 j1 => if c : j = k then (by subst c; rw [chL_s, vl]; exact ((FRM_gi hF287 (r := 72) rfl rfl).trans (gi_same (by omega))).trans (if_pos rfl).symm) else (by rw [chL_s, vl]; exact ((FRM_gi hF287 (r := 72) rfl rfl).trans ((gi_k (by omega) _).trans (FRM_gi hF281 (r := 72) rfl (by first | rfl | exact mh72 _)))).trans ((cv j j0 j1).trans (if_neg c).symm)))) ((by rw [show mrow h287 = vs ++ [0] from s287, vo, if_pos rfl])) ((by omega)) ((by rw [show mrow h287 = vs ++ [0] from s287, ← e4, md]; show _ = plR h n _ (left - if plV h n left vs = 0 then 0 else 1) (vs ++ [plV h n left vs]); rw [ve, if_pos rfl])) (lk1_n (lk1_n (lk1_n (lk1_n (lk1_n (lk1_n (lk1_n l0 (by decide) (Or.inl rfl)) (by decide) (Or.inl rfl)) (by decide) (Or.inl rfl)) (by decide) (Or.inl rfl)) (by decide) (Or.inl rfl)) (by decide) (Or.inl rfl)) (by decide) (Or.inl rfl)) (lk1_n (lk1_n (lk1_n (lk1_n (lk1_n (lk1_n (lk1_n l1 (by decide) (Or.inl rfl)) (by decide) (Or.inl rfl)) (by decide) (Or.inl rfl)) (by decide) (Or.inl rfl)) (by decide) (Or.inl rfl)) (by decide) (Or.inl rfl)) (by decide) (Or.inl rfl)) (lk1_n (lk1_n (lk1_n (lk1_n (lk1_n (lk1_n (lk1_n l2 (by decide) (Or.inl rfl)) (by decide) (Or.inl rfl)) (by decide) (Or.inl rfl)) (by decide) (Or.inl rfl)) (by decide) (Or.inl rfl)) (by decide) (Or.inl rfl)) (by decide) (Or.inl rfl)) (lk1_n lk1_s (by decide) (Or.inl rfl)) lk1_s (hG287) ((FRM_wn 0 29 ((hF4).trans ((hF281).mono rfl)) (r := 72) rfl rfl rfl (by omega) (by omega)).trans ((hF287).mono rfl))
        · refine x_iconst 86 hK rfl rfl ?_
          refine x_goto 90 hK rfl rfl ?_
          refine x_istore 92 hK rfl rfl _ rfl ?_
          refine x_iload 94 hK rfl rfl lk1_s ?_
          refine x_if_eq 101 97 hK rfl rfl rfl (by omega) (fun c => by omega) (fun _ => ?_)
          refine x_iconst 98 hK rfl rfl ?_
          refine x_goto 102 hK rfl rfl ?_
          refine x_istore 104 hK rfl rfl _ rfl ?_
          refine x_iconst 105 hK rfl rfl ?_
          refine x_istore 107 hK rfl rfl _ rfl ?_
          refine x_iload 109 hK rfl rfl lk1_s ?_
          refine x_if_ne 177 112 hK rfl rfl rfl (by omega) (fun c => by omega) (fun _ => ?_)
          refine x_aload_n 113 hK rfl rfl (lk1_n (lk1_n (lk1_n l0 (by decide) (Or.inl rfl)) (by decide) (Or.inl rfl)) (by decide) (Or.inl rfl)) ?_
          refine x_getR 116 hK rfl rfl (sp_171 (h := h281) hG281) (rf_171_36 (h := h281) hG281) ?_
          refine x_iload 118 hK rfl rfl (lk1_n (lk1_n (lk1_n l4 (by decide) (Or.inl rfl)) (by decide) (Or.inl rfl)) (by decide) (Or.inl rfl)) ?_
          refine x_iload 120 hK rfl rfl (lk1_n lk1_s (by decide) (Or.inl rfl)) ?_
          refine x_iastore 121 hK rfl rfl (sp_189 (h := h281) hG281) (by omega) (by omega) (by omega) ?_
          refine x_iload 123 hK rfl rfl (lk1_n (lk1_n lk1_s (by decide) (Or.inl rfl)) (by decide) (Or.inl rfl)) ?_
          refine x_if_eq 149 126 hK rfl rfl rfl (by omega) (fun c => by omega) (fun _ => ?_)
          refine x_aload_n 127 hK rfl rfl (lk1_n (lk1_n (lk1_n l0 (by decide) (Or.inl rfl)) (by decide) (Or.inl rfl)) (by decide) (Or.inl rfl)) ?_
          refine x_iload_n 128 hK rfl rfl (lk1_n (lk1_n (lk1_n l1 (by decide) (Or.inl rfl)) (by decide) (Or.inl rfl)) (by decide) (Or.inl rfl)) ?_
          have hGp290 : GD gE gRL sh (wI h281 189 k.toNat (-1)) := GD_wu (hG281) (r := 72) rfl (by omega) rfl (by omega) (by omega)
          have hXc289 : XI (wI h281 189 k.toNat (-1)) := (xOk_ok rfl h281 (wI h281 189 k.toNat (-1)) (FRM_wn 0 29 ((FRM.rf : FRM gRL [(0, 72, 0, 29)] h281 h281)) (r := 72) rfl rfl rfl (by omega) (by omega)) (xOk_ok rfl _ h281 hF281 (xOk_ok rfl _ h4 hF4 hX)))
          refine x_callV 131 hK hmono rfl rfl [.ref 171, .int (I n)] [] rfl rfl (Nat.le_of_ble_eq_true rfl) (Nat.le_of_ble_eq_true rfl) rfl (sp_171 (h := h281) hG281) (CLd_le (Nat.le_of_ble_eq_true rfl) (ctX11_fewestOrders hSP hGp290 hXc289 hn (by rw [show gi (wI h281 189 k.toNat (-1)) 178 0 = gi h 178 0 from (gi_a (by decide) _).trans ((FRM_gi hF281 (r := 61) rfl rfl).trans (FRM_gi hF4 (r := 61) rfl rfl))]; exact h0))) ?_
          rw [show RC (wI h281 189 k.toNat (-1)) 178 0 = RC h 178 0 from (RC_w (by decide)).trans ((RC_F hF281 (r := 61) rfl rfl 0).trans (RC_F hF4 (r := 61) rfl rfl 0)), show gi (wI h281 189 k.toNat (-1)) 178 0 = gi h 178 0 from (gi_a (by decide) _).trans ((FRM_gi hF281 (r := 61) rfl rfl).trans (FRM_gi hF4 (r := 61) rfl rfl)), show gi (wI h281 189 k.toNat (-1)) 178 4 = gi h 178 4 from (gi_a (by decide) _).trans ((FRM_gi hF281 (r := 61) rfl rfl).trans (FRM_gi hF4 (r := 61) rfl rfl)), show gi (wI h281 189 k.toNat (-1)) 178 1 = gi h 178 1 from (gi_a (by decide) _).trans ((FRM_gi hF281 (r := 61) rfl rfl).trans (FRM_gi hF4 (r := 61) rfl rfl)), show gi (wI h281 189 k.toNat (-1)) 171 5 = gi h 171 5 from (gi_a (by decide) _).trans ((FRM_gi hF281 (r := 54) rfl rfl).trans (FRM_gi hF4 (r := 54) rfl rfl)), show gi (wI h281 189 k.toNat (-1)) 171 6 = gi h 171 6 from (gi_a (by decide) _).trans ((FRM_gi hF281 (r := 54) rfl rfl).trans (FRM_gi hF4 (r := 54) rfl rfl)), show gi (wI h281 189 k.toNat (-1)) 175 = gi h 175 from funext fun j => (gi_a (by decide) _).trans ((FRM_gi hF281 (r := 58) rfl rfl).trans (FRM_gi hF4 (r := 58) rfl rfl)), show gi (wI h281 189 k.toNat (-1)) 176 = gi h 176 from funext fun j => (gi_a (by decide) _).trans ((FRM_gi hF281 (r := 59) rfl rfl).trans (FRM_gi hF4 (r := 59) rfl rfl)), show dlA (wI h281 189 k.toNat (-1)) = dlA h from funext fun s => (dlA_w (by decide) (Or.inl (by decide))).trans ((dlA_F hF281 rfl s).trans (dlA_F hF4 rfl s))]
          have cv289 : ∀ j : Int, 0 ≤ j → j < 30 → gi (wI h281 189 k.toNat (-1)) 189 j.toNat = chL (vs ++ [(-1)]) j := fun j j0 j1 => if c : j = k then (by subst c; rw [chL_s, vl]; exact (gi_same (by omega)).trans (if_pos rfl).symm) else (by rw [chL_s, vl]; exact ((gi_k (by omega) _).trans (FRM_gi hF281 (r := 72) rfl (by first | rfl | exact mh72 _))).trans ((cv j j0 j1).trans (if_neg c).symm))
          rw [show fwN (opsF (fun jj => gi (wI h281 189 k.toNat (-1)) 189 jj.toNat) (gi h 171 5) (fun t g => hitN (gi h 175) (gi h 176) ((gi h 178 0) + t) (g : Int) (gi h 171 6).toNat) (opsT (wl (RC h 178 0)) (gi h 178 0) (gi h 178 4) (dlA h) n.toNat) (fun (l : Nat) => if (l : Int) = gi h 178 1 then 0 else 1000)) 9 = plP h n (vs ++ [(-1)]) from by unfold plP; rw [opsF_ch (ch := fun jj => gi (wI h281 189 k.toNat (-1)) 189 jj.toNat) (ch' := chL (vs ++ [(-1)])) _ _ fun z hz z1 => by have zn := opsT_n n.toNat hz z1; exact cv289 z.2 zn.1 (by omega)]]
          rintro v289 h289 ⟨rfl, hG289, hF289⟩
          have pb289 := plP_r h n (vs ++ [(-1)])
          refine x_iload 133 hK rfl rfl (lk1_n lk1_s (by decide) (Or.inl rfl)) ?_
          refine x_if_eq 140 136 hK rfl rfl rfl (by omega) (fun c => by omega) (fun _ => ?_)
          refine x_iconst 137 hK rfl rfl ?_
          refine x_goto 141 hK rfl rfl ?_
          refine x_callS 144 hK hmono rfl (Or.inl rfl) rfl [.int (I 1)] [.int (I (plP h n (vs ++ [(-1)])))] rfl rfl (Nat.le_of_ble_eq_true rfl) (Nat.le_of_ble_eq_true rfl) (CLd_le (Nat.le_of_ble_eq_true rfl) (ctX11_flag (by omega))) ?_
          rintro v9 h9 ⟨e9, rfl⟩
          rw [e9]
          clear e9
          refine x_iadd 145 hK rfl rfl ?_
          refine x_iload_n 146 hK rfl rfl (lk1_n (lk1_n (lk1_n l3 (by decide) (Or.inl rfl)) (by decide) (Or.inl rfl)) (by decide) (Or.inl rfl)) ?_
          refine x_if_icmp_ne 153 149 hK rfl rfl rfl (by omega) (by omega) (fun c142 => ?_) (fun c142 => ?_)
          · refine x_iconst 154 hK rfl rfl ?_
            refine x_istore 156 hK rfl rfl _ rfl ?_
            refine x_iload 158 hK rfl rfl (lk1_n (lk1_n lk1_s (by decide) (Or.inl rfl)) (by decide) (Or.inl rfl)) ?_
            refine x_iload 160 hK rfl rfl lk1_s ?_
            refine x_if_ne 167 163 hK rfl rfl rfl (by omega) (fun c => by omega) (fun _ => ?_)
            refine x_iconst 164 hK rfl rfl ?_
            refine x_goto 168 hK rfl rfl ?_
            refine x_callS 171 hK hmono rfl (Or.inl rfl) rfl [.int (I 1)] [.int (I (-1))] rfl rfl (Nat.le_of_ble_eq_true rfl) (Nat.le_of_ble_eq_true rfl) (CLd_le (Nat.le_of_ble_eq_true rfl) (ctX11_flag (by omega))) ?_
            rintro v9 h9 ⟨e9, rfl⟩
            rw [e9]
            clear e9
            refine x_iadd 172 hK rfl rfl ?_
            refine x_istore 174 hK rfl rfl _ rfl ?_
            refine x_goto 107 hK rfl rfl ?_
            refine x_iload 109 hK rfl rfl (lk1_n lk1_s (by decide) (Or.inl rfl)) ?_
            refine x_if_ne 177 112 hK rfl rfl rfl (by omega) (fun c => by omega) (fun _ => ?_)
            refine x_aload_n 113 hK rfl rfl (lk1_n (lk1_n (lk1_n (lk1_n (lk1_n l0 (by decide) (Or.inl rfl)) (by decide) (Or.inl rfl)) (by decide) (Or.inl rfl)) (by decide) (Or.inl rfl)) (by decide) (Or.inl rfl)) ?_
            refine x_getR 116 hK rfl rfl (sp_171 (h := h289) hG289) (rf_171_36 (h := h289) hG289) ?_
            refine x_iload 118 hK rfl rfl (lk1_n (lk1_n (lk1_n (lk1_n (lk1_n l4 (by decide) (Or.inl rfl)) (by decide) (Or.inl rfl)) (by decide) (Or.inl rfl)) (by decide) (Or.inl rfl)) (by decide) (Or.inl rfl)) ?_
            refine x_iload 120 hK rfl rfl lk1_s ?_
            refine x_iastore 121 hK rfl rfl (sp_189 (h := h289) hG289) (by omega) (by omega) (by omega) ?_
            refine x_iload 123 hK rfl rfl (lk1_n (lk1_n (lk1_n (lk1_n lk1_s (by decide) (Or.inl rfl)) (by decide) (Or.inl rfl)) (by decide) (Or.inl rfl)) (by decide) (Or.inl rfl)) ?_
            refine x_if_eq 149 126 hK rfl rfl rfl (by omega) (fun c => by omega) (fun _ => ?_)
            refine x_aload_n 127 hK rfl rfl (lk1_n (lk1_n (lk1_n (lk1_n (lk1_n l0 (by decide) (Or.inl rfl)) (by decide) (Or.inl rfl)) (by decide) (Or.inl rfl)) (by decide) (Or.inl rfl)) (by decide) (Or.inl rfl)) ?_
            refine x_iload_n 128 hK rfl rfl (lk1_n (lk1_n (lk1_n (lk1_n (lk1_n l1 (by decide) (Or.inl rfl)) (by decide) (Or.inl rfl)) (by decide) (Or.inl rfl)) (by decide) (Or.inl rfl)) (by decide) (Or.inl rfl)) ?_
            have hGp294 : GD gE gRL sh (wI h289 189 k.toNat 0) := GD_wu (hG289) (r := 72) rfl (by omega) rfl (by omega) (by omega)
            have hXc293 : XI (wI h289 189 k.toNat 0) := (xOk_ok rfl h289 (wI h289 189 k.toNat 0) (FRM_wn 0 29 ((FRM.rf : FRM gRL [(0, 72, 0, 29)] h289 h289)) (r := 72) rfl rfl rfl (by omega) (by omega)) (xOk_ok rfl _ h289 hF289 (xOk_ok rfl h281 (wI h281 189 k.toNat (-1)) (FRM_wn 0 29 ((FRM.rf : FRM gRL [(0, 72, 0, 29)] h281 h281)) (r := 72) rfl rfl rfl (by omega) (by omega)) (xOk_ok rfl _ h281 hF281 (xOk_ok rfl _ h4 hF4 hX)))))
            refine x_callV 131 hK hmono rfl rfl [.ref 171, .int (I n)] [] rfl rfl (Nat.le_of_ble_eq_true rfl) (Nat.le_of_ble_eq_true rfl) rfl (sp_171 (h := h289) hG289) (CLd_le (Nat.le_of_ble_eq_true rfl) (ctX11_fewestOrders hSP hGp294 hXc293 hn (by rw [show gi (wI h289 189 k.toNat 0) 178 0 = gi h 178 0 from (gi_a (by decide) _).trans ((FRM_gi hF289 (r := 61) rfl rfl).trans ((gi_a (by decide) _).trans ((FRM_gi hF281 (r := 61) rfl rfl).trans (FRM_gi hF4 (r := 61) rfl rfl))))]; exact h0))) ?_
            rw [show RC (wI h289 189 k.toNat 0) 178 0 = RC h 178 0 from (RC_w (by decide)).trans ((RC_F hF289 (r := 61) rfl rfl 0).trans ((RC_w (by decide)).trans ((RC_F hF281 (r := 61) rfl rfl 0).trans (RC_F hF4 (r := 61) rfl rfl 0)))), show gi (wI h289 189 k.toNat 0) 178 0 = gi h 178 0 from (gi_a (by decide) _).trans ((FRM_gi hF289 (r := 61) rfl rfl).trans ((gi_a (by decide) _).trans ((FRM_gi hF281 (r := 61) rfl rfl).trans (FRM_gi hF4 (r := 61) rfl rfl)))), show gi (wI h289 189 k.toNat 0) 178 4 = gi h 178 4 from (gi_a (by decide) _).trans ((FRM_gi hF289 (r := 61) rfl rfl).trans ((gi_a (by decide) _).trans ((FRM_gi hF281 (r := 61) rfl rfl).trans (FRM_gi hF4 (r := 61) rfl rfl)))), show gi (wI h289 189 k.toNat 0) 178 1 = gi h 178 1 from (gi_a (by decide) _).trans ((FRM_gi hF289 (r := 61) rfl rfl).trans ((gi_a (by decide) _).trans ((FRM_gi hF281 (r := 61) rfl rfl).trans (FRM_gi hF4 (r := 61) rfl rfl)))), show gi (wI h289 189 k.toNat 0) 171 5 = gi h 171 5 from (gi_a (by decide) _).trans ((FRM_gi hF289 (r := 54) rfl rfl).trans ((gi_a (by decide) _).trans ((FRM_gi hF281 (r := 54) rfl rfl).trans (FRM_gi hF4 (r := 54) rfl rfl)))), show gi (wI h289 189 k.toNat 0) 171 6 = gi h 171 6 from (gi_a (by decide) _).trans ((FRM_gi hF289 (r := 54) rfl rfl).trans ((gi_a (by decide) _).trans ((FRM_gi hF281 (r := 54) rfl rfl).trans (FRM_gi hF4 (r := 54) rfl rfl)))), show gi (wI h289 189 k.toNat 0) 175 = gi h 175 from funext fun j => (gi_a (by decide) _).trans ((FRM_gi hF289 (r := 58) rfl rfl).trans ((gi_a (by decide) _).trans ((FRM_gi hF281 (r := 58) rfl rfl).trans (FRM_gi hF4 (r := 58) rfl rfl)))), show gi (wI h289 189 k.toNat 0) 176 = gi h 176 from funext fun j => (gi_a (by decide) _).trans ((FRM_gi hF289 (r := 59) rfl rfl).trans ((gi_a (by decide) _).trans ((FRM_gi hF281 (r := 59) rfl rfl).trans (FRM_gi hF4 (r := 59) rfl rfl)))), show dlA (wI h289 189 k.toNat 0) = dlA h from funext fun s => (dlA_w (by decide) (Or.inl (by decide))).trans ((dlA_F hF289 rfl s).trans ((dlA_w (by decide) (Or.inl (by decide))).trans ((dlA_F hF281 rfl s).trans (dlA_F hF4 rfl s))))]
            have cv293 : ∀ j : Int, 0 ≤ j → j < 30 → gi (wI h289 189 k.toNat 0) 189 j.toNat = chL (vs ++ [0]) j := fun j j0 j1 => if c : j = k then (by subst c; rw [chL_s, vl]; exact (gi_same (by omega)).trans (if_pos rfl).symm) else (by rw [chL_s, vl]; exact ((gi_k (by omega) _).trans ((FRM_gi hF289 (r := 72) rfl (by first | rfl | exact mh72 _)).trans ((gi_k (by omega) _).trans (FRM_gi hF281 (r := 72) rfl (by first | rfl | exact mh72 _))))).trans ((cv j j0 j1).trans (if_neg c).symm))
            rw [show fwN (opsF (fun jj => gi (wI h289 189 k.toNat 0) 189 jj.toNat) (gi h 171 5) (fun t g => hitN (gi h 175) (gi h 176) ((gi h 178 0) + t) (g : Int) (gi h 171 6).toNat) (opsT (wl (RC h 178 0)) (gi h 178 0) (gi h 178 4) (dlA h) n.toNat) (fun (l : Nat) => if (l : Int) = gi h 178 1 then 0 else 1000)) 9 = plP h n (vs ++ [0]) from by unfold plP; rw [opsF_ch (ch := fun jj => gi (wI h289 189 k.toNat 0) 189 jj.toNat) (ch' := chL (vs ++ [0])) _ _ fun z hz z1 => by have zn := opsT_n n.toNat hz z1; exact cv293 z.2 zn.1 (by omega)]]
            rintro v293 h293 ⟨rfl, hG293, hF293⟩
            have pb293 := plP_r h n (vs ++ [0])
            refine x_iload 133 hK rfl rfl lk1_s ?_
            refine x_if_eq 140 136 hK rfl rfl rfl (by omega) (fun _ => ?_) (fun c => by omega)
            refine x_iconst 141 hK rfl rfl ?_
            refine x_callS 144 hK hmono rfl (Or.inl rfl) rfl [.int (I 0)] [.int (I (plP h n (vs ++ [0])))] rfl rfl (Nat.le_of_ble_eq_true rfl) (Nat.le_of_ble_eq_true rfl) (CLd_le (Nat.le_of_ble_eq_true rfl) (ctX11_flag (by omega))) ?_
            rintro v9 h9 ⟨e9, rfl⟩
            rw [e9]
            clear e9
            refine x_iadd 145 hK rfl rfl ?_
            refine x_iload_n 146 hK rfl rfl (lk1_n (lk1_n (lk1_n (lk1_n (lk1_n l3 (by decide) (Or.inl rfl)) (by decide) (Or.inl rfl)) (by decide) (Or.inl rfl)) (by decide) (Or.inl rfl)) (by decide) (Or.inl rfl)) ?_
            refine x_if_icmp_ne 153 149 hK rfl rfl rfl (by omega) (by omega) (fun c172 => ?_) (fun c172 => ?_)
            · refine x_iconst 154 hK rfl rfl ?_
              refine x_istore 156 hK rfl rfl _ rfl ?_
              refine x_iload 158 hK rfl rfl (lk1_n lk1_s (by decide) (Or.inl rfl)) ?_
              refine x_iload 160 hK rfl rfl lk1_s ?_
              refine x_if_ne 167 163 hK rfl rfl rfl (by omega) (fun c => by omega) (fun _ => ?_)
              refine x_iconst 164 hK rfl rfl ?_
              refine x_goto 168 hK rfl rfl ?_
              refine x_callS 171 hK hmono rfl (Or.inl rfl) rfl [.int (I 1)] [.int (I 0)] rfl rfl (Nat.le_of_ble_eq_true rfl) (Nat.le_of_ble_eq_true rfl) (CLd_le (Nat.le_of_ble_eq_true rfl) (ctX11_flag (by omega))) ?_
              rintro v9 h9 ⟨e9, rfl⟩
              rw [e9]
              clear e9
              refine x_iadd 172 hK rfl rfl ?_
              refine x_istore 174 hK rfl rfl _ rfl ?_
              refine x_goto 107 hK rfl rfl ?_
              refine x_iload 109 hK rfl rfl (lk1_n lk1_s (by decide) (Or.inl rfl)) ?_
              refine x_if_ne 177 112 hK rfl rfl rfl (by omega) (fun c => by omega) (fun _ => ?_)
              refine x_aload_n 113 hK rfl rfl (lk1_n (lk1_n (lk1_n (lk1_n (lk1_n (lk1_n (lk1_n l0 (by decide) (Or.inl rfl)) (by decide) (Or.inl rfl)) (by decide) (Or.inl rfl)) (by decide) (Or.inl rfl)) (by decide) (Or.inl rfl)) (by decide) (Or.inl rfl)) (by decide) (Or.inl rfl)) ?_
              refine x_getR 116 hK rfl rfl (sp_171 (h := h293) hG293) (rf_171_36 (h := h293) hG293) ?_
              refine x_iload 118 hK rfl rfl (lk1_n (lk1_n (lk1_n (lk1_n (lk1_n (lk1_n (lk1_n l4 (by decide) (Or.inl rfl)) (by decide) (Or.inl rfl)) (by decide) (Or.inl rfl)) (by decide) (Or.inl rfl)) (by decide) (Or.inl rfl)) (by decide) (Or.inl rfl)) (by decide) (Or.inl rfl)) ?_
              refine x_iload 120 hK rfl rfl lk1_s ?_
              refine x_iastore 121 hK rfl rfl (sp_189 (h := h293) hG293) (by omega) (by omega) (by omega) ?_
              refine x_iload 123 hK rfl rfl (lk1_n (lk1_n (lk1_n (lk1_n (lk1_n (lk1_n lk1_s (by decide) (Or.inl rfl)) (by decide) (Or.inl rfl)) (by decide) (Or.inl rfl)) (by decide) (Or.inl rfl)) (by decide) (Or.inl rfl)) (by decide) (Or.inl rfl)) ?_
              refine x_if_eq 149 126 hK rfl rfl rfl (by omega) (fun c => by omega) (fun _ => ?_)
              refine x_aload_n 127 hK rfl rfl (lk1_n (lk1_n (lk1_n (lk1_n (lk1_n (lk1_n (lk1_n l0 (by decide) (Or.inl rfl)) (by decide) (Or.inl rfl)) (by decide) (Or.inl rfl)) (by decide) (Or.inl rfl)) (by decide) (Or.inl rfl)) (by decide) (Or.inl rfl)) (by decide) (Or.inl rfl)) ?_
              refine x_iload_n 128 hK rfl rfl (lk1_n (lk1_n (lk1_n (lk1_n (lk1_n (lk1_n (lk1_n l1 (by decide) (Or.inl rfl)) (by decide) (Or.inl rfl)) (by decide) (Or.inl rfl)) (by decide) (Or.inl rfl)) (by decide) (Or.inl rfl)) (by decide) (Or.inl rfl)) (by decide) (Or.inl rfl)) ?_
              have hGp298 : GD gE gRL sh (wI h293 189 k.toNat 1) := GD_wu (hG293) (r := 72) rfl (by omega) rfl (by omega) (by omega)
              have hXc297 : XI (wI h293 189 k.toNat 1) := (xOk_ok rfl h293 (wI h293 189 k.toNat 1) (FRM_wn 0 29 ((FRM.rf : FRM gRL [(0, 72, 0, 29)] h293 h293)) (r := 72) rfl rfl rfl (by omega) (by omega)) (xOk_ok rfl _ h293 hF293 (xOk_ok rfl h289 (wI h289 189 k.toNat 0) (FRM_wn 0 29 ((FRM.rf : FRM gRL [(0, 72, 0, 29)] h289 h289)) (r := 72) rfl rfl rfl (by omega) (by omega)) (xOk_ok rfl _ h289 hF289 (xOk_ok rfl h281 (wI h281 189 k.toNat (-1)) (FRM_wn 0 29 ((FRM.rf : FRM gRL [(0, 72, 0, 29)] h281 h281)) (r := 72) rfl rfl rfl (by omega) (by omega)) (xOk_ok rfl _ h281 hF281 (xOk_ok rfl _ h4 hF4 hX)))))))
              refine x_callV 131 hK hmono rfl rfl [.ref 171, .int (I n)] [] rfl rfl (Nat.le_of_ble_eq_true rfl) (Nat.le_of_ble_eq_true rfl) rfl (sp_171 (h := h293) hG293) (CLd_le (Nat.le_of_ble_eq_true rfl) (ctX11_fewestOrders hSP hGp298 hXc297 hn (by rw [show gi (wI h293 189 k.toNat 1) 178 0 = gi h 178 0 from (gi_a (by decide) _).trans ((FRM_gi hF293 (r := 61) rfl rfl).trans ((gi_a (by decide) _).trans ((FRM_gi hF289 (r := 61) rfl rfl).trans ((gi_a (by decide) _).trans ((FRM_gi hF281 (r := 61) rfl rfl).trans (FRM_gi hF4 (r := 61) rfl rfl))))))]; exact h0))) ?_
              rw [show RC (wI h293 189 k.toNat 1) 178 0 = RC h 178 0 from (RC_w (by decide)).trans ((RC_F hF293 (r := 61) rfl rfl 0).trans ((RC_w (by decide)).trans ((RC_F hF289 (r := 61) rfl rfl 0).trans ((RC_w (by decide)).trans ((RC_F hF281 (r := 61) rfl rfl 0).trans (RC_F hF4 (r := 61) rfl rfl 0)))))), show gi (wI h293 189 k.toNat 1) 178 0 = gi h 178 0 from (gi_a (by decide) _).trans ((FRM_gi hF293 (r := 61) rfl rfl).trans ((gi_a (by decide) _).trans ((FRM_gi hF289 (r := 61) rfl rfl).trans ((gi_a (by decide) _).trans ((FRM_gi hF281 (r := 61) rfl rfl).trans (FRM_gi hF4 (r := 61) rfl rfl)))))), show gi (wI h293 189 k.toNat 1) 178 4 = gi h 178 4 from (gi_a (by decide) _).trans ((FRM_gi hF293 (r := 61) rfl rfl).trans ((gi_a (by decide) _).trans ((FRM_gi hF289 (r := 61) rfl rfl).trans ((gi_a (by decide) _).trans ((FRM_gi hF281 (r := 61) rfl rfl).trans (FRM_gi hF4 (r := 61) rfl rfl)))))), show gi (wI h293 189 k.toNat 1) 178 1 = gi h 178 1 from (gi_a (by decide) _).trans ((FRM_gi hF293 (r := 61) rfl rfl).trans ((gi_a (by decide) _).trans ((FRM_gi hF289 (r := 61) rfl rfl).trans ((gi_a (by decide) _).trans ((FRM_gi hF281 (r := 61) rfl rfl).trans (FRM_gi hF4 (r := 61) rfl rfl)))))), show gi (wI h293 189 k.toNat 1) 171 5 = gi h 171 5 from (gi_a (by decide) _).trans ((FRM_gi hF293 (r := 54) rfl rfl).trans ((gi_a (by decide) _).trans ((FRM_gi hF289 (r := 54) rfl rfl).trans ((gi_a (by decide) _).trans ((FRM_gi hF281 (r := 54) rfl rfl).trans (FRM_gi hF4 (r := 54) rfl rfl)))))), show gi (wI h293 189 k.toNat 1) 171 6 = gi h 171 6 from (gi_a (by decide) _).trans ((FRM_gi hF293 (r := 54) rfl rfl).trans ((gi_a (by decide) _).trans ((FRM_gi hF289 (r := 54) rfl rfl).trans ((gi_a (by decide) _).trans ((FRM_gi hF281 (r := 54) rfl rfl).trans (FRM_gi hF4 (r := 54) rfl rfl)))))), show gi (wI h293 189 k.toNat 1) 175 = gi h 175 from funext fun j => (gi_a (by decide) _).trans ((FRM_gi hF293 (r := 58) rfl rfl).trans ((gi_a (by decide) _).trans ((FRM_gi hF289 (r := 58) rfl rfl).trans ((gi_a (by decide) _).trans ((FRM_gi hF281 (r := 58) rfl rfl).trans (FRM_gi hF4 (r := 58) rfl rfl)))))), show gi (wI h293 189 k.toNat 1) 176 = gi h 176 from funext fun j => (gi_a (by decide) _).trans ((FRM_gi hF293 (r := 59) rfl rfl).trans ((gi_a (by decide) _).trans ((FRM_gi hF289 (r := 59) rfl rfl).trans ((gi_a (by decide) _).trans ((FRM_gi hF281 (r := 59) rfl rfl).trans (FRM_gi hF4 (r := 59) rfl rfl)))))), show dlA (wI h293 189 k.toNat 1) = dlA h from funext fun s => (dlA_w (by decide) (Or.inl (by decide))).trans ((dlA_F hF293 rfl s).trans ((dlA_w (by decide) (Or.inl (by decide))).trans ((dlA_F hF289 rfl s).trans ((dlA_w (by decide) (Or.inl (by decide))).trans ((dlA_F hF281 rfl s).trans (dlA_F hF4 rfl s))))))]
              have cv297 : ∀ j : Int, 0 ≤ j → j < 30 → gi (wI h293 189 k.toNat 1) 189 j.toNat = chL (vs ++ [1]) j := fun j j0 j1 => if c : j = k then (by subst c; rw [chL_s, vl]; exact (gi_same (by omega)).trans (if_pos rfl).symm) else (by rw [chL_s, vl]; exact ((gi_k (by omega) _).trans ((FRM_gi hF293 (r := 72) rfl (by first | rfl | exact mh72 _)).trans ((gi_k (by omega) _).trans ((FRM_gi hF289 (r := 72) rfl (by first | rfl | exact mh72 _)).trans ((gi_k (by omega) _).trans (FRM_gi hF281 (r := 72) rfl (by first | rfl | exact mh72 _))))))).trans ((cv j j0 j1).trans (if_neg c).symm))
              rw [show fwN (opsF (fun jj => gi (wI h293 189 k.toNat 1) 189 jj.toNat) (gi h 171 5) (fun t g => hitN (gi h 175) (gi h 176) ((gi h 178 0) + t) (g : Int) (gi h 171 6).toNat) (opsT (wl (RC h 178 0)) (gi h 178 0) (gi h 178 4) (dlA h) n.toNat) (fun (l : Nat) => if (l : Int) = gi h 178 1 then 0 else 1000)) 9 = plP h n (vs ++ [1]) from by unfold plP; rw [opsF_ch (ch := fun jj => gi (wI h293 189 k.toNat 1) 189 jj.toNat) (ch' := chL (vs ++ [1])) _ _ fun z hz z1 => by have zn := opsT_n n.toNat hz z1; exact cv297 z.2 zn.1 (by omega)]]
              rintro v297 h297 ⟨rfl, hG297, hF297⟩
              have pb297 := plP_r h n (vs ++ [1])
              refine x_iload 133 hK rfl rfl lk1_s ?_
              refine x_if_eq 140 136 hK rfl rfl rfl (by omega) (fun c => by omega) (fun _ => ?_)
              refine x_iconst 137 hK rfl rfl ?_
              refine x_goto 141 hK rfl rfl ?_
              refine x_callS 144 hK hmono rfl (Or.inl rfl) rfl [.int (I 1)] [.int (I (plP h n (vs ++ [1])))] rfl rfl (Nat.le_of_ble_eq_true rfl) (Nat.le_of_ble_eq_true rfl) (CLd_le (Nat.le_of_ble_eq_true rfl) (ctX11_flag (by omega))) ?_
              rintro v9 h9 ⟨e9, rfl⟩
              rw [e9]
              clear e9
              refine x_iadd 145 hK rfl rfl ?_
              refine x_iload_n 146 hK rfl rfl (lk1_n (lk1_n (lk1_n (lk1_n (lk1_n (lk1_n (lk1_n l3 (by decide) (Or.inl rfl)) (by decide) (Or.inl rfl)) (by decide) (Or.inl rfl)) (by decide) (Or.inl rfl)) (by decide) (Or.inl rfl)) (by decide) (Or.inl rfl)) (by decide) (Or.inl rfl)) ?_
              refine x_if_icmp_ne 153 149 hK rfl rfl rfl (by omega) (by omega) (fun c203 => ?_) (fun c203 => ?_)
              · refine x_iconst 154 hK rfl rfl ?_
                refine x_istore 156 hK rfl rfl _ rfl ?_
                refine x_iload 158 hK rfl rfl (lk1_n lk1_s (by decide) (Or.inl rfl)) ?_
                exfalso
                have := pa (by omega)
                omega
              · refine x_iconst 150 hK rfl rfl ?_
                refine x_goto 154 hK rfl rfl ?_
                refine x_istore 156 hK rfl rfl _ rfl ?_
                refine x_iload 158 hK rfl rfl (lk1_n lk1_s (by decide) (Or.inl rfl)) ?_
                refine x_iload 160 hK rfl rfl lk1_s ?_
                refine x_if_ne 167 163 hK rfl rfl rfl (by omega) (fun _ => ?_) (fun c => by omega)
                refine x_iconst 168 hK rfl rfl ?_
                refine x_callS 171 hK hmono rfl (Or.inl rfl) rfl [.int (I 0)] [.int (I 1)] rfl rfl (Nat.le_of_ble_eq_true rfl) (Nat.le_of_ble_eq_true rfl) (CLd_le (Nat.le_of_ble_eq_true rfl) (ctX11_flag (by omega))) ?_
                rintro v9 h9 ⟨e9, rfl⟩
                rw [e9]
                clear e9
                refine x_iadd 172 hK rfl rfl ?_
                refine x_istore 174 hK rfl rfl _ rfl ?_
                refine x_goto 107 hK rfl rfl ?_
                refine x_iload 109 hK rfl rfl (lk1_n lk1_s (by decide) (Or.inl rfl)) ?_
                refine x_if_ne 177 112 hK rfl rfl rfl (by omega) (fun _ => ?_) (fun c => by omega)
                have ve : plV h n left vs = 1 := by rw [vd, if_pos (by omega), if_neg (by omega), if_neg (by omega)]
                rw [ve] at vo
                refine x_iload_n 178 hK rfl rfl (lk1_n (lk1_n (lk1_n (lk1_n (lk1_n (lk1_n (lk1_n (lk1_n (lk1_n l3 (by decide) (Or.inl rfl)) (by decide) (Or.inl rfl)) (by decide) (Or.inl rfl)) (by decide) (Or.inl rfl)) (by decide) (Or.inl rfl)) (by decide) (Or.inl rfl)) (by decide) (Or.inl rfl)) (by decide) (Or.inl rfl)) (by decide) (Or.inl rfl)) ?_
                refine x_iload 180 hK rfl rfl lk1_s ?_
                refine x_if_eq 187 183 hK rfl rfl rfl (by omega) (fun c => by omega) (fun _ => ?_)
                refine x_iconst 184 hK rfl rfl ?_
                refine x_goto 188 hK rfl rfl ?_
                refine x_callS 191 hK hmono rfl (Or.inl rfl) rfl [.int (I 1)] [.int (I left)] rfl rfl (Nat.le_of_ble_eq_true rfl) (Nat.le_of_ble_eq_true rfl) (CLd_le (Nat.le_of_ble_eq_true rfl) (ctX11_flag (by omega))) ?_
                rintro v9 h9 ⟨e9, rfl⟩
                rw [e9]
                clear e9
                refine x_isub 192 hK rfl rfl ?_
                refine x_istore_n 193 hK rfl rfl _ rfl ?_
                refine x_aload_n 194 hK rfl rfl (lk1_n (lk1_n (lk1_n (lk1_n (lk1_n (lk1_n (lk1_n (lk1_n (lk1_n (lk1_n l0 (by decide) (Or.inl rfl)) (by decide) (Or.inl rfl)) (by decide) (Or.inl rfl)) (by decide) (Or.inl rfl)) (by decide) (Or.inl rfl)) (by decide) (Or.inl rfl)) (by decide) (Or.inl rfl)) (by decide) (Or.inl rfl)) (by decide) (Or.inl rfl)) (by decide) (Or.inl rfl)) ?_
                refine x_iload 196 hK rfl rfl (lk1_n lk1_s (by decide) (Or.inl rfl)) ?_
                refine x_i2l 197 hK rfl rfl (by omega) ?_
                have z303 : gi h297 171 1 = k := (FRM_gi hF297 (r := 54) rfl rfl).trans ((gi_a (by decide) _).trans ((FRM_gi hF293 (r := 54) rfl rfl).trans ((gi_a (by decide) _).trans ((FRM_gi hF289 (r := 54) rfl rfl).trans ((gi_a (by decide) _).trans ((FRM_gi hF281 (r := 54) rfl rfl).trans (rl)))))))
                have z303r : mrow h297 = vs := (mrow_F hF297 rfl rfl).trans ((mrow_a (by decide)).trans ((mrow_F hF293 rfl rfl).trans ((mrow_a (by decide)).trans ((mrow_F hF289 rfl rfl).trans ((mrow_a (by decide)).trans ((mrow_F hF281 rfl rfl).trans (hvs)))))))
                refine x_callV 200 hK hmono rfl rfl [.ref 171, .long (J 1)] [] rfl rfl (Nat.le_of_ble_eq_true rfl) (Nat.le_of_ble_eq_true rfl) rfl (sp_171 (h := h297) hG297) (CLd_le (Nat.le_of_ble_eq_true rfl) (ctX11_entersF hSP hG297 (by omega) (by omega))) ?_
                rintro v302 h302 ⟨rfl, hG302, hF302, t302, s302⟩
                rw [z303] at t302
                rw [z303r] at s302
                refine x_iinc 203 hK rfl rfl (lk1_n (lk1_n (lk1_n (lk1_n (lk1_n (lk1_n (lk1_n (lk1_n (lk1_n (lk1_n l4 (by decide) (Or.inl rfl)) (by decide) (Or.inl rfl)) (by decide) (Or.inl rfl)) (by decide) (Or.inl rfl)) (by decide) (Or.inl rfl)) (by decide) (Or.inl rfl)) (by decide) (Or.inl rfl)) (by decide) (Or.inl rfl)) (by decide) (Or.inl rfl)) (by decide) (Or.inl rfl)) _ rfl ?_
                refine x_goto 50 hK rfl rfl ?_
                exact ih _ (by rw [← hm, md]; exact Nat.lt_succ_self _) (left - 1) (k + 1) _ _ rfl (hn) (n1) (p1) (by omega) ((FRM_gi hF302 (r := 54) rfl rfl).trans ((FRM_gi hF297 (r := 54) rfl rfl).trans ((gi_a (by decide) _).trans ((FRM_gi hF293 (r := 54) rfl rfl).trans ((gi_a (by decide) _).trans ((FRM_gi hF289 (r := 54) rfl rfl).trans ((gi_a (by decide) _).trans ((FRM_gi hF281 (r := 54) rfl rfl).trans (t4))))))))) ((by rw [show mrow h302 = vs ++ [1] from s302, List.length_append]; simp; omega)) ((t302)) ((by rw [show mrow h302 = vs ++ [1] from s302]; exact fun j j0 j1 => if c : j = k then (by subst c; rw [chL_s, vl]; exact ((FRM_gi hF302 (r := 72) rfl rfl).trans ((FRM_gi hF297 (r := 72) rfl rfl).trans (gi_same (by omega)))).trans (if_pos rfl).symm) else (by rw [chL_s, vl]; exact ((FRM_gi hF302 (r := 72) rfl rfl).trans ((FRM_gi hF297 (r := 72) rfl rfl).trans ((gi_k (by omega) _).trans ((FRM_gi hF293 (r := 72) rfl (by first | rfl | exact mh72 _)).trans ((gi_k (by omega) _).trans ((FRM_gi hF289 (r := 72) rfl (by first | rfl | exact mh72 _)).trans ((gi_k (by omega) _).trans (FRM_gi hF281 (r := 72) rfl (by first | rfl | exact mh72 _))))))))).trans ((cv j j0 j1).trans (if_neg c).symm)))) ((by rw [show mrow h302 = vs ++ [1] from s302, vo, if_neg (by omega)])) ((by omega)) ((by rw [show mrow h302 = vs ++ [1] from s302, ← e4, md]; show _ = plR h n _ (left - if plV h n left vs = 0 then 0 else 1) (vs ++ [plV h n left vs]); rw [ve, if_neg (by omega)])) (lk1_n (lk1_n (lk1_n (lk1_n (lk1_n (lk1_n (lk1_n (lk1_n (lk1_n (lk1_n (lk1_n l0 (by decide) (Or.inl rfl)) (by decide) (Or.inl rfl)) (by decide) (Or.inl rfl)) (by decide) (Or.inl rfl)) (by decide) (Or.inl rfl)) (by decide) (Or.inl rfl)) (by decide) (Or.inl rfl)) (by decide) (Or.inl rfl)) (by decide) (Or.inl rfl)) (by decide) (Or.inl rfl)) (by decide) (Or.inl rfl)) (lk1_n (lk1_n (lk1_n (lk1_n (lk1_n (lk1_n (lk1_n (lk1_n (lk1_n (lk1_n (lk1_n l1 (by decide) (Or.inl rfl)) (by decide) (Or.inl rfl)) (by decide) (Or.inl rfl)) (by decide) (Or.inl rfl)) (by decide) (Or.inl rfl)) (by decide) (Or.inl rfl)) (by decide) (Or.inl rfl)) (by decide) (Or.inl rfl)) (by decide) (Or.inl rfl)) (by decide) (Or.inl rfl)) (by decide) (Or.inl rfl)) (lk1_n (lk1_n (lk1_n (lk1_n (lk1_n (lk1_n (lk1_n (lk1_n (lk1_n (lk1_n (lk1_n l2 (by decide) (Or.inl rfl)) (by decide) (Or.inl rfl)) (by decide) (Or.inl rfl)) (by decide) (Or.inl rfl)) (by decide) (Or.inl rfl)) (by decide) (Or.inl rfl)) (by decide) (Or.inl rfl)) (by decide) (Or.inl rfl)) (by decide) (Or.inl rfl)) (by decide) (Or.inl rfl)) (by decide) (Or.inl rfl)) (lk1_n lk1_s (by decide) (Or.inl rfl)) lk1_s (hG302) (((FRM_wn 0 29 ((FRM_wn 0 29 ((FRM_wn 0 29 ((hF4).trans ((hF281).mono rfl)) (r := 72) rfl rfl rfl (by omega) (by omega)).trans ((hF289).mono rfl)) (r := 72) rfl rfl rfl (by omega) (by omega)).trans ((hF293).mono rfl)) (r := 72) rfl rfl rfl (by omega) (by omega)).trans ((hF297).mono rfl)).trans ((hF302).mono rfl))
            · refine x_iconst 150 hK rfl rfl ?_
              refine x_goto 154 hK rfl rfl ?_
              refine x_istore 156 hK rfl rfl _ rfl ?_
              refine x_iload 158 hK rfl rfl (lk1_n lk1_s (by decide) (Or.inl rfl)) ?_
              refine x_iload 160 hK rfl rfl lk1_s ?_
              refine x_if_ne 167 163 hK rfl rfl rfl (by omega) (fun _ => ?_) (fun c => by omega)
              refine x_iconst 168 hK rfl rfl ?_
              refine x_callS 171 hK hmono rfl (Or.inl rfl) rfl [.int (I 0)] [.int (I 0)] rfl rfl (Nat.le_of_ble_eq_true rfl) (Nat.le_of_ble_eq_true rfl) (CLd_le (Nat.le_of_ble_eq_true rfl) (ctX11_flag (by omega))) ?_
              rintro v9 h9 ⟨e9, rfl⟩
              rw [e9]
              clear e9
              refine x_iadd 172 hK rfl rfl ?_
              refine x_istore 174 hK rfl rfl _ rfl ?_
              refine x_goto 107 hK rfl rfl ?_
              refine x_iload 109 hK rfl rfl (lk1_n lk1_s (by decide) (Or.inl rfl)) ?_
              refine x_if_ne 177 112 hK rfl rfl rfl (by omega) (fun _ => ?_) (fun c => by omega)
              have ve : plV h n left vs = 0 := by rw [vd, if_pos (by omega), if_neg (by omega), if_pos (by omega)]
              rw [ve] at vo
              refine x_iload_n 178 hK rfl rfl (lk1_n (lk1_n (lk1_n (lk1_n (lk1_n (lk1_n (lk1_n l3 (by decide) (Or.inl rfl)) (by decide) (Or.inl rfl)) (by decide) (Or.inl rfl)) (by decide) (Or.inl rfl)) (by decide) (Or.inl rfl)) (by decide) (Or.inl rfl)) (by decide) (Or.inl rfl)) ?_
              refine x_iload 180 hK rfl rfl lk1_s ?_
              refine x_if_eq 187 183 hK rfl rfl rfl (by omega) (fun _ => ?_) (fun c => by omega)
              refine x_iconst 188 hK rfl rfl ?_
              refine x_callS 191 hK hmono rfl (Or.inl rfl) rfl [.int (I 0)] [.int (I left)] rfl rfl (Nat.le_of_ble_eq_true rfl) (Nat.le_of_ble_eq_true rfl) (CLd_le (Nat.le_of_ble_eq_true rfl) (ctX11_flag (by omega))) ?_
              rintro v9 h9 ⟨e9, rfl⟩
              rw [e9]
              clear e9
              refine x_isub 192 hK rfl rfl ?_
              refine x_istore_n 193 hK rfl rfl _ rfl ?_
              refine x_aload_n 194 hK rfl rfl (lk1_n (lk1_n (lk1_n (lk1_n (lk1_n (lk1_n (lk1_n (lk1_n l0 (by decide) (Or.inl rfl)) (by decide) (Or.inl rfl)) (by decide) (Or.inl rfl)) (by decide) (Or.inl rfl)) (by decide) (Or.inl rfl)) (by decide) (Or.inl rfl)) (by decide) (Or.inl rfl)) (by decide) (Or.inl rfl)) ?_
              refine x_iload 196 hK rfl rfl (lk1_n lk1_s (by decide) (Or.inl rfl)) ?_
              refine x_i2l 197 hK rfl rfl (by omega) ?_
              have z307 : gi h293 171 1 = k := (FRM_gi hF293 (r := 54) rfl rfl).trans ((gi_a (by decide) _).trans ((FRM_gi hF289 (r := 54) rfl rfl).trans ((gi_a (by decide) _).trans ((FRM_gi hF281 (r := 54) rfl rfl).trans (rl)))))
              have z307r : mrow h293 = vs := (mrow_F hF293 rfl rfl).trans ((mrow_a (by decide)).trans ((mrow_F hF289 rfl rfl).trans ((mrow_a (by decide)).trans ((mrow_F hF281 rfl rfl).trans (hvs)))))
              refine x_callV 200 hK hmono rfl rfl [.ref 171, .long (J 0)] [] rfl rfl (Nat.le_of_ble_eq_true rfl) (Nat.le_of_ble_eq_true rfl) rfl (sp_171 (h := h293) hG293) (CLd_le (Nat.le_of_ble_eq_true rfl) (ctX11_entersF hSP hG293 (by omega) (by omega))) ?_
              rintro v306 h306 ⟨rfl, hG306, hF306, t306, s306⟩
              rw [z307] at t306
              rw [z307r] at s306
              refine x_iinc 203 hK rfl rfl (lk1_n (lk1_n (lk1_n (lk1_n (lk1_n (lk1_n (lk1_n (lk1_n l4 (by decide) (Or.inl rfl)) (by decide) (Or.inl rfl)) (by decide) (Or.inl rfl)) (by decide) (Or.inl rfl)) (by decide) (Or.inl rfl)) (by decide) (Or.inl rfl)) (by decide) (Or.inl rfl)) (by decide) (Or.inl rfl)) _ rfl ?_
              refine x_goto 50 hK rfl rfl ?_
              exact ih _ (by rw [← hm, md]; exact Nat.lt_succ_self _) (left - 0) (k + 1) _ _ rfl (hn) (n1) (p1) (by omega) ((FRM_gi hF306 (r := 54) rfl rfl).trans ((FRM_gi hF293 (r := 54) rfl rfl).trans ((gi_a (by decide) _).trans ((FRM_gi hF289 (r := 54) rfl rfl).trans ((gi_a (by decide) _).trans ((FRM_gi hF281 (r := 54) rfl rfl).trans (t4))))))) ((by rw [show mrow h306 = vs ++ [0] from s306, List.length_append]; simp; omega)) ((t306)) ((by rw [show mrow h306 = vs ++ [0] from s306]; exact fun j j0 j1 => if c : j = k then (by subst c; rw [chL_s, vl]; exact ((FRM_gi hF306 (r := 72) rfl rfl).trans ((FRM_gi hF293 (r := 72) rfl rfl).trans (gi_same (by omega)))).trans (if_pos rfl).symm) else (by rw [chL_s, vl]; exact ((FRM_gi hF306 (r := 72) rfl rfl).trans ((FRM_gi hF293 (r := 72) rfl rfl).trans ((gi_k (by omega) _).trans ((FRM_gi hF289 (r := 72) rfl (by first | rfl | exact mh72 _)).trans ((gi_k (by omega) _).trans (FRM_gi hF281 (r := 72) rfl (by first | rfl | exact mh72 _))))))).trans ((cv j j0 j1).trans (if_neg c).symm)))) ((by rw [show mrow h306 = vs ++ [0] from s306, vo, if_pos rfl])) ((by omega)) ((by rw [show mrow h306 = vs ++ [0] from s306, ← e4, md]; show _ = plR h n _ (left - if plV h n left vs = 0 then 0 else 1) (vs ++ [plV h n left vs]); rw [ve, if_pos rfl])) (lk1_n (lk1_n (lk1_n (lk1_n (lk1_n (lk1_n (lk1_n (lk1_n (lk1_n l0 (by decide) (Or.inl rfl)) (by decide) (Or.inl rfl)) (by decide) (Or.inl rfl)) (by decide) (Or.inl rfl)) (by decide) (Or.inl rfl)) (by decide) (Or.inl rfl)) (by decide) (Or.inl rfl)) (by decide) (Or.inl rfl)) (by decide) (Or.inl rfl)) (lk1_n (lk1_n (lk1_n (lk1_n (lk1_n (lk1_n (lk1_n (lk1_n (lk1_n l1 (by decide) (Or.inl rfl)) (by decide) (Or.inl rfl)) (by decide) (Or.inl rfl)) (by decide) (Or.inl rfl)) (by decide) (Or.inl rfl)) (by decide) (Or.inl rfl)) (by decide) (Or.inl rfl)) (by decide) (Or.inl rfl)) (by decide) (Or.inl rfl)) (lk1_n (lk1_n (lk1_n (lk1_n (lk1_n (lk1_n (lk1_n (lk1_n (lk1_n l2 (by decide) (Or.inl rfl)) (by decide) (Or.inl rfl)) (by decide) (Or.inl rfl)) (by decide) (Or.inl rfl)) (by decide) (Or.inl rfl)) (by decide) (Or.inl rfl)) (by decide) (Or.inl rfl)) (by decide) (Or.inl rfl)) (by decide) (Or.inl rfl)) (lk1_n lk1_s (by decide) (Or.inl rfl)) lk1_s (hG306) (((FRM_wn 0 29 ((FRM_wn 0 29 ((hF4).trans ((hF281).mono rfl)) (r := 72) rfl rfl rfl (by omega) (by omega)).trans ((hF289).mono rfl)) (r := 72) rfl rfl rfl (by omega) (by omega)).trans ((hF293).mono rfl)).trans ((hF306).mono rfl))
          · refine x_iconst 150 hK rfl rfl ?_
            refine x_goto 154 hK rfl rfl ?_
            refine x_istore 156 hK rfl rfl _ rfl ?_
            refine x_iload 158 hK rfl rfl (lk1_n (lk1_n lk1_s (by decide) (Or.inl rfl)) (by decide) (Or.inl rfl)) ?_
            refine x_iload 160 hK rfl rfl lk1_s ?_
            refine x_if_ne 167 163 hK rfl rfl rfl (by omega) (fun _ => ?_) (fun c => by omega)
            refine x_iconst 168 hK rfl rfl ?_
            refine x_callS 171 hK hmono rfl (Or.inl rfl) rfl [.int (I 0)] [.int (I (-1))] rfl rfl (Nat.le_of_ble_eq_true rfl) (Nat.le_of_ble_eq_true rfl) (CLd_le (Nat.le_of_ble_eq_true rfl) (ctX11_flag (by omega))) ?_
            rintro v9 h9 ⟨e9, rfl⟩
            rw [e9]
            clear e9
            refine x_iadd 172 hK rfl rfl ?_
            refine x_istore 174 hK rfl rfl _ rfl ?_
            refine x_goto 107 hK rfl rfl ?_
            refine x_iload 109 hK rfl rfl (lk1_n lk1_s (by decide) (Or.inl rfl)) ?_
            refine x_if_ne 177 112 hK rfl rfl rfl (by omega) (fun _ => ?_) (fun c => by omega)
            have ve : plV h n left vs = (-1) := by rw [vd, if_pos (by omega), if_pos (by omega)]
            rw [ve] at vo
            refine x_iload_n 178 hK rfl rfl (lk1_n (lk1_n (lk1_n (lk1_n (lk1_n l3 (by decide) (Or.inl rfl)) (by decide) (Or.inl rfl)) (by decide) (Or.inl rfl)) (by decide) (Or.inl rfl)) (by decide) (Or.inl rfl)) ?_
            refine x_iload 180 hK rfl rfl lk1_s ?_
            refine x_if_eq 187 183 hK rfl rfl rfl (by omega) (fun c => by omega) (fun _ => ?_)
            refine x_iconst 184 hK rfl rfl ?_
            refine x_goto 188 hK rfl rfl ?_
            refine x_callS 191 hK hmono rfl (Or.inl rfl) rfl [.int (I 1)] [.int (I left)] rfl rfl (Nat.le_of_ble_eq_true rfl) (Nat.le_of_ble_eq_true rfl) (CLd_le (Nat.le_of_ble_eq_true rfl) (ctX11_flag (by omega))) ?_
            rintro v9 h9 ⟨e9, rfl⟩
            rw [e9]
            clear e9
            refine x_isub 192 hK rfl rfl ?_
            refine x_istore_n 193 hK rfl rfl _ rfl ?_
            refine x_aload_n 194 hK rfl rfl (lk1_n (lk1_n (lk1_n (lk1_n (lk1_n (lk1_n l0 (by decide) (Or.inl rfl)) (by decide) (Or.inl rfl)) (by decide) (Or.inl rfl)) (by decide) (Or.inl rfl)) (by decide) (Or.inl rfl)) (by decide) (Or.inl rfl)) ?_
            refine x_iload 196 hK rfl rfl (lk1_n lk1_s (by decide) (Or.inl rfl)) ?_
            refine x_i2l 197 hK rfl rfl (by omega) ?_
            have z311 : gi h289 171 1 = k := (FRM_gi hF289 (r := 54) rfl rfl).trans ((gi_a (by decide) _).trans ((FRM_gi hF281 (r := 54) rfl rfl).trans (rl)))
            have z311r : mrow h289 = vs := (mrow_F hF289 rfl rfl).trans ((mrow_a (by decide)).trans ((mrow_F hF281 rfl rfl).trans (hvs)))
            refine x_callV 200 hK hmono rfl rfl [.ref 171, .long (J (-1))] [] rfl rfl (Nat.le_of_ble_eq_true rfl) (Nat.le_of_ble_eq_true rfl) rfl (sp_171 (h := h289) hG289) (CLd_le (Nat.le_of_ble_eq_true rfl) (ctX11_entersF hSP hG289 (by omega) (by omega))) ?_
            rintro v310 h310 ⟨rfl, hG310, hF310, t310, s310⟩
            rw [z311] at t310
            rw [z311r] at s310
            refine x_iinc 203 hK rfl rfl (lk1_n (lk1_n (lk1_n (lk1_n (lk1_n (lk1_n l4 (by decide) (Or.inl rfl)) (by decide) (Or.inl rfl)) (by decide) (Or.inl rfl)) (by decide) (Or.inl rfl)) (by decide) (Or.inl rfl)) (by decide) (Or.inl rfl)) _ rfl ?_
            refine x_goto 50 hK rfl rfl ?_
            exact ih _ (by rw [← hm, md]; exact Nat.lt_succ_self _) (left - 1) (k + 1) _ _ rfl (hn) (n1) (p1) (by omega) ((FRM_gi hF310 (r := 54) rfl rfl).trans ((FRM_gi hF289 (r := 54) rfl rfl).trans ((gi_a (by decide) _).trans ((FRM_gi hF281 (r := 54) rfl rfl).trans (t4))))) ((by rw [show mrow h310 = vs ++ [(-1)] from s310, List.length_append]; simp; omega)) ((t310)) ((by rw [show mrow h310 = vs ++ [(-1)] from s310]; exact fun j j0 j1 => if c : j = k then (by subst c; rw [chL_s, vl]; exact ((FRM_gi hF310 (r := 72) rfl rfl).trans ((FRM_gi hF289 (r := 72) rfl rfl).trans (gi_same (by omega)))).trans (if_pos rfl).symm) else (by rw [chL_s, vl]; exact ((FRM_gi hF310 (r := 72) rfl rfl).trans ((FRM_gi hF289 (r := 72) rfl rfl).trans ((gi_k (by omega) _).trans (FRM_gi hF281 (r := 72) rfl (by first | rfl | exact mh72 _))))).trans ((cv j j0 j1).trans (if_neg c).symm)))) ((by rw [show mrow h310 = vs ++ [(-1)] from s310, vo, if_neg (by omega)])) ((by omega)) ((by rw [show mrow h310 = vs ++ [(-1)] from s310, ← e4, md]; show _ = plR h n _ (left - if plV h n left vs = 0 then 0 else 1) (vs ++ [plV h n left vs]); rw [ve, if_neg (by omega)])) (lk1_n (lk1_n (lk1_n (lk1_n (lk1_n (lk1_n (lk1_n l0 (by decide) (Or.inl rfl)) (by decide) (Or.inl rfl)) (by decide) (Or.inl rfl)) (by decide) (Or.inl rfl)) (by decide) (Or.inl rfl)) (by decide) (Or.inl rfl)) (by decide) (Or.inl rfl)) (lk1_n (lk1_n (lk1_n (lk1_n (lk1_n (lk1_n (lk1_n l1 (by decide) (Or.inl rfl)) (by decide) (Or.inl rfl)) (by decide) (Or.inl rfl)) (by decide) (Or.inl rfl)) (by decide) (Or.inl rfl)) (by decide) (Or.inl rfl)) (by decide) (Or.inl rfl)) (lk1_n (lk1_n (lk1_n (lk1_n (lk1_n (lk1_n (lk1_n l2 (by decide) (Or.inl rfl)) (by decide) (Or.inl rfl)) (by decide) (Or.inl rfl)) (by decide) (Or.inl rfl)) (by decide) (Or.inl rfl)) (by decide) (Or.inl rfl)) (by decide) (Or.inl rfl)) (lk1_n lk1_s (by decide) (Or.inl rfl)) lk1_s (hG310) (((FRM_wn 0 29 ((hF4).trans ((hF281).mono rfl)) (r := 72) rfl rfl rfl (by omega) (by omega)).trans ((hF289).mono rfl)).trans ((hF310).mono rfl))
  refine x_aload_n 1 hK rfl rfl rfl ?_
  refine x_iconst 2 hK rfl rfl ?_
  refine x_putI 5 hK rfl rfl (sp_171 (h := h) hG) ?_
  refine x_iload_n 6 hK rfl rfl rfl ?_
  refine x_i2l 7 hK rfl rfl (by omega) ?_
  refine x_lconstE 8 1 hK rfl rfl rfl ?_
  refine x_ldc2_w 11 hK rfl rfl ?_
  have hGp312 : GD gE gRL sh (wI h 171 0 0) := GD_w1 (hG) (r := 54) rfl (by omega) rfl (by omega) (by omega)
  refine x_callS 14 hK hmono rfl (Or.inl rfl) rfl [.long (J n), .long (J 1), .long (J 30)] [] rfl rfl (Nat.le_of_ble_eq_true rfl) (Nat.le_of_ble_eq_true rfl) (CLd_le (Nat.le_of_ble_eq_true rfl) (ctX11_in (by omega) (by omega) (by omega))) ?_
  rintro v9 h9 ⟨e9, ⟨rfl, i1313, i2313⟩ | ⟨rfl, i1313⟩⟩ <;> rw [e9] <;> clear e9
  · refine x_if_ne 19 17 hK rfl rfl rfl (by omega) (fun _ => ?_) (fun c => by omega)
    refine x_aload_n 20 hK rfl rfl rfl ?_
    refine x_iconst 21 hK rfl rfl ?_
    have hGp314 : GD gE gRL sh (wI h 171 0 0) := GD_w1 (hG) (r := 54) rfl (by omega) rfl (by omega) (by omega)
    refine x_callV 24 hK hmono rfl rfl [.ref 171, .int (I 0)] [] rfl rfl (Nat.le_of_ble_eq_true rfl) (Nat.le_of_ble_eq_true rfl) rfl (sp_171 (h := h) hG) (CLd_le (Nat.le_of_ble_eq_true rfl) (ctX11_choosesAny hSP hGp314 (a := 0) (by omega))) ?_
    rintro v2 h2 ⟨rfl, hG2, hF2, ch2⟩
    refine x_aload_n 25 hK rfl rfl rfl ?_
    refine x_iload_n 26 hK rfl rfl rfl ?_
    have hn : 0 ≤ n ∧ n ≤ 30 := ⟨by omega, by omega⟩
    have hXc315 : XI h2 := (xOk_ok rfl _ h2 hF2 (xOk_ok rfl h (wI h 171 0 0) (FRM_w ((FRM.rf : FRM gRL [(0, 54, 0, 0)] h h)) (r := 54) rfl rfl) hX))
    refine x_callV 29 hK hmono rfl rfl [.ref 171, .int (I n)] [] rfl rfl (Nat.le_of_ble_eq_true rfl) (Nat.le_of_ble_eq_true rfl) rfl (sp_171 (h := h2) hG2) (CLd_le (Nat.le_of_ble_eq_true rfl) (ctX11_fewestOrders hSP hG2 hXc315 hn (by rw [show gi h2 178 0 = gi h 178 0 from (FRM_gi hF2 (r := 61) rfl rfl).trans (gi_a (by decide) _)]; exact h0))) ?_
    rw [show RC h2 178 0 = RC h 178 0 from (RC_F hF2 (r := 61) rfl rfl 0).trans (RC_w (by decide)), show gi h2 178 0 = gi h 178 0 from (FRM_gi hF2 (r := 61) rfl rfl).trans (gi_a (by decide) _), show gi h2 178 4 = gi h 178 4 from (FRM_gi hF2 (r := 61) rfl rfl).trans (gi_a (by decide) _), show gi h2 178 1 = gi h 178 1 from (FRM_gi hF2 (r := 61) rfl rfl).trans (gi_a (by decide) _), show gi h2 171 5 = gi h 171 5 from (FRM_gi hF2 (r := 54) rfl rfl).trans (gi_k (by decide) _), show gi h2 171 6 = gi h 171 6 from (FRM_gi hF2 (r := 54) rfl rfl).trans (gi_k (by decide) _), show gi h2 175 = gi h 175 from funext fun j => (FRM_gi hF2 (r := 58) rfl rfl).trans (gi_a (by decide) _), show gi h2 176 = gi h 176 from funext fun j => (FRM_gi hF2 (r := 59) rfl rfl).trans (gi_a (by decide) _), show dlA h2 = dlA h from funext fun s => (dlA_F hF2 rfl s).trans (dlA_w (by decide) (Or.inr (by decide)))]
    have cv315 : ∀ j : Int, 0 ≤ j → j < 30 → gi h2 189 j.toNat = chL [] j := fun j j0 j1 => (ch2 j.toNat (by omega)).trans ((if_neg (by omega)).trans (if_neg (fun z => by have := z.2; simp at this; omega)).symm)
    rw [show fwN (opsF (fun jj => gi h2 189 jj.toNat) (gi h 171 5) (fun t g => hitN (gi h 175) (gi h 176) ((gi h 178 0) + t) (g : Int) (gi h 171 6).toNat) (opsT (wl (RC h 178 0)) (gi h 178 0) (gi h 178 4) (dlA h) n.toNat) (fun (l : Nat) => if (l : Int) = gi h 178 1 then 0 else 1000)) 9 = plP h n [] from by unfold plP; rw [opsF_ch (ch := fun jj => gi h2 189 jj.toNat) (ch' := chL []) _ _ fun z hz z1 => by have zn := opsT_n n.toNat hz z1; exact cv315 z.2 zn.1 (by omega)]]
    rintro v315 h315 ⟨rfl, hG315, hF315⟩
    have pb315 := plP_r h n []
    refine x_istore_n 30 hK rfl rfl [(2, .int (I (plP h n []))), (0, .ref 171), (1, .int (I n))] rfl ?_
    refine x_iload_n 31 hK rfl rfl rfl ?_
    refine x_sipush 34 hK rfl rfl rfl ?_
    refine x_if_icmp_lt 40 37 hK rfl rfl rfl (by omega) (by omega) (fun c19 => ?_) (fun c19 => ?_)
    · refine x_iload_n 41 hK rfl rfl rfl ?_
      refine x_istore_n 42 hK rfl rfl [(3, .int (I (plP h n []))), (2, .int (I (plP h n []))), (0, .ref 171), (1, .int (I n))] rfl ?_
      refine x_aload_n 43 hK rfl rfl rfl ?_
      refine x_iconst 44 hK rfl rfl ?_
      refine x_putI 47 hK rfl rfl (sp_171 (h := h315) hG315) ?_
      refine x_iconst 48 hK rfl rfl ?_
      refine x_istore 50 hK rfl rfl [(4, .int (I 0)), (3, .int (I (plP h n []))), (2, .int (I (plP h n []))), (0, .ref 171), (1, .int (I n))] rfl ?_
      exact loopK _ (plP h n []) 0 _ _ rfl (hn) (by omega) (by omega) (by omega) ((gi_k (by decide) _).trans ((FRM_gi hF315 (r := 54) rfl rfl).trans ((FRM_gi hF2 (r := 54) rfl rfl).trans (gi_same (by omega))))) ((by rw [show mrow (wI h315 171 1 0) = [] from mrow_0 (gi_same (by omega))]; rfl)) (gi_same (by omega)) ((by rw [show mrow (wI h315 171 1 0) = [] from mrow_0 (gi_same (by omega))]; exact fun j j0 j1 => ((gi_a (by decide) _).trans (FRM_gi hF315 (r := 72) rfl rfl)).trans ((ch2 j.toNat (by omega)).trans ((if_neg (by omega)).trans (if_neg (fun z => by have := z.2; simp at this; omega)).symm)))) ((by rw [show mrow (wI h315 171 1 0) = [] from mrow_0 (gi_same (by omega))])) (by omega) ((by rw [show mrow (wI h315 171 1 0) = [] from mrow_0 (gi_same (by omega)), Int.sub_zero])) rfl rfl rfl rfl rfl (GD_w1 (hG315) (r := 54) rfl (by omega) rfl (by omega) (by omega)) (FRM_w (((FRM_w ((FRM.rf : FRM gRL [(0, 54, 0, 0), (0, 54, 1, 1), (0, 67, 0, 79), (0, 68, 0, 3), (0, 72, 0, 29), (0, 73, 0, 8), (0, 74, 0, 8), (1, 55, 0, 39)] h h)) (r := 54) rfl rfl).trans ((hF2).mono rfl)).trans ((hF315).mono rfl)) (r := 54) rfl rfl)
    · refine x_bipush 39 hK rfl rfl rfl ?_
      exact x_iret hK rfl ⟨Or.inr (Or.inl ⟨⟨by omega, by omega⟩, by omega, rfl, (mrow_F hF315 rfl rfl).trans ((mrow_F hF2 rfl rfl).trans (mrow_k (by decide)))⟩), hG315, ((FRM_w ((FRM.rf : FRM gRL [(0, 54, 0, 0), (0, 54, 1, 1), (0, 67, 0, 79), (0, 68, 0, 3), (0, 72, 0, 29), (0, 73, 0, 8), (0, 74, 0, 8), (1, 55, 0, 39)] h h)) (r := 54) rfl rfl).trans ((hF2).mono rfl)).trans ((hF315).mono rfl), (FRM_gi hF315 (r := 54) rfl rfl).trans ((FRM_gi hF2 (r := 54) rfl rfl).trans (gi_same (by omega)))⟩
  · refine x_if_ne 19 17 hK rfl rfl rfl (by omega) (fun c => by omega) (fun _ => ?_)
    refine x_iconst 18 hK rfl rfl ?_
    exact x_iret hK rfl ⟨Or.inl ⟨by omega, rfl, mrow_k (by decide)⟩, GD_w1 (hG) (r := 54) rfl (by omega) rfl (by omega) (by omega), FRM_w ((FRM.rf : FRM gRL [(0, 54, 0, 0), (0, 54, 1, 1), (0, 67, 0, 79), (0, 68, 0, 3), (0, 72, 0, 29), (0, 73, 0, 8), (0, 74, 0, 8), (1, 55, 0, 39)] h h)) (r := 54) rfl rfl, gi_same (by omega)⟩
end
section
/-! THE TEXTS: String.length and String.charAt by the machine -/
theorem dJ0_length_8abf5_0 : decode cJ0_length_8abf5 0 = .ok (.aload_n 0, 1) := by decide +kernel
theorem dJ0_length_8abf5_1 : decode cJ0_length_8abf5 1 = .ok (.getfield 9, 3) := by decide +kernel
theorem dJ0_length_8abf5_4 : decode cJ0_length_8abf5 4 = .ok (.arraylength, 1) := by decide +kernel
theorem dJ0_length_8abf5_5 : decode cJ0_length_8abf5 5 = .ok (.aload_n 0, 1) := by decide +kernel
theorem dJ0_length_8abf5_6 : decode cJ0_length_8abf5 6 = .ok (.invokevirtual 335, 3) := by decide +kernel
theorem dJ0_length_8abf5_9 : decode cJ0_length_8abf5 9 = .ok (.ishr, 1) := by decide +kernel
theorem dJ0_length_8abf5_10 : decode cJ0_length_8abf5 10 = .ok (.ireturn, 1) := by decide +kernel
theorem dJ0_coder_7d493_0 : decode cJ0_coder_7d493 0 = .ok (.getstatic 38, 3) := by decide +kernel
theorem dJ0_coder_7d493_3 : decode cJ0_coder_7d493 3 = .ok (.ifCond .eq 10, 3) := by decide +kernel
theorem dJ0_coder_7d493_6 : decode cJ0_coder_7d493 6 = .ok (.aload_n 0, 1) := by decide +kernel
theorem dJ0_coder_7d493_7 : decode cJ0_coder_7d493 7 = .ok (.getfield 15, 3) := by decide +kernel
theorem dJ0_coder_7d493_10 : decode cJ0_coder_7d493 10 = .ok (.goto 4, 3) := by decide +kernel
theorem dJ0_coder_7d493_14 : decode cJ0_coder_7d493 14 = .ok (.ireturn, 1) := by decide +kernel
theorem dJ0_charAt_5068e_0 : decode cJ0_charAt_5068e 0 = .ok (.aload_n 0, 1) := by decide +kernel
theorem dJ0_charAt_5068e_1 : decode cJ0_charAt_5068e 1 = .ok (.invokevirtual 492, 3) := by decide +kernel
theorem dJ0_charAt_5068e_4 : decode cJ0_charAt_5068e 4 = .ok (.ifCond .eq 12, 3) := by decide +kernel
theorem dJ0_charAt_5068e_7 : decode cJ0_charAt_5068e 7 = .ok (.aload_n 0, 1) := by decide +kernel
theorem dJ0_charAt_5068e_8 : decode cJ0_charAt_5068e 8 = .ok (.getfield 9, 3) := by decide +kernel
theorem dJ0_charAt_5068e_11 : decode cJ0_charAt_5068e 11 = .ok (.iload_n 1, 1) := by decide +kernel
theorem dJ0_charAt_5068e_12 : decode cJ0_charAt_5068e 12 = .ok (.invokestatic 495, 3) := by decide +kernel
theorem dJ0_charAt_5068e_15 : decode cJ0_charAt_5068e 15 = .ok (.ireturn, 1) := by decide +kernel
theorem dJ0_isLatin1_aae02_0 : decode cJ0_isLatin1_aae02 0 = .ok (.getstatic 38, 3) := by decide +kernel
theorem dJ0_isLatin1_aae02_3 : decode cJ0_isLatin1_aae02 3 = .ok (.ifCond .eq 14, 3) := by decide +kernel
theorem dJ0_isLatin1_aae02_6 : decode cJ0_isLatin1_aae02 6 = .ok (.aload_n 0, 1) := by decide +kernel
theorem dJ0_isLatin1_aae02_7 : decode cJ0_isLatin1_aae02 7 = .ok (.getfield 15, 3) := by decide +kernel
theorem dJ0_isLatin1_aae02_10 : decode cJ0_isLatin1_aae02 10 = .ok (.ifCond .ne 7, 3) := by decide +kernel
theorem dJ0_isLatin1_aae02_13 : decode cJ0_isLatin1_aae02 13 = .ok (.iconst 1, 1) := by decide +kernel
theorem dJ0_isLatin1_aae02_14 : decode cJ0_isLatin1_aae02 14 = .ok (.goto 4, 3) := by decide +kernel
theorem dJ0_isLatin1_aae02_18 : decode cJ0_isLatin1_aae02 18 = .ok (.ireturn, 1) := by decide +kernel
theorem dJ0_checkIndex_df160_0 : decode cJ0_checkIndex_df160 0 = .ok (.iload_n 0, 1) := by decide +kernel
theorem dJ0_checkIndex_df160_1 : decode cJ0_checkIndex_df160 1 = .ok (.iload_n 1, 1) := by decide +kernel
theorem dJ0_checkIndex_df160_2 : decode cJ0_checkIndex_df160 2 = .ok (.getstatic 1053, 3) := by decide +kernel
theorem dJ0_checkIndex_df160_5 : decode cJ0_checkIndex_df160 5 = .ok (.invokestatic 1059, 3) := by decide +kernel
theorem dJ0_checkIndex_df160_8 : decode cJ0_checkIndex_df160 8 = .ok (.pop, 1) := by decide +kernel
theorem dJ0_checkIndex_df160_9 : decode cJ0_checkIndex_df160 9 = .ok (.return_, 1) := by decide +kernel
theorem dJ3_checkIndex_8e157_0 : decode cJ3_checkIndex_8e157 0 = .ok (.iload_n 0, 1) := by decide +kernel
theorem dJ3_checkIndex_8e157_1 : decode cJ3_checkIndex_8e157 1 = .ok (.ifCond .lt 8, 3) := by decide +kernel
theorem dJ3_checkIndex_8e157_4 : decode cJ3_checkIndex_8e157 4 = .ok (.iload_n 0, 1) := by decide +kernel
theorem dJ3_checkIndex_8e157_5 : decode cJ3_checkIndex_8e157 5 = .ok (.iload_n 1, 1) := by decide +kernel
theorem dJ3_checkIndex_8e157_6 : decode cJ3_checkIndex_8e157 6 = .ok (.if_icmp .lt 10, 3) := by decide +kernel
theorem dJ3_checkIndex_8e157_16 : decode cJ3_checkIndex_8e157 16 = .ok (.iload_n 0, 1) := by decide +kernel
theorem dJ3_checkIndex_8e157_17 : decode cJ3_checkIndex_8e157 17 = .ok (.ireturn, 1) := by decide +kernel
theorem dJ1_charAt_3b067_0 : decode cJ1_charAt_3b067 0 = .ok (.iload_n 1, 1) := by decide +kernel
theorem dJ1_charAt_3b067_1 : decode cJ1_charAt_3b067 1 = .ok (.aload_n 0, 1) := by decide +kernel
theorem dJ1_charAt_3b067_2 : decode cJ1_charAt_3b067 2 = .ok (.arraylength, 1) := by decide +kernel
theorem dJ1_charAt_3b067_3 : decode cJ1_charAt_3b067 3 = .ok (.invokestatic 9, 3) := by decide +kernel
theorem dJ1_charAt_3b067_6 : decode cJ1_charAt_3b067 6 = .ok (.aload_n 0, 1) := by decide +kernel
theorem dJ1_charAt_3b067_7 : decode cJ1_charAt_3b067 7 = .ok (.iload_n 1, 1) := by decide +kernel
theorem dJ1_charAt_3b067_8 : decode cJ1_charAt_3b067 8 = .ok (.baload, 1) := by decide +kernel
theorem dJ1_charAt_3b067_9 : decode cJ1_charAt_3b067 9 = .ok (.sipush 255, 3) := by decide +kernel
theorem dJ1_charAt_3b067_12 : decode cJ1_charAt_3b067 12 = .ok (.iand, 1) := by decide +kernel
theorem dJ1_charAt_3b067_13 : decode cJ1_charAt_3b067 13 = .ok (.i2c, 1) := by decide +kernel
theorem dJ1_charAt_3b067_14 : decode cJ1_charAt_3b067 14 = .ok (.ireturn, 1) := by decide +kernel
theorem j9ini_String : Jvm.Cond.initialized "java/lang/String" ∈ GW := atT_gw (i := 100) (by decide +kernel)
theorem j9ini_StringLatin1 : Jvm.Cond.initialized "java/lang/StringLatin1" ∈ GW := atT_gw (i := 101) (by decide +kernel)
theorem j9ini_Preconditions : Jvm.Cond.initialized "jdk/internal/util/Preconditions" ∈ GW := atT_gw (i := 102) (by decide +kernel)
theorem j9ml_String_335 : Jvm.Cond.methodLink "java/lang/String" 335 yJ0_coder_7d493 ∈ GW := atT_gw (i := 1312) (by decide +kernel)
theorem j9in_coder : Jvm.Cond.instanceMethod yJ0_coder_7d493 ∈ GW := atT_gw (i := 1313) (by decide +kernel)
theorem j9se_coder : Jvm.Cond.selects "java/lang/String" yJ0_coder_7d493 yJ0_coder_7d493 ∈ GW := atT_gw (i := 1314) (by decide +kernel)
theorem j9co_String_coder : Jvm.Cond.code yJ0_coder_7d493 prog_21_method_152_code 1 (some .byte) ∈ GW := atT_gw (i := 1315) (by decide +kernel)
theorem j9fl_COMPACT_STRINGS : Jvm.Cond.fieldLink "java/lang/String" 38 "java/lang/String" "COMPACT_STRINGS" "Z" ∈ GW := atT_gw (i := 1316) (by decide +kernel)
theorem j9ml_String_492 : Jvm.Cond.methodLink "java/lang/String" 492 yJ0_isLatin1_aae02 ∈ GW := atT_gw (i := 1322) (by decide +kernel)
theorem j9in_isLatin1 : Jvm.Cond.instanceMethod yJ0_isLatin1_aae02 ∈ GW := atT_gw (i := 1323) (by decide +kernel)
theorem j9se_isLatin1 : Jvm.Cond.selects "java/lang/String" yJ0_isLatin1_aae02 yJ0_isLatin1_aae02 ∈ GW := atT_gw (i := 1324) (by decide +kernel)
theorem j9co_String_isLatin1 : Jvm.Cond.code yJ0_isLatin1_aae02 prog_21_method_154_code 1 (some .boolean) ∈ GW := atT_gw (i := 1325) (by decide +kernel)
theorem j9ml_String_495 : Jvm.Cond.methodLink "java/lang/String" 495 yJ1_charAt_3b067 ∈ GW := atT_gw (i := 1326) (by decide +kernel)
theorem j9st_StringLatin1_charAt : Jvm.Cond.static yJ1_charAt_3b067 ∈ GW := atT_gw (i := 1327) (by decide +kernel)
theorem j9co_StringLatin1_charAt : Jvm.Cond.code yJ1_charAt_3b067 prog_22_method_2_code 2 (some .char) ∈ GW := atT_gw (i := 1328) (by decide +kernel)
theorem j9ml_StringLatin1_9 : Jvm.Cond.methodLink "java/lang/StringLatin1" 9 yJ0_checkIndex_df160 ∈ GW := atT_gw (i := 1329) (by decide +kernel)
theorem j9st_String_checkIndex : Jvm.Cond.static yJ0_checkIndex_df160 ∈ GW := atT_gw (i := 1330) (by decide +kernel)
theorem j9co_String_checkIndex : Jvm.Cond.code yJ0_checkIndex_df160 prog_21_method_155_code 2 none ∈ GW := atT_gw (i := 1331) (by decide +kernel)
theorem j9fl_SIOOBE_FORMATTER : Jvm.Cond.fieldLink "java/lang/String" 1053 "jdk/internal/util/Preconditions" "SIOOBE_FORMATTER" "Ljava/util/function/BiFunction;" ∈ GW := atT_gw (i := 1332) (by decide +kernel)
theorem j9ml_String_1059 : Jvm.Cond.methodLink "java/lang/String" 1059 yJ3_checkIndex_8e157 ∈ GW := atT_gw (i := 1334) (by decide +kernel)
theorem j9st_Preconditions_checkIndex : Jvm.Cond.static yJ3_checkIndex_8e157 ∈ GW := atT_gw (i := 1335) (by decide +kernel)
theorem j9co_Preconditions_checkIndex : Jvm.Cond.code yJ3_checkIndex_8e157 prog_30_method_11_code 3 (some .int) ∈ GW := atT_gw (i := 1336) (by decide +kernel)
theorem j9fl_value : Jvm.Cond.fieldLink "java/lang/String" 9 "java/lang/String" "value" "[B" ∈ GW := atT_gw (i := 1781) (by decide +kernel)
theorem j9fl_coder : Jvm.Cond.fieldLink "java/lang/String" 15 "java/lang/String" "coder" "B" ∈ GW := atT_gw (i := 1782) (by decide +kernel)
noncomputable def jws (y : MethodName) (c : ByteArray) (n : Nat) (r : Option FieldType) : List Jvm.Cond := Jvm.Cond.code y c n r :: GW
noncomputable def jP (adK adV : Nat → Nat) (A : Nat → Prop) (as : List Value) : Array Value → State → Prop := va_Pc as (fun U => U2 adK adV A U U.heap)
noncomputable def jQ (rv : Option Value) : Array Value → State → Outcome → State → Prop := fun _ st o t => o = .returned rv ∧ t.heap = st.heap
theorem jP_blind {adK adV : Nat → Nat} {A : Nat → Prop} {as : List Value} : FrameBlind (jP adK adV A as) := by
  intro a U g mk q
  obtain ⟨q0, q5⟩ := q
  exact ⟨q0, U2.moved (u := U) (Vm.Alike.refl U.vm) q5⟩
theorem jP_here {adK adV : Nat → Nat} {A : Nat → Prop} {as : List Value} {s : State} (hU2 : U2 adK adV A s s.heap) : ∀ U : State, U.heap = s.heap → s.WarmedH U.vm → jP adK adV A as as.toArray U := by
  intro U hU hW
  exact ⟨rfl, by show U2 adK adV A U U.heap; rw [hU]; exact hU2.moved hW.alike⟩
theorem jQ_F {A : Nat → Prop} {rv : Option Value} {a : Array Value} : ∀ st o t, jQ rv a st o t → va_F A st t := fun st o t h => ⟨by rw [h.2]; exact Nat.le_refl _, fun q _ _ => by rw [h.2]⟩
theorem jgS {own : String} {idx : Nat} {y : MethodName} {c : ByteArray} {n : Nat} {r : Option FieldType} (w1 : Jvm.Cond.methodLink own idx y ∈ GW) (w2 : Jvm.Cond.static y ∈ GW) (w3 : Jvm.Cond.initialized y.cls ∈ GW) (w4 : Jvm.Cond.code y c n r ∈ GW) : GoodIn GW (va_wsS own idx y (jws y c n r)) := GW_good (fun w hw => by
  rcases List.mem_append.mp (show w ∈ ([.methodLink own idx y, .static y, .initialized y.cls] : List Jvm.Cond) ++ jws y c n r from hw) with h9 | h9
  · simp only [List.mem_cons, List.not_mem_nil, or_false] at h9
    rcases h9 with rfl | rfl | rfl
    · exact w1
    · exact w2
    · exact w3
  · rcases List.mem_cons.mp h9 with rfl | h9
    · exact w4
    · exact h9)
theorem jgV {own : String} {idx : Nat} {y : MethodName} {c : ByteArray} {n : Nat} {r : Option FieldType} (w1 : Jvm.Cond.methodLink own idx y ∈ GW) (w2 : Jvm.Cond.instanceMethod y ∈ GW) (w3 : Jvm.Cond.selects y.cls y y ∈ GW) (w5 : Jvm.Cond.initialized y.cls ∈ GW) (w4 : Jvm.Cond.code y c n r ∈ GW) : GoodIn GW (wsV own idx y.cls y (jws y c n r)) := GW_good (fun w hw => by
  rcases List.mem_append.mp (show w ∈ ([.methodLink own idx y, .instanceMethod y, .selects y.cls y y, .initialized y.cls] : List Jvm.Cond) ++ jws y c n r from hw) with h9 | h9
  · simp only [List.mem_cons, List.not_mem_nil, or_false] at h9
    rcases h9 with rfl | rfl | rfl | rfl
    · exact w1
    · exact w2
    · exact w3
    · exact w5
  · rcases List.mem_cons.mp h9 with rfl | h9
    · exact w4
    · exact h9)
set_option maxHeartbeats 4000000 in
set_option maxRecDepth 100000 in
theorem j9_coder (l : Launch) {adK adV : Nat → Nat} {A : Nat → Prop} {b : Nat} (h6 : b < 6) : Met l yJ0_coder_7d493 (jws yJ0_coder_7d493 cJ0_coder_7d493 1 (some .byte)) { frames := 1, cells := 0, slots := 0, locals := 100 } (jP adK adV A [.ref (adK b)]) (jQ (some (.int 0))) 0 0 A := by
  refine Met.ofW (cc := cJ0_coder_7d493) (maxL := 1) (ret := (some .byte)) (by decide) rfl ?_
  intro p e s m args below meth c s₁ B hml hv
  obtain ⟨rfl, hU2⟩ := hv
  have hx := B.exec
  have hb := B.bytes
  have hr := B.returns
  have hts0 := atoms_spec (ws := jws yJ0_coder_7d493 cJ0_coder_7d493 1 (some .byte)) B.pre
  have hts : ∀ w ∈ GW, w.before ([.ref (adK b)] : List Value).toArray s = true := fun w hw => hts0 w (List.mem_cons_of_mem _ hw)
  have hown : s.vm.findClass RJ0 = some m.cls := findClass_of_methodNamed B.named
  have hlocks := B.notSynchronized
  have hS : va_S A s.heap s.heap [] := va_S.rf
  have hl := lv_entry ([.ref (adK b)]) (n := 1) (Nat.le_of_ble_eq_true rfl)
  rw [lg_entry_eq]
  generalize (lg_sl ([.ref (adK b)]) ++ List.replicate (1 - (lg_sl ([.ref (adK b)])).length) Slot.unset).toArray = ls at hl ⊢
  have hl : lv_has ls 1 [(0, .ref (adK b))] := hl
  refine va_gets hx hb hU2.2.1 hS hown (hts _ j9fl_COMPACT_STRINGS) (fun _ h9 => h9) dJ0_coder_7d493_0 ?_
  refine lv_if_eq (tgt := 13) hx hb dJ0_coder_7d493_3 (by decide) (fun q => absurd q (by decide)) (fun _ => ?_)
  refine lv_aload_n hx hb dJ0_coder_7d493_6 rfl (lv_at hl 0 rfl) ?_
  refine vk_getf hx hb (hU2.1.1 b h6).2.1 hS hown (hts _ j9fl_coder) (fun _ h9 => h9) dJ0_coder_7d493_7 ?_
  refine lv_goto (tgt := 14) hx hb dJ0_coder_7d493_10 (by decide) ?_
  exact W.zret hx hb hr (by decide) (fun t ht _ => ⟨rfl, ht⟩) hS.2.2 dJ0_coder_7d493_14
set_option maxHeartbeats 4000000 in
set_option maxRecDepth 100000 in
theorem j9_isLatin1 (l : Launch) {adK adV : Nat → Nat} {A : Nat → Prop} {b : Nat} (h6 : b < 6) : Met l yJ0_isLatin1_aae02 (jws yJ0_isLatin1_aae02 cJ0_isLatin1_aae02 1 (some .boolean)) { frames := 1, cells := 0, slots := 0, locals := 100 } (jP adK adV A [.ref (adK b)]) (jQ (some (.int 1))) 0 0 A := by
  refine Met.ofW (cc := cJ0_isLatin1_aae02) (maxL := 1) (ret := (some .boolean)) (by decide) rfl ?_
  intro p e s m args below meth c s₁ B hml hv
  obtain ⟨rfl, hU2⟩ := hv
  have hx := B.exec
  have hb := B.bytes
  have hr := B.returns
  have hts0 := atoms_spec (ws := jws yJ0_isLatin1_aae02 cJ0_isLatin1_aae02 1 (some .boolean)) B.pre
  have hts : ∀ w ∈ GW, w.before ([.ref (adK b)] : List Value).toArray s = true := fun w hw => hts0 w (List.mem_cons_of_mem _ hw)
  have hown : s.vm.findClass RJ0 = some m.cls := findClass_of_methodNamed B.named
  have hlocks := B.notSynchronized
  have hS : va_S A s.heap s.heap [] := va_S.rf
  have hl := lv_entry ([.ref (adK b)]) (n := 1) (Nat.le_of_ble_eq_true rfl)
  rw [lg_entry_eq]
  generalize (lg_sl ([.ref (adK b)]) ++ List.replicate (1 - (lg_sl ([.ref (adK b)])).length) Slot.unset).toArray = ls at hl ⊢
  have hl : lv_has ls 1 [(0, .ref (adK b))] := hl
  refine va_gets hx hb hU2.2.1 hS hown (hts _ j9fl_COMPACT_STRINGS) (fun _ h9 => h9) dJ0_isLatin1_aae02_0 ?_
  refine lv_if_eq (tgt := 17) hx hb dJ0_isLatin1_aae02_3 (by decide) (fun q => absurd q (by decide)) (fun _ => ?_)
  refine lv_aload_n hx hb dJ0_isLatin1_aae02_6 rfl (lv_at hl 0 rfl) ?_
  refine vk_getf hx hb (hU2.1.1 b h6).2.1 hS hown (hts _ j9fl_coder) (fun _ h9 => h9) dJ0_isLatin1_aae02_7 ?_
  refine lv_if_ne (tgt := 17) hx hb dJ0_isLatin1_aae02_10 (by decide) (fun q => absurd rfl q) (fun _ => ?_)
  refine lv_iconst (v := 1) hx hb dJ0_isLatin1_aae02_13 (by decide) ?_
  refine lv_goto (tgt := 18) hx hb dJ0_isLatin1_aae02_14 (by decide) ?_
  exact W.zret hx hb hr (by decide) (fun t ht _ => ⟨rfl, ht⟩) hS.2.2 dJ0_isLatin1_aae02_18
set_option maxHeartbeats 4000000 in
set_option maxRecDepth 100000 in
theorem j9_chkN (l : Launch) {adK adV : Nat → Nat} {A : Nat → Prop} {i n : Int32} (h0 : ¬ i < 0) (h1 : i < n) : Met l yJ3_checkIndex_8e157 (jws yJ3_checkIndex_8e157 cJ3_checkIndex_8e157 3 (some .int)) { frames := 1, cells := 0, slots := 0, locals := 100 } (jP adK adV A [.int i, .int n, .null]) (jQ (some (.int i))) 0 0 A := by
  refine Met.ofW (cc := cJ3_checkIndex_8e157) (maxL := 3) (ret := (some .int)) (by decide) rfl ?_
  intro p e s m args below meth c s₁ B hml hv
  obtain ⟨rfl, hU2⟩ := hv
  have hx := B.exec
  have hb := B.bytes
  have hr := B.returns
  have hts0 := atoms_spec (ws := jws yJ3_checkIndex_8e157 cJ3_checkIndex_8e157 3 (some .int)) B.pre
  have hts : ∀ w ∈ GW, w.before ([.int i, .int n, .null] : List Value).toArray s = true := fun w hw => hts0 w (List.mem_cons_of_mem _ hw)
  have hown : s.vm.findClass RJ3 = some m.cls := findClass_of_methodNamed B.named
  have hlocks := B.notSynchronized
  have hS : va_S A s.heap s.heap [] := va_S.rf
  have hl := lv_entry ([.int i, .int n, .null]) (n := 3) (Nat.le_of_ble_eq_true rfl)
  rw [lg_entry_eq]
  generalize (lg_sl ([.int i, .int n, .null]) ++ List.replicate (3 - (lg_sl ([.int i, .int n, .null])).length) Slot.unset).toArray = ls at hl ⊢
  have hl : lv_has ls 3 [(0, .int i), (1, .int n), (2, .null)] := hl
  refine lv_iload_n hx hb dJ3_checkIndex_8e157_0 rfl (lv_at hl 0 rfl) ?_
  refine lv_if_lt (tgt := 9) hx hb dJ3_checkIndex_8e157_1 (by decide) (fun q => absurd q h0) (fun _ => ?_)
  refine lv_iload_n hx hb dJ3_checkIndex_8e157_4 rfl (lv_at hl 0 rfl) ?_
  refine lv_iload_n hx hb dJ3_checkIndex_8e157_5 rfl (lv_at hl 1 rfl) ?_
  refine lv_icmp_lt (tgt := 16) hx hb dJ3_checkIndex_8e157_6 (by decide) (fun _ => ?_) (fun q => absurd h1 q)
  refine lv_iload_n hx hb dJ3_checkIndex_8e157_16 rfl (lv_at hl 0 rfl) ?_
  exact W.iret (v := i) hx hb hr (fun t ht _ => ⟨rfl, ht⟩) hS.2.2 dJ3_checkIndex_8e157_17
set_option maxHeartbeats 4000000 in
set_option maxRecDepth 100000 in
theorem j9_chkR (l : Launch) {adK adV : Nat → Nat} {A : Nat → Prop} {t0 : Nat} {i n : Int32} (h0 : ¬ i < 0) (h1 : i < n) : Met l yJ3_checkIndex_8e157 (jws yJ3_checkIndex_8e157 cJ3_checkIndex_8e157 3 (some .int)) { frames := 1, cells := 0, slots := 0, locals := 100 } (jP adK adV A [.int i, .int n, .ref t0]) (jQ (some (.int i))) 0 0 A := by
  refine Met.ofW (cc := cJ3_checkIndex_8e157) (maxL := 3) (ret := (some .int)) (by decide) rfl ?_
  intro p e s m args below meth c s₁ B hml hv
  obtain ⟨rfl, hU2⟩ := hv
  have hx := B.exec
  have hb := B.bytes
  have hr := B.returns
  have hts0 := atoms_spec (ws := jws yJ3_checkIndex_8e157 cJ3_checkIndex_8e157 3 (some .int)) B.pre
  have hts : ∀ w ∈ GW, w.before ([.int i, .int n, .ref t0] : List Value).toArray s = true := fun w hw => hts0 w (List.mem_cons_of_mem _ hw)
  have hown : s.vm.findClass RJ3 = some m.cls := findClass_of_methodNamed B.named
  have hlocks := B.notSynchronized
  have hS : va_S A s.heap s.heap [] := va_S.rf
  have hl := lv_entry ([.int i, .int n, .ref t0]) (n := 3) (Nat.le_of_ble_eq_true rfl)
  rw [lg_entry_eq]
  generalize (lg_sl ([.int i, .int n, .ref t0]) ++ List.replicate (3 - (lg_sl ([.int i, .int n, .ref t0])).length) Slot.unset).toArray = ls at hl ⊢
  have hl : lv_has ls 3 [(0, .int i), (1, .int n), (2, .ref t0)] := hl
  refine lv_iload_n hx hb dJ3_checkIndex_8e157_0 rfl (lv_at hl 0 rfl) ?_
  refine lv_if_lt (tgt := 9) hx hb dJ3_checkIndex_8e157_1 (by decide) (fun q => absurd q h0) (fun _ => ?_)
  refine lv_iload_n hx hb dJ3_checkIndex_8e157_4 rfl (lv_at hl 0 rfl) ?_
  refine lv_iload_n hx hb dJ3_checkIndex_8e157_5 rfl (lv_at hl 1 rfl) ?_
  refine lv_icmp_lt (tgt := 16) hx hb dJ3_checkIndex_8e157_6 (by decide) (fun _ => ?_) (fun q => absurd h1 q)
  refine lv_iload_n hx hb dJ3_checkIndex_8e157_16 rfl (lv_at hl 0 rfl) ?_
  exact W.iret (v := i) hx hb hr (fun t ht _ => ⟨rfl, ht⟩) hS.2.2 dJ3_checkIndex_8e157_17
set_option maxHeartbeats 4000000 in
set_option maxRecDepth 100000 in
theorem j9_check (l : Launch) {adK adV : Nat → Nat} {A : Nat → Prop} {i n : Int32} (h0 : ¬ i < 0) (h1 : i < n) : Met l yJ0_checkIndex_df160 (jws yJ0_checkIndex_df160 cJ0_checkIndex_df160 2 none) { frames := 2, cells := 0, slots := 0, locals := 140 } (jP adK adV A [.int i, .int n]) (jQ none) 0 0 A := by
  refine Met.ofW (cc := cJ0_checkIndex_df160) (maxL := 2) (ret := none) (by decide) rfl ?_
  intro p e s m args below meth c s₁ B hml hv
  obtain ⟨rfl, hU2⟩ := hv
  have hx := B.exec
  have hb := B.bytes
  have hr := B.returns
  have hts0 := atoms_spec (ws := jws yJ0_checkIndex_df160 cJ0_checkIndex_df160 2 none) B.pre
  have hts : ∀ w ∈ GW, w.before ([.int i, .int n] : List Value).toArray s = true := fun w hw => hts0 w (List.mem_cons_of_mem _ hw)
  have hown : s.vm.findClass RJ0 = some m.cls := findClass_of_methodNamed B.named
  have hlocks := B.notSynchronized
  have hS : va_S A s.heap s.heap [] := va_S.rf
  have hl := lv_entry ([.int i, .int n]) (n := 2) (Nat.le_of_ble_eq_true rfl)
  rw [lg_entry_eq]
  generalize (lg_sl ([.int i, .int n]) ++ List.replicate (2 - (lg_sl ([.int i, .int n])).length) Slot.unset).toArray = ls at hl ⊢
  have hl : lv_has ls 2 [(0, .int i), (1, .int n)] := hl
  refine lv_iload_n hx hb dJ0_checkIndex_df160_0 rfl (lv_at hl 0 rfl) ?_
  refine lv_iload_n hx hb dJ0_checkIndex_df160_1 rfl (lv_at hl 1 rfl) ?_
  rcases hU2.2.2.1 with hz | ⟨t0, hz⟩
  · refine va_gets hx hb hz hS hown (hts _ j9fl_SIOOBE_FORMATTER) (fun _ h9 => h9) dJ0_checkIndex_df160_2 ?_
    refine ab_call (A1 := A) (free := A) (va_runS (As := [.int i, .int n, .null]) (rest := []) ⟨hx, hb, hml, hown, hts⟩ (j9_chkN l h0 h1) (va_cwS 3 hts (jgS j9ml_String_1059 j9st_Preconditions_checkIndex j9ini_Preconditions j9co_Preconditions_checkIndex) rfl rfl rfl (by decide +kernel) ⟨Nat.le_of_ble_eq_true rfl, Nat.le_of_ble_eq_true rfl⟩) ⟨jP_blind, jP_here hU2⟩ rfl rfl hl.1 rfl (lv_room (Nat.le_of_ble_eq_true rfl)) dJ0_checkIndex_df160_5 ⟨Nat.zero_le _, Nat.zero_le _⟩) hS (fun _ h9 => h9) (fun _ h9 => h9) jQ_F (fun rv9 st0 t H1 locs1 z1 z2 hq hS => ?_)
    obtain ⟨e1, e2⟩ := hq
    cases e1
    obtain rfl : s.heap = H1 := by rw [← z2, e2, z1]
    refine lv_pop hx hb dJ0_checkIndex_df160_8 rfl ?_
    exact W.vret hx hb hr (fun t ht _ => ⟨rfl, ht⟩) hS.2.2 dJ0_checkIndex_df160_9
  · refine va_gets hx hb hz hS hown (hts _ j9fl_SIOOBE_FORMATTER) (fun _ h9 => h9) dJ0_checkIndex_df160_2 ?_
    refine ab_call (A1 := A) (free := A) (va_runS (As := [.int i, .int n, .ref t0]) (rest := []) ⟨hx, hb, hml, hown, hts⟩ (j9_chkR l h0 h1) (va_cwS 3 hts (jgS j9ml_String_1059 j9st_Preconditions_checkIndex j9ini_Preconditions j9co_Preconditions_checkIndex) rfl rfl rfl (by decide +kernel) ⟨Nat.le_of_ble_eq_true rfl, Nat.le_of_ble_eq_true rfl⟩) ⟨jP_blind, jP_here hU2⟩ rfl rfl hl.1 rfl (lv_room (Nat.le_of_ble_eq_true rfl)) dJ0_checkIndex_df160_5 ⟨Nat.zero_le _, Nat.zero_le _⟩) hS (fun _ h9 => h9) (fun _ h9 => h9) jQ_F (fun rv9 st0 t H1 locs1 z1 z2 hq hS => ?_)
    obtain ⟨e1, e2⟩ := hq
    cases e1
    obtain rfl : s.heap = H1 := by rw [← z2, e2, z1]
    refine lv_pop hx hb dJ0_checkIndex_df160_8 rfl ?_
    exact W.vret hx hb hr (fun t ht _ => ⟨rfl, ht⟩) hS.2.2 dJ0_checkIndex_df160_9
set_option maxHeartbeats 4000000 in
set_option maxRecDepth 100000 in
theorem j9_chr (l : Launch) {adK adV : Nat → Nat} {A : Nat → Prop} {b : Nat} (h6 : b < 6) {i : Int32} (h0 : ¬ i < 0) (h1 : i < Int32.ofNat (leJ.getD b 0)) (h2 : vp_in i (leJ.getD b 0)) {r : Int32} (h3 : ((((byJ.getD b []).getD i.toNatClampNeg 0) &&& 255).toUInt32 % 65536).toInt32 = r) (h4 : narrow .char (.int r) = .int r) : Met l yJ1_charAt_3b067 (jws yJ1_charAt_3b067 cJ1_charAt_3b067 2 (some .char)) { frames := 3, cells := 0, slots := 0, locals := 180 } (jP adK adV A [.ref (adV b), .int i]) (jQ (some (.int r))) 0 0 A := by
  refine Met.ofW (cc := cJ1_charAt_3b067) (maxL := 2) (ret := (some .char)) (by decide) rfl ?_
  intro p e s m args below meth c s₁ B hml hv
  obtain ⟨rfl, hU2⟩ := hv
  have hx := B.exec
  have hb := B.bytes
  have hr := B.returns
  have hts0 := atoms_spec (ws := jws yJ1_charAt_3b067 cJ1_charAt_3b067 2 (some .char)) B.pre
  have hts : ∀ w ∈ GW, w.before ([.ref (adV b), .int i] : List Value).toArray s = true := fun w hw => hts0 w (List.mem_cons_of_mem _ hw)
  have hown : s.vm.findClass RJ1 = some m.cls := findClass_of_methodNamed B.named
  have hlocks := B.notSynchronized
  have hS : va_S A s.heap s.heap [] := va_S.rf
  have hl := lv_entry ([.ref (adV b), .int i]) (n := 2) (Nat.le_of_ble_eq_true rfl)
  rw [lg_entry_eq]
  generalize (lg_sl ([.ref (adV b), .int i]) ++ List.replicate (2 - (lg_sl ([.ref (adV b), .int i])).length) Slot.unset).toArray = ls at hl ⊢
  have hl : lv_has ls 2 [(0, .ref (adV b)), (1, .int i)] := hl
  refine lv_iload_n hx hb dJ1_charAt_3b067_0 rfl (lv_at hl 1 rfl) ?_
  refine lv_aload_n hx hb dJ1_charAt_3b067_1 rfl (lv_at hl 0 rfl) ?_
  refine va_tlen hx hb (hU2.1.1 b h6).2.2.2 hS rfl dJ1_charAt_3b067_2 ?_
  refine ab_call (A1 := A) (free := A) (va_runS (As := [.int i, .int (Int32.ofNat (leJ.getD b 0))]) (rest := []) ⟨hx, hb, hml, hown, hts⟩ (j9_check l h0 h1) (va_cwS 2 hts (jgS j9ml_StringLatin1_9 j9st_String_checkIndex j9ini_String j9co_String_checkIndex) rfl rfl rfl (by decide +kernel) ⟨Nat.le_of_ble_eq_true rfl, Nat.le_of_ble_eq_true rfl⟩) ⟨jP_blind, jP_here hU2⟩ rfl rfl hl.1 rfl (lv_room (Nat.le_of_ble_eq_true rfl)) dJ1_charAt_3b067_3 ⟨Nat.zero_le _, Nat.zero_le _⟩) hS (fun _ h9 => h9) (fun _ h9 => h9) jQ_F (fun rv9 st0 t H1 locs1 z1 z2 hq hS => ?_)
  obtain ⟨e1, e2⟩ := hq
  cases e1
  obtain rfl : s.heap = H1 := by rw [← z2, e2, z1]
  refine lv_aload_n hx hb dJ1_charAt_3b067_6 rfl (lv_at hl 0 rfl) ?_
  refine lv_iload_n hx hb dJ1_charAt_3b067_7 rfl (lv_at hl 1 rfl) ?_
  refine va_tb hx hb (hU2.1.1 b h6).2.2.2 hS h2 rfl dJ1_charAt_3b067_8 ?_
  refine lv_sipush (v := 255) hx hb dJ1_charAt_3b067_9 (by decide) ?_
  refine lv_iand hx hb dJ1_charAt_3b067_12 ?_
  refine lv_i2c hx hb dJ1_charAt_3b067_13 h3 ?_
  exact W.zret hx hb hr h4 (fun t ht _ => ⟨rfl, ht⟩) hS.2.2 dJ1_charAt_3b067_14
theorem j9_len : ∀ b, b < 6 → (Int32.ofNat (leJ.getD b 0)) >>> ((0 : Int32) &&& 31) = I (leJ.getD b 0 : Nat) := by decide +kernel
theorem j9_idx : ∀ b, b < 6 → ∀ j, j < leJ.getD b 0 → (¬ I (j : Int) < 0) ∧ (I (j : Int) < Int32.ofNat (leJ.getD b 0)) ∧ ¬ leJ.getD b 0 ≤ (I (j : Int)).toNatClampNeg ∧ ((((byJ.getD b []).getD (I (j : Int)).toNatClampNeg 0) &&& 255).toUInt32 % 65536).toInt32 = (byJ.getD b []).getD j 0 ∧ narrow .char (.int ((byJ.getD b []).getD j 0)) = .int ((byJ.getD b []).getD j 0) := by decide +kernel
set_option maxHeartbeats 4000000 in
set_option maxRecDepth 100000 in
theorem SPt_met (l : Launch) : ∀ d mid as h mc ms Q, SPt mid as h mc ms Q → MetOK l (d + 1) mid as h mc ms Q := by
  intro d mid as h mc ms Q hc mi hmi cy dC dI adK adV ad sz hstr hsm hRV
  rcases hc with ⟨rfl, b, h6, rfl, hQ⟩ | ⟨rfl, b, k, h6, hk0, hk1, rfl, hQ⟩
  · obtain rfl : (yJ0_length_8abf5, cJ0_length_8abf5, 1, (some .int), [], 12, 1) = mi := Option.some.inj hmi
    refine Met.ofW (cc := cJ0_length_8abf5) (maxL := 1) (ret := (some .int)) (by decide) rfl ?_
    intro p e s m args below meth c s₁ B hml hv
    obtain ⟨rfl, hsz, hP, hU1, hD0, hU2⟩ := hv
    subst hsz
    have hD := hD0.self (sz := s.heap.size)
    have eA : (([.ref (1000000 + b)] : List Value).map (cv ad)) = [.ref (adK b)] := by show ([.ref (ad (1000000 + b))] : List Value) = _; rw [hstr b h6]
    rw [eA] at B ⊢
    have hq : ∀ (t : State) (rv : Int32), Q (some (.int rv)) h → t.heap = s.heap → mQc cy dC dI ad h s.heap.size mc Q ([.ref (adK b)] : List Value).toArray s (.returned (some (.int rv))) t := fun t rv hQ ht => ⟨⟨some (.int rv), h, ad, rfl, hQ, fun _ _ => rfl, fun _ => rfl, Nat.le_refl _, hsm, hRV, by rw [ht]; exact hP, hD⟩, by rw [ht]; exact Nat.le_refl _, fun q _ _ => by rw [ht]⟩
    generalize hAe : va_A (wd cy ad h) s.heap.size = A at hU2 ⊢
    have hx := B.exec
    have hb := B.bytes
    have hr := B.returns
    have hts0 := atoms_spec (ws := mws (yJ0_length_8abf5, cJ0_length_8abf5, 1, (some .int), [], 12, 1)) B.pre
    have hts : ∀ w ∈ GW, w.before ([.ref (adK b)] : List Value).toArray s = true := fun w hw => hts0 w (List.mem_cons_of_mem _ hw)
    have hown : s.vm.findClass RJ0 = some m.cls := findClass_of_methodNamed B.named
    have hlocks := B.notSynchronized
    have hS : va_S A s.heap s.heap [] := va_S.rf
    have hl := lv_entry ([.ref (adK b)]) (n := 1) (Nat.le_of_ble_eq_true rfl)
    rw [lg_entry_eq]
    generalize (lg_sl ([.ref (adK b)]) ++ List.replicate (1 - (lg_sl ([.ref (adK b)])).length) Slot.unset).toArray = ls at hl ⊢
    have hl : lv_has ls 1 [(0, .ref (adK b))] := hl
    refine lv_aload_n hx hb dJ0_length_8abf5_0 rfl (lv_at hl 0 rfl) ?_
    refine vk_getf hx hb (hU2.1.1 b h6).2.2.1 hS hown (hts _ j9fl_value) (fun _ h9 => h9) dJ0_length_8abf5_1 ?_
    refine va_tlen hx hb (hU2.1.1 b h6).2.2.2 hS rfl dJ0_length_8abf5_4 ?_
    refine lv_aload_n hx hb dJ0_length_8abf5_5 rfl (lv_at hl 0 rfl) ?_
    refine ab_call (A1 := A) (free := A) (va_runV (C := RJ0) (b := adK b) (As := []) (rest := [.int (Int32.ofNat (leJ.getD b 0))]) ⟨hx, hb, hml, hown, hts⟩ (j9_coder l h6) (cwV 0 hts (jgV (y := yJ0_coder_7d493) j9ml_String_335 j9in_coder j9se_coder j9ini_String j9co_String_coder) rfl rfl rfl (by decide +kernel) ⟨by show _ ≤ d + 1 + 9; (first | exact Nat.le_trans (Nat.le_of_ble_eq_true rfl : 2 ≤ 9) (by omega) | exact Nat.le_trans (Nat.le_of_ble_eq_true rfl : 4 ≤ 9) (by omega)), by show _ ≤ 60 * (d + 1) + 240; (first | exact Nat.le_trans (Nat.le_of_ble_eq_true rfl : 120 ≤ 240) (by omega) | exact Nat.le_trans (Nat.le_of_ble_eq_true rfl : 201 ≤ 240) (by omega))⟩) ⟨jP_blind, vk_recv hU2.1 h6 hS, jP_here hU2⟩ rfl rfl hl.1 rfl (lv_room (Nat.le_of_ble_eq_true rfl)) dJ0_length_8abf5_6 ⟨Nat.zero_le _, Nat.zero_le _⟩) hS (fun _ h9 => h9) (fun _ h9 => h9) jQ_F (fun rv9 st0 t H1 locs1 z1 z2 hq hS => ?_)
    obtain ⟨e1, e2⟩ := hq
    cases e1
    obtain rfl : s.heap = H1 := by rw [← z2, e2, z1]
    refine lv_ishr hx hb dJ0_length_8abf5_9 ?_
    show W p l e _ s m _ below meth c s.heap locs1 0 0 _ (F0 m 10 ls [.int ((Int32.ofNat (leJ.getD b 0)) >>> ((0 : Int32) &&& 31))])
    rw [j9_len b h6]
    exact W.widen (Nat.zero_le mc) (Nat.zero_le ms) (W.iret hx hb hr (fun t ht _ => hq t _ hQ ht) hS.2.2 dJ0_length_8abf5_10)
  · obtain rfl : (yJ0_charAt_5068e, cJ0_charAt_5068e, 2, (some .char), [], 12, 2) = mi := Option.some.inj hmi
    obtain ⟨k, rfl⟩ : ∃ j : Nat, k = (j : Int) := ⟨k.toNat, by omega⟩
    obtain ⟨i1, i2, i3, i4, i5⟩ := j9_idx b h6 k (by omega)
    refine Met.ofW (cc := cJ0_charAt_5068e) (maxL := 2) (ret := (some .char)) (by decide) rfl ?_
    intro p e s m args below meth c s₁ B hml hv
    obtain ⟨rfl, hsz, hP, hU1, hD0, hU2⟩ := hv
    subst hsz
    have hD := hD0.self (sz := s.heap.size)
    have eA : (([.ref (1000000 + b), .int (I (k : Int))] : List Value).map (cv ad)) = [.ref (adK b), .int (I (k : Int))] := by show ([.ref (ad (1000000 + b)), .int (I (k : Int))] : List Value) = _; rw [hstr b h6]
    rw [eA] at B ⊢
    have hq : ∀ (t : State) (rv : Int32), Q (some (.int rv)) h → t.heap = s.heap → mQc cy dC dI ad h s.heap.size mc Q ([.ref (adK b), .int (I (k : Int))] : List Value).toArray s (.returned (some (.int rv))) t := fun t rv hQ ht => ⟨⟨some (.int rv), h, ad, rfl, hQ, fun _ _ => rfl, fun _ => rfl, Nat.le_refl _, hsm, hRV, by rw [ht]; exact hP, hD⟩, by rw [ht]; exact Nat.le_refl _, fun q _ _ => by rw [ht]⟩
    generalize hAe : va_A (wd cy ad h) s.heap.size = A at hU2 ⊢
    have hx := B.exec
    have hb := B.bytes
    have hr := B.returns
    have hts0 := atoms_spec (ws := mws (yJ0_charAt_5068e, cJ0_charAt_5068e, 2, (some .char), [], 12, 2)) B.pre
    have hts : ∀ w ∈ GW, w.before ([.ref (adK b), .int (I (k : Int))] : List Value).toArray s = true := fun w hw => hts0 w (List.mem_cons_of_mem _ hw)
    have hown : s.vm.findClass RJ0 = some m.cls := findClass_of_methodNamed B.named
    have hlocks := B.notSynchronized
    have hS : va_S A s.heap s.heap [] := va_S.rf
    have hl := lv_entry ([.ref (adK b), .int (I (k : Int))]) (n := 2) (Nat.le_of_ble_eq_true rfl)
    rw [lg_entry_eq]
    generalize (lg_sl ([.ref (adK b), .int (I (k : Int))]) ++ List.replicate (2 - (lg_sl ([.ref (adK b), .int (I (k : Int))])).length) Slot.unset).toArray = ls at hl ⊢
    have hl : lv_has ls 2 [(0, .ref (adK b)), (1, .int (I (k : Int)))] := hl
    refine lv_aload_n hx hb dJ0_charAt_5068e_0 rfl (lv_at hl 0 rfl) ?_
    refine ab_call (A1 := A) (free := A) (va_runV (C := RJ0) (b := adK b) (As := []) (rest := []) ⟨hx, hb, hml, hown, hts⟩ (j9_isLatin1 l h6) (cwV 0 hts (jgV (y := yJ0_isLatin1_aae02) j9ml_String_492 j9in_isLatin1 j9se_isLatin1 j9ini_String j9co_String_isLatin1) rfl rfl rfl (by decide +kernel) ⟨by show _ ≤ d + 1 + 9; (first | exact Nat.le_trans (Nat.le_of_ble_eq_true rfl : 2 ≤ 9) (by omega) | exact Nat.le_trans (Nat.le_of_ble_eq_true rfl : 4 ≤ 9) (by omega)), by show _ ≤ 60 * (d + 1) + 240; (first | exact Nat.le_trans (Nat.le_of_ble_eq_true rfl : 120 ≤ 240) (by omega) | exact Nat.le_trans (Nat.le_of_ble_eq_true rfl : 201 ≤ 240) (by omega))⟩) ⟨jP_blind, vk_recv hU2.1 h6 hS, jP_here hU2⟩ rfl rfl hl.1 rfl (lv_room (Nat.le_of_ble_eq_true rfl)) dJ0_charAt_5068e_1 ⟨Nat.zero_le _, Nat.zero_le _⟩) hS (fun _ h9 => h9) (fun _ h9 => h9) jQ_F (fun rv9 st0 t H1 locs1 z1 z2 hq hS => ?_)
    obtain ⟨e1, e2⟩ := hq
    cases e1
    obtain rfl : s.heap = H1 := by rw [← z2, e2, z1]
    refine lv_if_eq (tgt := 16) hx hb dJ0_charAt_5068e_4 (by decide) (fun q => absurd q (by decide)) (fun _ => ?_)
    refine lv_aload_n hx hb dJ0_charAt_5068e_7 rfl (lv_at hl 0 rfl) ?_
    refine vk_getf hx hb (hU2.1.1 b h6).2.2.1 hS hown (hts _ j9fl_value) (fun _ h9 => h9) dJ0_charAt_5068e_8 ?_
    refine lv_iload_n hx hb dJ0_charAt_5068e_11 rfl (lv_at hl 1 rfl) ?_
    refine ab_call (A1 := A) (free := A) (va_runS (As := [.ref (adV b), .int (I (k : Int))]) (rest := []) ⟨hx, hb, hml, hown, hts⟩ (j9_chr l h6 i1 i2 (fun q => q.elim i1 i3) i4 i5) (va_cwS 2 hts (jgS j9ml_String_495 j9st_StringLatin1_charAt j9ini_StringLatin1 j9co_StringLatin1_charAt) rfl rfl rfl (by decide +kernel) ⟨by show _ ≤ d + 1 + 9; (first | exact Nat.le_trans (Nat.le_of_ble_eq_true rfl : 2 ≤ 9) (by omega) | exact Nat.le_trans (Nat.le_of_ble_eq_true rfl : 4 ≤ 9) (by omega)), by show _ ≤ 60 * (d + 1) + 240; (first | exact Nat.le_trans (Nat.le_of_ble_eq_true rfl : 120 ≤ 240) (by omega) | exact Nat.le_trans (Nat.le_of_ble_eq_true rfl : 201 ≤ 240) (by omega))⟩) ⟨jP_blind, jP_here hU2⟩ rfl rfl hl.1 rfl (lv_room (Nat.le_of_ble_eq_true rfl)) dJ0_charAt_5068e_12 ⟨Nat.zero_le _, Nat.zero_le _⟩) hS (fun _ h9 => h9) (fun _ h9 => h9) jQ_F (fun rv9 st0 t H1 locs1 z1 z2 hq hS => ?_)
    obtain ⟨e1, e2⟩ := hq
    cases e1
    obtain rfl : s.heap = H1 := by rw [← z2, e2, z1]
    exact W.widen (Nat.zero_le mc) (Nat.zero_le ms) (W.zret hx hb hr i5 (fun t ht _ => hq t _ hQ ht) hS.2.2 dJ0_charAt_5068e_15)
end
section
/-! THE RUN WITH EXTRA ROWS -/
/-- the run, where some places have a rule of their own -/
noncomputable def wplX (CL : CT) (ac : AC) (ret : Option FieldType) (Q : QT) (XR : KT → KT) : KT := fun pc ls st h bc bs => ∀ K : KT, CLO CL ac ret Q K → (∀ (pc : Nat) (ls : List (Nat × Value)) (st : List Value) (h : aH) (bc bs : Nat), XR K pc ls st h bc bs → K pc ls st h bc bs) → K pc ls st h bc bs
section SND5X
variable {p : Program} {l : Launch} {e : Env} {R : Room} {s : State} {m : MethodId} {args : Array Value} {below : List Frame} {meth : Method} {c : Code} {Z : State → Prop}
variable {cc : ByteArray} {nL : Nat} {own : String} {isI : Bool} {ret : Option FieldType}
variable {cy : Nat → ClassId} {dC : Nat → ClassId} {dI : Nat → Nat → Nat} {A : Nat → Prop} {ad0 : Nat → Nat} {bz n0 C S : Nat} {adK adV : Nat → Nat}
set_option maxHeartbeats 2000000 in
theorem snd_runX {CL : CT} {Q : QT} {d : Nat} {ac : AC} (XR : KT → KT) (hXR : ∀ (pc : Nat) (ls : List (Nat × Value)) (st : List Value) (h : aH) (bc bs : Nat), XR (GK p l e R s m args below meth c Z nL cy dC dI A ad0 bz n0 C S) pc ls st h bc bs → GK p l e R s m args below meth c Z nL cy dC dI A ad0 bz n0 C S pc ls st h bc bs) (hx : p.tables.exec = Jvm.exec) (hb : c.code = cc) (hml : c.maxLocals = nL) (hown : s.vm.findClass own = some m.cls) (hts : ∀ w ∈ GW, w.before args s = true) (hini : isI = true → meth.name = "<init>") (hU1 : U1 cy dC dI adK s) (hU2 : U2 adK adV A s s.heap) (hA : ∀ q, s.heap.size ≤ q → A q) (hstr : ∀ i, i < 6 → ad0 (1000000 + i) = adK i) (hCR : C ≤ R.cells) (hSR : S ≤ R.slots) (hRf : d + 10 ≤ R.frames) (hRl : 60 * d + 300 ≤ R.locals)
    (hmath : ∀ w ∈ mathW, w ∈ GW) (hmok : ∀ (k : Nat) (mi : MI), mtab[k]? = some mi → ∃ n, mok mi n ∧ mi.2.2.2.2.2.2 = if minst.getD k false = true then n + 1 else n)
    (hCL : ∀ mid as h mc ms Q, CL mid as h mc ms Q → MetOK l d mid as h mc ms Q) (hac : ∀ q ∈ ac, rok own isI nL cc q)
    (hri : ∀ (v : Int32) (ty : FieldType) (h : aH) (ad : Nat → Nat) (H : Heap) (locs : List Loc) (cells slots : Nat) (pc : Nat) (arr : Array Slot), decode cc pc = .ok (.ireturn, 1) → ret = some ty → narrow ty (.int v) = .int v → Q (some (.int v)) h → HAD bz n0 ad0 ad 0 → n0 ≤ h.1.length → h.1.length < 1000000 → Std cy dC dI A s.heap ad h H locs → cells ≤ C → slots ≤ S → W p l e R s m args below meth c H locs cells slots Z (F0 m pc arr [.int v]))
    (hrl : ∀ (v : Int64) (h : aH) (ad : Nat → Nat) (H : Heap) (locs : List Loc) (cells slots : Nat) (pc : Nat) (arr : Array Slot), decode cc pc = .ok (.lreturn, 1) → ret = some .long → Q (some (.long v)) h → HAD bz n0 ad0 ad 0 → n0 ≤ h.1.length → h.1.length < 1000000 → Std cy dC dI A s.heap ad h H locs → cells ≤ C → slots ≤ S → W p l e R s m args below meth c H locs cells slots Z (F0 m pc arr [.long v]))
    (hrv : ∀ (h : aH) (ad : Nat → Nat) (H : Heap) (locs : List Loc) (cells slots : Nat) (pc : Nat) (arr : Array Slot), decode cc pc = .ok (.return_, 1) → ret = none → Q none h → HAD bz n0 ad0 ad 0 → n0 ≤ h.1.length → h.1.length < 1000000 → Std cy dC dI A s.heap ad h H locs → cells ≤ C → slots ≤ S → W p l e R s m args below meth c H locs cells slots Z (F0 m pc arr [])) :
    GO p l e R s m args below meth c Z nL cy dC dI A ad0 bz n0 C S (wplX CL ac ret Q XR) := by
  intro pc ls st h bc bs hk
  refine hk (GK p l e R s m args below meth c Z nL cy dC dI A ad0 bz n0 C S) (fun pc ls st h bc bs hk => ?_) hXR
  · have ih : GO p l e R s m args below meth c Z nL cy dC dI A ad0 bz n0 C S (GK p l e R s m args below meth c Z nL cy dC dI A ad0 bz n0 C S) := fun _ _ _ _ _ _ hk => hk
    intro ad arr H locs cells slots had hn0 hsm hS hl hc hs
    obtain ⟨i, r1, r2, r3, hmem, hst⟩ := hk
    obtain ⟨⟨len, hd, hlen⟩, hcf, hmore⟩ := hac _ hmem
    have had0 : HAD bz n0 ad0 ad 0 := ⟨had.1, Nat.zero_le _, had.2.2⟩
    by_cases hpl : pln i = true
    · refine snd_plain (own := own) (isI := isI) hx hb hown hts ih hd hlen hcf hst had hn0 hsm hS hl hc hs ?_ ?_ hpl
      · rintro k ((rfl | rfl | ⟨z, rfl⟩) | ⟨f, rfl, rfl | rfl⟩) <;> exact hmore
      · rintro k (rfl | ⟨f, rfl, rfl⟩) <;> exact hmore
    · have hpl' : pln i = false := by simpa using hpl
      cases i
      case invokevirtual idx =>
        obtain rfl : len = 3 := by simpa [isSw, lenI] using hlen
        exact snd_call hx hb hml hown hts hU1 hU2 hA hstr hCR hSR hRf hRl hmath hmok hCL ih hd hmore.1 hmore.2 hst had hn0 hsm hS hl hc hs
      case invokespecial idx =>
        obtain rfl : len = 3 := by simpa [isSw, lenI] using hlen
        exact snd_call hx hb hml hown hts hU1 hU2 hA hstr hCR hSR hRf hRl hmath hmok hCL ih hd hmore.1 hmore.2 hst had hn0 hsm hS hl hc hs
      case invokestatic idx =>
        obtain rfl : len = 3 := by simpa [isSw, lenI] using hlen
        exact snd_call hx hb hml hown hts hU1 hU2 hA hstr hCR hSR hRf hRl hmath hmok hCL ih hd hmore.1 hmore.2 hst had hn0 hsm hS hl hc hs
      case ireturn =>
        obtain rfl : len = 1 := by simpa [isSw, lenI] using hlen
        obtain ⟨x, r, rfl, rfl, ⟨ty, h1, h2⟩, hq⟩ := pi_inv hst
        exact hri x ty h ad H locs cells slots pc arr hd h1 h2 hq had0 hn0 hsm hS (by omega) (by omega)
      case lreturn =>
        obtain rfl : len = 1 := by simpa [isSw, lenI] using hlen
        obtain ⟨x, r, rfl, rfl, h1, hq⟩ := pl_inv hst
        exact hrl x h ad H locs cells slots pc arr hd h1 hq had0 hn0 hsm hS (by omega) (by omega)
      case return_ =>
        obtain rfl : len = 1 := by simpa [isSw, lenI] using hlen
        obtain ⟨rfl, h1, hq⟩ := hst
        exact hrv h ad H locs cells slots pc arr hd h1 hq had0 hn0 hsm hS (by omega) (by omega)
      all_goals first
        | exact snd_cell (own := own) (isI := isI) hx hb hown hts hini hU1 hA hstr hCR hSR ih hd hlen hcf hst had hn0 hsm hS hl hc hs hpl' rfl
        | exact absurd hpl' (by decide)
        | exact absurd hpl' (fun h => Bool.noConfusion h)
end SND5X
end
section
/-! THE CLASS'S METHODS THAT THROW: post, rock, mess, way, row -/
theorem grq {sh : List (Nat × Nat)} {h : aH} {a r k q : Nat} (hG : GD gE gRL sh h) (hr : gRL[a]? = some r) (hg : gR (eR gE r) k k = some q) : ∃ b, aR h a k = some b ∧ gRL[b]? = some q := by
  obtain ⟨z, z1, z2, z3, z4⟩ := gR_ok hg
  obtain ⟨c, c1, c2⟩ := hG.2.2.2 a r hr z z1 k z2 z3
  rw [z4] at c2
  exact ⟨c, c1, c2⟩
noncomputable def ac9X10_post : AC := [(0, .iload_n 1, 0, 0, 0), (1, .ifCond .lt 23, 0, 0, 0), (4, .iload_n 1, 0, 0, 0), (5, .aload_n 0, 0, 0, 0), (6, .getfield 26, 10, 2, 2), (9, .getfield 119, 6, 1, 0), (12, .if_icmp .ge 12, 0, 0, 0), (15, .iload_n 2, 0, 0, 0), (16, .ifCond .lt 8, 0, 0, 0), (19, .iload_n 2, 0, 0, 0), (20, .iconst 1, 0, 0, 0), (21, .if_icmp .le 11, 0, 0, 0), (32, .iload_n 2, 0, 0, 0), (33, .ifCond .ne 15, 0, 0, 0), (36, .aload_n 0, 0, 0, 0), (37, .getfield 26, 10, 2, 2), (40, .getfield 140, 6, 3, 2), (43, .iload_n 1, 0, 0, 0), (44, .iaload, 0, 0, 0), (45, .goto 12, 0, 0, 0), (48, .aload_n 0, 0, 0, 0), (49, .getfield 26, 10, 2, 2), (52, .getfield 143, 6, 4, 2), (55, .iload_n 1, 0, 0, 0), (56, .iaload, 0, 0, 0), (57, .ireturn, 0, 0, 0)]
set_option maxRecDepth 100000 in
theorem ok9X10_post : acok (yX10_post, cX10_post, 3, (some .int), ac9X10_post, 10, 0) := acokB_ok (hs := [[], [], [], [], [2068], [1091], [], [], [], [], [], [], [], [], [], [2068], [1097], [], [], [], [], [2068], [1099]]) (by decide +kernel)
noncomputable def ac9X10_rock : AC := [(0, .iload_n 1, 0, 0, 0), (1, .ifCond .lt 23, 0, 0, 0), (4, .iload_n 1, 0, 0, 0), (5, .aload_n 0, 0, 0, 0), (6, .getfield 53, 10, 7, 2), (9, .getfield 122, 2, 0, 0), (12, .if_icmp .ge 12, 0, 0, 0), (15, .iload_n 2, 0, 0, 0), (16, .ifCond .lt 8, 0, 0, 0), (19, .iload_n 2, 0, 0, 0), (20, .iconst 1, 0, 0, 0), (21, .if_icmp .le 11, 0, 0, 0), (32, .iload_n 2, 0, 0, 0), (33, .ifCond .ne 15, 0, 0, 0), (36, .aload_n 0, 0, 0, 0), (37, .getfield 53, 10, 7, 2), (40, .getfield 146, 2, 1, 2), (43, .iload_n 1, 0, 0, 0), (44, .iaload, 0, 0, 0), (45, .goto 12, 0, 0, 0), (48, .aload_n 0, 0, 0, 0), (49, .getfield 53, 10, 7, 2), (52, .getfield 149, 2, 2, 2), (55, .iload_n 1, 0, 0, 0), (56, .iaload, 0, 0, 0), (57, .ireturn, 0, 0, 0)]
set_option maxRecDepth 100000 in
theorem ok9X10_rock : acok (yX10_rock, cX10_rock, 3, (some .int), ac9X10_rock, 10, 0) := acokB_ok (hs := [[], [], [], [], [2073], [1162], [], [], [], [], [], [], [], [], [], [2073], [1164], [], [], [], [], [2073], [1166]]) (by decide +kernel)
noncomputable def ac9X10_mess : AC := [(0, .iload_n 1, 0, 0, 0), (1, .ifCond .lt 20, 0, 0, 0), (4, .iload_n 1, 0, 0, 0), (5, .aload_n 0, 0, 0, 0), (6, .getfield 61, 10, 9, 0), (9, .if_icmp .ge 12, 0, 0, 0), (12, .iload_n 2, 0, 0, 0), (13, .ifCond .lt 8, 0, 0, 0), (16, .iload_n 2, 0, 0, 0), (17, .iconst 2, 0, 0, 0), (18, .if_icmp .le 11, 0, 0, 0), (29, .iload_n 2, 0, 0, 0), (30, .ifCond .ne 13, 0, 0, 0), (33, .aload_n 0, 0, 0, 0), (34, .getfield 68, 10, 10, 2), (37, .getfield 152, 8, 7, 2), (40, .iload_n 1, 0, 0, 0), (41, .iaload, 0, 0, 0), (42, .ireturn, 0, 0, 0), (43, .iload_n 2, 0, 0, 0), (44, .iconst 1, 0, 0, 0), (45, .if_icmp .ne 12, 0, 0, 0), (48, .aload_n 0, 0, 0, 0), (49, .getfield 57, 10, 8, 2), (52, .iload_n 1, 0, 0, 0), (53, .iaload, 0, 0, 0), (54, .goto 12, 0, 0, 0), (57, .aload_n 0, 0, 0, 0), (58, .getfield 68, 10, 10, 2), (61, .getfield 155, 8, 8, 2), (64, .iload_n 1, 0, 0, 0), (65, .iaload, 0, 0, 0), (66, .ireturn, 0, 0, 0)]
set_option maxRecDepth 100000 in
theorem ok9X10_mess : acok (yX10_mess, cX10_mess, 3, (some .int), ac9X10_mess, 10, 0) := acokB_ok (hs := [[], [], [], [], [2075], [], [], [], [], [], [], [], [], [], [2076], [1199], [], [], [], [], [], [], [], [2074], [], [], [], [], [2076], [1201]]) (by decide +kernel)
noncomputable def ac9X10_way : AC := [(0, .iload_n 1, 0, 0, 0), (1, .ifCond .lt 23, 0, 0, 0), (4, .iload_n 1, 0, 0, 0), (5, .aload_n 0, 0, 0, 0), (6, .getfield 68, 10, 10, 2), (9, .getfield 158, 8, 4, 0), (12, .if_icmp .ge 12, 0, 0, 0), (15, .iload_n 2, 0, 0, 0), (16, .ifCond .lt 8, 0, 0, 0), (19, .iload_n 2, 0, 0, 0), (20, .iconst 1, 0, 0, 0), (21, .if_icmp .le 11, 0, 0, 0), (32, .iload_n 2, 0, 0, 0), (33, .ifCond .ne 23, 0, 0, 0), (36, .aload_n 0, 0, 0, 0), (37, .getfield 68, 10, 10, 2), (40, .getfield 161, 8, 5, 2), (43, .iload_n 1, 0, 0, 0), (44, .iaload, 0, 0, 0), (45, .aload_n 0, 0, 0, 0), (46, .getfield 68, 10, 10, 2), (49, .getfield 164, 8, 0, 0), (52, .isub, 0, 0, 0), (53, .goto 12, 0, 0, 0), (56, .aload_n 0, 0, 0, 0), (57, .getfield 68, 10, 10, 2), (60, .getfield 167, 8, 6, 2), (63, .iload_n 1, 0, 0, 0), (64, .iaload, 0, 0, 0), (65, .ireturn, 0, 0, 0)]
set_option maxRecDepth 100000 in
theorem ok9X10_way : acok (yX10_way, cX10_way, 3, (some .int), ac9X10_way, 10, 0) := acokB_ok (hs := [[], [], [], [], [2076], [1191], [], [], [], [], [], [], [], [], [], [2076], [1194], [], [], [], [2076], [1182], [], [], [], [2076], [1197]]) (by decide +kernel)
noncomputable def ac9X10_row : AC := [(0, .iload_n 1, 0, 0, 0), (1, .ifCond .lt 14, 0, 0, 0), (4, .iload_n 1, 0, 0, 0), (5, .aload_n 0, 0, 0, 0), (6, .getfield 19, 10, 1, 2), (9, .getfield 382, 3, 1, 0), (12, .if_icmp .lt 11, 0, 0, 0), (23, .aload_n 0, 0, 0, 0), (24, .getfield 19, 10, 1, 2), (27, .getfield 383, 3, 0, 2), (30, .iload_n 1, 0, 0, 0), (31, .laload, 0, 0, 0), (32, .lreturn, 0, 0, 0)]
set_option maxRecDepth 100000 in
theorem ok9X10_row : acok (yX10_row, cX10_row, 2, (some .long), ac9X10_row, 10, 0) := acokB_ok (hs := [[], [], [], [], [2067], [1074], [], [], [2067], [1072]]) (by decide +kernel)
noncomputable def postR (h : aH) (i j : Int) (o : Option Int) : Prop := ∃ b, aR h 0 2 = some b ∧ ((o = none ∧ ¬ (0 ≤ i ∧ i < gi h b 1 ∧ 0 ≤ j ∧ j ≤ 1)) ∨ ((0 ≤ i ∧ i < gi h b 1 ∧ 0 ≤ j ∧ j ≤ 1) ∧ ∃ c, aR h b (if j = 0 then 3 else 4) = some c ∧ o = some (gi h c i.toNat)))
set_option maxRecDepth 4000 in
theorem rn9post {CL : CT} {sh : List (Nat × Nat)} {h : aH} (hG : GD gE gRL sh h) {i j : Int} (ri : r32 i) (rj : r32 j) : wplX CL ac9X10_post (some .int) (fun rv h' => h' = h ∧ ∃ v : Int, postR h i j (some v) ∧ rv = some (.int (I v))) (fun _ pc _ st h' bc bs => pc = 24 ∧ st = [] ∧ h' = h ∧ postR h i j none ∧ 1 ≤ bc ∧ 6 ≤ bs) 0 [(0, .ref 0), (1, .int (I i)), (2, .int (I j))] [] h 1 6 := by
  intro K hK hX9
  obtain ⟨b1, ab1, qb1⟩ := grq (k := 2) hG (a := 0) (r := 0) (by decide +kernel) (q := 5) (by decide +kernel)
  have hB := ab1
  have hX : ∀ ls, postR h i j none → K 24 ls [] h 1 6 := fun ls hr => hX9 _ _ _ _ _ _ ⟨rfl, rfl, rfl, hr, Nat.le_refl _, Nat.le_refl _⟩
  refine x_iload_n 1 hK rfl rfl rfl ?_
  refine x_if_lt 24 4 hK rfl rfl rfl (by omega) (fun c1 => ?_) (fun c1 => ?_)
  · exact hX _ (⟨_, hB, Or.inl ⟨rfl, by omega⟩⟩)
  · refine x_iload_n 5 hK rfl rfl rfl ?_
    refine x_aload_n 6 hK rfl rfl rfl ?_
    refine x_getR 9 hK rfl rfl (shx hG (a := 0) (r := 0) (by decide +kernel) (by decide +kernel)) ab1 ?_
    have g9 := gri 0 10 hG (a := b1) (r := 5) (k := 1) qb1 (by decide +kernel)
    refine x_getI 12 hK rfl (Or.inl rfl) rfl (shx hG (a := b1) (r := 5) qb1 (by decide +kernel)) ?_
    refine x_if_icmp_ge 24 15 hK rfl rfl rfl (by omega) (by omega) (fun c12 => ?_) (fun c12 => ?_)
    · exact hX _ (⟨_, hB, Or.inl ⟨rfl, by omega⟩⟩)
    · refine x_iload_n 16 hK rfl rfl rfl ?_
      refine x_if_lt 24 19 hK rfl rfl rfl (by omega) (fun c16 => ?_) (fun c16 => ?_)
      · exact hX _ (⟨_, hB, Or.inl ⟨rfl, by omega⟩⟩)
      · refine x_iload_n 20 hK rfl rfl rfl ?_
        refine x_iconst 21 hK rfl rfl ?_
        refine x_if_icmp_le 32 24 hK rfl rfl rfl (by omega) (by omega) (fun c21 => ?_) (fun c21 => ?_)
        · refine x_iload_n 33 hK rfl rfl rfl ?_
          refine x_if_ne 48 36 hK rfl rfl rfl (by omega) (fun c33 => ?_) (fun c33 => ?_)
          · refine x_aload_n 49 hK rfl rfl rfl ?_
            refine x_getR 52 hK rfl rfl (shx hG (a := 0) (r := 0) (by decide +kernel) (by decide +kernel)) ab1 ?_
            obtain ⟨b2, ab2, qb2⟩ := grq (k := 4) hG (a := b1) (r := 5) qb1 (q := 7) (by decide +kernel)
            refine x_getR 55 hK rfl rfl (shx hG (a := b1) (r := 5) qb1 (by decide +kernel)) ab2 ?_
            refine x_iload_n 56 hK rfl rfl rfl ?_
            refine x_iaload (n := 10) 57 hK rfl rfl (shx hG (a := b2) (r := 7) qb2 (by decide +kernel)) (by omega) (by omega) (by omega) ?_
            exact x_iret hK rfl ⟨rfl, _, ⟨b1, ab1, Or.inr ⟨by omega, b2, by first | (rw [if_pos (by omega)]; exact ab2) | (rw [if_neg (by omega)]; exact ab2), rfl⟩⟩, rfl⟩
          · refine x_aload_n 37 hK rfl rfl rfl ?_
            refine x_getR 40 hK rfl rfl (shx hG (a := 0) (r := 0) (by decide +kernel) (by decide +kernel)) ab1 ?_
            obtain ⟨b3, ab3, qb3⟩ := grq (k := 3) hG (a := b1) (r := 5) qb1 (q := 6) (by decide +kernel)
            refine x_getR 43 hK rfl rfl (shx hG (a := b1) (r := 5) qb1 (by decide +kernel)) ab3 ?_
            refine x_iload_n 44 hK rfl rfl rfl ?_
            refine x_iaload (n := 10) 45 hK rfl rfl (shx hG (a := b3) (r := 6) qb3 (by decide +kernel)) (by omega) (by omega) (by omega) ?_
            refine x_goto 57 hK rfl rfl ?_
            exact x_iret hK rfl ⟨rfl, _, ⟨b1, ab1, Or.inr ⟨by omega, b3, by first | (rw [if_pos (by omega)]; exact ab3) | (rw [if_neg (by omega)]; exact ab3), rfl⟩⟩, rfl⟩
        · exact hX _ (⟨_, hB, Or.inl ⟨rfl, by omega⟩⟩)
noncomputable def rockR (h : aH) (i j : Int) (o : Option Int) : Prop := ∃ b, aR h 0 7 = some b ∧ ((o = none ∧ ¬ (0 ≤ i ∧ i < gi h b 0 ∧ 0 ≤ j ∧ j ≤ 1)) ∨ ((0 ≤ i ∧ i < gi h b 0 ∧ 0 ≤ j ∧ j ≤ 1) ∧ ∃ c, aR h b (if j = 0 then 1 else 2) = some c ∧ o = some (gi h c i.toNat)))
set_option maxRecDepth 4000 in
theorem rn9rock {CL : CT} {sh : List (Nat × Nat)} {h : aH} (hG : GD gE gRL sh h) {i j : Int} (ri : r32 i) (rj : r32 j) : wplX CL ac9X10_rock (some .int) (fun rv h' => h' = h ∧ ∃ v : Int, rockR h i j (some v) ∧ rv = some (.int (I v))) (fun _ pc _ st h' bc bs => pc = 24 ∧ st = [] ∧ h' = h ∧ rockR h i j none ∧ 1 ≤ bc ∧ 6 ≤ bs) 0 [(0, .ref 0), (1, .int (I i)), (2, .int (I j))] [] h 1 6 := by
  intro K hK hX9
  obtain ⟨b1, ab1, qb1⟩ := grq (k := 7) hG (a := 0) (r := 0) (by decide +kernel) (q := 13) (by decide +kernel)
  have hB := ab1
  have hX : ∀ ls, rockR h i j none → K 24 ls [] h 1 6 := fun ls hr => hX9 _ _ _ _ _ _ ⟨rfl, rfl, rfl, hr, Nat.le_refl _, Nat.le_refl _⟩
  refine x_iload_n 1 hK rfl rfl rfl ?_
  refine x_if_lt 24 4 hK rfl rfl rfl (by omega) (fun c1 => ?_) (fun c1 => ?_)
  · exact hX _ (⟨_, hB, Or.inl ⟨rfl, by omega⟩⟩)
  · refine x_iload_n 5 hK rfl rfl rfl ?_
    refine x_aload_n 6 hK rfl rfl rfl ?_
    refine x_getR 9 hK rfl rfl (shx hG (a := 0) (r := 0) (by decide +kernel) (by decide +kernel)) ab1 ?_
    have g9 := gri 0 16 hG (a := b1) (r := 13) (k := 0) qb1 (by decide +kernel)
    refine x_getI 12 hK rfl (Or.inl rfl) rfl (shx hG (a := b1) (r := 13) qb1 (by decide +kernel)) ?_
    refine x_if_icmp_ge 24 15 hK rfl rfl rfl (by omega) (by omega) (fun c12 => ?_) (fun c12 => ?_)
    · exact hX _ (⟨_, hB, Or.inl ⟨rfl, by omega⟩⟩)
    · refine x_iload_n 16 hK rfl rfl rfl ?_
      refine x_if_lt 24 19 hK rfl rfl rfl (by omega) (fun c16 => ?_) (fun c16 => ?_)
      · exact hX _ (⟨_, hB, Or.inl ⟨rfl, by omega⟩⟩)
      · refine x_iload_n 20 hK rfl rfl rfl ?_
        refine x_iconst 21 hK rfl rfl ?_
        refine x_if_icmp_le 32 24 hK rfl rfl rfl (by omega) (by omega) (fun c21 => ?_) (fun c21 => ?_)
        · refine x_iload_n 33 hK rfl rfl rfl ?_
          refine x_if_ne 48 36 hK rfl rfl rfl (by omega) (fun c33 => ?_) (fun c33 => ?_)
          · refine x_aload_n 49 hK rfl rfl rfl ?_
            refine x_getR 52 hK rfl rfl (shx hG (a := 0) (r := 0) (by decide +kernel) (by decide +kernel)) ab1 ?_
            obtain ⟨b2, ab2, qb2⟩ := grq (k := 2) hG (a := b1) (r := 13) qb1 (q := 15) (by decide +kernel)
            refine x_getR 55 hK rfl rfl (shx hG (a := b1) (r := 13) qb1 (by decide +kernel)) ab2 ?_
            refine x_iload_n 56 hK rfl rfl rfl ?_
            refine x_iaload (n := 16) 57 hK rfl rfl (shx hG (a := b2) (r := 15) qb2 (by decide +kernel)) (by omega) (by omega) (by omega) ?_
            exact x_iret hK rfl ⟨rfl, _, ⟨b1, ab1, Or.inr ⟨by omega, b2, by first | (rw [if_pos (by omega)]; exact ab2) | (rw [if_neg (by omega)]; exact ab2), rfl⟩⟩, rfl⟩
          · refine x_aload_n 37 hK rfl rfl rfl ?_
            refine x_getR 40 hK rfl rfl (shx hG (a := 0) (r := 0) (by decide +kernel) (by decide +kernel)) ab1 ?_
            obtain ⟨b3, ab3, qb3⟩ := grq (k := 1) hG (a := b1) (r := 13) qb1 (q := 14) (by decide +kernel)
            refine x_getR 43 hK rfl rfl (shx hG (a := b1) (r := 13) qb1 (by decide +kernel)) ab3 ?_
            refine x_iload_n 44 hK rfl rfl rfl ?_
            refine x_iaload (n := 16) 45 hK rfl rfl (shx hG (a := b3) (r := 14) qb3 (by decide +kernel)) (by omega) (by omega) (by omega) ?_
            refine x_goto 57 hK rfl rfl ?_
            exact x_iret hK rfl ⟨rfl, _, ⟨b1, ab1, Or.inr ⟨by omega, b3, by first | (rw [if_pos (by omega)]; exact ab3) | (rw [if_neg (by omega)]; exact ab3), rfl⟩⟩, rfl⟩
        · exact hX _ (⟨_, hB, Or.inl ⟨rfl, by omega⟩⟩)
noncomputable def messR (h : aH) (i j : Int) (o : Option Int) : Prop := (o = none ∧ ¬ (0 ≤ i ∧ i < gi h 0 9 ∧ 0 ≤ j ∧ j ≤ 2)) ∨ ((0 ≤ i ∧ i < gi h 0 9 ∧ 0 ≤ j ∧ j ≤ 2) ∧ ((j = 1 ∧ ∃ c, aR h 0 8 = some c ∧ o = some (gi h c i.toNat)) ∨ (j ≠ 1 ∧ ∃ b c, aR h 0 10 = some b ∧ aR h b (if j = 0 then 7 else 8) = some c ∧ o = some (gi h c i.toNat))))
set_option maxRecDepth 4000 in
theorem rn9mess {CL : CT} {sh : List (Nat × Nat)} {h : aH} (hG : GD gE gRL sh h) {i j : Int} (ri : r32 i) (rj : r32 j) : wplX CL ac9X10_mess (some .int) (fun rv h' => h' = h ∧ ∃ v : Int, messR h i j (some v) ∧ rv = some (.int (I v))) (fun _ pc _ st h' bc bs => pc = 21 ∧ st = [] ∧ h' = h ∧ messR h i j none ∧ 1 ≤ bc ∧ 6 ≤ bs) 0 [(0, .ref 0), (1, .int (I i)), (2, .int (I j))] [] h 1 6 := by
  intro K hK hX9
  have hX : ∀ ls, messR h i j none → K 21 ls [] h 1 6 := fun ls hr => hX9 _ _ _ _ _ _ ⟨rfl, rfl, rfl, hr, Nat.le_refl _, Nat.le_refl _⟩
  refine x_iload_n 1 hK rfl rfl rfl ?_
  refine x_if_lt 21 4 hK rfl rfl rfl (by omega) (fun c1 => ?_) (fun c1 => ?_)
  · exact hX _ (Or.inl ⟨rfl, by omega⟩)
  · refine x_iload_n 5 hK rfl rfl rfl ?_
    refine x_aload_n 6 hK rfl rfl rfl ?_
    have g6 := gri 0 8 hG (a := 0) (r := 0) (k := 9) (by decide +kernel) (by decide +kernel)
    refine x_getI 9 hK rfl (Or.inl rfl) rfl (shx hG (a := 0) (r := 0) (by decide +kernel) (by decide +kernel)) ?_
    refine x_if_icmp_ge 21 12 hK rfl rfl rfl (by omega) (by omega) (fun c9 => ?_) (fun c9 => ?_)
    · exact hX _ (Or.inl ⟨rfl, by omega⟩)
    · refine x_iload_n 13 hK rfl rfl rfl ?_
      refine x_if_lt 21 16 hK rfl rfl rfl (by omega) (fun c13 => ?_) (fun c13 => ?_)
      · exact hX _ (Or.inl ⟨rfl, by omega⟩)
      · refine x_iload_n 17 hK rfl rfl rfl ?_
        refine x_iconst 18 hK rfl rfl ?_
        refine x_if_icmp_le 29 21 hK rfl rfl rfl (by omega) (by omega) (fun c18 => ?_) (fun c18 => ?_)
        · refine x_iload_n 30 hK rfl rfl rfl ?_
          refine x_if_ne 43 33 hK rfl rfl rfl (by omega) (fun c30 => ?_) (fun c30 => ?_)
          · refine x_iload_n 44 hK rfl rfl rfl ?_
            refine x_iconst 45 hK rfl rfl ?_
            refine x_if_icmp_ne 57 48 hK rfl rfl rfl (by omega) (by omega) (fun c45 => ?_) (fun c45 => ?_)
            · refine x_aload_n 58 hK rfl rfl rfl ?_
              obtain ⟨b1, ab1, qb1⟩ := grq (k := 10) hG (a := 0) (r := 0) (by decide +kernel) (q := 17) (by decide +kernel)
              refine x_getR 61 hK rfl rfl (shx hG (a := 0) (r := 0) (by decide +kernel) (by decide +kernel)) ab1 ?_
              obtain ⟨b2, ab2, qb2⟩ := grq (k := 8) hG (a := b1) (r := 17) qb1 (q := 21) (by decide +kernel)
              refine x_getR 64 hK rfl rfl (shx hG (a := b1) (r := 17) qb1 (by decide +kernel)) ab2 ?_
              refine x_iload_n 65 hK rfl rfl rfl ?_
              refine x_iaload (n := 8) 66 hK rfl rfl (shx hG (a := b2) (r := 21) qb2 (by decide +kernel)) (by omega) (by omega) (by omega) ?_
              exact x_iret hK rfl ⟨rfl, _, Or.inr ⟨by omega, Or.inr ⟨by omega, _, b2, ab1, by first | (rw [if_pos (by omega)]; exact ab2) | (rw [if_neg (by omega)]; exact ab2), rfl⟩⟩, rfl⟩
            · refine x_aload_n 49 hK rfl rfl rfl ?_
              obtain ⟨b3, ab3, qb3⟩ := grq (k := 8) hG (a := 0) (r := 0) (by decide +kernel) (q := 16) (by decide +kernel)
              refine x_getR 52 hK rfl rfl (shx hG (a := 0) (r := 0) (by decide +kernel) (by decide +kernel)) ab3 ?_
              refine x_iload_n 53 hK rfl rfl rfl ?_
              refine x_iaload (n := 8) 54 hK rfl rfl (shx hG (a := b3) (r := 16) qb3 (by decide +kernel)) (by omega) (by omega) (by omega) ?_
              refine x_goto 66 hK rfl rfl ?_
              exact x_iret hK rfl ⟨rfl, _, Or.inr ⟨by omega, Or.inl ⟨by omega, _, ab3, rfl⟩⟩, rfl⟩
          · refine x_aload_n 34 hK rfl rfl rfl ?_
            obtain ⟨b4, ab4, qb4⟩ := grq (k := 10) hG (a := 0) (r := 0) (by decide +kernel) (q := 17) (by decide +kernel)
            refine x_getR 37 hK rfl rfl (shx hG (a := 0) (r := 0) (by decide +kernel) (by decide +kernel)) ab4 ?_
            obtain ⟨b5, ab5, qb5⟩ := grq (k := 7) hG (a := b4) (r := 17) qb4 (q := 20) (by decide +kernel)
            refine x_getR 40 hK rfl rfl (shx hG (a := b4) (r := 17) qb4 (by decide +kernel)) ab5 ?_
            refine x_iload_n 41 hK rfl rfl rfl ?_
            refine x_iaload (n := 8) 42 hK rfl rfl (shx hG (a := b5) (r := 20) qb5 (by decide +kernel)) (by omega) (by omega) (by omega) ?_
            exact x_iret hK rfl ⟨rfl, _, Or.inr ⟨by omega, Or.inr ⟨by omega, _, b5, ab4, by first | (rw [if_pos (by omega)]; exact ab5) | (rw [if_neg (by omega)]; exact ab5), rfl⟩⟩, rfl⟩
        · exact hX _ (Or.inl ⟨rfl, by omega⟩)
noncomputable def wayR (h : aH) (i j : Int) (o : Option Int) : Prop := ∃ b, aR h 0 10 = some b ∧ ((o = none ∧ ¬ (0 ≤ i ∧ i < gi h b 4 ∧ 0 ≤ j ∧ j ≤ 1)) ∨ ((0 ≤ i ∧ i < gi h b 4 ∧ 0 ≤ j ∧ j ≤ 1) ∧ ∃ c, aR h b (if j = 0 then 5 else 6) = some c ∧ o = some (if j = 0 then (I (gi h c i.toNat - gi h b 0)).toInt else gi h c i.toNat)))
set_option maxRecDepth 4000 in
theorem rn9way {CL : CT} {sh : List (Nat × Nat)} {h : aH} (hG : GD gE gRL sh h) {i j : Int} (ri : r32 i) (rj : r32 j) : wplX CL ac9X10_way (some .int) (fun rv h' => h' = h ∧ ∃ v : Int, wayR h i j (some v) ∧ rv = some (.int (I v))) (fun _ pc _ st h' bc bs => pc = 24 ∧ st = [] ∧ h' = h ∧ wayR h i j none ∧ 1 ≤ bc ∧ 6 ≤ bs) 0 [(0, .ref 0), (1, .int (I i)), (2, .int (I j))] [] h 1 6 := by
  intro K hK hX9
  obtain ⟨b1, ab1, qb1⟩ := grq (k := 10) hG (a := 0) (r := 0) (by decide +kernel) (q := 17) (by decide +kernel)
  have hB := ab1
  have hX : ∀ ls, wayR h i j none → K 24 ls [] h 1 6 := fun ls hr => hX9 _ _ _ _ _ _ ⟨rfl, rfl, rfl, hr, Nat.le_refl _, Nat.le_refl _⟩
  refine x_iload_n 1 hK rfl rfl rfl ?_
  refine x_if_lt 24 4 hK rfl rfl rfl (by omega) (fun c1 => ?_) (fun c1 => ?_)
  · exact hX _ (⟨_, hB, Or.inl ⟨rfl, by omega⟩⟩)
  · refine x_iload_n 5 hK rfl rfl rfl ?_
    refine x_aload_n 6 hK rfl rfl rfl ?_
    refine x_getR 9 hK rfl rfl (shx hG (a := 0) (r := 0) (by decide +kernel) (by decide +kernel)) ab1 ?_
    have g9 := gri 0 12 hG (a := b1) (r := 17) (k := 4) qb1 (by decide +kernel)
    refine x_getI 12 hK rfl (Or.inl rfl) rfl (shx hG (a := b1) (r := 17) qb1 (by decide +kernel)) ?_
    refine x_if_icmp_ge 24 15 hK rfl rfl rfl (by omega) (by omega) (fun c12 => ?_) (fun c12 => ?_)
    · exact hX _ (⟨_, hB, Or.inl ⟨rfl, by omega⟩⟩)
    · refine x_iload_n 16 hK rfl rfl rfl ?_
      refine x_if_lt 24 19 hK rfl rfl rfl (by omega) (fun c16 => ?_) (fun c16 => ?_)
      · exact hX _ (⟨_, hB, Or.inl ⟨rfl, by omega⟩⟩)
      · refine x_iload_n 20 hK rfl rfl rfl ?_
        refine x_iconst 21 hK rfl rfl ?_
        refine x_if_icmp_le 32 24 hK rfl rfl rfl (by omega) (by omega) (fun c21 => ?_) (fun c21 => ?_)
        · refine x_iload_n 33 hK rfl rfl rfl ?_
          refine x_if_ne 56 36 hK rfl rfl rfl (by omega) (fun c33 => ?_) (fun c33 => ?_)
          · refine x_aload_n 57 hK rfl rfl rfl ?_
            refine x_getR 60 hK rfl rfl (shx hG (a := 0) (r := 0) (by decide +kernel) (by decide +kernel)) ab1 ?_
            obtain ⟨b2, ab2, qb2⟩ := grq (k := 6) hG (a := b1) (r := 17) qb1 (q := 19) (by decide +kernel)
            refine x_getR 63 hK rfl rfl (shx hG (a := b1) (r := 17) qb1 (by decide +kernel)) ab2 ?_
            refine x_iload_n 64 hK rfl rfl rfl ?_
            refine x_iaload (n := 12) 65 hK rfl rfl (shx hG (a := b2) (r := 19) qb2 (by decide +kernel)) (by omega) (by omega) (by omega) ?_
            exact x_iret hK rfl ⟨rfl, gi h b2 (i).toNat, ⟨b1, ab1, Or.inr ⟨by omega, b2, by first | (rw [if_pos (by omega)]; exact ab2) | (rw [if_neg (by omega)]; exact ab2), by first | rw [if_pos (by omega)] | rw [if_neg (by omega)]⟩⟩, rfl⟩
          · refine x_aload_n 37 hK rfl rfl rfl ?_
            refine x_getR 40 hK rfl rfl (shx hG (a := 0) (r := 0) (by decide +kernel) (by decide +kernel)) ab1 ?_
            obtain ⟨b3, ab3, qb3⟩ := grq (k := 5) hG (a := b1) (r := 17) qb1 (q := 18) (by decide +kernel)
            refine x_getR 43 hK rfl rfl (shx hG (a := b1) (r := 17) qb1 (by decide +kernel)) ab3 ?_
            refine x_iload_n 44 hK rfl rfl rfl ?_
            refine x_iaload (n := 12) 45 hK rfl rfl (shx hG (a := b3) (r := 18) qb3 (by decide +kernel)) (by omega) (by omega) (by omega) ?_
            refine x_aload_n 46 hK rfl rfl rfl ?_
            refine x_getR 49 hK rfl rfl (shx hG (a := 0) (r := 0) (by decide +kernel) (by decide +kernel)) ab1 ?_
            refine x_getI 52 hK rfl (Or.inl rfl) rfl (shx hG (a := b1) (r := 17) qb1 (by decide +kernel)) ?_
            refine x_isub 53 hK rfl rfl ?_
            refine x_goto 65 hK rfl rfl ?_
            exact x_iret hK rfl ⟨rfl, (I (gi h b3 (i).toNat - gi h b1 0)).toInt, ⟨b1, ab1, Or.inr ⟨by omega, b3, by first | (rw [if_pos (by omega)]; exact ab3) | (rw [if_neg (by omega)]; exact ab3), by first | rw [if_pos (by omega)] | rw [if_neg (by omega)]⟩⟩, by rw [t_I]⟩
        · exact hX _ (⟨_, hB, Or.inl ⟨rfl, by omega⟩⟩)
noncomputable def rowR (h : aH) (i : Int) (o : Option Int) : Prop := ∃ b, aR h 0 1 = some b ∧ ((o = none ∧ ¬ (0 ≤ i ∧ i < gi h b 1)) ∨ ((0 ≤ i ∧ i < gi h b 1) ∧ ∃ c, aR h b 0 = some c ∧ o = some (aJ h c i.toNat).toInt))
set_option maxRecDepth 4000 in
theorem rn9row {CL : CT} {sh : List (Nat × Nat)} {h : aH} (hG : GD gE gRL sh h) {i : Int} (ri : r32 i) : wplX CL ac9X10_row (some .long) (fun rv h' => h' = h ∧ ∃ v : Int, rowR h i (some v) ∧ rv = some (.long (J v))) (fun _ pc _ st h' bc bs => pc = 15 ∧ st = [] ∧ h' = h ∧ rowR h i none ∧ 1 ≤ bc ∧ 6 ≤ bs) 0 [(0, .ref 0), (1, .int (I i))] [] h 1 6 := by
  intro K hK hX9
  obtain ⟨b1, ab1, qb1⟩ := grq (k := 1) hG (a := 0) (r := 0) (by decide +kernel) (q := 3) (by decide +kernel)
  have hB := ab1
  have hX : ∀ ls, rowR h i none → K 15 ls [] h 1 6 := fun ls hr => hX9 _ _ _ _ _ _ ⟨rfl, rfl, rfl, hr, Nat.le_refl _, Nat.le_refl _⟩
  refine x_iload_n 1 hK rfl rfl rfl ?_
  refine x_if_lt 15 4 hK rfl rfl rfl (by omega) (fun c1 => ?_) (fun c1 => ?_)
  · exact hX _ (⟨_, hB, Or.inl ⟨rfl, by omega⟩⟩)
  · refine x_iload_n 5 hK rfl rfl rfl ?_
    refine x_aload_n 6 hK rfl rfl rfl ?_
    refine x_getR 9 hK rfl rfl (shx hG (a := 0) (r := 0) (by decide +kernel) (by decide +kernel)) ab1 ?_
    have g9 := gri 0 30 hG (a := b1) (r := 3) (k := 1) qb1 (by decide +kernel)
    refine x_getI 12 hK rfl (Or.inl rfl) rfl (shx hG (a := b1) (r := 3) qb1 (by decide +kernel)) ?_
    refine x_if_icmp_lt 23 15 hK rfl rfl rfl (by omega) (by omega) (fun c12 => ?_) (fun c12 => ?_)
    · refine x_aload_n 24 hK rfl rfl rfl ?_
      refine x_getR 27 hK rfl rfl (shx hG (a := 0) (r := 0) (by decide +kernel) (by decide +kernel)) ab1 ?_
      obtain ⟨b2, ab2, qb2⟩ := grq (k := 0) hG (a := b1) (r := 3) qb1 (q := 4) (by decide +kernel)
      refine x_getR 30 hK rfl rfl (shx hG (a := b1) (r := 3) qb1 (by decide +kernel)) ab2 ?_
      refine x_iload_n 31 hK rfl rfl rfl ?_
      refine x_laload (n := 30) 32 hK rfl rfl (shx hG (a := b2) (r := 4) qb2 (by decide +kernel)) (by omega) (by omega) (by omega) ?_
      exact x_lret hK rfl ⟨rfl, _, ⟨b1, ab1, Or.inr ⟨by omega, _, ab2, rfl⟩⟩, rfl⟩
    · exact hX _ (⟨_, hB, Or.inl ⟨rfl, by omega⟩⟩)
end
section
/-! THE CLASS'S THROWING METHODS BY THE MACHINE, and the law's wrappers -/
noncomputable abbrev NSE9 : String := "java/util/NoSuchElementException"
noncomputable abbrev nm9 : List String := ["java/lang/RuntimeException", "java/lang/Exception"]
theorem j9cl_X : Jvm.Cond.classLink RX10 137 NSE9 ∈ GW := atT_gw (i := 987) (by decide +kernel)
theorem j9cl_L : Jvm.Cond.classLink RL 13 NSE9 ∈ GW := atT_gw (i := 982) (by decide +kernel)
theorem j9ini_NSE : Jvm.Cond.initialized NSE9 ∈ GW := atT_gw (i := 107) (by decide +kernel)
theorem j9inst_NSE : Jvm.Cond.instantiable NSE9 6 ∈ GW := atT_gw (i := 988) (by decide +kernel)
theorem j9ini_X10 : Jvm.Cond.initialized RX10 ∈ GW := atT_gw (i := 86) (by decide +kernel)
theorem j9ini_L : Jvm.Cond.initialized RL ∈ GW := atT_gw (i := 85) (by decide +kernel)
noncomputable abbrev nI9 (c : String) : MethodName := ⟨c, "<init>", "()V"⟩
theorem j9iI_RuntimeException : Jvm.Cond.instanceMethod (nI9 "java/lang/RuntimeException") ∈ GW := atT_gw (i := 1030) (by decide +kernel)
theorem j9cI_RuntimeException : Jvm.Cond.code (nI9 "java/lang/RuntimeException") prog_20_method_1_code 1 none ∈ GW := atT_gw (i := 1031) (by decide +kernel)
theorem j9iI_Exception : Jvm.Cond.instanceMethod (nI9 "java/lang/Exception") ∈ GW := atT_gw (i := 1033) (by decide +kernel)
theorem j9cI_Exception : Jvm.Cond.code (nI9 "java/lang/Exception") prog_17_method_1_code 1 none ∈ GW := atT_gw (i := 1034) (by decide +kernel)
theorem j9iI_Throwable : Jvm.Cond.instanceMethod (nI9 "java/lang/Throwable") ∈ GW := atT_gw (i := 1010) (by decide +kernel)
theorem j9cI_Throwable : Jvm.Cond.code (nI9 "java/lang/Throwable") prog_25_method_1_code 1 none ∈ GW := atT_gw (i := 1011) (by decide +kernel)
theorem decl9 {args : Array Value} {s : State} {x : MethodName} {bytes : ByteArray} {n : Nat} {r : Option FieldType} (h1 : (Jvm.Cond.instanceMethod x).before args s = true) (h2 : (Jvm.Cond.code x bytes n r).before args s = true) : (Jvm.Cond.declares x).before args s = true := by
  obtain ⟨m, meth, hn, hm, hst, -⟩ := Cond.instanceMethod_spec h1
  obtain ⟨meth', c, hm', -, -, -, -, -, -, hd⟩ := Cond.code_spec hn h2
  cases Option.some.inj (hm.symm.trans hm')
  show (Jvm.Cond.declares x).holds args s none s [] = true
  simp [Cond.holds, Cond.value, hn, hm, hst, hd]
noncomputable def thS : List Jvm.Cond := (lw_tbl.drop 31).take 1 ++ (lw_tbl.drop 104).take 14 ++ (lw_tbl.drop 982).take 66 ++ (lw_tbl.drop 1765).take 1 ++ (lw_tbl.drop 1778).take 2
theorem thS_sub : ∀ w ∈ thS, w ∈ lw_tbl := by
  intro w hw
  simp only [thS, List.mem_append] at hw
  rcases hw with ((((h | h) | h) | h) | h) <;> exact List.mem_of_mem_drop (List.mem_of_mem_take h)
set_option maxRecDepth 100000 in
theorem th_words : ((vx_at0 RX10 139 NSE9 nm9).filter goodWord).all (fun w => decide (w ∈ thS)) = true := by decide +kernel
theorem th_gw : ∀ w ∈ (vx_at0 RX10 139 NSE9 nm9).filter goodWord, w ∈ GW := fun w hw => List.mem_filter.mpr ⟨thS_sub w (of_decide_eq_true (List.all_eq_true.mp th_words w hw)), (List.mem_filter.mp hw).2⟩
set_option maxRecDepth 100000 in
theorem th_rest : ∀ w ∈ (vx_at0 RX10 139 NSE9 nm9).filter (fun w => !goodWord w), w ∈ [Jvm.Cond.castable NSE9 NSE9, Jvm.Cond.declares (nI9 "java/lang/RuntimeException"), Jvm.Cond.declares (nI9 "java/lang/Exception"), Jvm.Cond.declares (nI9 "java/lang/Throwable")] := by decide +kernel
set_option maxRecDepth 100000 in
theorem th_good : ∀ w ∈ Jvm.Cond.classLink RX10 137 NSE9 :: Jvm.Cond.initialized NSE9 :: vx_at0 RX10 139 NSE9 nm9, vx_ot w = true := by decide +kernel
theorem cast9 {args : Array Value} {s : State} (h : (Jvm.Cond.instantiable NSE9 6).before args s = true) : (Jvm.Cond.castable NSE9 NSE9).before args s = true := by
  obtain ⟨c, k, hc, -⟩ := Cond.instantiable_spec h
  have ha : s.vm.assignable c c = true := by unfold Vm.assignable Vm.assignableAux; simp
  show (Jvm.Cond.castable NSE9 NSE9).holds args s none s [] = true
  simp [Cond.holds, Cond.value, hc, ha]
/-- what a thrown end says -/
noncomputable def tXC (cy : Nat → ClassId) (dC : Nat → ClassId) (dI : Nat → Nat → Nat) (ad : Nat → Nat) (h : aH) (sz : Nat) (T : Prop) : String → State → State → Prop := fun E st t => E = NSE9 ∧ T ∧ (∃ ad' : Nat → Nat, (∀ j, j < h.1.length ∨ 1000000 ≤ j → ad' j = ad j) ∧ va_P (dC, dI) vwCl (wd cy ad' h) t.heap ∧ va_D (va_A (wd cy ad h) sz) (wd cy ad' h)) ∧ va_F (va_A (wd cy ad h) sz) st t
noncomputable def rm9 : Room := { frames := 12, cells := 1, slots := 6, locals := 400 }
noncomputable def rm8 : Room := { frames := 14, cells := 1, slots := 6, locals := 500 }
set_option maxHeartbeats 4000000 in
theorem thr_met (l : Launch) (hfl : l.stackTraces = false) {y : MethodName} {cc : ByteArray} {maxL : Nat} {ret : Option FieldType} {ac : AC} (hok : acok (y, cc, maxL, ret, ac, 10, 0)) (hy : plainName y.cls = true) (hcls : y.cls = RX10) (hnm : ¬ y.name = "<init>") {thr : Nat}
    (d0 : decode cc thr = .ok (.new 137, 3)) (d3 : decode cc (thr + 3) = .ok (.dup, 1)) (d4 : decode cc (thr + 4) = .ok (.invokespecial 139, 3)) (d7 : decode cc (thr + 7) = .ok (.athrow, 1))
    {as : List Value} {h : aH} {Q : QT} {T : Prop} (hrun : wplX (fun _ _ _ _ _ _ => False) ac ret Q (fun _ pc _ st h' bc bs => pc = thr ∧ st = [] ∧ h' = h ∧ T ∧ 1 ≤ bc ∧ 6 ≤ bs) 0 (lv_args 0 as) [] h 1 6) (hcat : catsum as ≤ maxL)
    (cy : Nat → ClassId) (dC : Nat → ClassId) (dI : Nat → Nat → Nat) (adK adV ad : Nat → Nat) (sz : Nat) (hstr : ∀ i, i < 6 → ad (1000000 + i) = adK i) (hsm : h.1.length < 1000000) (hRV : RV h) :
    vx_Met l y (jws y cc maxL ret) rm9 (mPc cy dC dI adK adV ad as h sz) (mQc cy dC dI ad h sz 1 Q) (tXC cy dC dI ad h sz T) 1 6 (va_A (wd cy ad h) sz) := by
  refine vx_ofW (cc := cc) (maxL := maxL) (ret := ret) hy rfl ?_
  intro p e s m args below meth c s₁ B hml ht hv
  obtain ⟨rfl, hsz, hP, hU1, hD0, hU2⟩ := hv
  have hlocks := B.notSynchronized
  have hts0 := atoms_spec (ws := jws y cc maxL ret) B.pre
  have hts : ∀ w ∈ GW, w.before (as.map (cv ad)).toArray s = true := fun w hw => hts0 w (List.mem_cons_of_mem _ hw)
  have hown : s.vm.findClass RX10 = some m.cls := by rw [← hcls]; exact findClass_of_methodNamed B.named
  have hin : meth.name = y.name := (name_of_methodNamed B.named B.method).1
  subst hsz
  have hD := hD0.self (sz := s.heap.size)
  have hA : ∀ q : Nat, s.heap.size ≤ q → va_A (wd cy ad h) s.heap.size q := fun q h9 => Or.inr h9
  have hl := lv_entry (as.map (cv ad)) (n := maxL) (by rw [lg_sl_len, catsum_cv]; exact hcat)
  rw [lv_args_cv] at hl
  rw [lg_entry_eq]
  generalize (lg_sl (as.map (cv ad)) ++ List.replicate (maxL - (lg_sl (as.map (cv ad))).length) Slot.unset).toArray = arr at hl ⊢
  have hq : ∀ (rv : Option Value) (h' : aH) (ad' : Nat → Nat) (H : Heap) (locs : List Loc), Q rv h' → HAD 1 h.1.length ad ad' 0 → h.1.length ≤ h'.1.length → h'.1.length < 1000000 → Std cy dC dI (va_A (wd cy ad h) s.heap.size) s.heap ad' h' H locs → ∀ o, o = .returned (rv.map (cv ad')) →
      ∀ t : State, t.heap = H → s.WarmedH t.vm → mQc cy dC dI ad h s.heap.size 1 Q (as.map (cv ad)).toArray s o t := by
    intro rv h' ad' H locs hq had hle hsm' hS o ho t ht hW
    exact ⟨⟨rv, h', ad', ho, hq, had.1, fun hz => had.2.2 hz, hle, hsm', hS.2.2.2, by rw [ht]; exact hS.1, hS.2.1⟩, hS.2.2.1.F ht⟩
  refine snd_runX (d := 0) (C := 1) (S := 6) (bz := 1) (n0 := h.1.length) (ad0 := ad) (ret := ret) (own := y.cls) (isI := decide (y.name = "<init>")) (ac := ac) (nL := maxL) (CL := fun _ _ _ _ _ _ => False) (Q := Q) (fun _ pc _ st h' bc bs => pc = thr ∧ st = [] ∧ h' = h ∧ T ∧ 1 ≤ bc ∧ 6 ≤ bs) ?_ B.exec B.bytes hml (by rw [hcls]; exact hown) hts (fun h9 => by rw [hin]; exact of_decide_eq_true h9) hU1 hU2 hA hstr (Nat.le_refl _) (Nat.le_refl _) (Nat.le_of_ble_eq_true rfl) (Nat.le_of_ble_eq_true rfl) hmath_t hmok_t (fun _ _ _ _ _ _ hc => hc.elim) hok ?_ ?_ ?_ 0 (lv_args 0 as) [] h 1 6 hrun ad arr s.heap [] 0 0 ⟨fun _ _ => rfl, Nat.le_refl _, fun _ => rfl⟩ (Nat.le_refl _) hsm ⟨hP, hD, va_S.rf, hRV⟩ hl (by omega) (by omega)
  · rintro pc ls st h' bc bs ⟨rfl, rfl, rfl, hT, h1, h2⟩
    intro ad' arr' H locs cells slots had hn0 hsm' hS hl' hc hs
    refine vx_throw0 (own := RX10) (cls := NSE9) (names := nm9) (ik := 137) (ic := 139) (A := va_A (wd cy ad h') s.heap.size) B.exec B.bytes hfl hown (by decide +kernel) (by decide +kernel) (hts _ j9cl_X) (hts _ j9ini_NSE) (vx_hat (fun w hw => hts w (th_gw w hw)) th_rest (vx_c (cast9 (hts _ j9inst_NSE)) (vx_c (decl9 (hts _ j9iI_RuntimeException) (hts _ j9cI_RuntimeException)) (vx_c (decl9 (hts _ j9iI_Exception) (hts _ j9cI_Exception)) (vx_c (decl9 (hts _ j9iI_Throwable) (hts _ j9cI_Throwable)) vx_n))))) th_good hU2.2.2.2.1 hU2.2.2.2.2 hS.2.2.1 (hl'.1.trans hml.symm) d0 d3 d4 d7 (fun x hx => (ht x hx).elim) (Nat.le_of_ble_eq_true rfl) (Nat.le_of_ble_eq_true rfl) (show cells + 1 ≤ 1 by omega) (show slots + 6 ≤ 6 by omega) hlocks ?_ hS.2.2.1.2.2 (by omega) (by omega)
    intro t hal hle hk
    refine ⟨rfl, hT, ⟨ad', had.1, va_P.kept hS.1 (fun k q hq9 => hk q.1 (hS.1 k q hq9).lt), hS.2.1⟩, Nat.le_trans hS.2.2.1.1 hle, fun q h8 h9 => ?_⟩
    rw [hk q (Nat.lt_of_lt_of_le h8 hS.2.2.1.1)]
    exact hS.2.2.1.2.1 q h8 h9
  · intro v ty h' ad' H locs cells slots pc arr' hd hr hn hqq had hle hsm' hS hl' hs
    refine W.widen hl' hs (vx_ret ?_)
    exact W.zret B.exec B.bytes (B.returns.trans hr) hn (hq _ h' ad' H locs hqq had hle hsm' hS _ rfl) hS.2.2.1.2.2 hd
  · intro v h' ad' H locs cells slots pc arr' hd hr hqq had hle hsm' hS hc hs
    refine W.widen hc hs (vx_ret ?_)
    exact W.lret B.exec B.bytes (B.returns.trans hr) (hq _ h' ad' H locs hqq had hle hsm' hS _ rfl) hS.2.2.1.2.2 hd
  · intro h' ad' H locs cells slots pc arr' hd hr hqq had hle hsm' hS hc hs
    refine W.widen hc hs (vx_ret ?_)
    exact W.vret B.exec B.bytes (B.returns.trans hr) (hq _ h' ad' H locs hqq had hle hsm' hS _ rfl) hS.2.2.1.2.2 hd
section SNDX
variable {p : Program} {l : Launch} {e : Env} {R : Room} {s : State} {m : MethodId} {args : Array Value} {below : List Frame} {meth : Method} {c : Code} {Z : State → Prop}
variable {cc : ByteArray} {nL : Nat} {own : String} {isI : Bool} {ret : Option FieldType}
variable {cy : Nat → ClassId} {dC : Nat → ClassId} {dI : Nat → Nat → Nat} {A : Nat → Prop} {ad0 : Nat → Nat} {bz n0 C S : Nat} {adK adV : Nat → Nat}
theorem ab_callX {H : Heap} {locs : List Loc} {cells slots mc ms : Nat} {pc : Nat} {ls : Array Slot} {rest st0 : List Value} {Qa : State → Outcome → State → Prop} {XC : String → State → State → Prop} {A1 : Nat → Prop} {free : Addr → Prop} {Q : State → Prop} {H0 : Heap}
    (hr : vx_Run p l e R s m args below meth c H locs cells slots mc ms (F0 m pc ls st0) rest Qa XC free) (hS : va_S A H0 H locs) (hA : ∀ q, A1 q → A q) (hf : ∀ q, free q → A q) (hF : ∀ st o t, Qa st o t → va_F A1 st t) (hXF : ∀ E st t, XC E st t → va_F A1 st t)
    (kx : ∀ (E : String) (ce : Cell) (q9 : Addr) (st₀ t : State) (H1 : Heap) (locs1 : List Loc), st₀.heap = H → t.heap = H1 → XC E st₀ t → va_S A H0 H1 locs1 → H1[q9]? = some ce → ce.vm = .none → s.vm.findClass E = some ce.cls → vx_W p l e R s m args below meth c H1 locs1 (cells + mc) (slots + ms) Q (F0 m pc ls rest) q9)
    (kk : ∀ (v : Option Value) (st₀ t : State) (H1 : Heap) (locs1 : List Loc), st₀.heap = H → t.heap = H1 → Qa st₀ (.returned v) t → va_S A H0 H1 locs1 → W p l e R s m args below meth c H1 locs1 (cells + mc) (slots + ms) Q (F0 m (pc + 3) ls (v.toList ++ rest))) :
    W p l e R s m args below meth c H locs cells slots Q (F0 m pc ls st0) := by
  intro T hT X
  rcases hr T hT X with ⟨v, st₀, t, T', L, h0, X', hL, e1, e2, hq, st⟩ | ⟨q, st₀, t, T', L, E, ce, h0, X', hL, e1, e2, hx, hce, hcv, hcl, st⟩
  · obtain ⟨hz, hk⟩ := hF _ _ _ hq
    rw [h0] at hz hk
    obtain ⟨t2, a1, b1⟩ := kk v st₀ t T'.heap (locs ++ L) h0 e1.symm hq
      ⟨Nat.le_trans hS.1 (by rw [e1]; exact hz), fun q h1 h2 => by rw [e1, hk q (Nat.lt_of_lt_of_le h1 hS.1) (fun z => h2 (hA q z))]; exact hS.2.1 q h1 h2, fun q hq => by
        rcases List.mem_append.mp hq with h | h
        · exact hS.2.2 q h
        · exact hf _ (hL q h)⟩ T' rfl X'
    exact ⟨t2, st t2 a1, b1⟩
  · obtain ⟨hz, hk⟩ := hXF _ _ _ hx
    rw [h0] at hz hk
    obtain ⟨t2, a1, b1⟩ := kx E ce q st₀ t T'.heap (locs ++ L) h0 e1.symm hx
      ⟨Nat.le_trans hS.1 (by rw [e1]; exact hz), fun q h1 h2 => by rw [e1, hk q (Nat.lt_of_lt_of_le h1 hS.1) (fun z => h2 (hA q z))]; exact hS.2.1 q h1 h2, fun q hq => by
        rcases List.mem_append.mp hq with h | h
        · exact hS.2.2 q h
        · exact hf _ (hL q h)⟩ (by rw [e1]; exact hce) hcv hcl T' rfl X'
    exact ⟨t2, st.trans a1, b1⟩
theorem mQc_kkX {K : KT} {XC : String → State → State → Prop} (hU1 : U1 cy dC dI adK s) (hA : ∀ q, s.heap.size ≤ q → A q) (hK : GO p l e R s m args below meth c Z nL cy dC dI A ad0 bz n0 C S K)
    {pc : Nat} {ls : List (Nat × Value)} {rest : List Value} {h : aH} {bc bs mc ms : Nat} {ad : Nat → Nat} {arr : Array Slot} {H : Heap} {locs : List Loc} {cells slots : Nat} {free : Addr → Prop} {st0 : List Value} {a : Array Value} {mz : Nat}
    (hmc : mc ≤ bc) (hms : ms ≤ bs) (hmz : mz ≤ mc) (hok : ((ls.all fun q => okv h q.2) = true ∧ (rest.all fun v => okv h v) = true)) (h1c : 1 ≤ mc)
    (had : HAD bz n0 ad0 ad bc) (hn0 : n0 ≤ h.1.length) (hS : Std cy dC dI A s.heap ad h H locs) (hl : lv_has arr nL (cvl ad ls)) (hc : cells + bc ≤ C) (hs : slots + bs ≤ S) (hf : ∀ q, free q → A q) (hXF : ∀ E st t, XC E st t → va_F (va_A (wd cy ad h) H.size) st t)
    (hr : vx_Run p l e R s m args below meth c H locs cells slots mc ms (F0 m pc arr st0) (rest.map (cv ad)) (mQc cy dC dI ad h H.size mz (fun v h' => K (pc + 3) ls (psh v rest) h' (bc - mc) (bs - ms)) a) XC free)
    (kx : ∀ (E : String) (ce : Cell) (q9 : Addr) (st₀ t : State) (H1 : Heap) (locs1 : List Loc), st₀.heap = H → t.heap = H1 → XC E st₀ t → va_S A s.heap H1 locs1 → H1[q9]? = some ce → ce.vm = .none → s.vm.findClass E = some ce.cls → vx_W p l e R s m args below meth c H1 locs1 (cells + mc) (slots + ms) Z (F0 m pc arr (rest.map (cv ad))) q9) :
    W p l e R s m args below meth c H locs cells slots Z (F0 m pc arr st0) := by
  have hfree := wd_free hS.2.1 hS.2.2.1 hA
  refine ab_callX hr hS.2.2.1 hfree hf (fun st o t q => q.2) hXF kx (fun v st₀ t H1 locs1 e0 e1 hq hS1 => ?_)
  obtain ⟨⟨rv, h', ad', ho, hk, hd1, hd2, hle, hsm', hRV', hP', hD'⟩, -⟩ := hq
  cases ho
  rw [e1] at hP'
  have had' : HAD bz n0 ad0 ad' (bc - mc) := by
    refine ⟨fun j hj => ?_, by have := had.2.1; omega, fun hz => ?_⟩
    · rw [hd1 j (by omega)]
      exact had.1 j hj
    · exact absurd hz (by have := had.2.1; omega)
  have ecl : cvl ad' ls = cvl ad ls := cvl_ok hok.1 hd1
  have ecr : rest.map (cv ad') = rest.map (cv ad) := cvs_ok hok.2 hd1
  have := hK _ _ _ _ _ _ hk ad' arr H1 locs1 (cells + mc) (slots + ms) had' (Nat.le_trans hn0 hle) hsm' ⟨hP', hD'.weaken (fun _ q _ h9 => hfree q.1 h9), hS1, hRV'⟩ (by rw [ecl]; exact hl) (by omega) (by omega)
  have ep : (psh rv rest).map (cv ad') = (rv.map (cv ad')).toList ++ rest.map (cv ad) := by
    unfold psh
    rw [List.map_append, ecr]
    cases rv <;> rfl
  rw [ep] at this
  exact this
end SNDX
noncomputable def wrQ (h : aH) (R : Option Int → Prop) : QT := fun rv h' => (R none ∧ rv = some (.int (I 1)) ∧ h' = h) ∨ ∃ v : Int, R (some v) ∧ rv = some (.int (I 0)) ∧ h' = sJ h 201 0 (J v)
/-- the wrapper's own call -/
noncomputable def wXR (pcC : Nat) (asr : List Value) (mk : Int → Value) (R : Option Int → Prop) (h : aH) (ls0 : List (Nat × Value)) : KT → KT := fun K pc ls st h' bc bs => pc = pcC ∧ st = asr ++ [.int (I 0), .ref 201] ∧ ls = ls0 ∧ h' = h ∧ bc = 1 ∧ bs = 6 ∧ ∀ v, R (some v) → K (pcC + 3) ls (mk v :: [.int (I 0), .ref 201]) h 0 0
theorem mQc_mono {cy : Nat → ClassId} {dC : Nat → ClassId} {dI : Nat → Nat → Nat} {ad : Nat → Nat} {h : aH} {sz mc : Nat} {Q Q' : QT} (hq : ∀ rv h', Q rv h' → Q' rv h') {a : Array Value} {st : State} {o : Outcome} {t : State} (hm : mQc cy dC dI ad h sz mc Q a st o t) : mQc cy dC dI ad h sz mc Q' a st o t := by
  obtain ⟨⟨rv, h', ad', ho, hk, hr⟩, hF⟩ := hm
  exact ⟨⟨rv, h', ad', ho, hq _ _ hk, hr⟩, hF⟩
theorem vx_Run_mono {p : Program} {l : Launch} {e : Env} {R : Room} {s : State} {m : MethodId} {args : Array Value} {below : List Frame} {meth : Method} {c : Code} {H : Heap} {locs : List Loc} {cells slots mc ms : Nat} {g : JFrame} {rest : List Value} {Qa Qa' : State → Outcome → State → Prop} {XC : String → State → State → Prop} {free : Addr → Prop} (hQ : ∀ st o t, Qa st o t → Qa' st o t)
    (hr : vx_Run p l e R s m args below meth c H locs cells slots mc ms g rest Qa XC free) : vx_Run p l e R s m args below meth c H locs cells slots mc ms g rest Qa' XC free := by
  intro T hT X
  rcases hr T hT X with ⟨v, st₀, t, T', L, h0, X', hL, e1, e2, hq, st⟩ | h9
  · exact Or.inl ⟨v, st₀, t, T', L, h0, X', hL, e1, e2, hQ _ _ _ hq, st⟩
  · exact Or.inr h9
theorem dX10_post_24 : decode cX10_post 24 = .ok (.new 137, 3) := by decide +kernel
theorem dX10_post_27 : decode cX10_post 27 = .ok (.dup, 1) := by decide +kernel
theorem dX10_post_28 : decode cX10_post 28 = .ok (.invokespecial 139, 3) := by decide +kernel
theorem dX10_post_31 : decode cX10_post 31 = .ok (.athrow, 1) := by decide +kernel
theorem dL_post_5 : decode cL_post 5 = .ok (.invokevirtual 7, 3) := by decide +kernel
theorem dL_post_13 : decode cL_post 13 = .ok (.astore 4, 2) := by decide +kernel
theorem dL_post_15 : decode cL_post 15 = .ok (.iconst 1, 1) := by decide +kernel
theorem dL_post_16 : decode cL_post 16 = .ok (.ireturn, 1) := by decide +kernel
noncomputable def ac9L_post : AC := [(0, .aload_n 3, 0, 0, 0), (1, .iconst 0, 0, 0, 0), (2, .aload_n 0, 0, 0, 0), (3, .iload_n 1, 0, 0, 0), (4, .iload_n 2, 0, 0, 0), (8, .i2l, 0, 0, 0), (9, .lastore, 0, 0, 0), (10, .goto 7, 0, 0, 0), (13, .astore 4, 0, 0, 0), (15, .iconst 1, 0, 0, 0), (16, .ireturn, 0, 0, 0), (17, .iconst 0, 0, 0, 0), (18, .ireturn, 0, 0, 0)]
set_option maxRecDepth 100000 in
theorem ok9L_post : acok (yL_post, cL_post, 5, (some .int), ac9L_post, 12, 0) := acokB_ok (hs := []) (by decide +kernel)
theorem j9mL_post : Jvm.Cond.methodLink RL 7 yX10_post ∈ GW := atT_gw (i := 983) (by decide +kernel)
theorem j9in_post : Jvm.Cond.instanceMethod yX10_post ∈ GW := atT_gw (i := 984) (by decide +kernel)
theorem j9se_post : Jvm.Cond.selects RX10 yX10_post yX10_post ∈ GW := atT_gw (i := 985) (by decide +kernel)
theorem j9co_post : Jvm.Cond.code yX10_post cX10_post 3 (some .int) ∈ GW := atT_gw (i := 986) (by decide +kernel)
theorem j9cw_post : Jvm.Cond.codeWith yL_post cL_post 5 (some .int) [(0, 10, 13, 13)] ∈ GW := atT_gw (i := 981) (by decide +kernel)
theorem j9ml_post : Jvm.Cond.static yL_post ∈ GW := atT_gw (i := 980) (by decide +kernel)
set_option maxRecDepth 4000 in
theorem wr9post {CL : CT} {h : aH} (h201 : h.1[201]? = some (1, 1)) {i j : Int} (ri : r32 i) (rj : r32 j) {R : Option Int → Prop} (hR : ∀ v, R (some v) → r32 v) : wplX CL ac9L_post (some .int) (wrQ h R) (wXR 5 [.int (I j), .int (I i), .ref 0] (fun v => .int (I v)) R h [(0, .ref 0), (1, .int (I i)), (2, .int (I j)), (3, .ref 201)]) 0 [(0, .ref 0), (1, .int (I i)), (2, .int (I j)), (3, .ref 201)] [] h 1 6 := by
  intro K hK hX9
  refine x_aload_n 1 hK rfl rfl rfl ?_
  refine x_iconst 2 hK rfl rfl ?_
  refine x_aload_n 3 hK rfl rfl rfl ?_
  refine x_iload_n 4 hK rfl rfl rfl ?_
  refine x_iload_n 5 hK rfl rfl rfl ?_
  refine hX9 _ _ _ _ _ _ ⟨rfl, rfl, rfl, rfl, rfl, rfl, fun v hv => ?_⟩
  have rv := hR v hv
  refine x_i2l 9 hK rfl rfl (by omega) ?_
  refine x_lastore 10 hK rfl rfl h201 (by omega) (by omega) (by omega) ?_
  refine x_goto 17 hK rfl rfl ?_
  refine x_iconst 18 hK rfl rfl ?_
  exact x_iret hK rfl (Or.inr ⟨v, hv, rfl, rfl⟩)
set_option maxHeartbeats 4000000 in
set_option maxRecDepth 100000 in
theorem wm9post (l : Launch) (hfl : l.stackTraces = false) {sh : List (Nat × Nat)} {h : aH} (hG : GD gE gRL sh h) (h201 : h.1[201]? = some (1, 1)) {i j : Int} (ri : r32 i) (rj : r32 j) (hR : ∀ v, postR h i j (some v) → r32 v)
    (cy : Nat → ClassId) (dC : Nat → ClassId) (dI : Nat → Nat → Nat) (adK adV ad : Nat → Nat) (sz : Nat) (hstr : ∀ i, i < 6 → ad (1000000 + i) = adK i) (hsm : h.1.length < 1000000) (hRV : RV h) :
    vx_Met l yL_post (Jvm.Cond.codeWith yL_post cL_post 5 (some .int) [(0, 10, 13, 13)] :: GW) rm8 (mPc cy dC dI adK adV ad [.ref 0, .int (I i), .int (I j), .ref 201] h sz) (mQc cy dC dI ad h sz 1 (wrQ h (postR h i j))) (fun _ _ _ => False) 1 6 (va_A (wd cy ad h) sz) := by
  refine vx_ofWH (cc := cL_post) (maxL := 5) (ret := some .int) (by decide) rfl ?_
  intro p e s m args below meth c s₁ B hml hv
  obtain ⟨rfl, hsz, hP, hU1, hD0, hU2⟩ := hv
  have hlocks := B.notSynchronized
  have hts0 := atoms_spec (ws := Jvm.Cond.codeWith yL_post cL_post 5 (some .int) [(0, 10, 13, 13)] :: GW) B.pre
  have hts : ∀ w ∈ GW, w.before (([.ref 0, .int (I i), .int (I j), .ref 201] : List Value).map (cv ad)).toArray s = true := fun w hw => hts0 w (List.mem_cons_of_mem _ hw)
  have htab := vx_table (x := yL_post) B (hts0 _ List.mem_cons_self)
  have hown : s.vm.findClass RL = some m.cls := findClass_of_methodNamed B.named
  have hin : meth.name = yL_post.name := (name_of_methodNamed B.named B.method).1
  subst hsz
  have hD := hD0.self (sz := s.heap.size)
  have hA : ∀ q : Nat, s.heap.size ≤ q → va_A (wd cy ad h) s.heap.size q := fun q h9 => Or.inr h9
  have hl := lv_entry (([.ref 0, .int (I i), .int (I j), .ref 201] : List Value).map (cv ad)) (n := 5) (Nat.le_of_ble_eq_true rfl)
  rw [lv_args_cv] at hl
  rw [lg_entry_eq]
  generalize (lg_sl (([.ref 0, .int (I i), .int (I j), .ref 201] : List Value).map (cv ad)) ++ List.replicate (5 - (lg_sl (([.ref 0, .int (I i), .int (I j), .ref 201] : List Value).map (cv ad))).length) Slot.unset).toArray = arr at hl ⊢
  have hq : ∀ (rv : Option Value) (h' : aH) (ad' : Nat → Nat) (H : Heap) (locs : List Loc), wrQ h (postR h i j) rv h' → HAD 1 h.1.length ad ad' 0 → h.1.length ≤ h'.1.length → h'.1.length < 1000000 → Std cy dC dI (va_A (wd cy ad h) s.heap.size) s.heap ad' h' H locs → ∀ o, o = .returned (rv.map (cv ad')) →
      ∀ t : State, t.heap = H → s.WarmedH t.vm → mQc cy dC dI ad h s.heap.size 1 (wrQ h (postR h i j)) (([.ref 0, .int (I i), .int (I j), .ref 201] : List Value).map (cv ad)).toArray s o t := by
    intro rv h' ad' H locs hq had hle hsm' hS o ho t ht hW
    exact ⟨⟨rv, h', ad', ho, hq, had.1, fun hz => had.2.2 hz, hle, hsm', hS.2.2.2, by rw [ht]; exact hS.1, hS.2.1⟩, hS.2.2.1.F ht⟩
  refine snd_runX (d := 0) (C := 1) (S := 6) (bz := 1) (n0 := h.1.length) (ad0 := ad) (ret := some .int) (own := RL) (isI := false) (ac := ac9L_post) (nL := 5) (CL := fun _ _ _ _ _ _ => False) (Q := wrQ h (postR h i j)) (wXR 5 [.int (I j), .int (I i), .ref 0] (fun v => .int (I v)) (postR h i j) h [(0, .ref 0), (1, .int (I i)), (2, .int (I j)), (3, .ref 201)]) ?_ B.exec B.bytes hml hown hts (fun h9 => nomatch h9) hU1 hU2 hA hstr (Nat.le_refl _) (Nat.le_refl _) (Nat.le_of_ble_eq_true rfl) (Nat.le_of_ble_eq_true rfl) hmath_t hmok_t (fun _ _ _ _ _ _ hc => hc.elim) ok9L_post ?_ ?_ ?_ 0 [(0, .ref 0), (1, .int (I i)), (2, .int (I j)), (3, .ref 201)] [] h 1 6 (wr9post h201 ri rj hR) ad arr s.heap [] 0 0 ⟨fun _ _ => rfl, Nat.le_refl _, fun _ => rfl⟩ (Nat.le_refl _) hsm ⟨hP, hD, va_S.rf, hRV⟩ hl (by omega) (by omega)
  · rintro pc ls st h' bc bs ⟨rfl, rfl, rfl, rfl, rfl, rfl, kk⟩
    intro ad' arr' H locs cells slots had hn0 hsm' hS hl' hc hs
    have hM := thr_met l hfl ok9X10_post (by decide) rfl (by decide) dX10_post_24 dX10_post_27 dX10_post_28 dX10_post_31 (rn9post (CL := fun _ _ _ _ _ _ => False) hG ri rj) (as := [.ref 0, .int (I i), .int (I j)]) (Nat.le_of_ble_eq_true rfl) cy dC dI adK adV ad' H.size (fun i hi => by rw [had.1 _ (Or.inr (by omega)), hstr i hi]) hsm' hRV
    have he := wd_get (cy := cy) (ad := ad') (shx hG (a := 0) (r := 0) (s := (110, 17)) (by decide +kernel) (by decide +kernel))
    rw [show (110 : Nat) = 100 + 10 from rfl, enS_obj] at he
    obtain ⟨C', T, N, ty, c1, -, -, -, -, -, c7, -⟩ := cls_ok (ci := 10) (by decide)
    have hrv := va_recv hU1.1 hS.1 c1 he
    have hfree := wd_free hS.2.1 hS.2.2.1 hA
    refine mQc_kkX (K := GK p l e _ s m _ below meth c _ 5 cy dC dI _ ad 1 h'.1.length 1 6) (mc := 1) (ms := 6) (mz := 1) (bc := 1) (bs := 6) (h := h') (rest := [.int (I 0), .ref 201]) hU1 hA (fun _ _ _ _ _ _ hk => hk) (Nat.le_refl _) (Nat.le_refl _) (Nat.le_refl _) ?_ (Nat.le_refl _) had hn0 hS hl' hc hs (fun q h9 => hfree q h9) (fun E st t h9 => h9.2.2.2) (vx_Run_mono (fun st o t hm => mQc_mono (fun rv h9 hq9 => ?_) hm) (vx_runV (C := RX10) (b := ad' 0) (As := [.int (I i), .int (I j)]) (n := 2) ⟨B.exec, B.bytes, hml, hown, hts⟩ hM (cwV 2 hts (jgV (y := yX10_post) j9mL_post j9in_post j9se_post j9ini_X10 j9co_post) rfl rfl rfl (by decide +kernel) ⟨Nat.le_of_ble_eq_true rfl, Nat.le_of_ble_eq_true rfl⟩) ⟨mPc_blind, by rw [show RX10 = C' from (show RX10 = wdN 10 from by decide +kernel).trans c7.symm]; exact hrv, fun U hU hW => mPc_here (as := [.ref 0, .int (I i), .int (I j)]) hU1 hU2 hA hS U hU hW⟩ rfl rfl hl'.1 rfl (lv_room (Nat.le_of_ble_eq_true rfl)) dL_post_5 ⟨by show cells + 1 ≤ 1; omega, by show slots + 6 ≤ 6; omega⟩)) ?_
    · have hz0 : (0 : Nat) < h'.1.length := (List.getElem?_eq_some_iff.mp (shx hG (a := 0) (r := 0) (s := (110, 17)) (by decide +kernel) (by decide +kernel))).1
      have hz1 : (201 : Nat) < h'.1.length := (List.getElem?_eq_some_iff.mp h201).1
      simp [okv, hz0, hz1]
    · obtain ⟨rfl, v, hv, rfl⟩ := hq9
      exact kk v hv
    · rintro E ce q9 st₀ t H1 locs1 e0 e1 ⟨rfl, hT, ⟨ad2, hd2, hP2, hD2⟩, hF2⟩ hS1 hce hcv hcl
      refine vx_catch (own := RL) (name := NSE9) hown [] _ [] htab (fun z hz => nomatch hz) (by decide) (by decide) (hts _ j9cl_L) (cast9 (hts _ j9inst_NSE)) hce hcv hcl ?_
      refine lv_astore (i := 4) B.exec B.bytes dL_post_13 hl' (Nat.le_of_ble_eq_true rfl) rfl (fun arr2 hl2 => ?_)
      refine lv_iconst (v := 1) B.exec B.bytes dL_post_15 (by decide) ?_
      refine W.widen (show cells + 1 ≤ 1 by omega) (show slots + 6 ≤ 6 by omega) (vx_ret ?_)
      refine W.iret (v := 1) B.exec B.bytes B.returns (fun t2 ht2 hW2 => ⟨⟨some (.int 1), h', ad2, rfl, Or.inl ⟨hT, rfl, rfl⟩, fun j hj => (hd2 j hj).trans (had.1 j hj), fun hz => absurd hz (by decide), Nat.le_refl _, hsm, hRV, by rw [ht2, ← e1]; exact hP2, hD2.weaken (fun _ q _ h9 => hfree q.1 h9)⟩, hS1.F ht2⟩) hS1.2.2 dL_post_16
  · intro v ty h' ad' H locs cells slots pc arr' hd hr hn hqq had hle hsm' hS hl' hs
    refine W.widen hl' hs (vx_ret ?_)
    exact W.zret B.exec B.bytes (B.returns.trans hr) hn (hq _ h' ad' H locs hqq had hle hsm' hS _ rfl) hS.2.2.1.2.2 hd
  · intro v h' ad' H locs cells slots pc arr' hd hr hqq had hle hsm' hS hc hs
    exact nomatch hr
  · intro h' ad' H locs cells slots pc arr' hd hr hqq had hle hsm' hS hc hs
    exact nomatch hr
theorem dX10_rock_24 : decode cX10_rock 24 = .ok (.new 137, 3) := by decide +kernel
theorem dX10_rock_27 : decode cX10_rock 27 = .ok (.dup, 1) := by decide +kernel
theorem dX10_rock_28 : decode cX10_rock 28 = .ok (.invokespecial 139, 3) := by decide +kernel
theorem dX10_rock_31 : decode cX10_rock 31 = .ok (.athrow, 1) := by decide +kernel
theorem dL_rock_5 : decode cL_rock 5 = .ok (.invokevirtual 15, 3) := by decide +kernel
theorem dL_rock_13 : decode cL_rock 13 = .ok (.astore 4, 2) := by decide +kernel
theorem dL_rock_15 : decode cL_rock 15 = .ok (.iconst 1, 1) := by decide +kernel
theorem dL_rock_16 : decode cL_rock 16 = .ok (.ireturn, 1) := by decide +kernel
noncomputable def ac9L_rock : AC := [(0, .aload_n 3, 0, 0, 0), (1, .iconst 0, 0, 0, 0), (2, .aload_n 0, 0, 0, 0), (3, .iload_n 1, 0, 0, 0), (4, .iload_n 2, 0, 0, 0), (8, .i2l, 0, 0, 0), (9, .lastore, 0, 0, 0), (10, .goto 7, 0, 0, 0), (13, .astore 4, 0, 0, 0), (15, .iconst 1, 0, 0, 0), (16, .ireturn, 0, 0, 0), (17, .iconst 0, 0, 0, 0), (18, .ireturn, 0, 0, 0)]
set_option maxRecDepth 100000 in
theorem ok9L_rock : acok (yL_rock, cL_rock, 5, (some .int), ac9L_rock, 12, 0) := acokB_ok (hs := []) (by decide +kernel)
theorem j9mL_rock : Jvm.Cond.methodLink RL 15 yX10_rock ∈ GW := atT_gw (i := 1051) (by decide +kernel)
theorem j9in_rock : Jvm.Cond.instanceMethod yX10_rock ∈ GW := atT_gw (i := 1052) (by decide +kernel)
theorem j9se_rock : Jvm.Cond.selects RX10 yX10_rock yX10_rock ∈ GW := atT_gw (i := 1053) (by decide +kernel)
theorem j9co_rock : Jvm.Cond.code yX10_rock cX10_rock 3 (some .int) ∈ GW := atT_gw (i := 1054) (by decide +kernel)
theorem j9cw_rock : Jvm.Cond.codeWith yL_rock cL_rock 5 (some .int) [(0, 10, 13, 13)] ∈ GW := atT_gw (i := 1050) (by decide +kernel)
theorem j9ml_rock : Jvm.Cond.static yL_rock ∈ GW := atT_gw (i := 1049) (by decide +kernel)
set_option maxRecDepth 4000 in
theorem wr9rock {CL : CT} {h : aH} (h201 : h.1[201]? = some (1, 1)) {i j : Int} (ri : r32 i) (rj : r32 j) {R : Option Int → Prop} (hR : ∀ v, R (some v) → r32 v) : wplX CL ac9L_rock (some .int) (wrQ h R) (wXR 5 [.int (I j), .int (I i), .ref 0] (fun v => .int (I v)) R h [(0, .ref 0), (1, .int (I i)), (2, .int (I j)), (3, .ref 201)]) 0 [(0, .ref 0), (1, .int (I i)), (2, .int (I j)), (3, .ref 201)] [] h 1 6 := by
  intro K hK hX9
  refine x_aload_n 1 hK rfl rfl rfl ?_
  refine x_iconst 2 hK rfl rfl ?_
  refine x_aload_n 3 hK rfl rfl rfl ?_
  refine x_iload_n 4 hK rfl rfl rfl ?_
  refine x_iload_n 5 hK rfl rfl rfl ?_
  refine hX9 _ _ _ _ _ _ ⟨rfl, rfl, rfl, rfl, rfl, rfl, fun v hv => ?_⟩
  have rv := hR v hv
  refine x_i2l 9 hK rfl rfl (by omega) ?_
  refine x_lastore 10 hK rfl rfl h201 (by omega) (by omega) (by omega) ?_
  refine x_goto 17 hK rfl rfl ?_
  refine x_iconst 18 hK rfl rfl ?_
  exact x_iret hK rfl (Or.inr ⟨v, hv, rfl, rfl⟩)
set_option maxHeartbeats 4000000 in
set_option maxRecDepth 100000 in
theorem wm9rock (l : Launch) (hfl : l.stackTraces = false) {sh : List (Nat × Nat)} {h : aH} (hG : GD gE gRL sh h) (h201 : h.1[201]? = some (1, 1)) {i j : Int} (ri : r32 i) (rj : r32 j) (hR : ∀ v, rockR h i j (some v) → r32 v)
    (cy : Nat → ClassId) (dC : Nat → ClassId) (dI : Nat → Nat → Nat) (adK adV ad : Nat → Nat) (sz : Nat) (hstr : ∀ i, i < 6 → ad (1000000 + i) = adK i) (hsm : h.1.length < 1000000) (hRV : RV h) :
    vx_Met l yL_rock (Jvm.Cond.codeWith yL_rock cL_rock 5 (some .int) [(0, 10, 13, 13)] :: GW) rm8 (mPc cy dC dI adK adV ad [.ref 0, .int (I i), .int (I j), .ref 201] h sz) (mQc cy dC dI ad h sz 1 (wrQ h (rockR h i j))) (fun _ _ _ => False) 1 6 (va_A (wd cy ad h) sz) := by
  refine vx_ofWH (cc := cL_rock) (maxL := 5) (ret := some .int) (by decide) rfl ?_
  intro p e s m args below meth c s₁ B hml hv
  obtain ⟨rfl, hsz, hP, hU1, hD0, hU2⟩ := hv
  have hlocks := B.notSynchronized
  have hts0 := atoms_spec (ws := Jvm.Cond.codeWith yL_rock cL_rock 5 (some .int) [(0, 10, 13, 13)] :: GW) B.pre
  have hts : ∀ w ∈ GW, w.before (([.ref 0, .int (I i), .int (I j), .ref 201] : List Value).map (cv ad)).toArray s = true := fun w hw => hts0 w (List.mem_cons_of_mem _ hw)
  have htab := vx_table (x := yL_rock) B (hts0 _ List.mem_cons_self)
  have hown : s.vm.findClass RL = some m.cls := findClass_of_methodNamed B.named
  have hin : meth.name = yL_rock.name := (name_of_methodNamed B.named B.method).1
  subst hsz
  have hD := hD0.self (sz := s.heap.size)
  have hA : ∀ q : Nat, s.heap.size ≤ q → va_A (wd cy ad h) s.heap.size q := fun q h9 => Or.inr h9
  have hl := lv_entry (([.ref 0, .int (I i), .int (I j), .ref 201] : List Value).map (cv ad)) (n := 5) (Nat.le_of_ble_eq_true rfl)
  rw [lv_args_cv] at hl
  rw [lg_entry_eq]
  generalize (lg_sl (([.ref 0, .int (I i), .int (I j), .ref 201] : List Value).map (cv ad)) ++ List.replicate (5 - (lg_sl (([.ref 0, .int (I i), .int (I j), .ref 201] : List Value).map (cv ad))).length) Slot.unset).toArray = arr at hl ⊢
  have hq : ∀ (rv : Option Value) (h' : aH) (ad' : Nat → Nat) (H : Heap) (locs : List Loc), wrQ h (rockR h i j) rv h' → HAD 1 h.1.length ad ad' 0 → h.1.length ≤ h'.1.length → h'.1.length < 1000000 → Std cy dC dI (va_A (wd cy ad h) s.heap.size) s.heap ad' h' H locs → ∀ o, o = .returned (rv.map (cv ad')) →
      ∀ t : State, t.heap = H → s.WarmedH t.vm → mQc cy dC dI ad h s.heap.size 1 (wrQ h (rockR h i j)) (([.ref 0, .int (I i), .int (I j), .ref 201] : List Value).map (cv ad)).toArray s o t := by
    intro rv h' ad' H locs hq had hle hsm' hS o ho t ht hW
    exact ⟨⟨rv, h', ad', ho, hq, had.1, fun hz => had.2.2 hz, hle, hsm', hS.2.2.2, by rw [ht]; exact hS.1, hS.2.1⟩, hS.2.2.1.F ht⟩
  refine snd_runX (d := 0) (C := 1) (S := 6) (bz := 1) (n0 := h.1.length) (ad0 := ad) (ret := some .int) (own := RL) (isI := false) (ac := ac9L_rock) (nL := 5) (CL := fun _ _ _ _ _ _ => False) (Q := wrQ h (rockR h i j)) (wXR 5 [.int (I j), .int (I i), .ref 0] (fun v => .int (I v)) (rockR h i j) h [(0, .ref 0), (1, .int (I i)), (2, .int (I j)), (3, .ref 201)]) ?_ B.exec B.bytes hml hown hts (fun h9 => nomatch h9) hU1 hU2 hA hstr (Nat.le_refl _) (Nat.le_refl _) (Nat.le_of_ble_eq_true rfl) (Nat.le_of_ble_eq_true rfl) hmath_t hmok_t (fun _ _ _ _ _ _ hc => hc.elim) ok9L_rock ?_ ?_ ?_ 0 [(0, .ref 0), (1, .int (I i)), (2, .int (I j)), (3, .ref 201)] [] h 1 6 (wr9rock h201 ri rj hR) ad arr s.heap [] 0 0 ⟨fun _ _ => rfl, Nat.le_refl _, fun _ => rfl⟩ (Nat.le_refl _) hsm ⟨hP, hD, va_S.rf, hRV⟩ hl (by omega) (by omega)
  · rintro pc ls st h' bc bs ⟨rfl, rfl, rfl, rfl, rfl, rfl, kk⟩
    intro ad' arr' H locs cells slots had hn0 hsm' hS hl' hc hs
    have hM := thr_met l hfl ok9X10_rock (by decide) rfl (by decide) dX10_rock_24 dX10_rock_27 dX10_rock_28 dX10_rock_31 (rn9rock (CL := fun _ _ _ _ _ _ => False) hG ri rj) (as := [.ref 0, .int (I i), .int (I j)]) (Nat.le_of_ble_eq_true rfl) cy dC dI adK adV ad' H.size (fun i hi => by rw [had.1 _ (Or.inr (by omega)), hstr i hi]) hsm' hRV
    have he := wd_get (cy := cy) (ad := ad') (shx hG (a := 0) (r := 0) (s := (110, 17)) (by decide +kernel) (by decide +kernel))
    rw [show (110 : Nat) = 100 + 10 from rfl, enS_obj] at he
    obtain ⟨C', T, N, ty, c1, -, -, -, -, -, c7, -⟩ := cls_ok (ci := 10) (by decide)
    have hrv := va_recv hU1.1 hS.1 c1 he
    have hfree := wd_free hS.2.1 hS.2.2.1 hA
    refine mQc_kkX (K := GK p l e _ s m _ below meth c _ 5 cy dC dI _ ad 1 h'.1.length 1 6) (mc := 1) (ms := 6) (mz := 1) (bc := 1) (bs := 6) (h := h') (rest := [.int (I 0), .ref 201]) hU1 hA (fun _ _ _ _ _ _ hk => hk) (Nat.le_refl _) (Nat.le_refl _) (Nat.le_refl _) ?_ (Nat.le_refl _) had hn0 hS hl' hc hs (fun q h9 => hfree q h9) (fun E st t h9 => h9.2.2.2) (vx_Run_mono (fun st o t hm => mQc_mono (fun rv h9 hq9 => ?_) hm) (vx_runV (C := RX10) (b := ad' 0) (As := [.int (I i), .int (I j)]) (n := 2) ⟨B.exec, B.bytes, hml, hown, hts⟩ hM (cwV 2 hts (jgV (y := yX10_rock) j9mL_rock j9in_rock j9se_rock j9ini_X10 j9co_rock) rfl rfl rfl (by decide +kernel) ⟨Nat.le_of_ble_eq_true rfl, Nat.le_of_ble_eq_true rfl⟩) ⟨mPc_blind, by rw [show RX10 = C' from (show RX10 = wdN 10 from by decide +kernel).trans c7.symm]; exact hrv, fun U hU hW => mPc_here (as := [.ref 0, .int (I i), .int (I j)]) hU1 hU2 hA hS U hU hW⟩ rfl rfl hl'.1 rfl (lv_room (Nat.le_of_ble_eq_true rfl)) dL_rock_5 ⟨by show cells + 1 ≤ 1; omega, by show slots + 6 ≤ 6; omega⟩)) ?_
    · have hz0 : (0 : Nat) < h'.1.length := (List.getElem?_eq_some_iff.mp (shx hG (a := 0) (r := 0) (s := (110, 17)) (by decide +kernel) (by decide +kernel))).1
      have hz1 : (201 : Nat) < h'.1.length := (List.getElem?_eq_some_iff.mp h201).1
      simp [okv, hz0, hz1]
    · obtain ⟨rfl, v, hv, rfl⟩ := hq9
      exact kk v hv
    · rintro E ce q9 st₀ t H1 locs1 e0 e1 ⟨rfl, hT, ⟨ad2, hd2, hP2, hD2⟩, hF2⟩ hS1 hce hcv hcl
      refine vx_catch (own := RL) (name := NSE9) hown [] _ [] htab (fun z hz => nomatch hz) (by decide) (by decide) (hts _ j9cl_L) (cast9 (hts _ j9inst_NSE)) hce hcv hcl ?_
      refine lv_astore (i := 4) B.exec B.bytes dL_rock_13 hl' (Nat.le_of_ble_eq_true rfl) rfl (fun arr2 hl2 => ?_)
      refine lv_iconst (v := 1) B.exec B.bytes dL_rock_15 (by decide) ?_
      refine W.widen (show cells + 1 ≤ 1 by omega) (show slots + 6 ≤ 6 by omega) (vx_ret ?_)
      refine W.iret (v := 1) B.exec B.bytes B.returns (fun t2 ht2 hW2 => ⟨⟨some (.int 1), h', ad2, rfl, Or.inl ⟨hT, rfl, rfl⟩, fun j hj => (hd2 j hj).trans (had.1 j hj), fun hz => absurd hz (by decide), Nat.le_refl _, hsm, hRV, by rw [ht2, ← e1]; exact hP2, hD2.weaken (fun _ q _ h9 => hfree q.1 h9)⟩, hS1.F ht2⟩) hS1.2.2 dL_rock_16
  · intro v ty h' ad' H locs cells slots pc arr' hd hr hn hqq had hle hsm' hS hl' hs
    refine W.widen hl' hs (vx_ret ?_)
    exact W.zret B.exec B.bytes (B.returns.trans hr) hn (hq _ h' ad' H locs hqq had hle hsm' hS _ rfl) hS.2.2.1.2.2 hd
  · intro v h' ad' H locs cells slots pc arr' hd hr hqq had hle hsm' hS hc hs
    exact nomatch hr
  · intro h' ad' H locs cells slots pc arr' hd hr hqq had hle hsm' hS hc hs
    exact nomatch hr
theorem dX10_mess_21 : decode cX10_mess 21 = .ok (.new 137, 3) := by decide +kernel
theorem dX10_mess_24 : decode cX10_mess 24 = .ok (.dup, 1) := by decide +kernel
theorem dX10_mess_25 : decode cX10_mess 25 = .ok (.invokespecial 139, 3) := by decide +kernel
theorem dX10_mess_28 : decode cX10_mess 28 = .ok (.athrow, 1) := by decide +kernel
theorem dL_mess_5 : decode cL_mess 5 = .ok (.invokevirtual 18, 3) := by decide +kernel
theorem dL_mess_13 : decode cL_mess 13 = .ok (.astore 4, 2) := by decide +kernel
theorem dL_mess_15 : decode cL_mess 15 = .ok (.iconst 1, 1) := by decide +kernel
theorem dL_mess_16 : decode cL_mess 16 = .ok (.ireturn, 1) := by decide +kernel
noncomputable def ac9L_mess : AC := [(0, .aload_n 3, 0, 0, 0), (1, .iconst 0, 0, 0, 0), (2, .aload_n 0, 0, 0, 0), (3, .iload_n 1, 0, 0, 0), (4, .iload_n 2, 0, 0, 0), (8, .i2l, 0, 0, 0), (9, .lastore, 0, 0, 0), (10, .goto 7, 0, 0, 0), (13, .astore 4, 0, 0, 0), (15, .iconst 1, 0, 0, 0), (16, .ireturn, 0, 0, 0), (17, .iconst 0, 0, 0, 0), (18, .ireturn, 0, 0, 0)]
set_option maxRecDepth 100000 in
theorem ok9L_mess : acok (yL_mess, cL_mess, 5, (some .int), ac9L_mess, 12, 0) := acokB_ok (hs := []) (by decide +kernel)
theorem j9mL_mess : Jvm.Cond.methodLink RL 18 yX10_mess ∈ GW := atT_gw (i := 1058) (by decide +kernel)
theorem j9in_mess : Jvm.Cond.instanceMethod yX10_mess ∈ GW := atT_gw (i := 1059) (by decide +kernel)
theorem j9se_mess : Jvm.Cond.selects RX10 yX10_mess yX10_mess ∈ GW := atT_gw (i := 1060) (by decide +kernel)
theorem j9co_mess : Jvm.Cond.code yX10_mess cX10_mess 3 (some .int) ∈ GW := atT_gw (i := 1061) (by decide +kernel)
theorem j9cw_mess : Jvm.Cond.codeWith yL_mess cL_mess 5 (some .int) [(0, 10, 13, 13)] ∈ GW := atT_gw (i := 1057) (by decide +kernel)
theorem j9ml_mess : Jvm.Cond.static yL_mess ∈ GW := atT_gw (i := 1056) (by decide +kernel)
set_option maxRecDepth 4000 in
theorem wr9mess {CL : CT} {h : aH} (h201 : h.1[201]? = some (1, 1)) {i j : Int} (ri : r32 i) (rj : r32 j) {R : Option Int → Prop} (hR : ∀ v, R (some v) → r32 v) : wplX CL ac9L_mess (some .int) (wrQ h R) (wXR 5 [.int (I j), .int (I i), .ref 0] (fun v => .int (I v)) R h [(0, .ref 0), (1, .int (I i)), (2, .int (I j)), (3, .ref 201)]) 0 [(0, .ref 0), (1, .int (I i)), (2, .int (I j)), (3, .ref 201)] [] h 1 6 := by
  intro K hK hX9
  refine x_aload_n 1 hK rfl rfl rfl ?_
  refine x_iconst 2 hK rfl rfl ?_
  refine x_aload_n 3 hK rfl rfl rfl ?_
  refine x_iload_n 4 hK rfl rfl rfl ?_
  refine x_iload_n 5 hK rfl rfl rfl ?_
  refine hX9 _ _ _ _ _ _ ⟨rfl, rfl, rfl, rfl, rfl, rfl, fun v hv => ?_⟩
  have rv := hR v hv
  refine x_i2l 9 hK rfl rfl (by omega) ?_
  refine x_lastore 10 hK rfl rfl h201 (by omega) (by omega) (by omega) ?_
  refine x_goto 17 hK rfl rfl ?_
  refine x_iconst 18 hK rfl rfl ?_
  exact x_iret hK rfl (Or.inr ⟨v, hv, rfl, rfl⟩)
set_option maxHeartbeats 4000000 in
set_option maxRecDepth 100000 in
theorem wm9mess (l : Launch) (hfl : l.stackTraces = false) {sh : List (Nat × Nat)} {h : aH} (hG : GD gE gRL sh h) (h201 : h.1[201]? = some (1, 1)) {i j : Int} (ri : r32 i) (rj : r32 j) (hR : ∀ v, messR h i j (some v) → r32 v)
    (cy : Nat → ClassId) (dC : Nat → ClassId) (dI : Nat → Nat → Nat) (adK adV ad : Nat → Nat) (sz : Nat) (hstr : ∀ i, i < 6 → ad (1000000 + i) = adK i) (hsm : h.1.length < 1000000) (hRV : RV h) :
    vx_Met l yL_mess (Jvm.Cond.codeWith yL_mess cL_mess 5 (some .int) [(0, 10, 13, 13)] :: GW) rm8 (mPc cy dC dI adK adV ad [.ref 0, .int (I i), .int (I j), .ref 201] h sz) (mQc cy dC dI ad h sz 1 (wrQ h (messR h i j))) (fun _ _ _ => False) 1 6 (va_A (wd cy ad h) sz) := by
  refine vx_ofWH (cc := cL_mess) (maxL := 5) (ret := some .int) (by decide) rfl ?_
  intro p e s m args below meth c s₁ B hml hv
  obtain ⟨rfl, hsz, hP, hU1, hD0, hU2⟩ := hv
  have hlocks := B.notSynchronized
  have hts0 := atoms_spec (ws := Jvm.Cond.codeWith yL_mess cL_mess 5 (some .int) [(0, 10, 13, 13)] :: GW) B.pre
  have hts : ∀ w ∈ GW, w.before (([.ref 0, .int (I i), .int (I j), .ref 201] : List Value).map (cv ad)).toArray s = true := fun w hw => hts0 w (List.mem_cons_of_mem _ hw)
  have htab := vx_table (x := yL_mess) B (hts0 _ List.mem_cons_self)
  have hown : s.vm.findClass RL = some m.cls := findClass_of_methodNamed B.named
  have hin : meth.name = yL_mess.name := (name_of_methodNamed B.named B.method).1
  subst hsz
  have hD := hD0.self (sz := s.heap.size)
  have hA : ∀ q : Nat, s.heap.size ≤ q → va_A (wd cy ad h) s.heap.size q := fun q h9 => Or.inr h9
  have hl := lv_entry (([.ref 0, .int (I i), .int (I j), .ref 201] : List Value).map (cv ad)) (n := 5) (Nat.le_of_ble_eq_true rfl)
  rw [lv_args_cv] at hl
  rw [lg_entry_eq]
  generalize (lg_sl (([.ref 0, .int (I i), .int (I j), .ref 201] : List Value).map (cv ad)) ++ List.replicate (5 - (lg_sl (([.ref 0, .int (I i), .int (I j), .ref 201] : List Value).map (cv ad))).length) Slot.unset).toArray = arr at hl ⊢
  have hq : ∀ (rv : Option Value) (h' : aH) (ad' : Nat → Nat) (H : Heap) (locs : List Loc), wrQ h (messR h i j) rv h' → HAD 1 h.1.length ad ad' 0 → h.1.length ≤ h'.1.length → h'.1.length < 1000000 → Std cy dC dI (va_A (wd cy ad h) s.heap.size) s.heap ad' h' H locs → ∀ o, o = .returned (rv.map (cv ad')) →
      ∀ t : State, t.heap = H → s.WarmedH t.vm → mQc cy dC dI ad h s.heap.size 1 (wrQ h (messR h i j)) (([.ref 0, .int (I i), .int (I j), .ref 201] : List Value).map (cv ad)).toArray s o t := by
    intro rv h' ad' H locs hq had hle hsm' hS o ho t ht hW
    exact ⟨⟨rv, h', ad', ho, hq, had.1, fun hz => had.2.2 hz, hle, hsm', hS.2.2.2, by rw [ht]; exact hS.1, hS.2.1⟩, hS.2.2.1.F ht⟩
  refine snd_runX (d := 0) (C := 1) (S := 6) (bz := 1) (n0 := h.1.length) (ad0 := ad) (ret := some .int) (own := RL) (isI := false) (ac := ac9L_mess) (nL := 5) (CL := fun _ _ _ _ _ _ => False) (Q := wrQ h (messR h i j)) (wXR 5 [.int (I j), .int (I i), .ref 0] (fun v => .int (I v)) (messR h i j) h [(0, .ref 0), (1, .int (I i)), (2, .int (I j)), (3, .ref 201)]) ?_ B.exec B.bytes hml hown hts (fun h9 => nomatch h9) hU1 hU2 hA hstr (Nat.le_refl _) (Nat.le_refl _) (Nat.le_of_ble_eq_true rfl) (Nat.le_of_ble_eq_true rfl) hmath_t hmok_t (fun _ _ _ _ _ _ hc => hc.elim) ok9L_mess ?_ ?_ ?_ 0 [(0, .ref 0), (1, .int (I i)), (2, .int (I j)), (3, .ref 201)] [] h 1 6 (wr9mess h201 ri rj hR) ad arr s.heap [] 0 0 ⟨fun _ _ => rfl, Nat.le_refl _, fun _ => rfl⟩ (Nat.le_refl _) hsm ⟨hP, hD, va_S.rf, hRV⟩ hl (by omega) (by omega)
  · rintro pc ls st h' bc bs ⟨rfl, rfl, rfl, rfl, rfl, rfl, kk⟩
    intro ad' arr' H locs cells slots had hn0 hsm' hS hl' hc hs
    have hM := thr_met l hfl ok9X10_mess (by decide) rfl (by decide) dX10_mess_21 dX10_mess_24 dX10_mess_25 dX10_mess_28 (rn9mess (CL := fun _ _ _ _ _ _ => False) hG ri rj) (as := [.ref 0, .int (I i), .int (I j)]) (Nat.le_of_ble_eq_true rfl) cy dC dI adK adV ad' H.size (fun i hi => by rw [had.1 _ (Or.inr (by omega)), hstr i hi]) hsm' hRV
    have he := wd_get (cy := cy) (ad := ad') (shx hG (a := 0) (r := 0) (s := (110, 17)) (by decide +kernel) (by decide +kernel))
    rw [show (110 : Nat) = 100 + 10 from rfl, enS_obj] at he
    obtain ⟨C', T, N, ty, c1, -, -, -, -, -, c7, -⟩ := cls_ok (ci := 10) (by decide)
    have hrv := va_recv hU1.1 hS.1 c1 he
    have hfree := wd_free hS.2.1 hS.2.2.1 hA
    refine mQc_kkX (K := GK p l e _ s m _ below meth c _ 5 cy dC dI _ ad 1 h'.1.length 1 6) (mc := 1) (ms := 6) (mz := 1) (bc := 1) (bs := 6) (h := h') (rest := [.int (I 0), .ref 201]) hU1 hA (fun _ _ _ _ _ _ hk => hk) (Nat.le_refl _) (Nat.le_refl _) (Nat.le_refl _) ?_ (Nat.le_refl _) had hn0 hS hl' hc hs (fun q h9 => hfree q h9) (fun E st t h9 => h9.2.2.2) (vx_Run_mono (fun st o t hm => mQc_mono (fun rv h9 hq9 => ?_) hm) (vx_runV (C := RX10) (b := ad' 0) (As := [.int (I i), .int (I j)]) (n := 2) ⟨B.exec, B.bytes, hml, hown, hts⟩ hM (cwV 2 hts (jgV (y := yX10_mess) j9mL_mess j9in_mess j9se_mess j9ini_X10 j9co_mess) rfl rfl rfl (by decide +kernel) ⟨Nat.le_of_ble_eq_true rfl, Nat.le_of_ble_eq_true rfl⟩) ⟨mPc_blind, by rw [show RX10 = C' from (show RX10 = wdN 10 from by decide +kernel).trans c7.symm]; exact hrv, fun U hU hW => mPc_here (as := [.ref 0, .int (I i), .int (I j)]) hU1 hU2 hA hS U hU hW⟩ rfl rfl hl'.1 rfl (lv_room (Nat.le_of_ble_eq_true rfl)) dL_mess_5 ⟨by show cells + 1 ≤ 1; omega, by show slots + 6 ≤ 6; omega⟩)) ?_
    · have hz0 : (0 : Nat) < h'.1.length := (List.getElem?_eq_some_iff.mp (shx hG (a := 0) (r := 0) (s := (110, 17)) (by decide +kernel) (by decide +kernel))).1
      have hz1 : (201 : Nat) < h'.1.length := (List.getElem?_eq_some_iff.mp h201).1
      simp [okv, hz0, hz1]
    · obtain ⟨rfl, v, hv, rfl⟩ := hq9
      exact kk v hv
    · rintro E ce q9 st₀ t H1 locs1 e0 e1 ⟨rfl, hT, ⟨ad2, hd2, hP2, hD2⟩, hF2⟩ hS1 hce hcv hcl
      refine vx_catch (own := RL) (name := NSE9) hown [] _ [] htab (fun z hz => nomatch hz) (by decide) (by decide) (hts _ j9cl_L) (cast9 (hts _ j9inst_NSE)) hce hcv hcl ?_
      refine lv_astore (i := 4) B.exec B.bytes dL_mess_13 hl' (Nat.le_of_ble_eq_true rfl) rfl (fun arr2 hl2 => ?_)
      refine lv_iconst (v := 1) B.exec B.bytes dL_mess_15 (by decide) ?_
      refine W.widen (show cells + 1 ≤ 1 by omega) (show slots + 6 ≤ 6 by omega) (vx_ret ?_)
      refine W.iret (v := 1) B.exec B.bytes B.returns (fun t2 ht2 hW2 => ⟨⟨some (.int 1), h', ad2, rfl, Or.inl ⟨hT, rfl, rfl⟩, fun j hj => (hd2 j hj).trans (had.1 j hj), fun hz => absurd hz (by decide), Nat.le_refl _, hsm, hRV, by rw [ht2, ← e1]; exact hP2, hD2.weaken (fun _ q _ h9 => hfree q.1 h9)⟩, hS1.F ht2⟩) hS1.2.2 dL_mess_16
  · intro v ty h' ad' H locs cells slots pc arr' hd hr hn hqq had hle hsm' hS hl' hs
    refine W.widen hl' hs (vx_ret ?_)
    exact W.zret B.exec B.bytes (B.returns.trans hr) hn (hq _ h' ad' H locs hqq had hle hsm' hS _ rfl) hS.2.2.1.2.2 hd
  · intro v h' ad' H locs cells slots pc arr' hd hr hqq had hle hsm' hS hc hs
    exact nomatch hr
  · intro h' ad' H locs cells slots pc arr' hd hr hqq had hle hsm' hS hc hs
    exact nomatch hr
theorem dX10_way_24 : decode cX10_way 24 = .ok (.new 137, 3) := by decide +kernel
theorem dX10_way_27 : decode cX10_way 27 = .ok (.dup, 1) := by decide +kernel
theorem dX10_way_28 : decode cX10_way 28 = .ok (.invokespecial 139, 3) := by decide +kernel
theorem dX10_way_31 : decode cX10_way 31 = .ok (.athrow, 1) := by decide +kernel
theorem dL_way_5 : decode cL_way 5 = .ok (.invokevirtual 21, 3) := by decide +kernel
theorem dL_way_13 : decode cL_way 13 = .ok (.astore 4, 2) := by decide +kernel
theorem dL_way_15 : decode cL_way 15 = .ok (.iconst 1, 1) := by decide +kernel
theorem dL_way_16 : decode cL_way 16 = .ok (.ireturn, 1) := by decide +kernel
noncomputable def ac9L_way : AC := [(0, .aload_n 3, 0, 0, 0), (1, .iconst 0, 0, 0, 0), (2, .aload_n 0, 0, 0, 0), (3, .iload_n 1, 0, 0, 0), (4, .iload_n 2, 0, 0, 0), (8, .i2l, 0, 0, 0), (9, .lastore, 0, 0, 0), (10, .goto 7, 0, 0, 0), (13, .astore 4, 0, 0, 0), (15, .iconst 1, 0, 0, 0), (16, .ireturn, 0, 0, 0), (17, .iconst 0, 0, 0, 0), (18, .ireturn, 0, 0, 0)]
set_option maxRecDepth 100000 in
theorem ok9L_way : acok (yL_way, cL_way, 5, (some .int), ac9L_way, 12, 0) := acokB_ok (hs := []) (by decide +kernel)
theorem j9mL_way : Jvm.Cond.methodLink RL 21 yX10_way ∈ GW := atT_gw (i := 1065) (by decide +kernel)
theorem j9in_way : Jvm.Cond.instanceMethod yX10_way ∈ GW := atT_gw (i := 1066) (by decide +kernel)
theorem j9se_way : Jvm.Cond.selects RX10 yX10_way yX10_way ∈ GW := atT_gw (i := 1067) (by decide +kernel)
theorem j9co_way : Jvm.Cond.code yX10_way cX10_way 3 (some .int) ∈ GW := atT_gw (i := 1068) (by decide +kernel)
theorem j9cw_way : Jvm.Cond.codeWith yL_way cL_way 5 (some .int) [(0, 10, 13, 13)] ∈ GW := atT_gw (i := 1064) (by decide +kernel)
theorem j9ml_way : Jvm.Cond.static yL_way ∈ GW := atT_gw (i := 1063) (by decide +kernel)
set_option maxRecDepth 4000 in
theorem wr9way {CL : CT} {h : aH} (h201 : h.1[201]? = some (1, 1)) {i j : Int} (ri : r32 i) (rj : r32 j) {R : Option Int → Prop} (hR : ∀ v, R (some v) → r32 v) : wplX CL ac9L_way (some .int) (wrQ h R) (wXR 5 [.int (I j), .int (I i), .ref 0] (fun v => .int (I v)) R h [(0, .ref 0), (1, .int (I i)), (2, .int (I j)), (3, .ref 201)]) 0 [(0, .ref 0), (1, .int (I i)), (2, .int (I j)), (3, .ref 201)] [] h 1 6 := by
  intro K hK hX9
  refine x_aload_n 1 hK rfl rfl rfl ?_
  refine x_iconst 2 hK rfl rfl ?_
  refine x_aload_n 3 hK rfl rfl rfl ?_
  refine x_iload_n 4 hK rfl rfl rfl ?_
  refine x_iload_n 5 hK rfl rfl rfl ?_
  refine hX9 _ _ _ _ _ _ ⟨rfl, rfl, rfl, rfl, rfl, rfl, fun v hv => ?_⟩
  have rv := hR v hv
  refine x_i2l 9 hK rfl rfl (by omega) ?_
  refine x_lastore 10 hK rfl rfl h201 (by omega) (by omega) (by omega) ?_
  refine x_goto 17 hK rfl rfl ?_
  refine x_iconst 18 hK rfl rfl ?_
  exact x_iret hK rfl (Or.inr ⟨v, hv, rfl, rfl⟩)
set_option maxHeartbeats 4000000 in
set_option maxRecDepth 100000 in
theorem wm9way (l : Launch) (hfl : l.stackTraces = false) {sh : List (Nat × Nat)} {h : aH} (hG : GD gE gRL sh h) (h201 : h.1[201]? = some (1, 1)) {i j : Int} (ri : r32 i) (rj : r32 j) (hR : ∀ v, wayR h i j (some v) → r32 v)
    (cy : Nat → ClassId) (dC : Nat → ClassId) (dI : Nat → Nat → Nat) (adK adV ad : Nat → Nat) (sz : Nat) (hstr : ∀ i, i < 6 → ad (1000000 + i) = adK i) (hsm : h.1.length < 1000000) (hRV : RV h) :
    vx_Met l yL_way (Jvm.Cond.codeWith yL_way cL_way 5 (some .int) [(0, 10, 13, 13)] :: GW) rm8 (mPc cy dC dI adK adV ad [.ref 0, .int (I i), .int (I j), .ref 201] h sz) (mQc cy dC dI ad h sz 1 (wrQ h (wayR h i j))) (fun _ _ _ => False) 1 6 (va_A (wd cy ad h) sz) := by
  refine vx_ofWH (cc := cL_way) (maxL := 5) (ret := some .int) (by decide) rfl ?_
  intro p e s m args below meth c s₁ B hml hv
  obtain ⟨rfl, hsz, hP, hU1, hD0, hU2⟩ := hv
  have hlocks := B.notSynchronized
  have hts0 := atoms_spec (ws := Jvm.Cond.codeWith yL_way cL_way 5 (some .int) [(0, 10, 13, 13)] :: GW) B.pre
  have hts : ∀ w ∈ GW, w.before (([.ref 0, .int (I i), .int (I j), .ref 201] : List Value).map (cv ad)).toArray s = true := fun w hw => hts0 w (List.mem_cons_of_mem _ hw)
  have htab := vx_table (x := yL_way) B (hts0 _ List.mem_cons_self)
  have hown : s.vm.findClass RL = some m.cls := findClass_of_methodNamed B.named
  have hin : meth.name = yL_way.name := (name_of_methodNamed B.named B.method).1
  subst hsz
  have hD := hD0.self (sz := s.heap.size)
  have hA : ∀ q : Nat, s.heap.size ≤ q → va_A (wd cy ad h) s.heap.size q := fun q h9 => Or.inr h9
  have hl := lv_entry (([.ref 0, .int (I i), .int (I j), .ref 201] : List Value).map (cv ad)) (n := 5) (Nat.le_of_ble_eq_true rfl)
  rw [lv_args_cv] at hl
  rw [lg_entry_eq]
  generalize (lg_sl (([.ref 0, .int (I i), .int (I j), .ref 201] : List Value).map (cv ad)) ++ List.replicate (5 - (lg_sl (([.ref 0, .int (I i), .int (I j), .ref 201] : List Value).map (cv ad))).length) Slot.unset).toArray = arr at hl ⊢
  have hq : ∀ (rv : Option Value) (h' : aH) (ad' : Nat → Nat) (H : Heap) (locs : List Loc), wrQ h (wayR h i j) rv h' → HAD 1 h.1.length ad ad' 0 → h.1.length ≤ h'.1.length → h'.1.length < 1000000 → Std cy dC dI (va_A (wd cy ad h) s.heap.size) s.heap ad' h' H locs → ∀ o, o = .returned (rv.map (cv ad')) →
      ∀ t : State, t.heap = H → s.WarmedH t.vm → mQc cy dC dI ad h s.heap.size 1 (wrQ h (wayR h i j)) (([.ref 0, .int (I i), .int (I j), .ref 201] : List Value).map (cv ad)).toArray s o t := by
    intro rv h' ad' H locs hq had hle hsm' hS o ho t ht hW
    exact ⟨⟨rv, h', ad', ho, hq, had.1, fun hz => had.2.2 hz, hle, hsm', hS.2.2.2, by rw [ht]; exact hS.1, hS.2.1⟩, hS.2.2.1.F ht⟩
  refine snd_runX (d := 0) (C := 1) (S := 6) (bz := 1) (n0 := h.1.length) (ad0 := ad) (ret := some .int) (own := RL) (isI := false) (ac := ac9L_way) (nL := 5) (CL := fun _ _ _ _ _ _ => False) (Q := wrQ h (wayR h i j)) (wXR 5 [.int (I j), .int (I i), .ref 0] (fun v => .int (I v)) (wayR h i j) h [(0, .ref 0), (1, .int (I i)), (2, .int (I j)), (3, .ref 201)]) ?_ B.exec B.bytes hml hown hts (fun h9 => nomatch h9) hU1 hU2 hA hstr (Nat.le_refl _) (Nat.le_refl _) (Nat.le_of_ble_eq_true rfl) (Nat.le_of_ble_eq_true rfl) hmath_t hmok_t (fun _ _ _ _ _ _ hc => hc.elim) ok9L_way ?_ ?_ ?_ 0 [(0, .ref 0), (1, .int (I i)), (2, .int (I j)), (3, .ref 201)] [] h 1 6 (wr9way h201 ri rj hR) ad arr s.heap [] 0 0 ⟨fun _ _ => rfl, Nat.le_refl _, fun _ => rfl⟩ (Nat.le_refl _) hsm ⟨hP, hD, va_S.rf, hRV⟩ hl (by omega) (by omega)
  · rintro pc ls st h' bc bs ⟨rfl, rfl, rfl, rfl, rfl, rfl, kk⟩
    intro ad' arr' H locs cells slots had hn0 hsm' hS hl' hc hs
    have hM := thr_met l hfl ok9X10_way (by decide) rfl (by decide) dX10_way_24 dX10_way_27 dX10_way_28 dX10_way_31 (rn9way (CL := fun _ _ _ _ _ _ => False) hG ri rj) (as := [.ref 0, .int (I i), .int (I j)]) (Nat.le_of_ble_eq_true rfl) cy dC dI adK adV ad' H.size (fun i hi => by rw [had.1 _ (Or.inr (by omega)), hstr i hi]) hsm' hRV
    have he := wd_get (cy := cy) (ad := ad') (shx hG (a := 0) (r := 0) (s := (110, 17)) (by decide +kernel) (by decide +kernel))
    rw [show (110 : Nat) = 100 + 10 from rfl, enS_obj] at he
    obtain ⟨C', T, N, ty, c1, -, -, -, -, -, c7, -⟩ := cls_ok (ci := 10) (by decide)
    have hrv := va_recv hU1.1 hS.1 c1 he
    have hfree := wd_free hS.2.1 hS.2.2.1 hA
    refine mQc_kkX (K := GK p l e _ s m _ below meth c _ 5 cy dC dI _ ad 1 h'.1.length 1 6) (mc := 1) (ms := 6) (mz := 1) (bc := 1) (bs := 6) (h := h') (rest := [.int (I 0), .ref 201]) hU1 hA (fun _ _ _ _ _ _ hk => hk) (Nat.le_refl _) (Nat.le_refl _) (Nat.le_refl _) ?_ (Nat.le_refl _) had hn0 hS hl' hc hs (fun q h9 => hfree q h9) (fun E st t h9 => h9.2.2.2) (vx_Run_mono (fun st o t hm => mQc_mono (fun rv h9 hq9 => ?_) hm) (vx_runV (C := RX10) (b := ad' 0) (As := [.int (I i), .int (I j)]) (n := 2) ⟨B.exec, B.bytes, hml, hown, hts⟩ hM (cwV 2 hts (jgV (y := yX10_way) j9mL_way j9in_way j9se_way j9ini_X10 j9co_way) rfl rfl rfl (by decide +kernel) ⟨Nat.le_of_ble_eq_true rfl, Nat.le_of_ble_eq_true rfl⟩) ⟨mPc_blind, by rw [show RX10 = C' from (show RX10 = wdN 10 from by decide +kernel).trans c7.symm]; exact hrv, fun U hU hW => mPc_here (as := [.ref 0, .int (I i), .int (I j)]) hU1 hU2 hA hS U hU hW⟩ rfl rfl hl'.1 rfl (lv_room (Nat.le_of_ble_eq_true rfl)) dL_way_5 ⟨by show cells + 1 ≤ 1; omega, by show slots + 6 ≤ 6; omega⟩)) ?_
    · have hz0 : (0 : Nat) < h'.1.length := (List.getElem?_eq_some_iff.mp (shx hG (a := 0) (r := 0) (s := (110, 17)) (by decide +kernel) (by decide +kernel))).1
      have hz1 : (201 : Nat) < h'.1.length := (List.getElem?_eq_some_iff.mp h201).1
      simp [okv, hz0, hz1]
    · obtain ⟨rfl, v, hv, rfl⟩ := hq9
      exact kk v hv
    · rintro E ce q9 st₀ t H1 locs1 e0 e1 ⟨rfl, hT, ⟨ad2, hd2, hP2, hD2⟩, hF2⟩ hS1 hce hcv hcl
      refine vx_catch (own := RL) (name := NSE9) hown [] _ [] htab (fun z hz => nomatch hz) (by decide) (by decide) (hts _ j9cl_L) (cast9 (hts _ j9inst_NSE)) hce hcv hcl ?_
      refine lv_astore (i := 4) B.exec B.bytes dL_way_13 hl' (Nat.le_of_ble_eq_true rfl) rfl (fun arr2 hl2 => ?_)
      refine lv_iconst (v := 1) B.exec B.bytes dL_way_15 (by decide) ?_
      refine W.widen (show cells + 1 ≤ 1 by omega) (show slots + 6 ≤ 6 by omega) (vx_ret ?_)
      refine W.iret (v := 1) B.exec B.bytes B.returns (fun t2 ht2 hW2 => ⟨⟨some (.int 1), h', ad2, rfl, Or.inl ⟨hT, rfl, rfl⟩, fun j hj => (hd2 j hj).trans (had.1 j hj), fun hz => absurd hz (by decide), Nat.le_refl _, hsm, hRV, by rw [ht2, ← e1]; exact hP2, hD2.weaken (fun _ q _ h9 => hfree q.1 h9)⟩, hS1.F ht2⟩) hS1.2.2 dL_way_16
  · intro v ty h' ad' H locs cells slots pc arr' hd hr hn hqq had hle hsm' hS hl' hs
    refine W.widen hl' hs (vx_ret ?_)
    exact W.zret B.exec B.bytes (B.returns.trans hr) hn (hq _ h' ad' H locs hqq had hle hsm' hS _ rfl) hS.2.2.1.2.2 hd
  · intro v h' ad' H locs cells slots pc arr' hd hr hqq had hle hsm' hS hc hs
    exact nomatch hr
  · intro h' ad' H locs cells slots pc arr' hd hr hqq had hle hsm' hS hc hs
    exact nomatch hr
theorem dX10_row_15 : decode cX10_row 15 = .ok (.new 137, 3) := by decide +kernel
theorem dX10_row_18 : decode cX10_row 18 = .ok (.dup, 1) := by decide +kernel
theorem dX10_row_19 : decode cX10_row 19 = .ok (.invokespecial 139, 3) := by decide +kernel
theorem dX10_row_22 : decode cX10_row 22 = .ok (.athrow, 1) := by decide +kernel
theorem dL_row_4 : decode cL_row 4 = .ok (.invokevirtual 24, 3) := by decide +kernel
theorem dL_row_11 : decode cL_row 11 = .ok (.astore_n 3, 1) := by decide +kernel
theorem dL_row_12 : decode cL_row 12 = .ok (.iconst 1, 1) := by decide +kernel
theorem dL_row_13 : decode cL_row 13 = .ok (.ireturn, 1) := by decide +kernel
noncomputable def ac9L_row : AC := [(0, .aload_n 2, 0, 0, 0), (1, .iconst 0, 0, 0, 0), (2, .aload_n 0, 0, 0, 0), (3, .iload_n 1, 0, 0, 0), (7, .lastore, 0, 0, 0), (8, .goto 6, 0, 0, 0), (11, .astore_n 3, 0, 0, 0), (12, .iconst 1, 0, 0, 0), (13, .ireturn, 0, 0, 0), (14, .iconst 0, 0, 0, 0), (15, .ireturn, 0, 0, 0)]
set_option maxRecDepth 100000 in
theorem ok9L_row : acok (yL_row, cL_row, 4, (some .int), ac9L_row, 12, 0) := acokB_ok (hs := []) (by decide +kernel)
theorem j9mL_row : Jvm.Cond.methodLink RL 24 yX10_row ∈ GW := atT_gw (i := 1072) (by decide +kernel)
theorem j9in_row : Jvm.Cond.instanceMethod yX10_row ∈ GW := atT_gw (i := 1073) (by decide +kernel)
theorem j9se_row : Jvm.Cond.selects RX10 yX10_row yX10_row ∈ GW := atT_gw (i := 1074) (by decide +kernel)
theorem j9co_row : Jvm.Cond.code yX10_row cX10_row 2 (some .long) ∈ GW := atT_gw (i := 1075) (by decide +kernel)
theorem j9cw_row : Jvm.Cond.codeWith yL_row cL_row 4 (some .int) [(0, 8, 11, 13)] ∈ GW := atT_gw (i := 1071) (by decide +kernel)
theorem j9ml_row : Jvm.Cond.static yL_row ∈ GW := atT_gw (i := 1070) (by decide +kernel)
set_option maxRecDepth 4000 in
theorem wr9row {CL : CT} {h : aH} (h201 : h.1[201]? = some (1, 1)) {i : Int} (ri : r32 i) {R : Option Int → Prop} : wplX CL ac9L_row (some .int) (wrQ h R) (wXR 4 [.int (I i), .ref 0] (fun v => .long (J v)) R h [(0, .ref 0), (1, .int (I i)), (2, .ref 201)]) 0 [(0, .ref 0), (1, .int (I i)), (2, .ref 201)] [] h 1 6 := by
  intro K hK hX9
  refine x_aload_n 1 hK rfl rfl rfl ?_
  refine x_iconst 2 hK rfl rfl ?_
  refine x_aload_n 3 hK rfl rfl rfl ?_
  refine x_iload_n 4 hK rfl rfl rfl ?_
  refine hX9 _ _ _ _ _ _ ⟨rfl, rfl, rfl, rfl, rfl, rfl, fun v hv => ?_⟩
  refine x_lastore 8 hK rfl rfl h201 (by omega) (by omega) (by omega) ?_
  refine x_goto 14 hK rfl rfl ?_
  refine x_iconst 15 hK rfl rfl ?_
  exact x_iret hK rfl (Or.inr ⟨v, hv, rfl, rfl⟩)
set_option maxHeartbeats 4000000 in
set_option maxRecDepth 100000 in
theorem wm9row (l : Launch) (hfl : l.stackTraces = false) {sh : List (Nat × Nat)} {h : aH} (hG : GD gE gRL sh h) (h201 : h.1[201]? = some (1, 1)) {i : Int} (ri : r32 i)
    (cy : Nat → ClassId) (dC : Nat → ClassId) (dI : Nat → Nat → Nat) (adK adV ad : Nat → Nat) (sz : Nat) (hstr : ∀ i, i < 6 → ad (1000000 + i) = adK i) (hsm : h.1.length < 1000000) (hRV : RV h) :
    vx_Met l yL_row (Jvm.Cond.codeWith yL_row cL_row 4 (some .int) [(0, 8, 11, 13)] :: GW) rm8 (mPc cy dC dI adK adV ad [.ref 0, .int (I i), .ref 201] h sz) (mQc cy dC dI ad h sz 1 (wrQ h (rowR h i))) (fun _ _ _ => False) 1 6 (va_A (wd cy ad h) sz) := by
  refine vx_ofWH (cc := cL_row) (maxL := 4) (ret := some .int) (by decide) rfl ?_
  intro p e s m args below meth c s₁ B hml hv
  obtain ⟨rfl, hsz, hP, hU1, hD0, hU2⟩ := hv
  have hlocks := B.notSynchronized
  have hts0 := atoms_spec (ws := Jvm.Cond.codeWith yL_row cL_row 4 (some .int) [(0, 8, 11, 13)] :: GW) B.pre
  have hts : ∀ w ∈ GW, w.before (([.ref 0, .int (I i), .ref 201] : List Value).map (cv ad)).toArray s = true := fun w hw => hts0 w (List.mem_cons_of_mem _ hw)
  have htab := vx_table (x := yL_row) B (hts0 _ List.mem_cons_self)
  have hown : s.vm.findClass RL = some m.cls := findClass_of_methodNamed B.named
  have hin : meth.name = yL_row.name := (name_of_methodNamed B.named B.method).1
  subst hsz
  have hD := hD0.self (sz := s.heap.size)
  have hA : ∀ q : Nat, s.heap.size ≤ q → va_A (wd cy ad h) s.heap.size q := fun q h9 => Or.inr h9
  have hl := lv_entry (([.ref 0, .int (I i), .ref 201] : List Value).map (cv ad)) (n := 4) (Nat.le_of_ble_eq_true rfl)
  rw [lv_args_cv] at hl
  rw [lg_entry_eq]
  generalize (lg_sl (([.ref 0, .int (I i), .ref 201] : List Value).map (cv ad)) ++ List.replicate (4 - (lg_sl (([.ref 0, .int (I i), .ref 201] : List Value).map (cv ad))).length) Slot.unset).toArray = arr at hl ⊢
  have hq : ∀ (rv : Option Value) (h' : aH) (ad' : Nat → Nat) (H : Heap) (locs : List Loc), wrQ h (rowR h i) rv h' → HAD 1 h.1.length ad ad' 0 → h.1.length ≤ h'.1.length → h'.1.length < 1000000 → Std cy dC dI (va_A (wd cy ad h) s.heap.size) s.heap ad' h' H locs → ∀ o, o = .returned (rv.map (cv ad')) →
      ∀ t : State, t.heap = H → s.WarmedH t.vm → mQc cy dC dI ad h s.heap.size 1 (wrQ h (rowR h i)) (([.ref 0, .int (I i), .ref 201] : List Value).map (cv ad)).toArray s o t := by
    intro rv h' ad' H locs hq had hle hsm' hS o ho t ht hW
    exact ⟨⟨rv, h', ad', ho, hq, had.1, fun hz => had.2.2 hz, hle, hsm', hS.2.2.2, by rw [ht]; exact hS.1, hS.2.1⟩, hS.2.2.1.F ht⟩
  refine snd_runX (d := 0) (C := 1) (S := 6) (bz := 1) (n0 := h.1.length) (ad0 := ad) (ret := some .int) (own := RL) (isI := false) (ac := ac9L_row) (nL := 4) (CL := fun _ _ _ _ _ _ => False) (Q := wrQ h (rowR h i)) (wXR 4 [.int (I i), .ref 0] (fun v => .long (J v)) (rowR h i) h [(0, .ref 0), (1, .int (I i)), (2, .ref 201)]) ?_ B.exec B.bytes hml hown hts (fun h9 => nomatch h9) hU1 hU2 hA hstr (Nat.le_refl _) (Nat.le_refl _) (Nat.le_of_ble_eq_true rfl) (Nat.le_of_ble_eq_true rfl) hmath_t hmok_t (fun _ _ _ _ _ _ hc => hc.elim) ok9L_row ?_ ?_ ?_ 0 [(0, .ref 0), (1, .int (I i)), (2, .ref 201)] [] h 1 6 (wr9row h201 ri) ad arr s.heap [] 0 0 ⟨fun _ _ => rfl, Nat.le_refl _, fun _ => rfl⟩ (Nat.le_refl _) hsm ⟨hP, hD, va_S.rf, hRV⟩ hl (by omega) (by omega)
  · rintro pc ls st h' bc bs ⟨rfl, rfl, rfl, rfl, rfl, rfl, kk⟩
    intro ad' arr' H locs cells slots had hn0 hsm' hS hl' hc hs
    have hM := thr_met l hfl ok9X10_row (by decide) rfl (by decide) dX10_row_15 dX10_row_18 dX10_row_19 dX10_row_22 (rn9row (CL := fun _ _ _ _ _ _ => False) hG ri) (as := [.ref 0, .int (I i)]) (Nat.le_of_ble_eq_true rfl) cy dC dI adK adV ad' H.size (fun i hi => by rw [had.1 _ (Or.inr (by omega)), hstr i hi]) hsm' hRV
    have he := wd_get (cy := cy) (ad := ad') (shx hG (a := 0) (r := 0) (s := (110, 17)) (by decide +kernel) (by decide +kernel))
    rw [show (110 : Nat) = 100 + 10 from rfl, enS_obj] at he
    obtain ⟨C', T, N, ty, c1, -, -, -, -, -, c7, -⟩ := cls_ok (ci := 10) (by decide)
    have hrv := va_recv hU1.1 hS.1 c1 he
    have hfree := wd_free hS.2.1 hS.2.2.1 hA
    refine mQc_kkX (K := GK p l e _ s m _ below meth c _ 4 cy dC dI _ ad 1 h'.1.length 1 6) (mc := 1) (ms := 6) (mz := 1) (bc := 1) (bs := 6) (h := h') (rest := [.int (I 0), .ref 201]) hU1 hA (fun _ _ _ _ _ _ hk => hk) (Nat.le_refl _) (Nat.le_refl _) (Nat.le_refl _) ?_ (Nat.le_refl _) had hn0 hS hl' hc hs (fun q h9 => hfree q h9) (fun E st t h9 => h9.2.2.2) (vx_Run_mono (fun st o t hm => mQc_mono (fun rv h9 hq9 => ?_) hm) (vx_runV (C := RX10) (b := ad' 0) (As := [.int (I i)]) (n := 1) ⟨B.exec, B.bytes, hml, hown, hts⟩ hM (cwV 1 hts (jgV (y := yX10_row) j9mL_row j9in_row j9se_row j9ini_X10 j9co_row) rfl rfl rfl (by decide +kernel) ⟨Nat.le_of_ble_eq_true rfl, Nat.le_of_ble_eq_true rfl⟩) ⟨mPc_blind, by rw [show RX10 = C' from (show RX10 = wdN 10 from by decide +kernel).trans c7.symm]; exact hrv, fun U hU hW => mPc_here (as := [.ref 0, .int (I i)]) hU1 hU2 hA hS U hU hW⟩ rfl rfl hl'.1 rfl (lv_room (Nat.le_of_ble_eq_true rfl)) dL_row_4 ⟨by show cells + 1 ≤ 1; omega, by show slots + 6 ≤ 6; omega⟩)) ?_
    · have hz0 : (0 : Nat) < h'.1.length := (List.getElem?_eq_some_iff.mp (shx hG (a := 0) (r := 0) (s := (110, 17)) (by decide +kernel) (by decide +kernel))).1
      have hz1 : (201 : Nat) < h'.1.length := (List.getElem?_eq_some_iff.mp h201).1
      simp [okv, hz0, hz1]
    · obtain ⟨rfl, v, hv, rfl⟩ := hq9
      exact kk v hv
    · rintro E ce q9 st₀ t H1 locs1 e0 e1 ⟨rfl, hT, ⟨ad2, hd2, hP2, hD2⟩, hF2⟩ hS1 hce hcv hcl
      refine vx_catch (own := RL) (name := NSE9) hown [] _ [] htab (fun z hz => nomatch hz) (by decide) (by decide) (hts _ j9cl_L) (cast9 (hts _ j9inst_NSE)) hce hcv hcl ?_
      refine lv_astore_n (i := 3) B.exec B.bytes dL_row_11 rfl hl' (Nat.le_of_ble_eq_true rfl) rfl (fun arr2 hl2 => ?_)
      refine lv_iconst (v := 1) B.exec B.bytes dL_row_12 (by decide) ?_
      refine W.widen (show cells + 1 ≤ 1 by omega) (show slots + 6 ≤ 6 by omega) (vx_ret ?_)
      refine W.iret (v := 1) B.exec B.bytes B.returns (fun t2 ht2 hW2 => ⟨⟨some (.int 1), h', ad2, rfl, Or.inl ⟨hT, rfl, rfl⟩, fun j hj => (hd2 j hj).trans (had.1 j hj), fun hz => absurd hz (by decide), Nat.le_refl _, hsm, hRV, by rw [ht2, ← e1]; exact hP2, hD2.weaken (fun _ q _ h9 => hfree q.1 h9)⟩, hS1.F ht2⟩) hS1.2.2 dL_row_13
  · intro v ty h' ad' H locs cells slots pc arr' hd hr hn hqq had hle hsm' hS hl' hs
    refine W.widen hl' hs (vx_ret ?_)
    exact W.zret B.exec B.bytes (B.returns.trans hr) hn (hq _ h' ad' H locs hqq had hle hsm' hS _ rfl) hS.2.2.1.2.2 hd
  · intro v h' ad' H locs cells slots pc arr' hd hr hqq had hle hsm' hS hc hs
    exact nomatch hr
  · intro h' ad' H locs cells slots pc arr' hd hr hqq had hle hsm' hS hc hs
    exact nomatch hr
end
section
/-! THE CLAIM OUT OF ONE WALK OF THE LAW'S BODY. Your part is whole_start (and what it stands on); all else here is the same for every law, but numbers. -/
noncomputable def R_law : String := "NobodyBeenAftLaw"
noncomputable def lw_P (b : Addr) (xs : List Int32) (args : Array Value) (s : State) : Prop := args = #[.ref b] ∧ s.IntsAt b xs ∧ xs.length ≤ 2560 ∧ (Jvm.Cond.and given_1 narrow_1).before args s = true
noncomputable def lw_Q (_ : Array Value) (s : State) (o : Outcome) (t : State) : Prop := o = .returned (some (.int 1)) ∧ Framed s o t [] 601024 7293034
noncomputable def lw_Z (below : List Frame) (a : Array Value) (s : State) : State → Prop := fun t => ∃ o, t.status = .running ∧ Ended t below o ∧ lw_Q a s o t
/-- the law's own end, with 1 on the stack, nothing written that was there before, its room as the claim has it -/
theorem lw_ret {p : Program} {l : Launch} {e : Env} {s : State} {m : MethodId} {below : List Frame} {meth : Method} {c : Code} {b : Nat} (hx : p.tables.exec = Jvm.exec) (hb : c.code = code) (hr : meth.sig.returnType = ret) (hlocks : meth.locks = false) {pc : Nat} {H : Heap} {ls : Array Slot} (hdg : decode code pc = .ok (.ireturn, 1)) : W p l e room_1 s m #[Value.ref b] below meth c H [] 601024 7293034 (lw_Z below #[Value.ref b] s) (F0 m pc ls [.int 1]) := by
  intro T hT X
  obtain ⟨fs, hret, hrun, hended, hW, hframe⟩ := X.leave (v := some (.int 1)) (hlocks := hlocks) (fun h => by rw [hr] at h; cases h)
  have hmeth' : T.vm.method? m = some meth := X.method'
  refine ⟨T.setFrames fs, ?_, .returned (some (.int 1)), hrun, hended, rfl, ⟨_, rfl⟩, hW, hframe⟩
  jvm_step X.here [X.here.top, hx, hb, hdg, hmeth', hr, ret, narrow_b1]
  (try refine ⟨rfl, ?_⟩); (try refine ⟨rfl, ?_⟩)
  first | (intro acts; rw [hret _ acts rfl rfl rfl]) | rw [hret _ _ rfl rfl rfl]
  exact Steps.refl _
/-- what holds at the law's entry: the machine, the code, the tables' words (any of lw_tbl by 'hts w (by decide +kernel)'), the script of L ints xs at the cell b, what the Statement gives of the start (any of its parts by flat_of_before) -/
noncomputable def lw_At (p : Program) (s : State) (m : MethodId) (meth : Method) (c : Code) (b L : Nat) (xs : Nat → Int32) : Prop :=
  p.tables.exec = Jvm.exec ∧ c.code = code ∧ meth.sig.returnType = ret ∧ c.maxLocals = 8 ∧ s.vm.findClass R_law = some m.cls ∧ (∀ w ∈ lw_tbl, w.before #[Value.ref b] s = true) ∧ va_X b L xs s s.heap ∧ b < s.heap.size ∧ meth.locks = false ∧ (Jvm.Cond.and given_1 narrow_1).before #[Value.ref b] s = true
/-! WHAT HOLDS AT THE LAW'S ENTRY -/
theorem j9in0 : Jvm.Cond.instantiable RX0 6 ∈ GW := atT_gw (i := 336) (by decide +kernel)
theorem j9in1 : Jvm.Cond.instantiable RX1 5 ∈ GW := atT_gw (i := 307) (by decide +kernel)
theorem j9in2 : Jvm.Cond.instantiable RX2 3 ∈ GW := atT_gw (i := 241) (by decide +kernel)
theorem j9in3 : Jvm.Cond.instantiable RX3 2 ∈ GW := atT_gw (i := 151) (by decide +kernel)
theorem j9in4 : Jvm.Cond.instantiable RX4 4 ∈ GW := atT_gw (i := 198) (by decide +kernel)
theorem j9in5 : Jvm.Cond.instantiable RX5 5 ∈ GW := atT_gw (i := 219) (by decide +kernel)
theorem j9in6 : Jvm.Cond.instantiable RX6 5 ∈ GW := atT_gw (i := 167) (by decide +kernel)
theorem j9in7 : Jvm.Cond.instantiable RX7 3 ∈ GW := atT_gw (i := 366) (by decide +kernel)
theorem j9in8 : Jvm.Cond.instantiable RX8 9 ∈ GW := atT_gw (i := 260) (by decide +kernel)
theorem j9in9 : Jvm.Cond.instantiable RX9 6 ∈ GW := atT_gw (i := 119) (by decide +kernel)
theorem j9in10 : Jvm.Cond.instantiable RX10 17 ∈ GW := atT_gw (i := 111) (by decide +kernel)
theorem j9in11 : Jvm.Cond.instantiable RX11 53 ∈ GW := atT_gw (i := 1077) (by decide +kernel)
theorem inst_gw {ci : Nat} {C : String} {T : u_T} {N : Nat} (h : vwCl[ci]? = some (C, T, N)) : Jvm.Cond.instantiable C N ∈ GW := by
  have hl : ci < 12 := (List.getElem?_eq_some_iff.mp h).1
  rcases (show ci = 0 ∨ ci = 1 ∨ ci = 2 ∨ ci = 3 ∨ ci = 4 ∨ ci = 5 ∨ ci = 6 ∨ ci = 7 ∨ ci = 8 ∨ ci = 9 ∨ ci = 10 ∨ ci = 11 by omega) with rfl | rfl | rfl | rfl | rfl | rfl | rfl | rfl | rfl | rfl | rfl | rfl <;> cases h
  · exact j9in0
  · exact j9in1
  · exact j9in2
  · exact j9in3
  · exact j9in4
  · exact j9in5
  · exact j9in6
  · exact j9in7
  · exact j9in8
  · exact j9in9
  · exact j9in10
  · exact j9in11
theorem j9ar_int : Jvm.Cond.arrayClass .int ∈ GW := atT_gw (i := 196) (by decide +kernel)
theorem j9ar_long : Jvm.Cond.arrayClass .long ∈ GW := atT_gw (i := 165) (by decide +kernel)
theorem j9ar_char : Jvm.Cond.arrayClass .char ∈ GW := atT_gw (i := 149) (by decide +kernel)
theorem j9ar_boolean : Jvm.Cond.arrayClass .boolean ∈ GW := atT_gw (i := 334) (by decide +kernel)
theorem j9ao_S : Jvm.Cond.arrayOver (.object RX8) ∈ lw_tbl := List.mem_of_getElem? (i := 313) (by decide +kernel)
theorem j9ao_I : Jvm.Cond.arrayOver (.array .int) ∈ lw_tbl := List.mem_of_getElem? (i := 390) (by decide +kernel)
theorem j9ao_J : Jvm.Cond.arrayOver (.array .long) ∈ lw_tbl := List.mem_of_getElem? (i := 372) (by decide +kernel)
theorem nest_tbl : ∀ w ∈ nestW, w ∈ lw_tbl := by
  intro w hw
  simp only [nestW, List.mem_cons, List.not_mem_nil, or_false] at hw
  rcases hw with rfl | rfl | rfl | rfl | rfl | rfl | rfl | rfl | rfl | rfl | rfl | rfl | rfl | rfl
  · exact List.mem_of_getElem? (i := 120) (by decide +kernel)
  · exact List.mem_of_getElem? (i := 152) (by decide +kernel)
  · exact List.mem_of_getElem? (i := 168) (by decide +kernel)
  · exact List.mem_of_getElem? (i := 199) (by decide +kernel)
  · exact List.mem_of_getElem? (i := 220) (by decide +kernel)
  · exact List.mem_of_getElem? (i := 242) (by decide +kernel)
  · exact List.mem_of_getElem? (i := 261) (by decide +kernel)
  · exact List.mem_of_getElem? (i := 314) (by decide +kernel)
  · exact List.mem_of_getElem? (i := 337) (by decide +kernel)
  · exact List.mem_of_getElem? (i := 478) (by decide +kernel)
  · exact List.mem_of_getElem? (i := 541) (by decide +kernel)
  · exact List.mem_of_getElem? (i := 663) (by decide +kernel)
  · exact List.mem_of_getElem? (i := 742) (by decide +kernel)
  · exact List.mem_of_getElem? (i := 911) (by decide +kernel)
theorem j9sr0 : Jvm.Cond.stringRef RX11 (sidx.getD 0 0) (stxt.getD 0 "") ∈ lw_tbl := List.mem_of_getElem? (i := 1299) (by decide +kernel)
theorem j9sr1 : Jvm.Cond.stringRef RX11 (sidx.getD 1 0) (stxt.getD 1 "") ∈ lw_tbl := List.mem_of_getElem? (i := 1381) (by decide +kernel)
theorem j9sr2 : Jvm.Cond.stringRef RX11 (sidx.getD 2 0) (stxt.getD 2 "") ∈ lw_tbl := List.mem_of_getElem? (i := 1382) (by decide +kernel)
theorem j9sr3 : Jvm.Cond.stringRef RX11 (sidx.getD 3 0) (stxt.getD 3 "") ∈ lw_tbl := List.mem_of_getElem? (i := 1383) (by decide +kernel)
theorem j9sr4 : Jvm.Cond.stringRef RX11 (sidx.getD 4 0) (stxt.getD 4 "") ∈ lw_tbl := List.mem_of_getElem? (i := 1384) (by decide +kernel)
theorem j9sr5 : Jvm.Cond.stringRef RX11 (sidx.getD 5 0) (stxt.getD 5 "") ∈ lw_tbl := List.mem_of_getElem? (i := 1516) (by decide +kernel)
theorem j9ls_CS : Jvm.Cond.laysStatic "java/lang/String" "COMPACT_STRINGS" "Z" ∈ lw_tbl := List.mem_of_getElem? (i := 1317) (by decide +kernel)
theorem j9li_CS : Jvm.Cond.initialized "java/lang/String" ∈ lw_tbl := List.mem_of_getElem? (i := 100) (by decide +kernel)
theorem j9ls_SF : Jvm.Cond.laysStatic "jdk/internal/util/Preconditions" "SIOOBE_FORMATTER" "Ljava/util/function/BiFunction;" ∈ lw_tbl := List.mem_of_getElem? (i := 1333) (by decide +kernel)
theorem j9li_SF : Jvm.Cond.initialized "jdk/internal/util/Preconditions" ∈ lw_tbl := List.mem_of_getElem? (i := 102) (by decide +kernel)
theorem j9ls_US : Jvm.Cond.laysStatic "java/lang/Throwable" "UNASSIGNED_STACK" "[Ljava/lang/StackTraceElement;" ∈ lw_tbl := List.mem_of_getElem? (i := 1014) (by decide +kernel)
theorem j9li_US : Jvm.Cond.initialized "java/lang/Throwable" ∈ lw_tbl := List.mem_of_getElem? (i := 104) (by decide +kernel)
theorem j9ls_SS : Jvm.Cond.laysStatic "java/lang/Throwable" "SUPPRESSED_SENTINEL" "Ljava/util/List;" ∈ lw_tbl := List.mem_of_getElem? (i := 1016) (by decide +kernel)
theorem j9li_SS : Jvm.Cond.initialized "java/lang/Throwable" ∈ lw_tbl := List.mem_of_getElem? (i := 104) (by decide +kernel)
noncomputable def tm9 (i : Nat) : Jvm.Term := Jvm.Term.string RX11 (sidx.getD i 0)
noncomputable abbrev fl9 : List Jvm.Cond := flatC (Jvm.Cond.and given_1 narrow_1)
set_option maxRecDepth 100000 in
theorem s9ex : ∀ i, i < 6 → Jvm.Cond.exactly (tm9 i) "java/lang/String" ∈ fl9 := by decide +kernel
set_option maxRecDepth 100000 in
theorem s9co : ∀ i, i < 6 → Jvm.Cond.eq (.field (tm9 i) "java/lang/String" "coder" "B") (.int 0) ∈ fl9 := by decide +kernel
set_option maxRecDepth 100000 in
theorem s9ar : ∀ i, i < 6 → Jvm.Cond.arrayOf (.field (tm9 i) "java/lang/String" "value" "[B") .byte ∈ fl9 := by decide +kernel
set_option maxRecDepth 100000 in
theorem s9le : ∀ i, i < 6 → Jvm.Cond.eq (.length (.field (tm9 i) "java/lang/String" "value" "[B")) (.int (Int32.ofNat (leJ.getD i 0))) ∈ fl9 := by decide +kernel
set_option maxRecDepth 100000 in
theorem s9el : ∀ i, i < 6 → ∀ j, j < leJ.getD i 0 → Jvm.Cond.eq (.elem (.field (tm9 i) "java/lang/String" "value" "[B") (.int (Int32.ofNat j))) (.int ((byJ.getD i []).getD j 0)) ∈ fl9 := by decide +kernel
set_option maxRecDepth 100000 in
theorem s9ne : ∀ i, i < 6 → ∀ j, j < 6 → i ≠ j → Jvm.Cond.not (Jvm.Cond.eq (tm9 i) (tm9 j)) ∈ fl9 ∨ Jvm.Cond.not (Jvm.Cond.eq (tm9 j) (tm9 i)) ∈ fl9 := by decide +kernel
set_option maxHeartbeats 4000000 in
theorem start_U {p : Program} {s : State} {m : MethodId} {meth : Method} {c : Code} {b L : Nat} {xs : Nat → Int32} (C0 : lw_At p s m meth c b L xs) : ∃ (cy : Nat → ClassId) (dC : Nat → ClassId) (dI : Nat → Nat → Nat) (adK adV : Nat → Nat), U1 cy dC dI adK s ∧ U2 adK adV (fun q => s.heap.size ≤ q) s s.heap := by
  obtain ⟨hx, hb, hr, hml, hown, hts, hX, hbl, hlocks, hgv⟩ := id C0
  have hg : ∀ w ∈ GW, w.before #[Value.ref b] s = true := fun w hw => hts w (List.mem_filter.mp hw).1
  have hfl := flat_of_before _ hgv
  have hk : ∀ ci : Nat, ∃ q : ClassId × (Nat → Nat), ∀ z, vwCl[ci]? = some z → u_Kn s z.1 z.2.1 z.2.2 q.1 q.2 := by
    intro ci
    by_cases h : ci < 12
    · obtain ⟨C, T, N, ty, c1, lay, -⟩ := cls_ok h
      obtain ⟨a, f, hk⟩ := u_known (C := C) (T := T) (N := N) (n := N) hg lay (hg _ (inst_gw c1))
      exact ⟨(a, f), fun z hz => by rw [c1] at hz; cases hz; exact hk⟩
    · exact ⟨(0, fun _ => 0), fun z hz => absurd (List.getElem?_eq_some_iff.mp hz).1 (fun h9 => h h9)⟩
  obtain ⟨a0, k0, p0, f0, g0, e0⟩ := Cond.arrayClass_spec (hg _ j9ar_int)
  obtain ⟨a1, k1, p1, f1, g1, e1⟩ := Cond.arrayClass_spec (hg _ j9ar_long)
  obtain ⟨a2, k2, p2, f2, g2, e2⟩ := Cond.arrayClass_spec (hg _ j9ar_char)
  obtain ⟨a3, k3, p3, f3, g3, e3⟩ := Cond.arrayClass_spec (hg _ j9ar_boolean)
  obtain ⟨p4, a4, k4, n4, -, g4, e4, f4⟩ := Cond.arrayOver_spec (hts _ j9ao_S)
  obtain ⟨p5, a5, k5, n5, -, g5, e5, f5⟩ := Stand.arrayOver_specB (hts _ j9ao_I)
  obtain ⟨p6, a6, k6, n6, -, g6, e6, f6⟩ := Stand.arrayOver_specB (hts _ j9ao_J)
  have hA : ∀ a : Nat, a < s.heap.size → ¬ s.heap.size ≤ a := fun a h => Nat.not_le.mpr h
  obtain ⟨adK, adV, hS, hE⟩ := vk_Sof (A := fun q => s.heap.size ≤ q) (N := 6) (tm := tm9) (len := leJ) (byt := byJ) (by decide) (fun i hi => hfl _ (s9ex i hi)) (fun i hi => hfl _ (s9co i hi)) (fun i hi => hfl _ (s9ar i hi)) (fun i hi => hfl _ (s9le i hi)) (fun i hi j hj => hfl _ (s9el i hi j hj)) (fun i j hi hj hn => (s9ne i hi j hj hn).imp (hfl _) (hfl _)) hA
  refine ⟨fun k => if k = 0 then a0 else if k = 1 then a1 else if k = 2 then a2 else if k = 3 then a3 else if k = 4 then a4 else if k = 5 then a5 else a6, fun k => (Classical.choose (hk k)).1, fun k => (Classical.choose (hk k)).2, adK, adV, ⟨⟨fun k q hq => Classical.choose_spec (hk k) q hq, fun k q hq => ?_⟩, va_AO.of (hts _ j9ao_S), va_AOA.of (hts _ j9ao_I), va_AOA.of (hts _ j9ao_J), fun w hw => ?_, fun i hi => ?_⟩, hS, ?_, ?_, ?_, ?_⟩
  · have hl : k < 7 := (List.getElem?_eq_some_iff.mp hq).1
    rcases (show k = 0 ∨ k = 1 ∨ k = 2 ∨ k = 3 ∨ k = 4 ∨ k = 5 ∨ k = 6 by omega) with rfl | rfl | rfl | rfl | rfl | rfl | rfl <;> cases hq
    · exact ⟨fun N z => ⟨fun k h => (by cases h), k0, g0, p0, e0⟩, f0⟩
    · exact ⟨fun N z => ⟨fun k h => (by cases h), k1, g1, p1, e1⟩, f1⟩
    · exact ⟨fun N z => ⟨fun k h => (by cases h), k2, g2, p2, e2⟩, f2⟩
    · exact ⟨fun N z => ⟨fun k h => (by cases h), k3, g3, p3, e3⟩, f3⟩
    · exact ⟨fun N z => ⟨fun k h => (by cases h), k4, g4, p4, e4⟩, k4, p4, g4, e4, n4, f4⟩
    · exact ⟨fun N z => ⟨fun k h => (by cases h), k5, g5, p5, e5⟩, f5⟩
    · exact ⟨fun N z => ⟨fun k h => (by cases h), k6, g6, p6, e6⟩, f6⟩
  · obtain ⟨a, i, x, q, rfl⟩ := nestW_link w hw
    exact va_tabs rfl rfl (hts _ (nest_tbl _ hw))
  · refine vk_R.of (A := #[Value.ref b]) ?_ (hE i hi)
    rcases (show i = 0 ∨ i = 1 ∨ i = 2 ∨ i = 3 ∨ i = 4 ∨ i = 5 by omega) with rfl | rfl | rfl | rfl | rfl | rfl
    · exact hts _ j9sr0
    · exact hts _ j9sr1
    · exact hts _ j9sr2
    · exact hts _ j9sr3
    · exact hts _ j9sr4
    · exact hts _ j9sr5
  · obtain ⟨y, h1, h2⟩ := Cond.eq_one (hfl (Jvm.Cond.eq (.static "java/lang/String" "COMPACT_STRINGS" "Z") (.int 1)) (by decide +kernel))
    cases h2
    exact va_Zof (hts _ j9ls_CS) (hts _ j9li_CS) h1 hA
  · exact va_Zqof (hts _ j9ls_SF) (hts _ j9li_SF) (hfl _ (by decide +kernel)) hA
  · exact vx_Zqof (hts _ j9ls_US) (hts _ j9li_US) (hfl _ (by decide +kernel)) hA
  · exact vx_Zqof (hts _ j9ls_SS) (hts _ j9li_SS) (hfl _ (by decide +kernel)) hA
end
section
/-! WHAT THE CHECKER SAYS OF METHODS, the answers that the law asks of the reference -/
noncomputable def sX11_in_80 : SM := (mX11_in, [(1, 0, (-2147483648), (-1)), (1, 0, 0, 0), (1, 0, (-1), 9)], [], [([(0, 0, 0, 0)], [], [])], [])
theorem kX11_in_80 {SP : CT} (hSP : MONO SP) {sh : List (Nat × Nat)} : SMOK gE gRL sh (CLd SP 1) sX11_in_80 :=
  chkS hSP [] 8 []
  []
  (by decide +kernel) (fun s h => absurd h List.not_mem_nil)
noncomputable def sX11_in_81 : SM := (mX11_in, [(1, 0, 0, 9), (1, 0, 0, 0), (1, 0, (-1), 9)], [], [([(0, 0, 1, 1)], [], []), ([(0, 0, 0, 0)], [], [])], [])
theorem kX11_in_81 {SP : CT} (hSP : MONO SP) {sh : List (Nat × Nat)} : SMOK gE gRL sh (CLd SP 1) sX11_in_81 :=
  chkS hSP [] 15 []
  []
  (by decide +kernel) (fun s h => absurd h List.not_mem_nil)
noncomputable def sX11_in_82 : SM := (mX11_in, [(1, 0, 10, 2147483647), (1, 0, 0, 0), (1, 0, (-1), 9)], [], [([(0, 0, 0, 0)], [], [])], [])
theorem kX11_in_82 {SP : CT} (hSP : MONO SP) {sh : List (Nat × Nat)} : SMOK gE gRL sh (CLd SP 1) sX11_in_82 :=
  chkS hSP [] 12 []
  []
  (by decide +kernel) (fun s h => absurd h List.not_mem_nil)
noncomputable def sX11_in_83 : SM := (jn 1 0 (-2147483648) (-1) 2147483647 [(1, 0, (-2147483648), 2147483647), (1, 0, 0, 0), (1, 0, (-1), 9)] sX11_in_80 (jn 1 0 0 9 2147483647 [(1, 0, 0, 2147483647), (1, 0, 0, 0), (1, 0, (-1), 9)] sX11_in_81 sX11_in_82))
theorem kX11_in_83 {SP : CT} (hSP : MONO SP) {sh : List (Nat × Nat)} : SMOK gE gRL sh (CLd SP 1) sX11_in_83 :=
  SMOK_jn (MONO_CLd hSP 1) 1 (by decide) 0 (-2147483648) (-1) 2147483647 (as := [(1, 0, (-2147483648), 2147483647), (1, 0, 0, 0), (1, 0, (-1), 9)]) rfl rfl rfl rfl rfl rfl rfl (SMOK_le (Nat.le_of_ble_eq_true rfl : 1 ≤ 1) (kX11_in_80 hSP)) (SMOK_jn (MONO_CLd hSP 1) 1 (by decide) 0 0 9 2147483647 (as := [(1, 0, 0, 2147483647), (1, 0, 0, 0), (1, 0, (-1), 9)]) rfl rfl rfl rfl rfl rfl rfl (SMOK_le (Nat.le_of_ble_eq_true rfl : 1 ≤ 1) (kX11_in_81 hSP)) (SMOK_le (Nat.le_of_ble_eq_true rfl : 1 ≤ 1) (kX11_in_82 hSP)))
noncomputable def sX11_refuse_0 : SM := (mX11_refuse, [(2, 54, 0, 0)], [], [([(0, 0, 0, 0)], [(54, 0, 1, 1)], [])], [(0, 54, 0, 0)])
theorem kX11_refuse_0 {SP : CT} (hSP : MONO SP) {sh : List (Nat × Nat)} : SMOK gE gRL sh (CLd SP 1) sX11_refuse_0 :=
  chkS hSP [] 7 []
  []
  (by decide +kernel) (fun s h => absurd h List.not_mem_nil)
noncomputable def sX11_post_0 : SM := (mX11_post, [(2, 54, 0, 0), (0, 0, (-2147483648), 2147483647), (0, 0, (-2147483648), 2147483647)], [], [([(0, 0, 0, 0)], [(54, 0, 1, 1)], []), ([(0, 0, (-2147483648), 2147483647)], [(54, 0, 0, 0)], []), ([(0, 0, 0, 0)], [(54, 0, 0, 0)], []), ([(0, 0, 1, 1)], [(54, 0, 0, 0)], [])], [(0, 54, 0, 0)])
theorem kX11_post_0 {SP : CT} (hSP : MONO SP) {sh : List (Nat × Nat)} : SMOK gE gRL sh (CLd SP 2) sX11_post_0 :=
  chkS hSP [sX11_flag_2, sX11_in_19, sX11_in_83, sX11_refuse_0] 56 []
  []
  (by decide +kernel) (List.forall_mem_cons.mpr ⟨SMOK_le (Nat.le_of_ble_eq_true rfl : 1 ≤ 1) (kX11_flag_2 hSP), List.forall_mem_cons.mpr ⟨SMOK_le (Nat.le_of_ble_eq_true rfl : 1 ≤ 1) (kX11_in_19 hSP), List.forall_mem_cons.mpr ⟨SMOK_le (Nat.le_of_ble_eq_true rfl : 1 ≤ 1) (kX11_in_83 hSP), List.forall_mem_cons.mpr ⟨SMOK_le (Nat.le_of_ble_eq_true rfl : 1 ≤ 1) (kX11_refuse_0 hSP), fun s h => absurd h List.not_mem_nil⟩⟩⟩⟩)
noncomputable def sX11_in_84 : SM := (mX11_in, [(1, 0, (-2147483648), (-1)), (1, 0, 0, 0), (1, 0, (-1), 15)], [], [([(0, 0, 0, 0)], [], [])], [])
theorem kX11_in_84 {SP : CT} (hSP : MONO SP) {sh : List (Nat × Nat)} : SMOK gE gRL sh (CLd SP 1) sX11_in_84 :=
  chkS hSP [] 8 []
  []
  (by decide +kernel) (fun s h => absurd h List.not_mem_nil)
noncomputable def sX11_in_85 : SM := (mX11_in, [(1, 0, 0, 15), (1, 0, 0, 0), (1, 0, (-1), 15)], [], [([(0, 0, 1, 1)], [], []), ([(0, 0, 0, 0)], [], [])], [])
theorem kX11_in_85 {SP : CT} (hSP : MONO SP) {sh : List (Nat × Nat)} : SMOK gE gRL sh (CLd SP 1) sX11_in_85 :=
  chkS hSP [] 15 []
  []
  (by decide +kernel) (fun s h => absurd h List.not_mem_nil)
noncomputable def sX11_in_86 : SM := (mX11_in, [(1, 0, 16, 2147483647), (1, 0, 0, 0), (1, 0, (-1), 15)], [], [([(0, 0, 0, 0)], [], [])], [])
theorem kX11_in_86 {SP : CT} (hSP : MONO SP) {sh : List (Nat × Nat)} : SMOK gE gRL sh (CLd SP 1) sX11_in_86 :=
  chkS hSP [] 12 []
  []
  (by decide +kernel) (fun s h => absurd h List.not_mem_nil)
noncomputable def sX11_in_87 : SM := (jn 1 0 (-2147483648) (-1) 2147483647 [(1, 0, (-2147483648), 2147483647), (1, 0, 0, 0), (1, 0, (-1), 15)] sX11_in_84 (jn 1 0 0 15 2147483647 [(1, 0, 0, 2147483647), (1, 0, 0, 0), (1, 0, (-1), 15)] sX11_in_85 sX11_in_86))
theorem kX11_in_87 {SP : CT} (hSP : MONO SP) {sh : List (Nat × Nat)} : SMOK gE gRL sh (CLd SP 1) sX11_in_87 :=
  SMOK_jn (MONO_CLd hSP 1) 1 (by decide) 0 (-2147483648) (-1) 2147483647 (as := [(1, 0, (-2147483648), 2147483647), (1, 0, 0, 0), (1, 0, (-1), 15)]) rfl rfl rfl rfl rfl rfl rfl (SMOK_le (Nat.le_of_ble_eq_true rfl : 1 ≤ 1) (kX11_in_84 hSP)) (SMOK_jn (MONO_CLd hSP 1) 1 (by decide) 0 0 15 2147483647 (as := [(1, 0, 0, 2147483647), (1, 0, 0, 0), (1, 0, (-1), 15)]) rfl rfl rfl rfl rfl rfl rfl (SMOK_le (Nat.le_of_ble_eq_true rfl : 1 ≤ 1) (kX11_in_85 hSP)) (SMOK_le (Nat.le_of_ble_eq_true rfl : 1 ≤ 1) (kX11_in_86 hSP)))
noncomputable def sX11_rock_0 : SM := (mX11_rock, [(2, 54, 0, 0), (0, 0, (-2147483648), 2147483647), (0, 0, (-2147483648), 2147483647)], [], [([(0, 0, 0, 0)], [(54, 0, 1, 1)], []), ([(0, 0, 0, 999)], [(54, 0, 0, 0)], []), ([(0, 0, (-2147483648), 2147483647)], [(54, 0, 0, 0)], [])], [(0, 54, 0, 0)])
theorem kX11_rock_0 {SP : CT} (hSP : MONO SP) {sh : List (Nat × Nat)} : SMOK gE gRL sh (CLd SP 2) sX11_rock_0 :=
  chkS hSP [sX11_in_19, sX11_in_87, sX11_refuse_0] 54 []
  []
  (by decide +kernel) (List.forall_mem_cons.mpr ⟨SMOK_le (Nat.le_of_ble_eq_true rfl : 1 ≤ 1) (kX11_in_19 hSP), List.forall_mem_cons.mpr ⟨SMOK_le (Nat.le_of_ble_eq_true rfl : 1 ≤ 1) (kX11_in_87 hSP), List.forall_mem_cons.mpr ⟨SMOK_le (Nat.le_of_ble_eq_true rfl : 1 ≤ 1) (kX11_refuse_0 hSP), fun s h => absurd h List.not_mem_nil⟩⟩⟩)
noncomputable def sX11_in_88 : SM := (mX11_in, [(1, 0, (-2147483648), (-1)), (1, 0, 0, 0), (1, 0, 2, 2)], [], [([(0, 0, 0, 0)], [], [])], [])
theorem kX11_in_88 {SP : CT} (hSP : MONO SP) {sh : List (Nat × Nat)} : SMOK gE gRL sh (CLd SP 1) sX11_in_88 :=
  chkS hSP [] 8 []
  []
  (by decide +kernel) (fun s h => absurd h List.not_mem_nil)
noncomputable def sX11_in_89 : SM := (mX11_in, [(1, 0, 0, 2), (1, 0, 0, 0), (1, 0, 2, 2)], [], [([(0, 0, 1, 1)], [], [])], [])
theorem kX11_in_89 {SP : CT} (hSP : MONO SP) {sh : List (Nat × Nat)} : SMOK gE gRL sh (CLd SP 1) sX11_in_89 :=
  chkS hSP [] 13 []
  []
  (by decide +kernel) (fun s h => absurd h List.not_mem_nil)
noncomputable def sX11_in_90 : SM := (mX11_in, [(1, 0, 3, 2147483647), (1, 0, 0, 0), (1, 0, 2, 2)], [], [([(0, 0, 0, 0)], [], [])], [])
theorem kX11_in_90 {SP : CT} (hSP : MONO SP) {sh : List (Nat × Nat)} : SMOK gE gRL sh (CLd SP 1) sX11_in_90 :=
  chkS hSP [] 12 []
  []
  (by decide +kernel) (fun s h => absurd h List.not_mem_nil)
noncomputable def sX11_in_91 : SM := (jn 1 0 (-2147483648) (-1) 2147483647 [(1, 0, (-2147483648), 2147483647), (1, 0, 0, 0), (1, 0, 2, 2)] sX11_in_88 (jn 1 0 0 2 2147483647 [(1, 0, 0, 2147483647), (1, 0, 0, 0), (1, 0, 2, 2)] sX11_in_89 sX11_in_90))
theorem kX11_in_91 {SP : CT} (hSP : MONO SP) {sh : List (Nat × Nat)} : SMOK gE gRL sh (CLd SP 1) sX11_in_91 :=
  SMOK_jn (MONO_CLd hSP 1) 1 (by decide) 0 (-2147483648) (-1) 2147483647 (as := [(1, 0, (-2147483648), 2147483647), (1, 0, 0, 0), (1, 0, 2, 2)]) rfl rfl rfl rfl rfl rfl rfl (SMOK_le (Nat.le_of_ble_eq_true rfl : 1 ≤ 1) (kX11_in_88 hSP)) (SMOK_jn (MONO_CLd hSP 1) 1 (by decide) 0 0 2 2147483647 (as := [(1, 0, 0, 2147483647), (1, 0, 0, 0), (1, 0, 2, 2)]) rfl rfl rfl rfl rfl rfl rfl (SMOK_le (Nat.le_of_ble_eq_true rfl : 1 ≤ 1) (kX11_in_89 hSP)) (SMOK_le (Nat.le_of_ble_eq_true rfl : 1 ≤ 1) (kX11_in_90 hSP)))
noncomputable def sX11_mess_0 : SM := (mX11_mess, [(2, 54, 0, 0), (0, 0, (-2147483648), 2147483647), (0, 0, (-2147483648), 2147483647)], [], [([(0, 0, 0, 0)], [(54, 0, 1, 1)], []), ([(0, 0, (-2147483648), 2147483647)], [(54, 0, 0, 0)], []), ([(0, 0, 0, 9)], [(54, 0, 0, 0)], [])], [(0, 54, 0, 0)])
theorem kX11_mess_0 {SP : CT} (hSP : MONO SP) {sh : List (Nat × Nat)} : SMOK gE gRL sh (CLd SP 3) sX11_mess_0 :=
  chkS hSP [sX11_in_91, sX11_isMess_3, sX11_refuse_0] 61 []
  []
  (by decide +kernel) (List.forall_mem_cons.mpr ⟨SMOK_le (Nat.le_of_ble_eq_true rfl : 1 ≤ 2) (kX11_in_91 hSP), List.forall_mem_cons.mpr ⟨SMOK_le (Nat.le_of_ble_eq_true rfl : 2 ≤ 2) (kX11_isMess_3 hSP), List.forall_mem_cons.mpr ⟨SMOK_le (Nat.le_of_ble_eq_true rfl : 1 ≤ 2) (kX11_refuse_0 hSP), fun s h => absurd h List.not_mem_nil⟩⟩⟩)
noncomputable def sX11_in_92 : SM := (mX11_in, [(1, 0, (-2147483648), (-1)), (1, 0, 0, 0), (1, 0, (-1), 11)], [], [([(0, 0, 0, 0)], [], [])], [])
theorem kX11_in_92 {SP : CT} (hSP : MONO SP) {sh : List (Nat × Nat)} : SMOK gE gRL sh (CLd SP 1) sX11_in_92 :=
  chkS hSP [] 8 []
  []
  (by decide +kernel) (fun s h => absurd h List.not_mem_nil)
noncomputable def sX11_in_93 : SM := (mX11_in, [(1, 0, 0, 11), (1, 0, 0, 0), (1, 0, (-1), 11)], [], [([(0, 0, 1, 1)], [], []), ([(0, 0, 0, 0)], [], [])], [])
theorem kX11_in_93 {SP : CT} (hSP : MONO SP) {sh : List (Nat × Nat)} : SMOK gE gRL sh (CLd SP 1) sX11_in_93 :=
  chkS hSP [] 15 []
  []
  (by decide +kernel) (fun s h => absurd h List.not_mem_nil)
noncomputable def sX11_in_94 : SM := (mX11_in, [(1, 0, 12, 2147483647), (1, 0, 0, 0), (1, 0, (-1), 11)], [], [([(0, 0, 0, 0)], [], [])], [])
theorem kX11_in_94 {SP : CT} (hSP : MONO SP) {sh : List (Nat × Nat)} : SMOK gE gRL sh (CLd SP 1) sX11_in_94 :=
  chkS hSP [] 12 []
  []
  (by decide +kernel) (fun s h => absurd h List.not_mem_nil)
noncomputable def sX11_in_95 : SM := (jn 1 0 (-2147483648) (-1) 2147483647 [(1, 0, (-2147483648), 2147483647), (1, 0, 0, 0), (1, 0, (-1), 11)] sX11_in_92 (jn 1 0 0 11 2147483647 [(1, 0, 0, 2147483647), (1, 0, 0, 0), (1, 0, (-1), 11)] sX11_in_93 sX11_in_94))
theorem kX11_in_95 {SP : CT} (hSP : MONO SP) {sh : List (Nat × Nat)} : SMOK gE gRL sh (CLd SP 1) sX11_in_95 :=
  SMOK_jn (MONO_CLd hSP 1) 1 (by decide) 0 (-2147483648) (-1) 2147483647 (as := [(1, 0, (-2147483648), 2147483647), (1, 0, 0, 0), (1, 0, (-1), 11)]) rfl rfl rfl rfl rfl rfl rfl (SMOK_le (Nat.le_of_ble_eq_true rfl : 1 ≤ 1) (kX11_in_92 hSP)) (SMOK_jn (MONO_CLd hSP 1) 1 (by decide) 0 0 11 2147483647 (as := [(1, 0, 0, 2147483647), (1, 0, 0, 0), (1, 0, (-1), 11)]) rfl rfl rfl rfl rfl rfl rfl (SMOK_le (Nat.le_of_ble_eq_true rfl : 1 ≤ 1) (kX11_in_93 hSP)) (SMOK_le (Nat.le_of_ble_eq_true rfl : 1 ≤ 1) (kX11_in_94 hSP)))
noncomputable def sX11_isAhead_0 : SM := (mX11_isAhead, [(2, 54, 0, 0), (0, 0, 0, 0), (0, 0, 0, 0)], [], [([(0, 0, 1, 1)], [], []), ([(0, 0, 0, 0)], [], [])], [])
theorem kX11_isAhead_0 {SP : CT} (hSP : MONO SP) {sh : List (Nat × Nat)} : SMOK gE gRL sh (CLd SP 1) sX11_isAhead_0 :=
  chkS hSP [] 63 []
  []
  (by decide +kernel) (fun s h => absurd h List.not_mem_nil)
noncomputable def sX11_isAhead_1 : SM := (mX11_isAhead, [(2, 54, 0, 0), (0, 0, 0, 1), (0, 0, 0, 0)], [], [([(0, 0, 1, 1)], [], []), ([(0, 0, 0, 0)], [], [])], [])
theorem kX11_isAhead_1 {SP : CT} (hSP : MONO SP) {sh : List (Nat × Nat)} : SMOK gE gRL sh (CLd SP 1) sX11_isAhead_1 :=
  chkS hSP [] 63 []
  []
  (by decide +kernel) (fun s h => absurd h List.not_mem_nil)
noncomputable def sX11_isAhead_2 : SM := (mX11_isAhead, [(2, 54, 0, 0), (0, 0, 0, 2), (0, 0, 0, 0)], [], [([(0, 0, 1, 1)], [], []), ([(0, 0, 0, 0)], [], [])], [])
theorem kX11_isAhead_2 {SP : CT} (hSP : MONO SP) {sh : List (Nat × Nat)} : SMOK gE gRL sh (CLd SP 1) sX11_isAhead_2 :=
  chkS hSP [] 63 []
  []
  (by decide +kernel) (fun s h => absurd h List.not_mem_nil)
noncomputable def sX11_isAhead_3 : SM := (mX11_isAhead, [(2, 54, 0, 0), (0, 0, 0, 3), (0, 0, 0, 0)], [], [([(0, 0, 1, 1)], [], []), ([(0, 0, 0, 0)], [], [])], [])
theorem kX11_isAhead_3 {SP : CT} (hSP : MONO SP) {sh : List (Nat × Nat)} : SMOK gE gRL sh (CLd SP 1) sX11_isAhead_3 :=
  chkS hSP [] 63 []
  []
  (by decide +kernel) (fun s h => absurd h List.not_mem_nil)
noncomputable def sX11_isAhead_4 : SM := (mX11_isAhead, [(2, 54, 0, 0), (0, 0, 0, 4), (0, 0, 0, 0)], [], [([(0, 0, 1, 1)], [], []), ([(0, 0, 0, 0)], [], [])], [])
theorem kX11_isAhead_4 {SP : CT} (hSP : MONO SP) {sh : List (Nat × Nat)} : SMOK gE gRL sh (CLd SP 1) sX11_isAhead_4 :=
  chkS hSP [] 63 []
  []
  (by decide +kernel) (fun s h => absurd h List.not_mem_nil)
noncomputable def sX11_isAhead_5 : SM := (mX11_isAhead, [(2, 54, 0, 0), (0, 0, 0, 5), (0, 0, 0, 0)], [], [([(0, 0, 1, 1)], [], []), ([(0, 0, 0, 0)], [], [])], [])
theorem kX11_isAhead_5 {SP : CT} (hSP : MONO SP) {sh : List (Nat × Nat)} : SMOK gE gRL sh (CLd SP 1) sX11_isAhead_5 :=
  chkS hSP [] 63 []
  []
  (by decide +kernel) (fun s h => absurd h List.not_mem_nil)
noncomputable def sX11_isAhead_6 : SM := (mX11_isAhead, [(2, 54, 0, 0), (0, 0, 0, 6), (0, 0, 0, 0)], [], [([(0, 0, 1, 1)], [], []), ([(0, 0, 0, 0)], [], [])], [])
theorem kX11_isAhead_6 {SP : CT} (hSP : MONO SP) {sh : List (Nat × Nat)} : SMOK gE gRL sh (CLd SP 1) sX11_isAhead_6 :=
  chkS hSP [] 63 []
  []
  (by decide +kernel) (fun s h => absurd h List.not_mem_nil)
noncomputable def sX11_isAhead_7 : SM := (mX11_isAhead, [(2, 54, 0, 0), (0, 0, 0, 7), (0, 0, 0, 0)], [], [([(0, 0, 1, 1)], [], []), ([(0, 0, 0, 0)], [], [])], [])
theorem kX11_isAhead_7 {SP : CT} (hSP : MONO SP) {sh : List (Nat × Nat)} : SMOK gE gRL sh (CLd SP 1) sX11_isAhead_7 :=
  chkS hSP [] 63 []
  []
  (by decide +kernel) (fun s h => absurd h List.not_mem_nil)
noncomputable def sX11_isAhead_8 : SM := (mX11_isAhead, [(2, 54, 0, 0), (0, 0, 0, 8), (0, 0, 0, 0)], [], [([(0, 0, 1, 1)], [], []), ([(0, 0, 0, 0)], [], [])], [])
theorem kX11_isAhead_8 {SP : CT} (hSP : MONO SP) {sh : List (Nat × Nat)} : SMOK gE gRL sh (CLd SP 1) sX11_isAhead_8 :=
  chkS hSP [] 63 []
  []
  (by decide +kernel) (fun s h => absurd h List.not_mem_nil)
noncomputable def sX11_isAhead_9 : SM := (mX11_isAhead, [(2, 54, 0, 0), (0, 0, 0, 9), (0, 0, 0, 0)], [], [([(0, 0, 1, 1)], [], []), ([(0, 0, 0, 0)], [], [])], [])
theorem kX11_isAhead_9 {SP : CT} (hSP : MONO SP) {sh : List (Nat × Nat)} : SMOK gE gRL sh (CLd SP 1) sX11_isAhead_9 :=
  chkS hSP [] 63 []
  []
  (by decide +kernel) (fun s h => absurd h List.not_mem_nil)
noncomputable def sX11_isAhead_10 : SM := (mX11_isAhead, [(2, 54, 0, 0), (0, 0, 0, 10), (0, 0, 0, 0)], [], [([(0, 0, 1, 1)], [], []), ([(0, 0, 0, 0)], [], [])], [])
theorem kX11_isAhead_10 {SP : CT} (hSP : MONO SP) {sh : List (Nat × Nat)} : SMOK gE gRL sh (CLd SP 1) sX11_isAhead_10 :=
  chkS hSP [] 63 []
  []
  (by decide +kernel) (fun s h => absurd h List.not_mem_nil)
noncomputable def sX11_isAhead_11 : SM := (mX11_isAhead, [(2, 54, 0, 0), (0, 0, 0, 11), (0, 0, 0, 0)], [], [([(0, 0, 1, 1)], [], []), ([(0, 0, 0, 0)], [], [])], [])
theorem kX11_isAhead_11 {SP : CT} (hSP : MONO SP) {sh : List (Nat × Nat)} : SMOK gE gRL sh (CLd SP 1) sX11_isAhead_11 :=
  chkS hSP [] 63 []
  []
  (by decide +kernel) (fun s h => absurd h List.not_mem_nil)
noncomputable def sX11_isAhead_12 : SM := (mX11_isAhead, [(2, 54, 0, 0), (0, 0, 0, 11), (0, 0, 0, 1)], [], [([(0, 0, 1, 1)], [], []), ([(0, 0, 0, 0)], [], [])], [])
theorem kX11_isAhead_12 {SP : CT} (hSP : MONO SP) {sh : List (Nat × Nat)} : SMOK gE gRL sh (CLd SP 1) sX11_isAhead_12 :=
  chkS hSP [] 63 []
  []
  (by decide +kernel) (fun s h => absurd h List.not_mem_nil)
noncomputable def sX11_isAhead_13 : SM := (mX11_isAhead, [(2, 54, 0, 0), (0, 0, 0, 11), (0, 0, 0, 2)], [], [([(0, 0, 1, 1)], [], []), ([(0, 0, 0, 0)], [], [])], [])
theorem kX11_isAhead_13 {SP : CT} (hSP : MONO SP) {sh : List (Nat × Nat)} : SMOK gE gRL sh (CLd SP 1) sX11_isAhead_13 :=
  chkS hSP [] 63 []
  []
  (by decide +kernel) (fun s h => absurd h List.not_mem_nil)
noncomputable def sX11_isAhead_14 : SM := (mX11_isAhead, [(2, 54, 0, 0), (0, 0, 0, 11), (0, 0, 0, 3)], [], [([(0, 0, 1, 1)], [], []), ([(0, 0, 0, 0)], [], [])], [])
theorem kX11_isAhead_14 {SP : CT} (hSP : MONO SP) {sh : List (Nat × Nat)} : SMOK gE gRL sh (CLd SP 1) sX11_isAhead_14 :=
  chkS hSP [] 63 []
  []
  (by decide +kernel) (fun s h => absurd h List.not_mem_nil)
noncomputable def sX11_isAhead_15 : SM := (mX11_isAhead, [(2, 54, 0, 0), (0, 0, 0, 11), (0, 0, 0, 4)], [], [([(0, 0, 1, 1)], [], []), ([(0, 0, 0, 0)], [], [])], [])
theorem kX11_isAhead_15 {SP : CT} (hSP : MONO SP) {sh : List (Nat × Nat)} : SMOK gE gRL sh (CLd SP 1) sX11_isAhead_15 :=
  chkS hSP [] 63 []
  []
  (by decide +kernel) (fun s h => absurd h List.not_mem_nil)
noncomputable def sX11_isAhead_16 : SM := (mX11_isAhead, [(2, 54, 0, 0), (0, 0, 0, 11), (0, 0, 0, 5)], [], [([(0, 0, 1, 1)], [], []), ([(0, 0, 0, 0)], [], [])], [])
theorem kX11_isAhead_16 {SP : CT} (hSP : MONO SP) {sh : List (Nat × Nat)} : SMOK gE gRL sh (CLd SP 1) sX11_isAhead_16 :=
  chkS hSP [] 63 []
  []
  (by decide +kernel) (fun s h => absurd h List.not_mem_nil)
noncomputable def sX11_isAhead_17 : SM := (mX11_isAhead, [(2, 54, 0, 0), (0, 0, 0, 11), (0, 0, 0, 6)], [], [([(0, 0, 1, 1)], [], []), ([(0, 0, 0, 0)], [], [])], [])
theorem kX11_isAhead_17 {SP : CT} (hSP : MONO SP) {sh : List (Nat × Nat)} : SMOK gE gRL sh (CLd SP 1) sX11_isAhead_17 :=
  chkS hSP [] 63 []
  []
  (by decide +kernel) (fun s h => absurd h List.not_mem_nil)
noncomputable def sX11_isAhead_18 : SM := (mX11_isAhead, [(2, 54, 0, 0), (0, 0, 0, 11), (0, 0, 0, 7)], [], [([(0, 0, 1, 1)], [], []), ([(0, 0, 0, 0)], [], [])], [])
theorem kX11_isAhead_18 {SP : CT} (hSP : MONO SP) {sh : List (Nat × Nat)} : SMOK gE gRL sh (CLd SP 1) sX11_isAhead_18 :=
  chkS hSP [] 63 []
  []
  (by decide +kernel) (fun s h => absurd h List.not_mem_nil)
noncomputable def sX11_isAhead_19 : SM := (mX11_isAhead, [(2, 54, 0, 0), (0, 0, 0, 11), (0, 0, 0, 8)], [], [([(0, 0, 1, 1)], [], []), ([(0, 0, 0, 0)], [], [])], [])
theorem kX11_isAhead_19 {SP : CT} (hSP : MONO SP) {sh : List (Nat × Nat)} : SMOK gE gRL sh (CLd SP 1) sX11_isAhead_19 :=
  chkS hSP [] 63 []
  []
  (by decide +kernel) (fun s h => absurd h List.not_mem_nil)
noncomputable def sX11_isAhead_20 : SM := (mX11_isAhead, [(2, 54, 0, 0), (0, 0, 0, 11), (0, 0, 0, 9)], [], [([(0, 0, 1, 1)], [], []), ([(0, 0, 0, 0)], [], [])], [])
theorem kX11_isAhead_20 {SP : CT} (hSP : MONO SP) {sh : List (Nat × Nat)} : SMOK gE gRL sh (CLd SP 1) sX11_isAhead_20 :=
  chkS hSP [] 63 []
  []
  (by decide +kernel) (fun s h => absurd h List.not_mem_nil)
noncomputable def sX11_isAhead_21 : SM := (mX11_isAhead, [(2, 54, 0, 0), (0, 0, 0, 11), (0, 0, 0, 10)], [], [([(0, 0, 1, 1)], [], []), ([(0, 0, 0, 0)], [], [])], [])
theorem kX11_isAhead_21 {SP : CT} (hSP : MONO SP) {sh : List (Nat × Nat)} : SMOK gE gRL sh (CLd SP 1) sX11_isAhead_21 :=
  chkS hSP [] 63 []
  []
  (by decide +kernel) (fun s h => absurd h List.not_mem_nil)
noncomputable def sX11_isAhead_22 : SM := (mX11_isAhead, [(2, 54, 0, 0), (0, 0, 0, 11), (0, 0, 0, 11)], [], [([(0, 0, 1, 1)], [], []), ([(0, 0, 0, 0)], [], [])], [])
theorem kX11_isAhead_22 {SP : CT} (hSP : MONO SP) {sh : List (Nat × Nat)} : SMOK gE gRL sh (CLd SP 1) sX11_isAhead_22 :=
  chkS hSP [] 63 []
  []
  (by decide +kernel) (fun s h => absurd h List.not_mem_nil)
noncomputable def sX11_way_0 : SM := (mX11_way, [(2, 54, 0, 0), (0, 0, (-2147483648), 2147483647), (0, 0, (-2147483648), 2147483647)], [], [([(0, 0, (-2147483648), 2147483647)], [(54, 0, 0, 0)], []), ([(0, 0, 0, 0)], [(54, 0, 1, 1)], [])], [(0, 54, 0, 0)])
theorem kX11_way_0 {SP : CT} (hSP : MONO SP) {sh : List (Nat × Nat)} : SMOK gE gRL sh (CLd SP 2) sX11_way_0 :=
  chkS hSP [sX11_flag_1, sX11_flag_0, sX11_in_19, sX11_in_95, sX11_isAhead_0, sX11_isAhead_1, sX11_isAhead_2, sX11_isAhead_3, sX11_isAhead_4, sX11_isAhead_5, sX11_isAhead_6, sX11_isAhead_7, sX11_isAhead_8, sX11_isAhead_9, sX11_isAhead_10, sX11_isAhead_11, sX11_isAhead_12, sX11_isAhead_13, sX11_isAhead_14, sX11_isAhead_15, sX11_isAhead_16, sX11_isAhead_17, sX11_isAhead_18, sX11_isAhead_19, sX11_isAhead_20, sX11_isAhead_21, sX11_isAhead_22, sX11_refuse_0] 47 [(false, 0)]
  [((43, [(0, (2, 54, 0, 0)), (1, (0, 0, 0, 11)), (2, (0, 0, 0, 1)), (3, (0, 0, 0, 11)), (4, (0, 0, 0, 12))], [], [(54, 0, 0, 0), (61, 3, 0, 12)], [(0, 1, 0), (1, 4, 12), (0, 2, 0)]), [(false, 1)]), ((60, [(0, (2, 54, 0, 0)), (1, (0, 0, 0, 11)), (2, (0, 0, 0, 1)), (3, (0, 0, 0, 11)), (4, (0, 0, 0, 11)), (5, (0, 0, (-2147483648), 2147483647)), (6, (0, 0, 0, 12))], [], [(54, 0, 0, 0), (61, 3, 1, 12)], [(0, 1, 0), (1, 4, 12), (0, 1, 0), (1, 6, 12), (0, 1, 0)]), [(true, 0), (false, 0)])]
  (by decide +kernel) (List.forall_mem_cons.mpr ⟨SMOK_le (Nat.le_of_ble_eq_true rfl : 1 ≤ 1) (kX11_flag_1 hSP), List.forall_mem_cons.mpr ⟨SMOK_le (Nat.le_of_ble_eq_true rfl : 1 ≤ 1) (kX11_flag_0 hSP), List.forall_mem_cons.mpr ⟨SMOK_le (Nat.le_of_ble_eq_true rfl : 1 ≤ 1) (kX11_in_19 hSP), List.forall_mem_cons.mpr ⟨SMOK_le (Nat.le_of_ble_eq_true rfl : 1 ≤ 1) (kX11_in_95 hSP), List.forall_mem_cons.mpr ⟨SMOK_le (Nat.le_of_ble_eq_true rfl : 1 ≤ 1) (kX11_isAhead_0 hSP), List.forall_mem_cons.mpr ⟨SMOK_le (Nat.le_of_ble_eq_true rfl : 1 ≤ 1) (kX11_isAhead_1 hSP), List.forall_mem_cons.mpr ⟨SMOK_le (Nat.le_of_ble_eq_true rfl : 1 ≤ 1) (kX11_isAhead_2 hSP), List.forall_mem_cons.mpr ⟨SMOK_le (Nat.le_of_ble_eq_true rfl : 1 ≤ 1) (kX11_isAhead_3 hSP), List.forall_mem_cons.mpr ⟨SMOK_le (Nat.le_of_ble_eq_true rfl : 1 ≤ 1) (kX11_isAhead_4 hSP), List.forall_mem_cons.mpr ⟨SMOK_le (Nat.le_of_ble_eq_true rfl : 1 ≤ 1) (kX11_isAhead_5 hSP), List.forall_mem_cons.mpr ⟨SMOK_le (Nat.le_of_ble_eq_true rfl : 1 ≤ 1) (kX11_isAhead_6 hSP), List.forall_mem_cons.mpr ⟨SMOK_le (Nat.le_of_ble_eq_true rfl : 1 ≤ 1) (kX11_isAhead_7 hSP), List.forall_mem_cons.mpr ⟨SMOK_le (Nat.le_of_ble_eq_true rfl : 1 ≤ 1) (kX11_isAhead_8 hSP), List.forall_mem_cons.mpr ⟨SMOK_le (Nat.le_of_ble_eq_true rfl : 1 ≤ 1) (kX11_isAhead_9 hSP), List.forall_mem_cons.mpr ⟨SMOK_le (Nat.le_of_ble_eq_true rfl : 1 ≤ 1) (kX11_isAhead_10 hSP), List.forall_mem_cons.mpr ⟨SMOK_le (Nat.le_of_ble_eq_true rfl : 1 ≤ 1) (kX11_isAhead_11 hSP), List.forall_mem_cons.mpr ⟨SMOK_le (Nat.le_of_ble_eq_true rfl : 1 ≤ 1) (kX11_isAhead_12 hSP), List.forall_mem_cons.mpr ⟨SMOK_le (Nat.le_of_ble_eq_true rfl : 1 ≤ 1) (kX11_isAhead_13 hSP), List.forall_mem_cons.mpr ⟨SMOK_le (Nat.le_of_ble_eq_true rfl : 1 ≤ 1) (kX11_isAhead_14 hSP), List.forall_mem_cons.mpr ⟨SMOK_le (Nat.le_of_ble_eq_true rfl : 1 ≤ 1) (kX11_isAhead_15 hSP), List.forall_mem_cons.mpr ⟨SMOK_le (Nat.le_of_ble_eq_true rfl : 1 ≤ 1) (kX11_isAhead_16 hSP), List.forall_mem_cons.mpr ⟨SMOK_le (Nat.le_of_ble_eq_true rfl : 1 ≤ 1) (kX11_isAhead_17 hSP), List.forall_mem_cons.mpr ⟨SMOK_le (Nat.le_of_ble_eq_true rfl : 1 ≤ 1) (kX11_isAhead_18 hSP), List.forall_mem_cons.mpr ⟨SMOK_le (Nat.le_of_ble_eq_true rfl : 1 ≤ 1) (kX11_isAhead_19 hSP), List.forall_mem_cons.mpr ⟨SMOK_le (Nat.le_of_ble_eq_true rfl : 1 ≤ 1) (kX11_isAhead_20 hSP), List.forall_mem_cons.mpr ⟨SMOK_le (Nat.le_of_ble_eq_true rfl : 1 ≤ 1) (kX11_isAhead_21 hSP), List.forall_mem_cons.mpr ⟨SMOK_le (Nat.le_of_ble_eq_true rfl : 1 ≤ 1) (kX11_isAhead_22 hSP), List.forall_mem_cons.mpr ⟨SMOK_le (Nat.le_of_ble_eq_true rfl : 1 ≤ 1) (kX11_refuse_0 hSP), fun s h => absurd h List.not_mem_nil⟩⟩⟩⟩⟩⟩⟩⟩⟩⟩⟩⟩⟩⟩⟩⟩⟩⟩⟩⟩⟩⟩⟩⟩⟩⟩⟩⟩)
end
