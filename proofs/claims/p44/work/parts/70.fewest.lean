/-! THE FEWEST ORDERS (the reference): its methods -/
set_option maxRecDepth 4000 in
theorem ctX11_mayGive {SP : CT} (hSP : MONO SP) {sh : List (Nat × Nat)} {h : aH} (hG : GD gE gRL sh h) {k : Int} (rk : r32 k) : CLd SP 1 mX11_mayGive [.ref 171, .int (I k)] h 0 0 (fun rv h' => h' = h ∧ rv = some (.int (I (b2i (decide (0 < k) || decide (gi h 178 4 ≠ gi h 178 0)))))) := by
  refine x_met _ rfl (Nat.le_of_ble_eq_true rfl) (fun K hK => ?_)
  have hmono := MONO_CLd hSP 0
  refine x_iload_n 1 hK rfl rfl rfl ?_
  refine x_if_gt 19 4 hK rfl rfl rfl (by omega) (fun c2 => ?_) (fun c2 => ?_)
  · refine x_iconst 20 hK rfl rfl ?_
    refine x_goto 24 hK rfl rfl ?_
    exact x_zret hK rfl (by omega) ⟨rfl, by rw [show (decide (0 < k) || decide (gi h 178 4 ≠ gi h 178 0)) = true from by rw [Bool.or_eq_true, decide_eq_true_eq, decide_eq_true_eq]; omega]; rfl⟩
  · refine x_aload_n 5 hK rfl rfl rfl ?_
    refine x_getR 8 hK rfl rfl (sp_171 (h := h) hG) (rf_171_14 (h := h) hG) ?_
    refine x_iconst 9 hK rfl rfl ?_
    have g255 := gi_r h 178 4
    refine x_ialoadE 10 hK rfl rfl (sp_178 (h := h) hG) (by omega) (by omega) (by omega) (e' := (gi h 178 4)) (rfl) ?_
    refine x_aload_n 11 hK rfl rfl rfl ?_
    refine x_getR 14 hK rfl rfl (sp_171 (h := h) hG) (rf_171_14 (h := h) hG) ?_
    refine x_iconst 15 hK rfl rfl ?_
    have g256 := gi_r h 178 0
    refine x_ialoadE 16 hK rfl rfl (sp_178 (h := h) hG) (by omega) (by omega) (by omega) (e' := (gi h 178 0)) (rfl) ?_
    refine x_if_icmp_eq 23 19 hK rfl rfl rfl (by omega) (by omega) (fun c14 => ?_) (fun c14 => ?_)
    · refine x_iconst 24 hK rfl rfl ?_
      exact x_zret hK rfl (by omega) ⟨rfl, by rw [show (decide (0 < k) || decide (gi h 178 4 ≠ gi h 178 0)) = false from by rw [decide_eq_false (by omega), decide_eq_false (by omega)]; rfl]; rfl⟩
    · refine x_iconst 20 hK rfl rfl ?_
      refine x_goto 24 hK rfl rfl ?_
      exact x_zret hK rfl (by omega) ⟨rfl, by rw [show (decide (0 < k) || decide (gi h 178 4 ≠ gi h 178 0)) = true from by rw [Bool.or_eq_true, decide_eq_true_eq, decide_eq_true_eq]; omega]; rfl⟩
set_option maxRecDepth 4000 in
theorem ctX11_comesAtF {SP : CT} (hSP : MONO SP) {sh : List (Nat × Nat)} {h : aH} (hG : GD gE gRL sh h) {k t : Int} (hX : XI h) (hk : 0 ≤ k ∧ k ≤ 1000) (rt : r32 t) (h0 : 0 ≤ gi h 178 0 ∧ gi h 178 0 ≤ 1000000) : CLd SP 6 mX11_comesAt [.ref 171, .int (I k), .int (I t)] h 0 0 (fun rv h' => rv = some (.int (I (b2i (cmF (gi h 178 0) (gi h 178 4) (dlA h) k t)))) ∧ GD gE gRL sh h' ∧ FRM gRL [(0, 67, 0, 79), (0, 68, 0, 3)] h h') := by
  refine x_met _ rfl (Nat.le_of_ble_eq_true rfl) (fun K hK => ?_)
  have hmono := MONO_CLd hSP 5
  have db := dlA_b h (gi h 178 0 + k)
  refine x_aload_n 1 hK rfl rfl rfl ?_
  refine x_iload_n 2 hK rfl rfl rfl ?_
  refine x_callV 5 hK hmono rfl rfl [.ref 171, .int (I k)] [] rfl rfl (Nat.le_of_ble_eq_true rfl) (Nat.le_of_ble_eq_true rfl) rfl (sp_171 (h := h) hG) (CLd_le (Nat.le_of_ble_eq_true rfl) (ctX11_mayGive hSP hG (by omega))) ?_
  rintro v9 h9 ⟨e9, rfl⟩
  rw [e9]
  clear e9
  have mb := b2i_r (decide (0 < k) || decide (gi h 178 4 ≠ gi h 178 0))
  refine x_if_eq 30 8 hK rfl rfl rfl (by omega) (fun c4 => ?_) (fun c4 => ?_)
  · refine x_iconst 31 hK rfl rfl ?_
    have er : cmF (gi h 178 0) (gi h 178 4) (dlA h) k t = false := by unfold cmF; rw [b2i_0 (b := decide (0 < k) || decide (gi h 178 4 ≠ gi h 178 0)) (by omega)]; rfl
    exact x_zret hK rfl (by omega) ⟨by rw [er]; rfl, hG, (FRM.rf : FRM gRL [(0, 67, 0, 79), (0, 68, 0, 3)] h h)⟩
  · refine x_iload_n 9 hK rfl rfl rfl ?_
    refine x_aload_n 10 hK rfl rfl rfl ?_
    refine x_aload_n 11 hK rfl rfl rfl ?_
    refine x_getR 14 hK rfl rfl (sp_171 (h := h) hG) (rf_171_14 (h := h) hG) ?_
    refine x_iconst 15 hK rfl rfl ?_
    have g257 := gi_r h 178 0
    refine x_ialoadE 16 hK rfl rfl (sp_178 (h := h) hG) (by omega) (by omega) (by omega) (e' := (gi h 178 0)) (rfl) ?_
    refine x_iload_n 17 hK rfl rfl rfl ?_
    refine x_iadd 18 hK rfl rfl ?_
    refine x_callV 21 hK hmono rfl rfl [.ref 171, .int (I ((gi h 178 0) + k))] [.int (I k)] rfl rfl (Nat.le_of_ble_eq_true rfl) (Nat.le_of_ble_eq_true rfl) rfl (sp_171 (h := h) hG) (CLd_le (Nat.le_of_ble_eq_true rfl) (ctX11_delayAtF hSP hG hX (by omega))) ?_
    rintro v8 h8 ⟨rfl, hG8, hF8⟩
    refine x_iadd 22 hK rfl rfl ?_
    refine x_iload_n 23 hK rfl rfl rfl ?_
    refine x_if_icmp_ne 30 26 hK rfl rfl rfl (by omega) (by omega) (fun c18 => ?_) (fun c18 => ?_)
    · refine x_iconst 31 hK rfl rfl ?_
      have er : cmF (gi h 178 0) (gi h 178 4) (dlA h) k t = false := by unfold cmF; rw [b2i_1 (b := decide (0 < k) || decide (gi h 178 4 ≠ gi h 178 0)) (by omega), decide_eq_false (by omega)]; rfl
      exact x_zret hK rfl (by omega) ⟨by rw [er]; rfl, hG8, hF8⟩
    · refine x_iconst 27 hK rfl rfl ?_
      refine x_goto 31 hK rfl rfl ?_
      have er : cmF (gi h 178 0) (gi h 178 4) (dlA h) k t = true := by unfold cmF; rw [b2i_1 (b := decide (0 < k) || decide (gi h 178 4 ≠ gi h 178 0)) (by omega), decide_eq_true (by omega)]; rfl
      exact x_zret hK rfl (by omega) ⟨by rw [er]; rfl, hG8, hF8⟩
theorem gbL_out {u a : Nat → Int} {w c : Int} (ha : ∀ g, 9 ≤ g → a g = 1000) : ∀ (n : Nat) (g : Nat), 9 ≤ g → gbL u w c n a g = 1000
  | 0, g, h => ha g h
  | n + 1, g, h => by
    show (if (g : Int) = max 0 (min 8 (n + w)) then min (gbL u w c n a g) (u n + c) else gbL u w c n a g) = 1000
    rw [if_neg (by omega)]
    exact gbL_out ha n g h
theorem gbV_out (v : Int) (any : Bool) (u : Nat → Int) : ∀ g, 9 ≤ g → gbV v any u g = 1000 := by
  unfold gbV
  split
  · exact gbL_out (gbL_out (gbL_out (fun _ _ => rfl) 9) 9) 9
  · exact gbL_out (fun _ _ => rfl) 9
theorem lv_eq {h : aH} {a : Nat} {u : Nat → Int} (hr : rgV u) (h1 : ∀ l, l < 9 → gi h a l = u l) (h2 : ∀ g, 9 ≤ g → u g = 1000) : LV h a = u := by
  funext l
  unfold LV
  by_cases c : l < 9
  · rw [if_pos c, h1 l c]
  · rw [if_neg c, h2 l (by omega)]
theorem gbL_s {u a : Nat → Int} {w c i : Int} (h : 0 ≤ i) : gbL u w c (i + 1).toNat a = fun (g : Nat) => if (g : Int) = max 0 (min 8 (i + w)) then min (gbL u w c i.toNat a g) (u i.toNat + c) else gbL u w c i.toNat a g := by
  rw [tn_s h]
  show (fun g : Nat => if (g : Int) = max 0 (min 8 ((i.toNat : Int) + w)) then _ else _) = _
  rw [tn_c h]
/-- what is told by w so far -/
def gbW (v : Int) (any : Bool) (u : Nat → Int) (w : Int) : Nat → Int := match any with
  | true => if w = -1 then nev else if w = 0 then gbL u (-1) 1 9 nev else if w = 1 then gbL u 0 0 9 (gbL u (-1) 1 9 nev) else gbL u 1 1 9 (gbL u 0 0 9 (gbL u (-1) 1 9 nev))
  | false => if w = v then nev else gbL u v 0 9 nev
theorem gbW_n {v w : Int} {any : Bool} {u : Nat → Int} (hw : (any = true ∧ -1 ≤ w ∧ w ≤ 1) ∨ (any = false ∧ w = v)) : gbW v any u (w + 1) = gbL u w (if any = true ∧ w ≠ 0 then 1 else 0) 9 (gbW v any u w) := by
  rcases hw with ⟨rfl, h1, h2⟩ | ⟨rfl, rfl⟩
  · rcases (show w = -1 ∨ w = 0 ∨ w = 1 by omega) with rfl | rfl | rfl
    · rfl
    · rfl
    · rfl
  · show (if w + 1 = w then nev else gbL u w 0 9 nev) = gbL u w (if false = true ∧ w ≠ 0 then 1 else 0) 9 (if w = w then nev else gbL u w 0 9 nev)
    rw [if_neg (show ¬ w + 1 = w by omega), if_neg (show ¬ (false = true ∧ w ≠ 0) from fun z => Bool.noConfusion z.1), if_pos (show w = w from rfl)]
theorem gbW_r {v w : Int} {any : Bool} {u : Nat → Int} (hu : rgV u) : rgV (gbW v any u w) := by
  unfold gbW
  cases any
  · show rgV (if w = v then nev else gbL u v 0 9 nev)
    split
    · exact nev_r
    · exact gbL_r hu (by omega) nev_r 9
  · show rgV (if w = -1 then nev else if w = 0 then gbL u (-1) 1 9 nev else if w = 1 then gbL u 0 0 9 (gbL u (-1) 1 9 nev) else gbL u 1 1 9 (gbL u 0 0 9 (gbL u (-1) 1 9 nev)))
    split
    · exact nev_r
    · split
      · exact gbL_r hu (by omega) nev_r 9
      · split
        · exact gbL_r hu (by omega) (gbL_r hu (by omega) nev_r 9) 9
        · exact gbL_r hu (by omega) (gbL_r hu (by omega) (gbL_r hu (by omega) nev_r 9) 9) 9
theorem gbW_0 {v : Int} {u : Nat → Int} : gbW v true u (-1) = nev ∧ gbW v false u v = nev := ⟨rfl, if_pos rfl⟩
theorem gbW_e {v : Int} {u : Nat → Int} : gbW v true u 2 = gbV v true u ∧ gbW v false u (v + 1) = gbV v false u := ⟨rfl, if_neg (by omega)⟩
theorem anyT {b : Bool} (h : ¬ b2i b = 0) : b = true := b2i_1 h
theorem anyB {b : Bool} (h : b = true) : b2i b = 1 := by rw [h]; rfl
set_option maxRecDepth 4000 in
theorem ctX11_goesBy {SP : CT} (hSP : MONO SP) {sh : List (Nat × Nat)} {h : aH} (hG : GD gE gRL sh h) {v : Int} {any : Bool} (hv : -2 ≤ v ∧ v ≤ 2) (hr : rgV (LV h 190)) : CLd SP 2 mX11_goesBy [.ref 171, .int (I v), .int (I (b2i any))] h 0 0 (fun rv h' => rv = none ∧ GD gE gRL sh h' ∧ FRM gRL [(0, 73, 0, 8), (0, 74, 0, 8)] h h' ∧ LV h' 190 = gbV v any (LV h 190)) := by
  refine x_met _ rfl (Nat.le_of_ble_eq_true rfl) (fun K hK => ?_)
  have hmono := MONO_CLd hSP 1
  have ab := b2i_r any
  have loopC : ∀ (mz : Nat) (i : Int) (h6 : aH) (ls : List (Nat × Value)), ((9 - i).toNat = mz) → (0 ≤ i ∧ i ≤ 9) → (∀ l : Nat, l < 9 → gi h6 191 l = gbV v any (LV h 190) l) → (∀ l : Nat, l < i → gi h6 190 l = gbV v any (LV h 190) l) → lk ls 0 = some (.ref 171) → lk ls 1 = some (.int (I v)) → lk ls 2 = some (.int (I (b2i any))) → lk ls 3 = some (.int (I i)) → GD gE gRL sh h6 → FRM gRL [(0, 73, 0, 8), (0, 74, 0, 8)] h h6 → K 120 ls [] h6 0 0 := by
    intro mz
    induction mz using Nat.strongRecOn with
    | ind mz ih =>
    intro i h6 ls hm i0 nx dn l0 l1 l2 l3 hG6 hF6
    refine x_iload_n 121 hK rfl rfl l3 ?_
    refine x_bipush 123 hK rfl rfl rfl ?_
    refine x_if_icmp_ge 144 126 hK rfl rfl rfl (by omega) (by omega) (fun c3 => ?_) (fun c3 => ?_)
    · exact x_vret hK rfl ⟨rfl, hG6, hF6, lv_eq (gbV_r hr) (fun l hl => dn l (by omega)) (gbV_out _ _ _)⟩
    · refine x_aload_n 127 hK rfl rfl l0 ?_
      refine x_getR 130 hK rfl rfl (sp_171 (h := h6) hG6) (rf_171_37 (h := h6) hG6) ?_
      refine x_iload_n 131 hK rfl rfl l3 ?_
      refine x_aload_n 132 hK rfl rfl l0 ?_
      refine x_getR 135 hK rfl rfl (sp_171 (h := h6) hG6) (rf_171_38 (h := h6) hG6) ?_
      refine x_iload_n 136 hK rfl rfl l3 ?_
      refine x_ialoadE 137 hK rfl rfl (sp_191 (h := h6) hG6) (by omega) (by omega) (by omega) (e' := (gbV v any (LV h 190) i.toNat)) ((nx i.toNat (by omega))) ?_
      refine x_iastore 138 hK rfl rfl (sp_190 (h := h6) hG6) (by omega) (by omega) (by omega) ?_
      refine x_iinc 141 hK rfl rfl l3 _ rfl ?_
      refine x_goto 120 hK rfl rfl ?_
      have gr := gbV_r (v := v) (any := any) hr i.toNat
      exact ih _ (by omega) (i + 1) _ _ rfl (by omega) ((fun l hl => (gi_a (by decide) _).trans (nx l hl))) ((fun l hl => if c : l = i.toNat then (by subst c; exact gi_same (by omega)) else (gi_k (by omega) _).trans (dn l (by omega)))) (lk1_n l0 (by decide) (Or.inl rfl)) (lk1_n l1 (by decide) (Or.inl rfl)) (lk1_n l2 (by decide) (Or.inl rfl)) lk1_s (GD_wn (hG6) (r := 73) rfl rfl) (FRM_wn 0 8 (hF6) (r := 73) rfl rfl rfl (by omega) (by omega))
  have loopW : ∀ (mz : Nat) (w : Int) (h4 : aH) (ls : List (Nat × Value)), ((5 - w).toNat = mz) → ((any = true ∧ -1 ≤ w ∧ w ≤ 2) ∨ (any = false ∧ v ≤ w ∧ w ≤ v + 1)) → (∀ l : Nat, l < 9 → gi h4 191 l = gbW v any (LV h 190) w l) → (∀ l : Nat, gi h4 190 l = gi h 190 l) → lk ls 0 = some (.ref 171) → lk ls 1 = some (.int (I v)) → lk ls 2 = some (.int (I (b2i any))) → lk ls 3 = some (.int (I w)) → GD gE gRL sh h4 → FRM gRL [(0, 73, 0, 8), (0, 74, 0, 8)] h h4 → K 33 ls [] h4 0 0 := by
    intro mz
    induction mz using Nat.strongRecOn with
    | ind mz ih =>
    intro w h4 ls hm w0 nx ol l0 l1 l2 l3 hG4 hF4
    have ihW := ih
    have gwr := gbW_r (v := v) (w := w) (any := any) hr
    have loopI : ∀ (mz : Nat) (i : Int) (h5 : aH) (ls : List (Nat × Value)), ((9 - i).toNat = mz) → ((any = true ∧ -1 ≤ w ∧ w ≤ 1) ∨ (any = false ∧ w = v)) → (0 ≤ i ∧ i ≤ 9) → (∀ l : Nat, l < 9 → gi h5 191 l = gbL (LV h 190) w (if any = true ∧ w ≠ 0 then 1 else 0) i.toNat (gbW v any (LV h 190) w) l) → (∀ l : Nat, gi h5 190 l = gi h 190 l) → lk ls 0 = some (.ref 171) → lk ls 1 = some (.int (I v)) → lk ls 2 = some (.int (I (b2i any))) → lk ls 3 = some (.int (I w)) → lk ls 4 = some (.int (I i)) → GD gE gRL sh h5 → FRM gRL [(0, 73, 0, 8), (0, 74, 0, 8)] h h5 → K 49 ls [] h5 0 0 := by
      intro mz
      induction mz using Nat.strongRecOn with
      | ind mz ih =>
      intro i h5 ls hm w1 i0 ni oi l0 l1 l2 l3 l4 hG5 hF5
      have gir := gbL_r (w := w) (c := (if any = true ∧ w ≠ 0 then 1 else 0)) hr (by split <;> omega) gwr i.toNat
      have lr := LV_rng hr (l := i.toNat)
      have gs := gbL_s (u := LV h 190) (a := gbW v any (LV h 190) w) (w := w) (c := (if any = true ∧ w ≠ 0 then 1 else 0)) i0.1
      refine x_iload 51 hK rfl rfl l4 ?_
      refine x_bipush 53 hK rfl rfl rfl ?_
      refine x_if_icmp_ge 112 56 hK rfl rfl rfl (by omega) (by omega) (fun c3 => ?_) (fun c3 => ?_)
      · refine x_iinc 115 hK rfl rfl l3 _ rfl ?_
        refine x_goto 33 hK rfl rfl ?_
        exact ihW _ (by omega) (w + 1) _ _ rfl ((by rcases w1 with ⟨a, b1, b2⟩ | ⟨a, b1⟩; exact Or.inl ⟨a, by omega, by omega⟩; exact Or.inr ⟨a, by omega, by omega⟩)) ((fun l hl => by rw [gbW_n w1, ni l hl, show i.toNat = 9 by omega])) (oi) (lk1_n l0 (by decide) (Or.inl rfl)) (lk1_n l1 (by decide) (Or.inl rfl)) (lk1_n l2 (by decide) (Or.inl rfl)) lk1_s (hG5) (hF5)
      · refine x_iload 58 hK rfl rfl l4 ?_
        refine x_iload_n 59 hK rfl rfl l3 ?_
        refine x_iadd 60 hK rfl rfl ?_
        refine x_callS 63 hK hmono rfl (Or.inl rfl) rfl [.int (I (i + w))] [] rfl rfl (Nat.le_of_ble_eq_true rfl) (Nat.le_of_ble_eq_true rfl) (CLd_le (Nat.le_of_ble_eq_true rfl) (ctX11_put hSP (by omega))) ?_
        rintro v9 h9 ⟨e9, rfl⟩
        rw [e9]
        clear e9
        refine x_istore 65 hK rfl rfl _ rfl ?_
        refine x_aload_n 66 hK rfl rfl (lk1_n l0 (by decide) (Or.inl rfl)) ?_
        refine x_getR 69 hK rfl rfl (sp_171 (h := h5) hG5) (rf_171_38 (h := h5) hG5) ?_
        refine x_iload 71 hK rfl rfl lk1_s ?_
        refine x_aload_n 72 hK rfl rfl (lk1_n l0 (by decide) (Or.inl rfl)) ?_
        refine x_getR 75 hK rfl rfl (sp_171 (h := h5) hG5) (rf_171_38 (h := h5) hG5) ?_
        refine x_iload 77 hK rfl rfl lk1_s ?_
        refine x_ialoadE 78 hK rfl rfl (sp_191 (h := h5) hG5) (by omega) (by omega) (by omega) (e' := (gbL (LV h 190) w (if any = true ∧ w ≠ 0 then 1 else 0) i.toNat (gbW v any (LV h 190) w) (max 0 (min 8 (i + w))).toNat)) ((ni (max 0 (min 8 (i + w))).toNat (by omega))) ?_
        refine x_aload_n 79 hK rfl rfl (lk1_n l0 (by decide) (Or.inl rfl)) ?_
        refine x_getR 82 hK rfl rfl (sp_171 (h := h5) hG5) (rf_171_37 (h := h5) hG5) ?_
        refine x_iload 84 hK rfl rfl (lk1_n l4 (by decide) (Or.inl rfl)) ?_
        have g259 := gi_r h 190 i.toNat
        refine x_ialoadE 85 hK rfl rfl (sp_190 (h := h5) hG5) (by omega) (by omega) (by omega) (e' := (gi h 190 i.toNat)) ((oi _)) ?_
        have gp := gir (max 0 (min 8 (i + w))).toNat
        have lp := lr (by omega)
        refine x_iload_n 86 hK rfl rfl (lk1_n l2 (by decide) (Or.inl rfl)) ?_
        refine x_if_eq 97 89 hK rfl rfl rfl (by omega) (fun c25 => ?_) (fun c25 => ?_)
        · refine x_iconst 98 hK rfl rfl ?_
          refine x_callS 101 hK hmono rfl (Or.inl rfl) rfl [.int (I 0)] [.int (I (gi h 190 i.toNat)), .int (I (gbL (LV h 190) w (if any = true ∧ w ≠ 0 then 1 else 0) i.toNat (gbW v any (LV h 190) w) (max 0 (min 8 (i + w))).toNat)), .int (I (max 0 (min 8 (i + w)))), .ref 191] rfl rfl (Nat.le_of_ble_eq_true rfl) (Nat.le_of_ble_eq_true rfl) (CLd_le (Nat.le_of_ble_eq_true rfl) (ctX11_flag (by omega))) ?_
          rintro v9 h9 ⟨e9, rfl⟩
          rw [e9]
          clear e9
          refine x_iadd 102 hK rfl rfl ?_
          refine x_min 105 hK rfl rfl (Nat.le_of_ble_eq_true rfl) (by omega) (by omega) ?_
          refine x_iastore 106 hK rfl rfl (sp_191 (h := h5) hG5) (by omega) (by omega) (by omega) ?_
          refine x_iinc 109 hK rfl rfl (lk1_n l4 (by decide) (Or.inl rfl)) _ rfl ?_
          refine x_goto 49 hK rfl rfl ?_
          have ce : (if any = true ∧ w ≠ 0 then 1 else 0) = (0 : Int) := by rw [if_neg (fun z => by have := anyB z.1; omega)]
          have nn : ∀ l : Nat, l < 9 → gi (wI h5 191 (max 0 (min 8 (i + w))).toNat (min (gbL (LV h 190) w (if any = true ∧ w ≠ 0 then 1 else 0) i.toNat (gbW v any (LV h 190) w) (max 0 (min 8 (i + w))).toNat) ((gi h 190 i.toNat) + 0))) 191 l = gbL (LV h 190) w (if any = true ∧ w ≠ 0 then 1 else 0) (i + 1).toNat (gbW v any (LV h 190) w) l := by
            intro l hl
            rw [gs]
            show _ = if (l : Int) = max 0 (min 8 (i + w)) then min _ (LV h 190 i.toNat + (if any = true ∧ w ≠ 0 then 1 else 0)) else _
            by_cases c : (l : Int) = (max 0 (min 8 (i + w)))
            · rw [if_pos c, LV_at (by omega), (show l = (max 0 (min 8 (i + w))).toNat by omega), ce]
              rw [ce] at gp
              exact gi_same (by omega)
            · rw [if_neg c]
              exact (gi_k (by omega) _).trans (ni l hl)
          exact ih _ (by omega) (i + 1) _ _ rfl (w1) (by omega) (nn) ((fun l => (gi_a (by decide) _).trans (oi l))) (lk1_n (lk1_n l0 (by decide) (Or.inl rfl)) (by decide) (Or.inl rfl)) (lk1_n (lk1_n l1 (by decide) (Or.inl rfl)) (by decide) (Or.inl rfl)) (lk1_n (lk1_n l2 (by decide) (Or.inl rfl)) (by decide) (Or.inl rfl)) (lk1_n (lk1_n l3 (by decide) (Or.inl rfl)) (by decide) (Or.inl rfl)) lk1_s (GD_wn (hG5) (r := 74) rfl rfl) (FRM_wn 0 8 (hF5) (r := 74) rfl rfl rfl (by omega) (by omega))
        · refine x_iload_n 90 hK rfl rfl (lk1_n l3 (by decide) (Or.inl rfl)) ?_
          refine x_if_eq 97 93 hK rfl rfl rfl (by omega) (fun c35 => ?_) (fun c35 => ?_)
          · refine x_iconst 98 hK rfl rfl ?_
            refine x_callS 101 hK hmono rfl (Or.inl rfl) rfl [.int (I 0)] [.int (I (gi h 190 i.toNat)), .int (I (gbL (LV h 190) w (if any = true ∧ w ≠ 0 then 1 else 0) i.toNat (gbW v any (LV h 190) w) (max 0 (min 8 (i + w))).toNat)), .int (I (max 0 (min 8 (i + w)))), .ref 191] rfl rfl (Nat.le_of_ble_eq_true rfl) (Nat.le_of_ble_eq_true rfl) (CLd_le (Nat.le_of_ble_eq_true rfl) (ctX11_flag (by omega))) ?_
            rintro v9 h9 ⟨e9, rfl⟩
            rw [e9]
            clear e9
            refine x_iadd 102 hK rfl rfl ?_
            refine x_min 105 hK rfl rfl (Nat.le_of_ble_eq_true rfl) (by omega) (by omega) ?_
            refine x_iastore 106 hK rfl rfl (sp_191 (h := h5) hG5) (by omega) (by omega) (by omega) ?_
            refine x_iinc 109 hK rfl rfl (lk1_n l4 (by decide) (Or.inl rfl)) _ rfl ?_
            refine x_goto 49 hK rfl rfl ?_
            have ce : (if any = true ∧ w ≠ 0 then 1 else 0) = (0 : Int) := by rw [if_neg (fun z => by have := anyB z.1; omega)]
            have nn : ∀ l : Nat, l < 9 → gi (wI h5 191 (max 0 (min 8 (i + w))).toNat (min (gbL (LV h 190) w (if any = true ∧ w ≠ 0 then 1 else 0) i.toNat (gbW v any (LV h 190) w) (max 0 (min 8 (i + w))).toNat) ((gi h 190 i.toNat) + 0))) 191 l = gbL (LV h 190) w (if any = true ∧ w ≠ 0 then 1 else 0) (i + 1).toNat (gbW v any (LV h 190) w) l := by
              intro l hl
              rw [gs]
              show _ = if (l : Int) = max 0 (min 8 (i + w)) then min _ (LV h 190 i.toNat + (if any = true ∧ w ≠ 0 then 1 else 0)) else _
              by_cases c : (l : Int) = (max 0 (min 8 (i + w)))
              · rw [if_pos c, LV_at (by omega), (show l = (max 0 (min 8 (i + w))).toNat by omega), ce]
                rw [ce] at gp
                exact gi_same (by omega)
              · rw [if_neg c]
                exact (gi_k (by omega) _).trans (ni l hl)
            exact ih _ (by omega) (i + 1) _ _ rfl (w1) (by omega) (nn) ((fun l => (gi_a (by decide) _).trans (oi l))) (lk1_n (lk1_n l0 (by decide) (Or.inl rfl)) (by decide) (Or.inl rfl)) (lk1_n (lk1_n l1 (by decide) (Or.inl rfl)) (by decide) (Or.inl rfl)) (lk1_n (lk1_n l2 (by decide) (Or.inl rfl)) (by decide) (Or.inl rfl)) (lk1_n (lk1_n l3 (by decide) (Or.inl rfl)) (by decide) (Or.inl rfl)) lk1_s (GD_wn (hG5) (r := 74) rfl rfl) (FRM_wn 0 8 (hF5) (r := 74) rfl rfl rfl (by omega) (by omega))
          · refine x_iconst 94 hK rfl rfl ?_
            refine x_goto 98 hK rfl rfl ?_
            refine x_callS 101 hK hmono rfl (Or.inl rfl) rfl [.int (I 1)] [.int (I (gi h 190 i.toNat)), .int (I (gbL (LV h 190) w (if any = true ∧ w ≠ 0 then 1 else 0) i.toNat (gbW v any (LV h 190) w) (max 0 (min 8 (i + w))).toNat)), .int (I (max 0 (min 8 (i + w)))), .ref 191] rfl rfl (Nat.le_of_ble_eq_true rfl) (Nat.le_of_ble_eq_true rfl) (CLd_le (Nat.le_of_ble_eq_true rfl) (ctX11_flag (by omega))) ?_
            rintro v9 h9 ⟨e9, rfl⟩
            rw [e9]
            clear e9
            refine x_iadd 102 hK rfl rfl ?_
            refine x_min 105 hK rfl rfl (Nat.le_of_ble_eq_true rfl) (by omega) (by omega) ?_
            refine x_iastore 106 hK rfl rfl (sp_191 (h := h5) hG5) (by omega) (by omega) (by omega) ?_
            refine x_iinc 109 hK rfl rfl (lk1_n l4 (by decide) (Or.inl rfl)) _ rfl ?_
            refine x_goto 49 hK rfl rfl ?_
            have ce : (if any = true ∧ w ≠ 0 then 1 else 0) = (1 : Int) := by rw [if_pos ⟨anyT (by omega), by omega⟩]
            have nn : ∀ l : Nat, l < 9 → gi (wI h5 191 (max 0 (min 8 (i + w))).toNat (min (gbL (LV h 190) w (if any = true ∧ w ≠ 0 then 1 else 0) i.toNat (gbW v any (LV h 190) w) (max 0 (min 8 (i + w))).toNat) ((gi h 190 i.toNat) + 1))) 191 l = gbL (LV h 190) w (if any = true ∧ w ≠ 0 then 1 else 0) (i + 1).toNat (gbW v any (LV h 190) w) l := by
              intro l hl
              rw [gs]
              show _ = if (l : Int) = max 0 (min 8 (i + w)) then min _ (LV h 190 i.toNat + (if any = true ∧ w ≠ 0 then 1 else 0)) else _
              by_cases c : (l : Int) = (max 0 (min 8 (i + w)))
              · rw [if_pos c, LV_at (by omega), (show l = (max 0 (min 8 (i + w))).toNat by omega), ce]
                rw [ce] at gp
                exact gi_same (by omega)
              · rw [if_neg c]
                exact (gi_k (by omega) _).trans (ni l hl)
            exact ih _ (by omega) (i + 1) _ _ rfl (w1) (by omega) (nn) ((fun l => (gi_a (by decide) _).trans (oi l))) (lk1_n (lk1_n l0 (by decide) (Or.inl rfl)) (by decide) (Or.inl rfl)) (lk1_n (lk1_n l1 (by decide) (Or.inl rfl)) (by decide) (Or.inl rfl)) (lk1_n (lk1_n l2 (by decide) (Or.inl rfl)) (by decide) (Or.inl rfl)) (lk1_n (lk1_n l3 (by decide) (Or.inl rfl)) (by decide) (Or.inl rfl)) lk1_s (GD_wn (hG5) (r := 74) rfl rfl) (FRM_wn 0 8 (hF5) (r := 74) rfl rfl rfl (by omega) (by omega))
    refine x_iload_n 34 hK rfl rfl l3 ?_
    refine x_iload_n 35 hK rfl rfl l2 ?_
    refine x_if_eq 42 38 hK rfl rfl rfl (by omega) (fun c3 => ?_) (fun c3 => ?_)
    · refine x_iload_n 43 hK rfl rfl l1 ?_
      refine x_if_icmp_gt 118 46 hK rfl rfl rfl (by omega) (by omega) (fun c5 => ?_) (fun c5 => ?_)
      · refine x_iconst 119 hK rfl rfl ?_
        refine x_istore_n 120 hK rfl rfl _ rfl ?_
        have we : gbW v any (LV h 190) w = gbV v any (LV h 190) := by
          rcases w0 with ⟨a, b1, b2⟩ | ⟨a, b1, b2⟩
          · have := anyB a; rw [a, show w = 2 by omega]; exact gbW_e.1
          · have : b2i any = 0 := by rw [a]; rfl
            rw [a, show w = v + 1 by omega]; exact gbW_e.2
        exact loopC _ 0 _ _ rfl (by omega) ((fun l hl => by rw [← we]; exact nx l hl)) ((fun l hl => absurd hl (by omega))) (lk1_n l0 (by decide) (Or.inl rfl)) (lk1_n l1 (by decide) (Or.inl rfl)) (lk1_n l2 (by decide) (Or.inl rfl)) lk1_s (hG4) (hF4)
      · refine x_iconst 47 hK rfl rfl ?_
        refine x_istore 49 hK rfl rfl _ rfl ?_
        have w1 : (any = true ∧ -1 ≤ w ∧ w ≤ 1) ∨ (any = false ∧ w = v) := by
          rcases w0 with ⟨a, b1, b2⟩ | ⟨a, b1, b2⟩
          · have := anyB a; exact Or.inl ⟨a, by omega, by omega⟩
          · have : b2i any = 0 := by rw [a]; rfl
            exact Or.inr ⟨a, by omega⟩
        exact loopI _ 0 _ _ rfl (w1) (by omega) (nx) (ol) (lk1_n l0 (by decide) (Or.inl rfl)) (lk1_n l1 (by decide) (Or.inl rfl)) (lk1_n l2 (by decide) (Or.inl rfl)) (lk1_n l3 (by decide) (Or.inl rfl)) lk1_s (hG4) (hF4)
    · refine x_iconst 39 hK rfl rfl ?_
      refine x_goto 43 hK rfl rfl ?_
      refine x_if_icmp_gt 118 46 hK rfl rfl rfl (by omega) (by omega) (fun c14 => ?_) (fun c14 => ?_)
      · refine x_iconst 119 hK rfl rfl ?_
        refine x_istore_n 120 hK rfl rfl _ rfl ?_
        have we : gbW v any (LV h 190) w = gbV v any (LV h 190) := by
          rcases w0 with ⟨a, b1, b2⟩ | ⟨a, b1, b2⟩
          · have := anyB a; rw [a, show w = 2 by omega]; exact gbW_e.1
          · have : b2i any = 0 := by rw [a]; rfl
            rw [a, show w = v + 1 by omega]; exact gbW_e.2
        exact loopC _ 0 _ _ rfl (by omega) ((fun l hl => by rw [← we]; exact nx l hl)) ((fun l hl => absurd hl (by omega))) (lk1_n l0 (by decide) (Or.inl rfl)) (lk1_n l1 (by decide) (Or.inl rfl)) (lk1_n l2 (by decide) (Or.inl rfl)) lk1_s (hG4) (hF4)
      · refine x_iconst 47 hK rfl rfl ?_
        refine x_istore 49 hK rfl rfl _ rfl ?_
        have w1 : (any = true ∧ -1 ≤ w ∧ w ≤ 1) ∨ (any = false ∧ w = v) := by
          rcases w0 with ⟨a, b1, b2⟩ | ⟨a, b1, b2⟩
          · have := anyB a; exact Or.inl ⟨a, by omega, by omega⟩
          · have : b2i any = 0 := by rw [a]; rfl
            exact Or.inr ⟨a, by omega⟩
        exact loopI _ 0 _ _ rfl (w1) (by omega) (nx) (ol) (lk1_n l0 (by decide) (Or.inl rfl)) (lk1_n l1 (by decide) (Or.inl rfl)) (lk1_n l2 (by decide) (Or.inl rfl)) (lk1_n l3 (by decide) (Or.inl rfl)) lk1_s (hG4) (hF4)
  have loop0 : ∀ (mz : Nat) (i : Int) (h3 : aH) (ls : List (Nat × Value)), ((9 - i).toNat = mz) → (0 ≤ i ∧ i ≤ 9) → (∀ l : Nat, l < i → gi h3 191 l = 1000) → (∀ l : Nat, gi h3 190 l = gi h 190 l) → lk ls 0 = some (.ref 171) → lk ls 1 = some (.int (I v)) → lk ls 2 = some (.int (I (b2i any))) → lk ls 3 = some (.int (I i)) → GD gE gRL sh h3 → FRM gRL [(0, 73, 0, 8), (0, 74, 0, 8)] h h3 → K 2 ls [] h3 0 0 := by
    intro mz
    induction mz using Nat.strongRecOn with
    | ind mz ih =>
    intro i h3 ls hm i0 n3 o3 l0 l1 l2 l3 hG3 hF3
    refine x_iload_n 3 hK rfl rfl l3 ?_
    refine x_bipush 5 hK rfl rfl rfl ?_
    refine x_if_icmp_ge 23 8 hK rfl rfl rfl (by omega) (by omega) (fun c3 => ?_) (fun c3 => ?_)
    · refine x_iload_n 24 hK rfl rfl l2 ?_
      refine x_if_eq 31 27 hK rfl rfl rfl (by omega) (fun c5 => ?_) (fun c5 => ?_)
      · refine x_iload_n 32 hK rfl rfl l1 ?_
        refine x_istore_n 33 hK rfl rfl _ rfl ?_
        have ae : any = false := b2i_0 (by omega)
        exact loopW _ v _ _ rfl ((Or.inr ⟨ae, by omega, by omega⟩)) ((fun l hl => by rw [show gbW v any (LV h 190) v = nev from by rw [ae]; exact gbW_0.2]; exact n3 l (by omega))) (o3) (lk1_n l0 (by decide) (Or.inl rfl)) (lk1_n l1 (by decide) (Or.inl rfl)) (lk1_n l2 (by decide) (Or.inl rfl)) lk1_s (hG3) (hF3)
      · refine x_iconst 28 hK rfl rfl ?_
        refine x_goto 32 hK rfl rfl ?_
        refine x_istore_n 33 hK rfl rfl _ rfl ?_
        have ae : any = true := b2i_1 (by omega)
        exact loopW _ (-1) _ _ rfl ((Or.inl ⟨ae, by omega, by omega⟩)) ((fun l hl => by rw [show gbW v any (LV h 190) (-1) = nev from by rw [ae]; exact gbW_0.1]; exact n3 l (by omega))) (o3) (lk1_n l0 (by decide) (Or.inl rfl)) (lk1_n l1 (by decide) (Or.inl rfl)) (lk1_n l2 (by decide) (Or.inl rfl)) lk1_s (hG3) (hF3)
    · refine x_aload_n 9 hK rfl rfl l0 ?_
      refine x_getR 12 hK rfl rfl (sp_171 (h := h3) hG3) (rf_171_38 (h := h3) hG3) ?_
      refine x_iload_n 13 hK rfl rfl l3 ?_
      refine x_sipush 16 hK rfl rfl rfl ?_
      refine x_iastore 17 hK rfl rfl (sp_191 (h := h3) hG3) (by omega) (by omega) (by omega) ?_
      refine x_iinc 20 hK rfl rfl l3 _ rfl ?_
      refine x_goto 2 hK rfl rfl ?_
      exact ih _ (by omega) (i + 1) _ _ rfl (by omega) ((fun l hl => if c : l = i.toNat then (by subst c; exact gi_same (by omega)) else (gi_k (by omega) _).trans (n3 l (by omega)))) ((fun l => (gi_a (by decide) _).trans (o3 l))) (lk1_n l0 (by decide) (Or.inl rfl)) (lk1_n l1 (by decide) (Or.inl rfl)) (lk1_n l2 (by decide) (Or.inl rfl)) lk1_s (GD_wn (hG3) (r := 74) rfl rfl) (FRM_wn 0 8 (hF3) (r := 74) rfl rfl rfl (by omega) (by omega))
  refine x_iconst 1 hK rfl rfl ?_
  refine x_istore_n 2 hK rfl rfl [(3, .int (I 0)), (0, .ref 171), (1, .int (I v)), (2, .int (I (b2i any)))] rfl ?_
  exact loop0 _ 0 _ _ rfl (by omega) ((fun l hl => absurd hl (by omega))) ((fun _ => rfl)) rfl rfl rfl rfl (hG) ((FRM.rf : FRM gRL [(0, 73, 0, 8), (0, 74, 0, 8)] h h))
theorem dlA_w {h : aH} {a k : Nat} {e s : Int} (h1 : a ≠ 182) (h2 : a ≠ 171 ∨ (k ≠ 25 ∧ k ≠ 3 ∧ k ≠ 4 ∧ k ≠ 5)) : dlA (wI h a k e) s = dlA h s := by
  have g : ∀ j, (j = 25 ∨ j = 3 ∨ j = 4 ∨ j = 5) → gi (wI h a k e) 171 j = gi h 171 j := fun j hj => by
    rcases h2 with h2 | h2
    · exact gi_a (fun z => h2 z.symm) _
    · exact gi_k (by omega) _
  exact dlA_eq (g 25 (by omega)) (g 3 (by omega)) (g 4 (by omega)) (g 5 (by omega)) (fun j => gi_a (fun z => h1 z.symm) j) s
theorem opsF_s {ch : Int → Int} {l : Int} {hit : Int → Nat → Int} {L : List (Int × Int)} {q : Int × Int} {u : Nat → Int} : opsF ch l hit (L ++ [q]) u = opF ch l hit q (opsF ch l hit L u) := by rw [opsF_app]; rfl
theorem wyF_s (f : Nat → Int) (d : Int) (n : Nat) : wyF (wlK f (n + 1)) d = wyF (wlK f n) d ++ if f (5 + 3 * n) = d then [(0, f (6 + 3 * n))] else [] := by
  unfold wyF
  rw [wlK_s, List.filter_append, List.map_append]
  congr 1
  by_cases c : f (5 + 3 * n) = d
  · rw [if_pos c, flt_y (show decide ((tri f n).1 = d) = true from decide_eq_true c)]; rfl
  · rw [if_neg c, flt_n (show decide ((tri f n).1 = d) = false from decide_eq_false c)]; rfl
theorem opsF_out {ch : Int → Int} {l : Int} {hit : Int → Nat → Int} : ∀ (L : List (Int × Int)) (u : Nat → Int), (∀ g, 9 ≤ g → u g = 1000) → ∀ g, 9 ≤ g → opsF ch l hit L u g = 1000
  | [], u, h, g, hg => h g hg
  | q :: r, u, h, g, hg => by
    refine opsF_out r (opF ch l hit q u) (fun g hg => ?_) g hg
    unfold opF
    split
    · exact gbV_out _ _ _ g hg
    · split
      · exact gbV_out _ _ _ g hg
      · show (if _ then (1000 : Int) else u g) = 1000
        split
        · rfl
        · exact h g hg
theorem u0_r {l : Int} : rgV (fun (g : Nat) => if (g : Int) = l then 0 else 1000) := fun g => by
  show 0 ≤ (if (g : Int) = l then (0 : Int) else 1000) ∧ (if (g : Int) = l then (0 : Int) else 1000) ≤ 1000
  split <;> omega
set_option maxRecDepth 4000 in
theorem ctX11_laysLeast {SP : CT} (hSP : MONO SP) {sh : List (Nat × Nat)} {h : aH} (hG : GD gE gRL sh h) {n : Int} (hX : XI h) (hn : 0 ≤ n ∧ n ≤ 30) (h0 : 0 ≤ gi h 178 0 ∧ gi h 178 0 ≤ 1000000) : CLd SP 8 mX11_laysLeast [.ref 171, .int (I n)] h 0 0 (fun rv h' => rv = none ∧ GD gE gRL sh h' ∧ FRM gRL [(0, 67, 0, 79), (0, 68, 0, 3), (0, 73, 0, 8), (0, 74, 0, 8)] h h' ∧ LV h' 190 = (opsF (fun k => gi h 189 k.toNat) (gi h 171 5) (fun t g => hitN (gi h 175) (gi h 176) ((gi h 178 0) + t) (g : Int) (gi h 171 6).toNat) (opsT (wl (RC h 178 0)) (gi h 178 0) (gi h 178 4) (dlA h) n.toNat) (fun (l : Nat) => if (l : Int) = gi h 178 1 then 0 else 1000))) := by
  refine x_met _ rfl (Nat.le_of_ble_eq_true rfl) (fun K hK => ?_)
  have hmono := MONO_CLd hSP 7
  have g1 := gri 0 8 hG (a := 178) (r := 61) (k := 1) rfl rfl
  have g3 := gri 0 12 hG (a := 178) (r := 61) (k := 3) rfl rfl
  have g6 := gri 0 16 hG (a := 171) (r := 54) (k := 6) rfl rfl
  obtain ⟨fop, hfop⟩ : ∃ fop : List (Int × Int) → (Nat → Int) → Nat → Int, opsF (fun k => gi h 189 k.toNat) (gi h 171 5) (fun t g => hitN (gi h 175) (gi h 176) ((gi h 178 0) + t) (g : Int) (gi h 171 6).toNat) = fop := ⟨_, rfl⟩
  have fr : ∀ L u, rgV u → rgV (fop L u) := fun L u hu => by rw [← hfop]; exact opsF_r L u hu
  have fs : ∀ L q u, fop (L ++ [q]) u = opF (fun k => gi h 189 k.toNat) (gi h 171 5) (fun t g => hitN (gi h 175) (gi h 176) ((gi h 178 0) + t) (g : Int) (gi h 171 6).toNat) q (fop L u) := fun L q u => by rw [← hfop]; exact opsF_s
  have fa : ∀ L R u, fop (L ++ R) u = fop R (fop L u) := fun L R u => by rw [← hfop]; exact opsF_app
  obtain ⟨u0, hu0⟩ : ∃ u0 : Nat → Int, (fun (l : Nat) => if (l : Int) = gi h 178 1 then 0 else 1000) = u0 := ⟨_, rfl⟩
  have ur : rgV u0 := by rw [← hu0]; exact u0_r
  rw [hfop, hu0] at hK
  obtain ⟨OT, hOT⟩ : ∃ OT : Nat → List (Int × Int), opsT (wl (RC h 178 0)) (gi h 178 0) (gi h 178 4) (dlA h) = OT := ⟨_, rfl⟩
  rw [hOT] at hK
  have loopT : ∀ (mz : Nat) (t : Int) (h3 : aH) (ls : List (Nat × Value)), ((n + 1 - t).toNat = mz) → (1 ≤ t ∧ t ≤ n + 1) → (LV h3 190 = fop (OT (t - 1).toNat) u0) → lk ls 0 = some (.ref 171) → lk ls 1 = some (.int (I n)) → lk ls 2 = some (.int (I t)) → GD gE gRL sh h3 → FRM gRL [(0, 67, 0, 79), (0, 68, 0, 3), (0, 73, 0, 8), (0, 74, 0, 8)] h h3 → K 39 ls [] h3 0 0 := by
    intro mz
    induction mz using Nat.strongRecOn with
    | ind mz ih =>
    intro t h3 ls hm t0 lv l0 l1 l2 hG3 hF3
    have ihT := ih
    have xr : rgV (fop (OT (t - 1).toNat) u0) := fr _ _ ur
    have wr : rgV (fop (wyF (wl (RC h 178 0)) ((gi h 178 0) + t)) (fop (OT (t - 1).toNat) u0)) := fr _ _ xr
    have yr : rgV (fop (blkC (gi h 178 0) (gi h 178 4) (dlA h) t t.toNat) (fop (wyF (wl (RC h 178 0)) ((gi h 178 0) + t)) (fop (OT (t - 1).toNat) u0))) := fr _ _ wr
    have lvn : ∀ (i : Int) {hh : aH}, 9 ≤ i → (∀ l : Nat, l < 9 → gi hh 190 l = if (l : Int) < i ∧ 0 < hitN (gi h 175) (gi h 176) ((gi h 178 0) + t) l (gi h 171 6).toNat then 1000 else (fop (blkC (gi h 178 0) (gi h 178 4) (dlA h) t t.toNat) (fop (wyF (wl (RC h 178 0)) ((gi h 178 0) + t)) (fop (OT (t - 1).toNat) u0))) l) → LV hh 190 = fop (OT (t + 1 - 1).toNat) u0 := fun i hh hi lr => by
      have e : OT (t + 1 - 1).toNat = OT (t - 1).toNat ++ blkT (wl (RC h 178 0)) (gi h 178 0) (gi h 178 4) (dlA h) ((t - 1).toNat + 1) := by
        rw [show (t + 1 - 1).toNat = (t - 1).toNat + 1 by omega, ← hOT]; rfl
      rw [e, fa]
      unfold blkT
      rw [show (((t - 1).toNat + 1 : Nat) : Int) = t by omega, show (t - 1).toNat + 1 = t.toNat by omega, fa, fs]
      refine lv_eq (opF_r yr) (fun l hl => ?_) ?_
      · rw [lr l hl]
        show _ = if 0 < hitN (gi h 175) (gi h 176) ((gi h 178 0) + t) (l : Int) (gi h 171 6).toNat then 1000 else (fop (blkC (gi h 178 0) (gi h 178 4) (dlA h) t t.toNat) (fop (wyF (wl (RC h 178 0)) ((gi h 178 0) + t)) (fop (OT (t - 1).toNat) u0))) l
        exact if_c ⟨fun z => z.2, fun z => ⟨by omega, z⟩⟩
      · intro g hg
        have yo : (fop (blkC (gi h 178 0) (gi h 178 4) (dlA h) t t.toNat) (fop (wyF (wl (RC h 178 0)) ((gi h 178 0) + t)) (fop (OT (t - 1).toNat) u0))) g = 1000 := by
          rw [← hfop]
          exact opsF_out _ _ (opsF_out _ _ (opsF_out _ _ (by rw [← hu0]; exact fun g hg => if_neg (by omega)))) g hg
        show (if _ then (1000 : Int) else (fop (blkC (gi h 178 0) (gi h 178 4) (dlA h) t t.toNat) (fop (wyF (wl (RC h 178 0)) ((gi h 178 0) + t)) (fop (OT (t - 1).toNat) u0))) g) = 1000
        rw [yo]; split <;> rfl
    have loopRk : ∀ (mz : Nat) (i : Int) (h6 : aH) (ls : List (Nat × Value)), ((9 - i).toNat = mz) → (t ≤ n) → (0 ≤ i ∧ i ≤ 9) → (∀ l : Nat, l < 9 → gi h6 190 l = if (l : Int) < i ∧ 0 < hitN (gi h 175) (gi h 176) ((gi h 178 0) + t) l (gi h 171 6).toNat then 1000 else (fop (blkC (gi h 178 0) (gi h 178 4) (dlA h) t t.toNat) (fop (wyF (wl (RC h 178 0)) ((gi h 178 0) + t)) (fop (OT (t - 1).toNat) u0))) l) → lk ls 0 = some (.ref 171) → lk ls 1 = some (.int (I n)) → lk ls 2 = some (.int (I t)) → lk ls 3 = some (.int (I i)) → GD gE gRL sh h6 → FRM gRL [(0, 67, 0, 79), (0, 68, 0, 3), (0, 73, 0, 8), (0, 74, 0, 8)] h h6 → K 156 ls [] h6 0 0 := by
      intro mz
      induction mz using Nat.strongRecOn with
      | ind mz ih =>
      intro i h6 ls hm t1 i0 lr l0 l1 l2 l3 hG6 hF6
      have yi := yr i.toNat
      refine x_iload_n 157 hK rfl rfl l3 ?_
      refine x_bipush 159 hK rfl rfl rfl ?_
      refine x_if_icmp_ge 202 162 hK rfl rfl rfl (by omega) (by omega) (fun c3 => ?_) (fun c3 => ?_)
      · refine x_iinc 205 hK rfl rfl l2 _ rfl ?_
        refine x_goto 39 hK rfl rfl ?_
        exact ihT _ (by omega) (t + 1) _ _ rfl (by omega) ((lvn i (by omega) lr)) (lk1_n l0 (by decide) (Or.inl rfl)) (lk1_n l1 (by decide) (Or.inl rfl)) lk1_s (hG6) (hF6)
      · refine x_aload_n 163 hK rfl rfl l0 ?_
        refine x_getR 166 hK rfl rfl (sp_171 (h := h6) hG6) (rf_171_37 (h := h6) hG6) ?_
        refine x_iload_n 167 hK rfl rfl l3 ?_
        refine x_aload_n 168 hK rfl rfl l0 ?_
        refine x_aload_n 169 hK rfl rfl l0 ?_
        refine x_getR 172 hK rfl rfl (sp_171 (h := h6) hG6) (rf_171_14 (h := h6) hG6) ?_
        refine x_iconst 173 hK rfl rfl ?_
        have g263 := gi_r h 178 0
        refine x_ialoadE 174 hK rfl rfl (sp_178 (h := h6) hG6) (by omega) (by omega) (by omega) (e' := (gi h 178 0)) (FRM_gi hF6 (r := 61) rfl rfl) ?_
        refine x_iload_n 175 hK rfl rfl l2 ?_
        refine x_iadd 176 hK rfl rfl ?_
        refine x_iload_n 177 hK rfl rfl l3 ?_
        refine x_callV 180 hK hmono rfl rfl [.ref 171, .int (I ((gi h 178 0) + t)), .int (I i)] [.int (I i), .ref 190] rfl rfl (Nat.le_of_ble_eq_true rfl) (Nat.le_of_ble_eq_true rfl) rfl (sp_171 (h := h6) hG6) (CLd_le (Nat.le_of_ble_eq_true rfl) (ctX11_hitsAtF hSP hG6 (by omega) (by omega))) ?_
        rintro v9 h9 ⟨e9, rfl⟩
        rw [e9, show gi h6 175 = gi h 175 from funext fun j => FRM_gi hF6 (r := 58) rfl rfl, show gi h6 176 = gi h 176 from funext fun j => FRM_gi hF6 (r := 59) rfl rfl, show gi h6 171 6 = gi h 171 6 from FRM_gi hF6 (r := 54) rfl rfl]
        clear e9
        have hb := hitN_b (gi h 175) (gi h 176) ((gi h 178 0) + t) i (gi h 171 6).toNat
        refine x_if_le 189 183 hK rfl rfl rfl (by omega) (fun c19 => ?_) (fun c19 => ?_)
        · refine x_aload_n 190 hK rfl rfl l0 ?_
          refine x_getR 193 hK rfl rfl (sp_171 (h := h6) hG6) (rf_171_37 (h := h6) hG6) ?_
          refine x_iload_n 194 hK rfl rfl l3 ?_
          refine x_ialoadE 195 hK rfl rfl (sp_190 (h := h6) hG6) (by omega) (by omega) (by omega) (e' := ((fop (blkC (gi h 178 0) (gi h 178 4) (dlA h) t t.toNat) (fop (wyF (wl (RC h 178 0)) ((gi h 178 0) + t)) (fop (OT (t - 1).toNat) u0))) i.toNat)) (((lr i.toNat (by omega)).trans (if_neg (fun z => by omega)))) ?_
          refine x_iastore 196 hK rfl rfl (sp_190 (h := h6) hG6) (by omega) (by omega) (by omega) ?_
          refine x_iinc 199 hK rfl rfl l3 _ rfl ?_
          refine x_goto 156 hK rfl rfl ?_
          have nn : ∀ l : Nat, l < 9 → gi (wI h6 190 i.toNat ((fop (blkC (gi h 178 0) (gi h 178 4) (dlA h) t t.toNat) (fop (wyF (wl (RC h 178 0)) ((gi h 178 0) + t)) (fop (OT (t - 1).toNat) u0))) i.toNat)) 190 l = if (l : Int) < i + 1 ∧ 0 < hitN (gi h 175) (gi h 176) ((gi h 178 0) + t) l (gi h 171 6).toNat then 1000 else (fop (blkC (gi h 178 0) (gi h 178 4) (dlA h) t t.toNat) (fop (wyF (wl (RC h 178 0)) ((gi h 178 0) + t)) (fop (OT (t - 1).toNat) u0))) l := by
            intro l hl
            by_cases c : l = i.toNat
            · subst c
              rw [tn_c i0.1, if_neg (fun z => by omega)]
              exact gi_same (by omega)
            · rw [gi_k c, lr l hl]
              exact if_c ⟨fun z => ⟨by omega, z.2⟩, fun z => ⟨by omega, z.2⟩⟩
          exact ih _ (by omega) (i + 1) _ _ rfl (t1) (by omega) (nn) (lk1_n l0 (by decide) (Or.inl rfl)) (lk1_n l1 (by decide) (Or.inl rfl)) (lk1_n l2 (by decide) (Or.inl rfl)) lk1_s (GD_wn (hG6) (r := 73) rfl rfl) (FRM_wn 0 8 (hF6) (r := 73) rfl rfl rfl (by omega) (by omega))
        · refine x_sipush 186 hK rfl rfl rfl ?_
          refine x_goto 195 hK rfl rfl ?_
          refine x_iastore 196 hK rfl rfl (sp_190 (h := h6) hG6) (by omega) (by omega) (by omega) ?_
          refine x_iinc 199 hK rfl rfl l3 _ rfl ?_
          refine x_goto 156 hK rfl rfl ?_
          have nn : ∀ l : Nat, l < 9 → gi (wI h6 190 i.toNat 1000) 190 l = if (l : Int) < i + 1 ∧ 0 < hitN (gi h 175) (gi h 176) ((gi h 178 0) + t) l (gi h 171 6).toNat then 1000 else (fop (blkC (gi h 178 0) (gi h 178 4) (dlA h) t t.toNat) (fop (wyF (wl (RC h 178 0)) ((gi h 178 0) + t)) (fop (OT (t - 1).toNat) u0))) l := by
            intro l hl
            by_cases c : l = i.toNat
            · subst c
              rw [tn_c i0.1, if_pos ⟨by omega, by omega⟩]
              exact gi_same (by omega)
            · rw [gi_k c, lr l hl]
              exact if_c ⟨fun z => ⟨by omega, z.2⟩, fun z => ⟨by omega, z.2⟩⟩
          exact ih _ (by omega) (i + 1) _ _ rfl (t1) (by omega) (nn) (lk1_n l0 (by decide) (Or.inl rfl)) (lk1_n l1 (by decide) (Or.inl rfl)) (lk1_n l2 (by decide) (Or.inl rfl)) lk1_s (GD_wn (hG6) (r := 73) rfl rfl) (FRM_wn 0 8 (hF6) (r := 73) rfl rfl rfl (by omega) (by omega))
    have loopCh : ∀ (mz : Nat) (k : Int) (h5 : aH) (ls : List (Nat × Value)), ((t - k).toNat = mz) → (t ≤ n) → (0 ≤ k ∧ k ≤ t) → (LV h5 190 = fop (blkC (gi h 178 0) (gi h 178 4) (dlA h) t k.toNat) (fop (wyF (wl (RC h 178 0)) ((gi h 178 0) + t)) (fop (OT (t - 1).toNat) u0))) → lk ls 0 = some (.ref 171) → lk ls 1 = some (.int (I n)) → lk ls 2 = some (.int (I t)) → lk ls 3 = some (.int (I k)) → GD gE gRL sh h5 → FRM gRL [(0, 67, 0, 79), (0, 68, 0, 3), (0, 73, 0, 8), (0, 74, 0, 8)] h h5 → K 105 ls [] h5 0 0 := by
      intro mz
      induction mz using Nat.strongRecOn with
      | ind mz ih =>
      intro k h5 ls hm t1 k0 lc l0 l1 l2 l3 hG5 hF5
      have lr5 : rgV (LV h5 190) := by rw [lc]; exact fr _ _ wr
      have bs : blkC (gi h 178 0) (gi h 178 4) (dlA h) t (k + 1).toNat = (blkC (gi h 178 0) (gi h 178 4) (dlA h) t k.toNat) ++ if cmF (gi h 178 0) (gi h 178 4) (dlA h) k t = true then [(1, k)] else [] := by rw [tn_s k0.1]; show blkC _ _ _ _ _ ++ (if cmF _ _ _ ((k.toNat : Nat) : Int) t = true then [(1, ((k.toNat : Nat) : Int))] else []) = _; rw [tn_c k0.1]
      refine x_iload_n 106 hK rfl rfl l3 ?_
      refine x_iload_n 107 hK rfl rfl l2 ?_
      refine x_if_icmp_ge 154 110 hK rfl rfl rfl (by omega) (by omega) (fun c3 => ?_) (fun c3 => ?_)
      · refine x_iconst 155 hK rfl rfl ?_
        refine x_istore_n 156 hK rfl rfl _ rfl ?_
        exact loopRk _ 0 _ _ rfl (t1) (by omega) ((fun l hl => by rw [if_neg (fun z => by omega), ← LV_at (a := 190) hl, lc, show k.toNat = t.toNat by omega])) (lk1_n l0 (by decide) (Or.inl rfl)) (lk1_n l1 (by decide) (Or.inl rfl)) (lk1_n l2 (by decide) (Or.inl rfl)) lk1_s (hG5) (hF5)
      · refine x_aload_n 111 hK rfl rfl l0 ?_
        refine x_iload_n 112 hK rfl rfl l3 ?_
        refine x_iload_n 113 hK rfl rfl l2 ?_
        have hXc : XI h5 := (xOk_ok rfl _ h5 hF5 hX)
        refine x_callV 116 hK hmono rfl rfl [.ref 171, .int (I k), .int (I t)] [] rfl rfl (Nat.le_of_ble_eq_true rfl) (Nat.le_of_ble_eq_true rfl) rfl (sp_171 (h := h5) hG5) (CLd_le (Nat.le_of_ble_eq_true rfl) (ctX11_comesAtF hSP hG5 hXc (by omega) (by omega) (by rw [show gi h5 178 0 = gi h 178 0 from FRM_gi hF5 (r := 61) rfl rfl]; exact h0))) ?_
        rw [show gi h5 178 0 = gi h 178 0 from FRM_gi hF5 (r := 61) rfl rfl, show gi h5 178 4 = gi h 178 4 from FRM_gi hF5 (r := 61) rfl rfl, show dlA h5 = dlA h from funext fun s => dlA_F hF5 rfl s]
        rintro v264 h264 ⟨rfl, hG264, hF264⟩
        have cb264 := b2i_r (cmF (gi h 178 0) (gi h 178 4) (dlA h) k t)
        refine x_if_eq 148 119 hK rfl rfl rfl (by omega) (fun c11 => ?_) (fun c11 => ?_)
        · refine x_iinc 151 hK rfl rfl l3 _ rfl ?_
          refine x_goto 105 hK rfl rfl ?_
          have cm : cmF (gi h 178 0) (gi h 178 4) (dlA h) k t = false := b2i_0 (by omega)
          exact ih _ (by omega) (k + 1) _ _ rfl (t1) (by omega) ((by rw [LV_F hF264 (r := 73) rfl rfl, lc, bs, cm, if_neg Bool.noConfusion, List.append_nil])) (lk1_n l0 (by decide) (Or.inl rfl)) (lk1_n l1 (by decide) (Or.inl rfl)) (lk1_n l2 (by decide) (Or.inl rfl)) lk1_s (hG264) ((hF5).trans ((hF264).mono rfl))
        · refine x_aload_n 120 hK rfl rfl l0 ?_
          refine x_aload_n 121 hK rfl rfl l0 ?_
          refine x_aload_n 122 hK rfl rfl l0 ?_
          refine x_getR 125 hK rfl rfl (sp_171 (h := h264) hG264) (rf_171_36 (h := h264) hG264) ?_
          refine x_iload_n 126 hK rfl rfl l3 ?_
          have g265 := grn (-1) (2) hG (a := 189) (r := 72) (k := k.toNat) rfl rfl (by omega)
          refine x_ialoadE 127 hK rfl rfl (sp_189 (h := h264) hG264) (by omega) (by omega) (by omega) (e' := (gi h 189 k.toNat)) ((FRM_gi hF264 (r := 72) rfl rfl).trans (FRM_gi hF5 (r := 72) rfl rfl)) ?_
          refine x_callV 130 hK hmono rfl rfl [.ref 171, .int (I (gi h 189 k.toNat))] [.ref 171] rfl rfl (Nat.le_of_ble_eq_true rfl) (Nat.le_of_ble_eq_true rfl) rfl (sp_171 (h := h264) hG264) (CLd_le (Nat.le_of_ble_eq_true rfl) (ctX11_turned hSP hG264)) ?_
          rintro v9 h9 ⟨e9, rfl⟩
          rw [e9, show gi h264 171 5 = gi h 171 5 from (FRM_gi hF264 (r := 54) rfl rfl).trans (FRM_gi hF5 (r := 54) rfl rfl)]
          clear e9
          change K 130 _ (.int (I (tvF (gi h 171 5) (gi h 189 k.toNat))) :: _) _ _ _
          have tb1 : -2 ≤ (tvF (gi h 171 5) (gi h 189 k.toNat)) ∧ (tvF (gi h 171 5) (gi h 189 k.toNat)) ≤ 2 := by unfold tvF; split <;> omega
          refine x_aload_n 131 hK rfl rfl l0 ?_
          refine x_getR 134 hK rfl rfl (sp_171 (h := h264) hG264) (rf_171_36 (h := h264) hG264) ?_
          refine x_iload_n 135 hK rfl rfl l3 ?_
          refine x_ialoadE 136 hK rfl rfl (sp_189 (h := h264) hG264) (by omega) (by omega) (by omega) (e' := (gi h 189 k.toNat)) ((FRM_gi hF264 (r := 72) rfl rfl).trans (FRM_gi hF5 (r := 72) rfl rfl)) ?_
          refine x_iconst 137 hK rfl rfl ?_
          refine x_if_icmp_ne 144 140 hK rfl rfl rfl (by omega) (by omega) (fun c27 => ?_) (fun c27 => ?_)
          · refine x_iconst 145 hK rfl rfl ?_
            have le266 : LV h264 190 = LV h5 190 := LV_F hF264 (r := 73) rfl rfl
            refine x_callV 148 hK hmono rfl rfl [.ref 171, .int (I (tvF (gi h 171 5) (gi h 189 k.toNat))), .int (I 0)] [] rfl rfl (Nat.le_of_ble_eq_true rfl) (Nat.le_of_ble_eq_true rfl) rfl (sp_171 (h := h264) hG264) (CLd_le (Nat.le_of_ble_eq_true rfl) (ctX11_goesBy hSP hG264 (v := (tvF (gi h 171 5) (gi h 189 k.toNat))) (any := false) (by omega) (by rw [le266]; exact lr5))) ?_
            rintro v266 h266 ⟨rfl, hG266, hF266, lg266⟩
            rw [le266, lc] at lg266
            refine x_iinc 151 hK rfl rfl l3 _ rfl ?_
            refine x_goto 105 hK rfl rfl ?_
            have cm : cmF (gi h 178 0) (gi h 178 4) (dlA h) k t = true := b2i_1 (by omega)
            exact ih _ (by omega) (k + 1) _ _ rfl (t1) (by omega) ((by rw [lg266, bs, if_pos cm, fs]; show _ = gbV (tvF (gi h 171 5) (gi h 189 k.toNat)) (decide (gi h 189 k.toNat = 2)) _; rw [decide_eq_false (by omega)])) (lk1_n l0 (by decide) (Or.inl rfl)) (lk1_n l1 (by decide) (Or.inl rfl)) (lk1_n l2 (by decide) (Or.inl rfl)) lk1_s (hG266) (((hF5).trans ((hF264).mono rfl)).trans ((hF266).mono rfl))
          · refine x_iconst 141 hK rfl rfl ?_
            refine x_goto 145 hK rfl rfl ?_
            have le267 : LV h264 190 = LV h5 190 := LV_F hF264 (r := 73) rfl rfl
            refine x_callV 148 hK hmono rfl rfl [.ref 171, .int (I (tvF (gi h 171 5) (gi h 189 k.toNat))), .int (I 1)] [] rfl rfl (Nat.le_of_ble_eq_true rfl) (Nat.le_of_ble_eq_true rfl) rfl (sp_171 (h := h264) hG264) (CLd_le (Nat.le_of_ble_eq_true rfl) (ctX11_goesBy hSP hG264 (v := (tvF (gi h 171 5) (gi h 189 k.toNat))) (any := true) (by omega) (by rw [le267]; exact lr5))) ?_
            rintro v267 h267 ⟨rfl, hG267, hF267, lg267⟩
            rw [le267, lc] at lg267
            refine x_iinc 151 hK rfl rfl l3 _ rfl ?_
            refine x_goto 105 hK rfl rfl ?_
            have cm : cmF (gi h 178 0) (gi h 178 4) (dlA h) k t = true := b2i_1 (by omega)
            exact ih _ (by omega) (k + 1) _ _ rfl (t1) (by omega) ((by rw [lg267, bs, if_pos cm, fs]; show _ = gbV (tvF (gi h 171 5) (gi h 189 k.toNat)) (decide (gi h 189 k.toNat = 2)) _; rw [decide_eq_true (by omega)])) (lk1_n l0 (by decide) (Or.inl rfl)) (lk1_n l1 (by decide) (Or.inl rfl)) (lk1_n l2 (by decide) (Or.inl rfl)) lk1_s (hG267) (((hF5).trans ((hF264).mono rfl)).trans ((hF267).mono rfl))
    have loopWy : ∀ (mz : Nat) (k : Int) (h4 : aH) (ls : List (Nat × Value)), ((gi h 178 3 - k).toNat = mz) → (t ≤ n) → (0 ≤ k ∧ k ≤ gi h 178 3) → (LV h4 190 = fop (wyF (wlK (gi h 178) k.toNat) ((gi h 178 0) + t)) (fop (OT (t - 1).toNat) u0)) → lk ls 0 = some (.ref 171) → lk ls 1 = some (.int (I n)) → lk ls 2 = some (.int (I t)) → lk ls 3 = some (.int (I k)) → GD gE gRL sh h4 → FRM gRL [(0, 67, 0, 79), (0, 68, 0, 3), (0, 73, 0, 8), (0, 74, 0, 8)] h h4 → K 46 ls [] h4 0 0 := by
      intro mz
      induction mz using Nat.strongRecOn with
      | ind mz ih =>
      intro k h4 ls hm t1 k0 lw l0 l1 l2 l3 hG4 hF4
      have lr4 : rgV (LV h4 190) := by rw [lw]; exact fr _ _ xr
      have ws : (wyF (wlK (gi h 178) (k + 1).toNat) ((gi h 178 0) + t)) = (wyF (wlK (gi h 178) k.toNat) ((gi h 178 0) + t)) ++ if gi h 178 (5 + 3 * k.toNat) = (gi h 178 0) + t then [(0, gi h 178 (6 + 3 * k.toNat))] else [] := by rw [tn_s k0.1]; exact wyF_s _ _ _
      have wt : k < 12 → -1 ≤ gi h 178 (6 + 3 * k.toNat) ∧ gi h 178 (6 + 3 * k.toNat) ≤ 1 := fun z => what_r hG (r := 61) rfl rfl (by omega)
      refine x_iload_n 47 hK rfl rfl l3 ?_
      refine x_aload_n 48 hK rfl rfl l0 ?_
      refine x_getR 51 hK rfl rfl (sp_171 (h := h4) hG4) (rf_171_14 (h := h4) hG4) ?_
      refine x_iconst 52 hK rfl rfl ?_
      have g268 := gri (0) (12) hG (a := 178) (r := 61) (k := 3) rfl rfl
      refine x_ialoadE 53 hK rfl rfl (sp_178 (h := h4) hG4) (by omega) (by omega) (by omega) (e' := (gi h 178 3)) (FRM_gi hF4 (r := 61) rfl rfl) ?_
      refine x_if_icmp_ge 103 56 hK rfl rfl rfl (by omega) (by omega) (fun c6 => ?_) (fun c6 => ?_)
      · refine x_iconst 104 hK rfl rfl ?_
        refine x_istore_n 105 hK rfl rfl _ rfl ?_
        exact loopCh _ 0 _ _ rfl (t1) (by omega) ((by rw [lw, show k.toNat = (gi h 178 3).toNat by omega, ← wl_RC (by omega)]; rw [← hfop]; rfl)) (lk1_n l0 (by decide) (Or.inl rfl)) (lk1_n l1 (by decide) (Or.inl rfl)) (lk1_n l2 (by decide) (Or.inl rfl)) lk1_s (hG4) (hF4)
      · refine x_iconst 57 hK rfl rfl ?_
        refine x_iconst 58 hK rfl rfl ?_
        refine x_iload_n 59 hK rfl rfl l3 ?_
        refine x_imul 60 hK rfl rfl ?_
        refine x_iadd 61 hK rfl rfl ?_
        refine x_istore 63 hK rfl rfl _ rfl ?_
        have d5 := gi_r h 178 (5 + 3 * k.toNat)
        refine x_aload_n 64 hK rfl rfl (lk1_n l0 (by decide) (Or.inl rfl)) ?_
        refine x_getR 67 hK rfl rfl (sp_171 (h := h4) hG4) (rf_171_14 (h := h4) hG4) ?_
        refine x_iload 69 hK rfl rfl lk1_s ?_
        refine x_iconst 70 hK rfl rfl ?_
        refine x_iadd 71 hK rfl rfl ?_
        refine x_ialoadE 72 hK rfl rfl (sp_178 (h := h4) hG4) (by omega) (by omega) (by omega) (e' := (gi h 178 (5 + 3 * k.toNat))) (((gi_to (by omega)).trans (FRM_gi hF4 (r := 61) rfl rfl))) ?_
        refine x_aload_n 73 hK rfl rfl (lk1_n l0 (by decide) (Or.inl rfl)) ?_
        refine x_getR 76 hK rfl rfl (sp_171 (h := h4) hG4) (rf_171_14 (h := h4) hG4) ?_
        refine x_iconst 77 hK rfl rfl ?_
        have g269 := gi_r h 178 0
        refine x_ialoadE 78 hK rfl rfl (sp_178 (h := h4) hG4) (by omega) (by omega) (by omega) (e' := (gi h 178 0)) (FRM_gi hF4 (r := 61) rfl rfl) ?_
        refine x_iload_n 79 hK rfl rfl (lk1_n l2 (by decide) (Or.inl rfl)) ?_
        refine x_iadd 80 hK rfl rfl ?_
        refine x_if_icmp_ne 97 83 hK rfl rfl rfl (by omega) (by omega) (fun c29 => ?_) (fun c29 => ?_)
        · refine x_iinc 100 hK rfl rfl (lk1_n l3 (by decide) (Or.inl rfl)) _ rfl ?_
          refine x_goto 46 hK rfl rfl ?_
          exact ih _ (by omega) (k + 1) _ _ rfl (t1) (by omega) ((by rw [lw, ws, if_neg (by omega), List.append_nil])) (lk1_n (lk1_n l0 (by decide) (Or.inl rfl)) (by decide) (Or.inl rfl)) (lk1_n (lk1_n l1 (by decide) (Or.inl rfl)) (by decide) (Or.inl rfl)) (lk1_n (lk1_n l2 (by decide) (Or.inl rfl)) (by decide) (Or.inl rfl)) lk1_s (hG4) (hF4)
        · refine x_aload_n 84 hK rfl rfl (lk1_n l0 (by decide) (Or.inl rfl)) ?_
          refine x_aload_n 85 hK rfl rfl (lk1_n l0 (by decide) (Or.inl rfl)) ?_
          refine x_getR 88 hK rfl rfl (sp_171 (h := h4) hG4) (rf_171_14 (h := h4) hG4) ?_
          refine x_iload 90 hK rfl rfl lk1_s ?_
          refine x_iconst 91 hK rfl rfl ?_
          refine x_iadd 92 hK rfl rfl ?_
          refine x_ialoadE 93 hK rfl rfl (sp_178 (h := h4) hG4) (by omega) (by omega) (by omega) (e' := (gi h 178 (6 + 3 * k.toNat))) (((gi_to (by omega)).trans (FRM_gi hF4 (r := 61) rfl rfl))) ?_
          refine x_iconst 94 hK rfl rfl ?_
          have le270 : LV h4 190 = LV h4 190 := rfl
          refine x_callV 97 hK hmono rfl rfl [.ref 171, .int (I (gi h 178 (6 + 3 * k.toNat))), .int (I 0)] [] rfl rfl (Nat.le_of_ble_eq_true rfl) (Nat.le_of_ble_eq_true rfl) rfl (sp_171 (h := h4) hG4) (CLd_le (Nat.le_of_ble_eq_true rfl) (ctX11_goesBy hSP hG4 (v := (gi h 178 (6 + 3 * k.toNat))) (any := false) (by omega) (by rw [le270]; exact lr4))) ?_
          rintro v270 h270 ⟨rfl, hG270, hF270, lg270⟩
          rw [le270, lw] at lg270
          refine x_iinc 100 hK rfl rfl (lk1_n l3 (by decide) (Or.inl rfl)) _ rfl ?_
          refine x_goto 46 hK rfl rfl ?_
          exact ih _ (by omega) (k + 1) _ _ rfl (t1) (by omega) ((by rw [lg270, ws, if_pos (by omega), fs]; rfl)) (lk1_n (lk1_n l0 (by decide) (Or.inl rfl)) (by decide) (Or.inl rfl)) (lk1_n (lk1_n l1 (by decide) (Or.inl rfl)) (by decide) (Or.inl rfl)) (lk1_n (lk1_n l2 (by decide) (Or.inl rfl)) (by decide) (Or.inl rfl)) lk1_s (hG270) ((hF4).trans ((hF270).mono rfl))
    refine x_iload_n 40 hK rfl rfl l2 ?_
    refine x_iload_n 41 hK rfl rfl l1 ?_
    refine x_if_icmp_gt 208 44 hK rfl rfl rfl (by omega) (by omega) (fun c3 => ?_) (fun c3 => ?_)
    · exact x_vret hK rfl ⟨rfl, hG3, hF3, by rw [lv, show t - 1 = n by omega]⟩
    · refine x_iconst 45 hK rfl rfl ?_
      refine x_istore_n 46 hK rfl rfl _ rfl ?_
      exact loopWy _ 0 _ _ rfl (by omega) (by omega) ((by rw [lv]; rw [← hfop]; rfl)) (lk1_n l0 (by decide) (Or.inl rfl)) (lk1_n l1 (by decide) (Or.inl rfl)) (lk1_n l2 (by decide) (Or.inl rfl)) lk1_s (hG3) (hF3)
  have loop0 : ∀ (mz : Nat) (i : Int) (h2 : aH) (ls : List (Nat × Value)), ((9 - i).toNat = mz) → (0 ≤ i ∧ i ≤ 9) → (∀ l : Nat, l < i → gi h2 190 l = u0 l) → lk ls 0 = some (.ref 171) → lk ls 1 = some (.int (I n)) → lk ls 2 = some (.int (I i)) → GD gE gRL sh h2 → FRM gRL [(0, 67, 0, 79), (0, 68, 0, 3), (0, 73, 0, 8), (0, 74, 0, 8)] h h2 → K 2 ls [] h2 0 0 := by
    intro mz
    induction mz using Nat.strongRecOn with
    | ind mz ih =>
    intro i h2 ls hm i0 n2 l0 l1 l2 hG2 hF2
    have ui : u0 i.toNat = if i = gi h 178 1 then 0 else 1000 := by rw [← hu0]; show (if ((i.toNat : Nat) : Int) = _ then _ else _) = _; rw [tn_c i0.1]
    refine x_iload_n 3 hK rfl rfl l2 ?_
    refine x_bipush 5 hK rfl rfl rfl ?_
    refine x_if_icmp_ge 37 8 hK rfl rfl rfl (by omega) (by omega) (fun c3 => ?_) (fun c3 => ?_)
    · refine x_iconst 38 hK rfl rfl ?_
      refine x_istore_n 39 hK rfl rfl _ rfl ?_
      exact loopT _ 1 _ _ rfl (by omega) ((by rw [lv_eq ur (fun l hl => n2 l (by omega)) (by rw [← hu0]; exact fun g hg => if_neg (by omega)), ← hOT, ← hfop]; rfl)) (lk1_n l0 (by decide) (Or.inl rfl)) (lk1_n l1 (by decide) (Or.inl rfl)) lk1_s (hG2) (hF2)
    · refine x_aload_n 9 hK rfl rfl l0 ?_
      refine x_getR 12 hK rfl rfl (sp_171 (h := h2) hG2) (rf_171_37 (h := h2) hG2) ?_
      refine x_iload_n 13 hK rfl rfl l2 ?_
      refine x_iload_n 14 hK rfl rfl l2 ?_
      refine x_aload_n 15 hK rfl rfl l0 ?_
      refine x_getR 18 hK rfl rfl (sp_171 (h := h2) hG2) (rf_171_14 (h := h2) hG2) ?_
      refine x_iconst 19 hK rfl rfl ?_
      have g271 := gri (0) (8) hG (a := 178) (r := 61) (k := 1) rfl rfl
      refine x_ialoadE 20 hK rfl rfl (sp_178 (h := h2) hG2) (by omega) (by omega) (by omega) (e' := (gi h 178 1)) (FRM_gi hF2 (r := 61) rfl rfl) ?_
      refine x_if_icmp_ne 27 23 hK rfl rfl rfl (by omega) (by omega) (fun c15 => ?_) (fun c15 => ?_)
      · refine x_sipush 30 hK rfl rfl rfl ?_
        refine x_iastore 31 hK rfl rfl (sp_190 (h := h2) hG2) (by omega) (by omega) (by omega) ?_
        refine x_iinc 34 hK rfl rfl l2 _ rfl ?_
        refine x_goto 2 hK rfl rfl ?_
        exact ih _ (by omega) (i + 1) _ _ rfl (by omega) ((fun l hl => if c : l = i.toNat then (by subst c; rw [ui, if_neg (by omega)]; exact gi_same (by omega)) else (gi_k (by omega) _).trans (n2 l (by omega)))) (lk1_n l0 (by decide) (Or.inl rfl)) (lk1_n l1 (by decide) (Or.inl rfl)) lk1_s (GD_wn (hG2) (r := 73) rfl rfl) (FRM_wn 0 8 (hF2) (r := 73) rfl rfl rfl (by omega) (by omega))
      · refine x_iconst 24 hK rfl rfl ?_
        refine x_goto 30 hK rfl rfl ?_
        refine x_iastore 31 hK rfl rfl (sp_190 (h := h2) hG2) (by omega) (by omega) (by omega) ?_
        refine x_iinc 34 hK rfl rfl l2 _ rfl ?_
        refine x_goto 2 hK rfl rfl ?_
        exact ih _ (by omega) (i + 1) _ _ rfl (by omega) ((fun l hl => if c : l = i.toNat then (by subst c; rw [ui, if_pos (by omega)]; exact gi_same (by omega)) else (gi_k (by omega) _).trans (n2 l (by omega)))) (lk1_n l0 (by decide) (Or.inl rfl)) (lk1_n l1 (by decide) (Or.inl rfl)) lk1_s (GD_wn (hG2) (r := 73) rfl rfl) (FRM_wn 0 8 (hF2) (r := 73) rfl rfl rfl (by omega) (by omega))
  refine x_iconst 1 hK rfl rfl ?_
  refine x_istore_n 2 hK rfl rfl [(2, .int (I 0)), (0, .ref 171), (1, .int (I n))] rfl ?_
  exact loop0 _ 0 _ _ rfl (by omega) ((fun l hl => absurd hl (by omega))) rfl rfl rfl (hG) ((FRM.rf : FRM gRL [(0, 67, 0, 79), (0, 68, 0, 3), (0, 73, 0, 8), (0, 74, 0, 8)] h h))
set_option maxRecDepth 4000 in
theorem ctX11_fewestOrders {SP : CT} (hSP : MONO SP) {sh : List (Nat × Nat)} {h : aH} (hG : GD gE gRL sh h) {n : Int} (hX : XI h) (hn : 0 ≤ n ∧ n ≤ 30) (h0 : 0 ≤ gi h 178 0 ∧ gi h 178 0 ≤ 1000000) : CLd SP 9 mX11_fewestOrders [.ref 171, .int (I n)] h 0 0 (fun rv h' => rv = some (.int (I (fwN (opsF (fun k => gi h 189 k.toNat) (gi h 171 5) (fun t g => hitN (gi h 175) (gi h 176) ((gi h 178 0) + t) (g : Int) (gi h 171 6).toNat) (opsT (wl (RC h 178 0)) (gi h 178 0) (gi h 178 4) (dlA h) n.toNat) (fun (l : Nat) => if (l : Int) = gi h 178 1 then 0 else 1000)) 9))) ∧ GD gE gRL sh h' ∧ FRM gRL [(0, 67, 0, 79), (0, 68, 0, 3), (0, 73, 0, 8), (0, 74, 0, 8)] h h') := by
  refine x_met _ rfl (Nat.le_of_ble_eq_true rfl) (fun K hK => ?_)
  have hmono := MONO_CLd hSP 8
  have lrr : rgV (opsF (fun k => gi h 189 k.toNat) (gi h 171 5) (fun t g => hitN (gi h 175) (gi h 176) ((gi h 178 0) + t) (g : Int) (gi h 171 6).toNat) (opsT (wl (RC h 178 0)) (gi h 178 0) (gi h 178 4) (dlA h) n.toNat) (fun (l : Nat) => if (l : Int) = gi h 178 1 then 0 else 1000)) := opsF_r _ _ u0_r
  have loop : ∀ (mz : Nat) (e i : Int) (h2 : aH) (ls : List (Nat × Value)), ((9 - i).toNat = mz) → (0 ≤ i ∧ i ≤ 9) → (LV h2 190 = (opsF (fun k => gi h 189 k.toNat) (gi h 171 5) (fun t g => hitN (gi h 175) (gi h 176) ((gi h 178 0) + t) (g : Int) (gi h 171 6).toNat) (opsT (wl (RC h 178 0)) (gi h 178 0) (gi h 178 4) (dlA h) n.toNat) (fun (l : Nat) => if (l : Int) = gi h 178 1 then 0 else 1000))) → (e = fwN (opsF (fun k => gi h 189 k.toNat) (gi h 171 5) (fun t g => hitN (gi h 175) (gi h 176) ((gi h 178 0) + t) (g : Int) (gi h 171 6).toNat) (opsT (wl (RC h 178 0)) (gi h 178 0) (gi h 178 4) (dlA h) n.toNat) (fun (l : Nat) => if (l : Int) = gi h 178 1 then 0 else 1000)) i.toNat) → lk ls 0 = some (.ref 171) → lk ls 1 = some (.int (I n)) → lk ls 2 = some (.int (I e)) → lk ls 3 = some (.int (I i)) → GD gE gRL sh h2 → FRM gRL [(0, 67, 0, 79), (0, 68, 0, 3), (0, 73, 0, 8), (0, 74, 0, 8)] h h2 → K 11 ls [] h2 0 0 := by
    intro mz
    induction mz using Nat.strongRecOn with
    | ind mz ih =>
    intro e i h2 ls hm i0 lv2 ee l0 l1 l2 l3 hG2 hF2
    have fb := fwN_r lrr i.toNat
    have le : i < 9 → (opsF (fun k => gi h 189 k.toNat) (gi h 171 5) (fun t g => hitN (gi h 175) (gi h 176) ((gi h 178 0) + t) (g : Int) (gi h 171 6).toNat) (opsT (wl (RC h 178 0)) (gi h 178 0) (gi h 178 4) (dlA h) n.toNat) (fun (l : Nat) => if (l : Int) = gi h 178 1 then 0 else 1000)) i.toNat = gi h2 190 i.toNat := fun z => by rw [← lv2, LV_at (by omega)]
    refine x_iload_n 12 hK rfl rfl l3 ?_
    refine x_bipush 14 hK rfl rfl rfl ?_
    refine x_if_icmp_ge 34 17 hK rfl rfl rfl (by omega) (by omega) (fun c3 => ?_) (fun c3 => ?_)
    · refine x_iload_n 35 hK rfl rfl l2 ?_
      exact x_iret hK rfl ⟨by rw [ee, show i = 9 by omega]; rfl, hG2, hF2⟩
    · refine x_iload_n 18 hK rfl rfl l2 ?_
      refine x_aload_n 19 hK rfl rfl l0 ?_
      refine x_getR 22 hK rfl rfl (sp_171 (h := h2) hG2) (rf_171_37 (h := h2) hG2) ?_
      refine x_iload_n 23 hK rfl rfl l3 ?_
      have g272 := gi_r h2 190 i.toNat
      refine x_ialoadE 24 hK rfl rfl (sp_190 (h := h2) hG2) (by omega) (by omega) (by omega) (e' := (gi h2 190 i.toNat)) (rfl) ?_
      refine x_min 27 hK rfl rfl (Nat.le_of_ble_eq_true rfl) (by omega) (by omega) ?_
      refine x_istore_n 28 hK rfl rfl _ rfl ?_
      refine x_iinc 31 hK rfl rfl (lk1_n l3 (by decide) (Or.inl rfl)) _ rfl ?_
      refine x_goto 11 hK rfl rfl ?_
      exact ih _ (by omega) (min e (gi h2 190 i.toNat)) (i + 1) _ _ rfl (by omega) (lv2) ((by rw [fwN_s i0.1, ee, le (by omega)])) (lk1_n (lk1_n l0 (by decide) (Or.inl rfl)) (by decide) (Or.inl rfl)) (lk1_n (lk1_n l1 (by decide) (Or.inl rfl)) (by decide) (Or.inl rfl)) (lk1_n lk1_s (by decide) (Or.inl rfl)) lk1_s (hG2) (hF2)
  refine x_aload_n 1 hK rfl rfl rfl ?_
  refine x_iload_n 2 hK rfl rfl rfl ?_
  refine x_callV 5 hK hmono rfl rfl [.ref 171, .int (I n)] [] rfl rfl (Nat.le_of_ble_eq_true rfl) (Nat.le_of_ble_eq_true rfl) rfl (sp_171 (h := h) hG) (CLd_le (Nat.le_of_ble_eq_true rfl) (ctX11_laysLeast hSP hG hX hn h0)) ?_
  rintro v2 h2 ⟨rfl, hG2, hF2, lv2⟩
  refine x_sipush 8 hK rfl rfl rfl ?_
  refine x_istore_n 9 hK rfl rfl [(2, .int (I 1000)), (0, .ref 171), (1, .int (I n))] rfl ?_
  refine x_iconst 10 hK rfl rfl ?_
  refine x_istore_n 11 hK rfl rfl [(3, .int (I 0)), (2, .int (I 1000)), (0, .ref 171), (1, .int (I n))] rfl ?_
  exact loop _ 1000 0 _ _ rfl (by omega) (lv2) (rfl) rfl rfl rfl rfl (hG2) (hF2)
set_option maxRecDepth 4000 in
theorem ctX11_choosesAny {SP : CT} (hSP : MONO SP) {sh : List (Nat × Nat)} {h : aH} (hG : GD gE gRL sh h) {a : Int} (ra : r32 a) : CLd SP 1 mX11_choosesAny [.ref 171, .int (I a)] h 0 0 (fun rv h' => rv = none ∧ GD gE gRL sh h' ∧ FRM gRL [(0, 72, 0, 29)] h h' ∧ ∀ k : Nat, k < 30 → gi h' 189 k = if (k : Int) < a then 0 else 2) := by
  refine x_met _ rfl (Nat.le_of_ble_eq_true rfl) (fun K hK => ?_)
  have hmono := MONO_CLd hSP 0
  have loop : ∀ (mz : Nat) (i : Int) (h4 : aH) (ls : List (Nat × Value)), ((30 - i).toNat = mz) → (0 ≤ i ∧ i ≤ 30) → (∀ k : Nat, k < i → gi h4 189 k = if (k : Int) < a then 0 else 2) → lk ls 0 = some (.ref 171) → lk ls 1 = some (.int (I a)) → lk ls 2 = some (.int (I i)) → GD gE gRL sh h4 → FRM gRL [(0, 72, 0, 29)] h h4 → K 2 ls [] h4 0 0 := by
    intro mz
    induction mz using Nat.strongRecOn with
    | ind mz ih =>
    intro i h4 ls hm i0 n4 l0 l1 l2 hG4 hF4
    refine x_iload_n 3 hK rfl rfl l2 ?_
    refine x_bipush 5 hK rfl rfl rfl ?_
    refine x_if_icmp_ge 30 8 hK rfl rfl rfl (by omega) (by omega) (fun c3 => ?_) (fun c3 => ?_)
    · exact x_vret hK rfl ⟨rfl, hG4, hF4, fun k hk => n4 k (by omega)⟩
    · refine x_aload_n 9 hK rfl rfl l0 ?_
      refine x_getR 12 hK rfl rfl (sp_171 (h := h4) hG4) (rf_171_36 (h := h4) hG4) ?_
      refine x_iload_n 13 hK rfl rfl l2 ?_
      refine x_iload_n 14 hK rfl rfl l2 ?_
      refine x_iload_n 15 hK rfl rfl l1 ?_
      refine x_if_icmp_ge 22 18 hK rfl rfl rfl (by omega) (by omega) (fun c10 => ?_) (fun c10 => ?_)
      · refine x_iconst 23 hK rfl rfl ?_
        refine x_iastore 24 hK rfl rfl (sp_189 (h := h4) hG4) (by omega) (by omega) (by omega) ?_
        refine x_iinc 27 hK rfl rfl l2 _ rfl ?_
        refine x_goto 2 hK rfl rfl ?_
        exact ih _ (by omega) (i + 1) _ _ rfl (by omega) ((fun l hl => if c : l = i.toNat then (by subst c; rw [if_neg (by omega)]; exact gi_same (by omega)) else (gi_k (by omega) _).trans (n4 l (by omega)))) (lk1_n l0 (by decide) (Or.inl rfl)) (lk1_n l1 (by decide) (Or.inl rfl)) lk1_s (GD_wu (hG4) (r := 72) rfl (by omega) rfl (by omega) (by omega)) (FRM_wn 0 29 (hF4) (r := 72) rfl rfl rfl (by omega) (by omega))
      · refine x_iconst 19 hK rfl rfl ?_
        refine x_goto 23 hK rfl rfl ?_
        refine x_iastore 24 hK rfl rfl (sp_189 (h := h4) hG4) (by omega) (by omega) (by omega) ?_
        refine x_iinc 27 hK rfl rfl l2 _ rfl ?_
        refine x_goto 2 hK rfl rfl ?_
        exact ih _ (by omega) (i + 1) _ _ rfl (by omega) ((fun l hl => if c : l = i.toNat then (by subst c; rw [if_pos (by omega)]; exact gi_same (by omega)) else (gi_k (by omega) _).trans (n4 l (by omega)))) (lk1_n l0 (by decide) (Or.inl rfl)) (lk1_n l1 (by decide) (Or.inl rfl)) lk1_s (GD_wu (hG4) (r := 72) rfl (by omega) rfl (by omega) (by omega)) (FRM_wn 0 29 (hF4) (r := 72) rfl rfl rfl (by omega) (by omega))
  refine x_iconst 1 hK rfl rfl ?_
  refine x_istore_n 2 hK rfl rfl [(2, .int (I 0)), (0, .ref 171), (1, .int (I a))] rfl ?_
  exact loop _ 0 _ _ rfl (by omega) ((fun l hl => absurd hl (by omega))) rfl rfl rfl (hG) ((FRM.rf : FRM gRL [(0, 72, 0, 29)] h h))
