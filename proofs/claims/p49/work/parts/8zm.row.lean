section
/-! A NUMBER OF THE ROW; NO ROCKS TOLD -/
set_option maxRecDepth 4000 in
theorem ctX11_rowF {SP : CT} (hSP : MONO SP) {sh : List (Nat × Nat)} {h : aH} (hG : GD gE gRL sh h) {x : Int} (rx : r32 x) : CLd SP 2 mX11_row [.ref 171, .int (I x)] h 0 0 (fun rv h' => (((0 ≤ x ∧ x < gi h 171 1) ∧ rv = some (.long (J (gj h 172 x.toNat))) ∧ gi h' 171 0 = 0) ∨ (¬ (0 ≤ x ∧ x < gi h 171 1) ∧ rv = some (.long (J 0)) ∧ gi h' 171 0 = 1)) ∧ GD gE gRL sh h' ∧ FRM gRL [(0, 54, 0, 0)] h h') := by
  refine x_met _ rfl (Nat.le_of_ble_eq_true rfl) (fun K hK => ?_)
  have hmono := MONO_CLd hSP 1
  have g1 := gri 0 40 hG (a := 171) (r := 54) (k := 1) rfl rfl
  refine x_aload_n 1 hK rfl rfl rfl ?_
  refine x_iconst 2 hK rfl rfl ?_
  refine x_putI 5 hK rfl rfl (sp_171 (h := h) hG) ?_
  refine x_iload_n 6 hK rfl rfl rfl ?_
  refine x_i2l 7 hK rfl rfl (by omega) ?_
  refine x_lconstE 8 0 hK rfl rfl rfl ?_
  refine x_aload_n 9 hK rfl rfl rfl ?_
  have g292 := gri (0) (40) hG (a := 171) (r := 54) (k := 1) rfl rfl
  refine x_getE 12 hK rfl (Or.inl rfl) rfl (sp_171 (h := h) hG) (e := (gi h 171 1)) (gi_k (by decide) _) ?_
  refine x_iconst 13 hK rfl rfl ?_
  refine x_isub 14 hK rfl rfl ?_
  refine x_i2l 15 hK rfl rfl (by omega) ?_
  have hGp293 : GD gE gRL sh (wI h 171 0 0) := GD_w1 (hG) (r := 54) rfl (by omega) rfl (by omega) (by omega)
  refine x_callS 18 hK hmono rfl (Or.inl rfl) rfl [.long (J x), .long (J 0), .long (J ((gi h 171 1) - 1))] [] rfl rfl (Nat.le_of_ble_eq_true rfl) (Nat.le_of_ble_eq_true rfl) (CLd_le (Nat.le_of_ble_eq_true rfl) (ctX11_in (by omega) (by omega) (by omega))) ?_
  rintro v9 h9 ⟨e9, ⟨rfl, i1294, i2294⟩ | ⟨rfl, i1294⟩⟩ <;> rw [e9] <;> clear e9
  · refine x_if_ne 28 21 hK rfl rfl rfl (by omega) (fun _ => ?_) (fun c => by omega)
    refine x_aload_n 29 hK rfl rfl rfl ?_
    refine x_getR 32 hK rfl rfl (sp_171 (h := h) hG) (rf_171_2 (h := h) hG) ?_
    refine x_iload_n 33 hK rfl rfl rfl ?_
    have g295 := gj_r h 172 x.toNat
    refine x_laloadE 34 hK rfl rfl (sp_172 (h := h) hG) (by omega) (by omega) (by omega) (e' := (gj h 172 x.toNat)) (rfl) ?_
    exact x_lret hK rfl ⟨Or.inl ⟨⟨by omega, by omega⟩, rfl, gi_same (by omega)⟩, GD_w1 (hG) (r := 54) rfl (by omega) rfl (by omega) (by omega), FRM_w ((FRM.rf : FRM gRL [(0, 54, 0, 0)] h h)) (r := 54) rfl rfl⟩
  · refine x_if_ne 28 21 hK rfl rfl rfl (by omega) (fun c => by omega) (fun _ => ?_)
    refine x_aload_n 22 hK rfl rfl rfl ?_
    refine x_iconst 23 hK rfl rfl ?_
    refine x_putI 26 hK rfl rfl (sp_171 (h := h) hG) ?_
    refine x_lconstE 27 0 hK rfl rfl rfl ?_
    exact x_lret hK rfl ⟨Or.inr ⟨by omega, rfl, gi_same (by omega)⟩, GD_w1 (GD_w1 (hG) (r := 54) rfl (by omega) rfl (by omega) (by omega)) (r := 54) rfl (by omega) rfl (by omega) (by omega), FRM_w (FRM_w ((FRM.rf : FRM gRL [(0, 54, 0, 0)] h h)) (r := 54) rfl rfl) (r := 54) rfl rfl⟩
theorem list_at {f g : Nat → Int} {n m : Nat} (h : (List.range n).map f = (List.range m).map g) : n = m ∧ ∀ j : Nat, j < n → f j = g j := by
  have e := congrArg List.length h
  rw [List.length_map, List.length_map, List.length_range, List.length_range] at e
  refine ⟨e, fun j hj => ?_⟩
  have z : ((List.range n).map f)[j]? = ((List.range m).map g)[j]? := by rw [h]
  rw [List.getElem?_map, List.getElem?_map, List.getElem?_range hj, List.getElem?_range (by omega)] at z
  exact Option.some.inj z
theorem rowR_J {sh : List (Nat × Nat)} {h : aH} (hG : GD gE gRL sh h) {i : Int} {o : Option Int} {v : Int64} (hR : rowR h i o) : rowR (sJ h 201 0 v) i o := by
  obtain ⟨b1, hb1, hR⟩ := hR
  obtain rfl : 3 = b1 := Option.some.inj ((rf_0_1 hG).symm.trans hb1)
  refine ⟨3, hb1, ?_⟩
  rcases hR with hR | ⟨hc, c, hcc, e⟩
  · exact Or.inl hR
  · obtain rfl : 4 = c := Option.some.inj ((rf_3_0 hG).symm.trans hcc)
    exact Or.inr ⟨hc, 4, hcc, e.trans (congrArg some (gj_a (h := h) (k := 0) (v := v) (show (4 : Nat) ≠ 201 by decide) i.toNat).symm)⟩
end
section
/-! THE ROW OF VOYAGES, LANES, POSTS -/
theorem stI_h {ml ln : Nat → Int} {nr : Nat} {ms : Int} {ea : Nat → Int} {w : WS} : ∀ k : Nat, (stI ml ln nr ms ea k w).2.2.1 = w.2.2.1 + sHs ml ln nr ms ea k w
  | 0 => (Int.add_zero _).symm
  | k + 1 => by
    have ih := stI_h (ml := ml) (ln := ln) (nr := nr) (ms := ms) (ea := ea) (w := w) k
    show (stI ml ln nr ms ea k w).2.2.1 + stH ml ln nr (stI ml ln nr ms ea k w) = w.2.2.1 + (sHs ml ln nr ms ea k w + stH ml ln nr (stI ml ln nr ms ea k w))
    omega
theorem doH_h {dl : Int → Int} {l : Int} {ml ln : Nat → Int} {nr : Nat} {ms : Int} {ea : Nat → Int} {q : Int × Int} {w : WS} : doH ml ln nr ms ea q w = (doW dl l ml ln nr ms ea q w).2.2.1 - w.2.2.1 := by
  unfold doH doW
  by_cases a : q.1 = 0
  · rw [if_pos a, if_pos a]
    show 0 = w.2.2.1 - w.2.2.1
    omega
  · rw [if_neg a, if_neg a]
    by_cases b : q.1 = 1
    · rw [if_pos b, if_pos b]
      show 0 = w.2.2.1 - w.2.2.1
      omega
    · rw [if_neg b, if_neg b, stI_h]
      omega
theorem vyI_h {dl : Int → Int} {l : Int} {ml ln : Nat → Int} {nr : Nat} {ms : Int} {ea : Nat → Int} : ∀ (L : List (Int × Int)) (w : WS), (vyI dl l ml ln nr ms ea L w).2.2 = (vyI dl l ml ln nr ms ea L w).2.1.2.2.1 - w.2.2.1
  | [], w => by
    show 0 = w.2.2.1 - w.2.2.1
    omega
  | q :: r, w => by
    have ih := vyI_h (dl := dl) (l := l) (ml := ml) (ln := ln) (nr := nr) (ms := ms) (ea := ea) r (doW dl l ml ln nr ms ea q w)
    have dh := doH_h (dl := dl) (l := l) (ml := ml) (ln := ln) (nr := nr) (ms := ms) (ea := ea) (q := q) (w := w)
    unfold vyI
    by_cases c : doR ms q w = true
    · rw [if_pos c]
      show doH ml ln nr ms ea q w + (vyI dl l ml ln nr ms ea r (doW dl l ml ln nr ms ea q w)).2.2 = (vyI dl l ml ln nr ms ea r (doW dl l ml ln nr ms ea q w)).2.1.2.2.1 - w.2.2.1
      omega
    · rw [if_neg c]
      show 0 = w.2.2.1 - w.2.2.1
      omega
theorem lhW_c {ml ln ml' ln' : Nat → Int} {w : WS} {n : Int} : ∀ i : Nat, (∀ j, j < i → ml' j = ml j ∧ ln' j = ln j) → lhW ml' ln' w n i = lhW ml ln w n i
  | 0, _ => rfl
  | i + 1, h => by
    have z := h i (by omega)
    show lhW ml' ln' w n i + (if 1 ≤ ml' i - w.1 ∧ ml' i - w.1 ≤ n ∧ ln' i = lnW w (ml' i - w.1) then 1 else 0) = lhW ml ln w n i + (if 1 ≤ ml i - w.1 ∧ ml i - w.1 ≤ n ∧ ln i = lnW w (ml i - w.1) then 1 else 0)
    rw [lhW_c i fun j hj => h j (by omega), z.1, z.2]
theorem lhW_s {ml ln : Nat → Int} {w : WS} {n : Int} (hn : 0 ≤ n) : ∀ i : Nat, lhW ml ln w (n + 1) i = lhW ml ln w n i + hitN ml ln (w.1 + n + 1) (lnW w (n + 1)) i
  | 0 => rfl
  | i + 1 => by
    have ih := lhW_s (ml := ml) (ln := ln) (w := w) hn i
    show lhW ml ln w (n + 1) i + (if 1 ≤ ml i - w.1 ∧ ml i - w.1 ≤ n + 1 ∧ ln i = lnW w (ml i - w.1) then 1 else 0) = lhW ml ln w n i + (if 1 ≤ ml i - w.1 ∧ ml i - w.1 ≤ n ∧ ln i = lnW w (ml i - w.1) then 1 else 0) + (hitN ml ln (w.1 + n + 1) (lnW w (n + 1)) i + if ml i = w.1 + n + 1 ∧ ln i = lnW w (n + 1) then 1 else 0)
    rw [ih]
    by_cases c : ml i - w.1 = n + 1
    · rw [c]
      by_cases d : ln i = lnW w (n + 1)
      · rw [if_pos ⟨by omega, by omega, d⟩, if_neg (fun z => by have := z.2.1; omega), if_pos ⟨by omega, d⟩]
        omega
      · rw [if_neg (fun z => d z.2.2), if_neg (fun z => d z.2.2), if_neg (fun z => d z.2)]
        omega
    · rw [if_neg (show ¬ (ml i = w.1 + n + 1 ∧ ln i = lnW w (n + 1)) from fun z => by have := z.1; omega)]
      by_cases d : 1 ≤ ml i - w.1 ∧ ml i - w.1 ≤ n ∧ ln i = lnW w (ml i - w.1)
      · rw [if_pos d, if_pos ⟨d.1, by have := d.2.1; omega, d.2.2⟩]
        omega
      · rw [if_neg d, if_neg (fun z => d ⟨z.1, by have := z.2.1; omega, z.2.2⟩)]
        omega
theorem lhW_z {ml ln : Nat → Int} {w : WS} : ∀ i : Nat, lhW ml ln w 0 i = 0
  | 0 => rfl
  | i + 1 => by
    have ih := lhW_z (ml := ml) (ln := ln) (w := w) i
    show lhW ml ln w 0 i + (if 1 ≤ ml i - w.1 ∧ ml i - w.1 ≤ 0 ∧ ln i = lnW w (ml i - w.1) then 1 else 0) = 0
    rw [ih, if_neg (fun z => by have := z.1; have := z.2.1; omega)]
    rfl
/-- the HITS that are told are those that she would have -/
theorem lnH_sHs {ml ln : Nat → Int} {nr : Nat} {ms : Int} {ea : Nat → Int} {w : WS} (ok : OKW w) : ∀ n : Nat, lhW ml ln w n nr = sHs ml ln nr ms ea n w
  | 0 => lhW_z nr
  | n + 1 => by
    have ih := lnH_sHs (ml := ml) (ln := ln) (nr := nr) (ms := ms) (ea := ea) ok n
    have e1 := (stI_ln (ml := ml) (ln := ln) (nr := nr) (ms := ms) (ea := ea) ok n).2.1
    have e2 := lnW_stI (ml := ml) (ln := ln) (nr := nr) (ms := ms) (ea := ea) ok (n + 1)
    have e2 : stL (stI ml ln nr ms ea n w) = lnW w ((n + 1 : Nat) : Int) := e2
    have s := lhW_s (ml := ml) (ln := ln) (w := w) (n := (n : Int)) (by omega) nr
    show lhW ml ln w ((n + 1 : Nat) : Int) nr = sHs ml ln nr ms ea n w + hitN ml ln ((stI ml ln nr ms ea n w).1 + 1) (stL (stI ml ln nr ms ea n w)) nr
    rw [e2, e1, ← ih]
    exact s
/-! POSTS rise -/
theorem nmI_lo {f : Int → Int} {n : Nat} {lo hi p : Int} (h : 0 ≤ (nmI f n lo hi p).1) : lo ≤ (nmI f n lo hi p).1 := by
  unfold nmI at h ⊢
  by_cases c : (nmF f n p).1 < 0
  · rw [if_pos c] at h
    omega
  · rw [if_neg c] at h ⊢
    by_cases e : lo ≤ (nmF f n p).1 ∧ (nmF f n p).1 ≤ hi
    · rw [if_pos e]; exact e.1
    · rw [if_neg e] at h
      exact absurd (show (0 : Int) ≤ -1 from h) (by decide)
theorem shP_pw {f : Int → Int} {w : Int} : ∀ (n : Nat) (a p : Int), (∀ q ∈ (shP f w n a p).2, a < q.1) ∧ (shP f w n a p).2.Pairwise fun x y => x.1 < y.1
  | 0, _, _ => ⟨fun q hq => absurd hq List.not_mem_nil, List.Pairwise.nil⟩
  | n + 1, a, p => by
    unfold shP
    by_cases c : f p = 44
    · rw [if_pos c]
      have lo := nmI_lo (f := f) (n := 2) (lo := a + 1) (hi := w - 1) (p := p + 1)
      generalize nmI f 2 (a + 1) (w - 1) (p + 1) = e at lo ⊢
      by_cases d : e.1 < 0
      · rw [if_pos d]
        exact ⟨fun q hq => absurd hq List.not_mem_nil, List.Pairwise.nil⟩
      · have lo := lo (by omega)
        rw [if_neg d]
        by_cases g : f e.2 = 42
        · rw [if_pos g]
          have ih := shP_pw (f := f) (w := w) n e.1 (e.2 + 1)
          refine ⟨fun q hq => ?_, List.Pairwise.cons (fun q hq => ih.1 q hq) ih.2⟩
          rcases List.mem_cons.mp hq with rfl | hq
          · show a < e.1; omega
          · have := ih.1 q hq; omega
        · rw [if_neg g]
          have ih := shP_pw (f := f) (w := w) n e.1 e.2
          refine ⟨fun q hq => ?_, List.Pairwise.cons (fun q hq => ih.1 q hq) ih.2⟩
          rcases List.mem_cons.mp hq with rfl | hq
          · show a < e.1; omega
          · have := ih.1 q hq; omega
    · rw [if_neg c]
      exact ⟨fun q hq => absurd hq List.not_mem_nil, List.Pairwise.nil⟩
theorem shF_pw (f : Int → Int) : (shF f).2.2.Pairwise fun x y => x.1 < y.1 := by
  unfold shF
  by_cases c : 0 < (nmI f 2 2 40 0).1
  · simp only [if_pos c]
    exact (shP_pw 10 (-1) _).2
  · simp only [if_neg c]
    exact List.Pairwise.nil
theorem mpL_pw {h : aH} {n : Nat} (p : (mpL h n).Pairwise fun x y => x.1 < y.1) {i j : Nat} (hij : i < j) (hj : j < n) : gi h 173 i < gi h 173 j := by
  have l : (mpL h n).length = n := by unfold mpL; rw [List.length_map, List.length_range]
  have z := List.pairwise_iff_getElem.mp p i j (by omega) (by omega) hij
  unfold mpL at z
  rw [List.getElem_map, List.getElem_map, List.getElem_range, List.getElem_range] at z
  exact z
theorem pst_at {h : aH} {s n : Nat} (e : pstL h s n = mpL h n) {j : Nat} (hj : j < n) : gi h (s + 1) j = gi h 173 j ∧ gi h (s + 2) j = gi h 174 j := by
  have e2 : (pstL h s n)[j]? = (mpL h n)[j]? := by rw [e]
  unfold pstL mpL at e2
  rw [List.getElem?_map, List.getElem?_map, List.getElem?_range hj] at e2
  have e3 := Option.some.inj e2
  exact ⟨congrArg Prod.fst e3, congrArg Prod.snd e3⟩
theorem cntP_c {g g' f f' : Nat → Int} {c : Int} : ∀ i : Nat, (∀ j, j < i → g j = g' j ∧ f j = f' j) → cntP g c i = cntP g' c i ∧ lieP g f c i = lieP g' f' c i
  | 0, _ => ⟨rfl, rfl⟩
  | i + 1, h => by
    obtain ⟨a, b⟩ := cntP_c (c := c) i fun j hj => h j (by omega)
    obtain ⟨x, y⟩ := h i (by omega)
    constructor
    · show cntP g c i + (if g i ≤ c then 1 else 0) = cntP g' c i + (if g' i ≤ c then 1 else 0)
      rw [a, x]
    · show lieP g f c i + (if g i ≤ c ∧ f i = 1 then 1 else 0) = lieP g' f' c i + (if g' i ≤ c ∧ f' i = 1 then 1 else 0)
      rw [b, x, y]
/-- POSTS that are passed: those of the class, up to the first that isn't, are all -/
theorem com_eq {h : aH} {s : Nat} {c p : Int} (e : pstL h s p.toNat = mpL h p.toNat) (rise : ∀ i j : Nat, i < j → (j : Int) < p → gi h 173 i < gi h 173 j) {i : Nat} (hi : (i : Int) ≤ p) (hc : (i : Int) < p → c < gi h (s + 1) i) : cntP (gi h (s + 1)) c i = cntP (gi h 173) c p.toNat ∧ lieP (gi h (s + 1)) (gi h (s + 2)) c i = lieP (gi h 173) (gi h 174) c p.toNat := by
  have a := cntP_c (g := gi h (s + 1)) (g' := gi h 173) (f := gi h (s + 2)) (f' := gi h 174) (c := c) i fun j hj => pst_at e (by omega)
  have b := cntP_r (g := gi h 173) (f := gi h 174) (c := c) (i := i) p.toNat (by omega) fun j h1 h2 => by
    have z := hc (by omega)
    rw [(pst_at e (j := i) (by omega)).1] at z
    by_cases q : i = j
    · rw [← q]; exact z
    · have := rise i j (by omega) (by omega)
      omega
  exact ⟨a.1.trans b.1.symm, a.2.trans b.2.symm⟩
end
