/-! STEPS, ORDERS, FOOD (the reference), as what they make of a state -/
theorem flt_y {p : Int × Int × Int → Bool} {x : Int × Int × Int} (h : p x = true) : [x].filter p = [x] := by rw [List.filter_cons_of_pos h]; rfl
theorem flt_n {p : Int × Int × Int → Bool} {x : Int × Int × Int} (h : p x = false) : [x].filter p = [] := by rw [List.filter_cons_of_neg (by rw [h]; exact Bool.noConfusion)]; rfl
def tri (f : Nat → Int) (k : Nat) : Int × Int × Int := (f (5 + 3 * k), f (6 + 3 * k), f (7 + 3 * k))
def wlK (f : Nat → Int) (n : Nat) : List (Int × Int × Int) := (List.range n).map (tri f)
theorem wlK_s (f : Nat → Int) (n : Nat) : wlK f (n + 1) = wlK f n ++ [tri f n] := by unfold wlK; rw [List.range_succ, List.map_append]; rfl
theorem wlK_l (f : Nat → Int) (n : Nat) : (wlK f n).length = n := by unfold wlK; rw [List.length_map, List.length_range]
theorem wlK_congr {f g : Nat → Int} {n : Nat} (h : ∀ j, 5 ≤ j → j < 5 + 3 * n → f j = g j) : wlK f n = wlK g n := by
  unfold wlK
  refine List.map_congr_left fun k hk => ?_
  have := List.mem_range.mp hk
  unfold tri
  rw [h _ (by omega) (by omega), h (6 + 3 * k) (by omega) (by omega), h (7 + 3 * k) (by omega) (by omega)]
/-- orders under way -/
def wl (s : Nat → Int) : List (Int × Int × Int) := wlK s (s 3).toNat
theorem wl_RC {h : aH} {a : Nat} (hn : gi h a 3 ≤ 12) : wl (RC h a 0) = wlK (gi h a) (gi h a 3).toNat := by
  unfold wl
  rw [RC_0 (by omega)]
  exact wlK_congr fun j _ h2 => RC_0 (by omega)
/-- a state: NOW, LANE, HITS, when the last order was given, orders under way, FOOD, HUNGRY -/
abbrev WS : Type := Int × Int × Int × Int × List (Int × Int × Int) × (Nat → Int) × (Nat → Int)
def vw (s : Nat → Int) : WS := (s 0, s 1, s 2, s 4, wl s, (fun m => if m < 8 then s (41 + m) else 0), fun m => if m < 8 then s (49 + m) else 0)
theorem WS_ext {a b : WS} (h0 : a.1 = b.1) (h1 : a.2.1 = b.2.1) (h2 : a.2.2.1 = b.2.2.1) (h3 : a.2.2.2.1 = b.2.2.2.1) (h4 : a.2.2.2.2.1 = b.2.2.2.2.1) (h5 : ∀ m, a.2.2.2.2.2.1 m = b.2.2.2.2.2.1 m) (h6 : ∀ m, a.2.2.2.2.2.2 m = b.2.2.2.2.2.2 m) : a = b :=
  Prod.ext h0 (Prod.ext h1 (Prod.ext h2 (Prod.ext h3 (Prod.ext h4 (Prod.ext (funext h5) (funext h6))))))
def ptF (l : Int) (q : Int × Int × Int) : Int := max 0 (min 8 (l + q.2.1))
theorem ptF_b {l : Int} (hl : 0 ≤ l ∧ l ≤ 8) : ∀ (L : List (Int × Int × Int)), 0 ≤ L.foldl ptF l ∧ L.foldl ptF l ≤ 8
  | [] => hl
  | q :: r => ptF_b (l := ptF l q) (by unfold ptF; omega) r
def hitN (ml ln : Nat → Int) (a b : Int) : Nat → Int
  | 0 => 0
  | i + 1 => hitN ml ln a b i + if ml i = a ∧ ln i = b then 1 else 0
theorem hitN_s {ml ln : Nat → Int} {a b i : Int} (h : 0 ≤ i) : hitN ml ln a b (i + 1).toNat = hitN ml ln a b i.toNat + if ml i.toNat = a ∧ ln i.toNat = b then 1 else 0 := by rw [tn_s h]; rfl
theorem hitN_b (ml ln : Nat → Int) (a b : Int) : ∀ n : Nat, 0 ≤ hitN ml ln a b n ∧ hitN ml ln a b n ≤ n
  | 0 => ⟨Int.le_refl _, Int.le_refl _⟩
  | n + 1 => by
    have := hitN_b ml ln a b n
    show 0 ≤ hitN ml ln a b n + (if ml n = a ∧ ln n = b then 1 else 0) ∧ hitN ml ln a b n + (if ml n = a ∧ ln n = b then 1 else 0) ≤ ((n + 1 : Nat) : Int)
    split <;> omega
def fdS (f e : Int) : Int := if f < e then 0 else f - e
def huS (u f e : Int) : Int := if f < e then u + 1 else u
def hcN (f e : Nat → Int) : Nat → Int
  | 0 => 0
  | m + 1 => hcN f e m + if f m < e m then 1 else 0
theorem hcN_s {f e : Nat → Int} {i : Int} (h : 0 ≤ i) : hcN f e (i + 1).toNat = hcN f e i.toNat + if f i.toNat < e i.toNat then 1 else 0 := by rw [tn_s h]; rfl
theorem hcN_b (f e : Nat → Int) : ∀ n : Nat, 0 ≤ hcN f e n ∧ hcN f e n ≤ n
  | 0 => ⟨Int.le_refl _, Int.le_refl _⟩
  | n + 1 => by
    have := hcN_b f e n
    show 0 ≤ hcN f e n + (if f n < e n then 1 else 0) ∧ hcN f e n + (if f n < e n then 1 else 0) ≤ ((n + 1 : Nat) : Int)
    split <;> omega
/-- a STEP: the LANE, HITS in it, MESSES that are HUNGRY in it, the state behind it -/
def stL (w : WS) : Int := (w.2.2.2.2.1.filter fun q => decide (q.1 = w.1 + 1)).foldl ptF w.2.1
def stH (ml ln : Nat → Int) (nr : Nat) (w : WS) : Int := hitN ml ln (w.1 + 1) (stL w) nr
def stU (ms : Int) (ea : Nat → Int) (w : WS) : Int := hcN w.2.2.2.2.2.1 ea ms.toNat
def stW (ml ln : Nat → Int) (nr : Nat) (ms : Int) (ea : Nat → Int) (w : WS) : WS :=
  (w.1 + 1, stL w, w.2.2.1 + stH ml ln nr w, w.2.2.2.1, w.2.2.2.2.1.filter (fun q => !decide (q.1 = w.1 + 1)), (fun m => if (m : Int) < ms then fdS (w.2.2.2.2.2.1 m) (ea m) else w.2.2.2.2.2.1 m), fun m => if (m : Int) < ms then huS (w.2.2.2.2.2.2 m) (w.2.2.2.2.2.1 m) (ea m) else w.2.2.2.2.2.2 m)
theorem if_j {j : Nat} {k : Int} (hk : 0 ≤ k) (hj : j ≠ k.toNat) {A B : Int} : (if (j : Int) < k then A else B) = if (j : Int) < k + 1 then A else B := by
  by_cases z : (j : Int) < k
  · rw [if_pos z, if_pos (by omega)]
  · rw [if_neg z, if_neg (by omega)]
theorem hcN_c {f g e : Nat → Int} : ∀ (n : Nat), (∀ m, m < n → f m = g m) → hcN f e n = hcN g e n
  | 0, _ => rfl
  | n + 1, h => by
    show hcN f e n + (if f n < e n then 1 else 0) = hcN g e n + (if g n < e n then 1 else 0)
    rw [hcN_c n fun m hm => h m (by omega), h n (by omega)]
set_option maxRecDepth 4000 in
theorem ctX11_doesDueNF {SP : CT} (hSP : MONO SP) {sh : List (Nat × Nat)} {h : aH} (hG : GD gE gRL sh h) : CLd SP 4 mX11_doesDue [.ref 178] h 0 0 (fun rv h' => rv = none ∧ GD gE gRL sh h' ∧ FRM gRL [(0, 61, 1, 1), (0, 61, 3, 3), (0, 61, 5, 40)] h h' ∧ gi h' 178 1 = ((wl (RC h 178 0)).filter (fun q => decide (q.1 = gi h 178 0))).foldl ptF (gi h 178 1) ∧ wl (RC h' 178 0) = (wl (RC h 178 0)).filter (fun q => !decide (q.1 = gi h 178 0))) := by
  refine x_met _ rfl (Nat.le_of_ble_eq_true rfl) (fun K hK => ?_)
  have hmono := MONO_CLd hSP 3
  have g3 := gri 0 12 hG (a := 178) (r := 61) (k := 3) rfl rfl
  have loop : ∀ (mz : Nat) (d k : Int) (h4 : aH) (ls : List (Nat × Value)), ((gi h 178 3 - k).toNat = mz) → (0 ≤ k ∧ k ≤ gi h 178 3) → (0 ≤ d ∧ d ≤ k) → (gi h4 178 3 = gi h 178 3) → (wlK (gi h4 178) d.toNat = (wlK (gi h 178) k.toNat).filter (fun q => !decide (q.1 = gi h 178 0))) → (∀ j : Nat, 5 + 3 * k ≤ j → gi h4 178 j = gi h 178 j) → (gi h4 178 1 = ((wlK (gi h 178) k.toNat).filter (fun q => decide (q.1 = gi h 178 0))).foldl ptF (gi h 178 1)) → lk ls 0 = some (.ref 178) → lk ls 1 = some (.int (I d)) → lk ls 2 = some (.int (I k)) → GD gE gRL sh h4 → FRM gRL [(0, 61, 1, 1), (0, 61, 3, 3), (0, 61, 5, 40)] h h4 → K 4 ls [] h4 0 0 := by
    intro mz
    induction mz using Nat.strongRecOn with
    | ind mz ih =>
    intro d k h4 ls hm k0 d0 c3 wq ot la l0 l1 l2 hG4 hF4
    have wr : k < 12 → -1 ≤ gi h 178 ((5 + (3 * k)) + 1).toNat ∧ gi h 178 ((5 + (3 * k)) + 1).toNat ≤ 1 := fun z => by rw [show ((5 + (3 * k)) + 1).toNat = 6 + 3 * k.toNat by omega]; exact what_r hG (r := 61) rfl rfl (by omega)
    have g1 := gri 0 8 hG4 (a := 178) (r := 61) (k := 1) rfl rfl
    have ts : tri (gi h 178) k.toNat = (gi h 178 ((5 + (3 * k)) + 0).toNat, gi h 178 ((5 + (3 * k)) + 1).toNat, gi h 178 ((5 + (3 * k)) + 2).toNat) := by unfold tri; rw [show 5 + 3 * k.toNat = ((5 + (3 * k)) + 0).toNat by omega, show 6 + 3 * k.toNat = ((5 + (3 * k)) + 1).toNat by omega, show 7 + 3 * k.toNat = ((5 + (3 * k)) + 2).toNat by omega]
    have wl1 : wlK (gi h 178) (k + 1).toNat = (wlK (gi h 178) k.toNat) ++ [tri (gi h 178) k.toNat] := by rw [tn_s k0.1]; exact wlK_s _ _
    refine x_iload_n 5 hK rfl rfl l2 ?_
    refine x_aload_n 6 hK rfl rfl l0 ?_
    refine x_iconst 7 hK rfl rfl ?_
    have g122 := gri (0) (12) hG (a := 178) (r := 61) (k := 3) rfl rfl
    refine x_ialoadE 8 hK rfl rfl (sp_178 (h := h4) hG4) (by omega) (by omega) (by omega) (e' := (gi h 178 3)) (c3) ?_
    refine x_if_icmp_ge 86 11 hK rfl rfl rfl (by omega) (by omega) (fun c5 => ?_) (fun c5 => ?_)
    · refine x_aload_n 87 hK rfl rfl l0 ?_
      refine x_iconst 88 hK rfl rfl ?_
      refine x_iload_n 89 hK rfl rfl l1 ?_
      refine x_iastore 90 hK rfl rfl (sp_178 (h := h4) hG4) (by omega) (by omega) (by omega) ?_
      obtain rfl : k = gi h 178 3 := by omega
      have e3 : gi (wI h4 178 3 d) 178 3 = d := gi_same (by omega)
      have ew : wl (RC (wI h4 178 3 d) 178 0) = (wl (RC h 178 0)).filter (fun q => !decide (q.1 = gi h 178 0)) := by
        rw [wl_RC (by omega), wl_RC (by omega), e3, ← wq]
        exact wlK_congr fun j z1 z2 => gi_k (by omega) _
      exact x_vret hK rfl ⟨rfl, GD_st (hG4) (r := 61) rfl rfl (fun z => by omega) (fun z => by omega) (fun j hj z => by omega), FRM_w (hF4) (r := 61) rfl rfl, by rw [wl_RC (by omega), ← la]; exact gi_k (by decide) _, ew⟩
    · refine x_iconst 12 hK rfl rfl ?_
      refine x_iconst 13 hK rfl rfl ?_
      refine x_iload_n 14 hK rfl rfl l2 ?_
      refine x_imul 15 hK rfl rfl ?_
      refine x_iadd 16 hK rfl rfl ?_
      refine x_istore_n 17 hK rfl rfl _ rfl ?_
      refine x_aload_n 18 hK rfl rfl (lk1_n l0 (by decide) (Or.inl rfl)) ?_
      refine x_iload_n 19 hK rfl rfl lk1_s ?_
      refine x_iconst 20 hK rfl rfl ?_
      refine x_iadd 21 hK rfl rfl ?_
      have g123 := gi_r h 178 ((5 + (3 * k)) + 0).toNat
      refine x_ialoadE 22 hK rfl rfl (sp_178 (h := h4) hG4) (by omega) (by omega) (by omega) (e' := (gi h 178 ((5 + (3 * k)) + 0).toNat)) ((ot _ (by omega))) ?_
      refine x_aload_n 23 hK rfl rfl (lk1_n l0 (by decide) (Or.inl rfl)) ?_
      refine x_iconst 24 hK rfl rfl ?_
      have g124 := gi_r h 178 0
      refine x_ialoadE 25 hK rfl rfl (sp_178 (h := h4) hG4) (by omega) (by omega) (by omega) (e' := (gi h 178 0)) (FRM_gi hF4 (r := 61) rfl rfl) ?_
      refine x_if_icmp_ne 46 28 hK rfl rfl rfl (by omega) (by omega) (fun c25 => ?_) (fun c25 => ?_)
      · refine x_iconst 47 hK rfl rfl ?_
        refine x_istore 49 hK rfl rfl _ rfl ?_
        refine x_iload 51 hK rfl rfl lk1_s ?_
        refine x_iconst 52 hK rfl rfl ?_
        refine x_if_icmp_ge 77 55 hK rfl rfl rfl (by omega) (by omega) (fun c => by omega) (fun _ => ?_)
        refine x_aload_n 56 hK rfl rfl (lk1_n (lk1_n l0 (by decide) (Or.inl rfl)) (by decide) (Or.inl rfl)) ?_
        refine x_iconst 57 hK rfl rfl ?_
        refine x_iconst 58 hK rfl rfl ?_
        refine x_iload_n 59 hK rfl rfl (lk1_n (lk1_n l1 (by decide) (Or.inl rfl)) (by decide) (Or.inl rfl)) ?_
        refine x_imul 60 hK rfl rfl ?_
        refine x_iadd 61 hK rfl rfl ?_
        refine x_iload 63 hK rfl rfl lk1_s ?_
        refine x_iadd 64 hK rfl rfl ?_
        refine x_aload_n 65 hK rfl rfl (lk1_n (lk1_n l0 (by decide) (Or.inl rfl)) (by decide) (Or.inl rfl)) ?_
        refine x_iload_n 66 hK rfl rfl (lk1_n lk1_s (by decide) (Or.inl rfl)) ?_
        refine x_iload 68 hK rfl rfl lk1_s ?_
        refine x_iadd 69 hK rfl rfl ?_
        refine x_ialoadE 70 hK rfl rfl (sp_178 (h := h4) hG4) (by omega) (by omega) (by omega) (e' := (gi h 178 ((5 + (3 * k)) + 0).toNat)) ((ot _ (by omega))) ?_
        refine x_iastore 71 hK rfl rfl (sp_178 (h := h4) hG4) (by omega) (by omega) (by omega) ?_
        refine x_iinc 74 hK rfl rfl lk1_s _ rfl ?_
        refine x_goto 49 hK rfl rfl ?_
        refine x_iload 51 hK rfl rfl lk1_s ?_
        refine x_iconst 52 hK rfl rfl ?_
        refine x_if_icmp_ge 77 55 hK rfl rfl rfl (by omega) (by omega) (fun c => by omega) (fun _ => ?_)
        refine x_aload_n 56 hK rfl rfl (lk1_n (lk1_n (lk1_n l0 (by decide) (Or.inl rfl)) (by decide) (Or.inl rfl)) (by decide) (Or.inl rfl)) ?_
        refine x_iconst 57 hK rfl rfl ?_
        refine x_iconst 58 hK rfl rfl ?_
        refine x_iload_n 59 hK rfl rfl (lk1_n (lk1_n (lk1_n l1 (by decide) (Or.inl rfl)) (by decide) (Or.inl rfl)) (by decide) (Or.inl rfl)) ?_
        refine x_imul 60 hK rfl rfl ?_
        refine x_iadd 61 hK rfl rfl ?_
        refine x_iload 63 hK rfl rfl lk1_s ?_
        refine x_iadd 64 hK rfl rfl ?_
        refine x_aload_n 65 hK rfl rfl (lk1_n (lk1_n (lk1_n l0 (by decide) (Or.inl rfl)) (by decide) (Or.inl rfl)) (by decide) (Or.inl rfl)) ?_
        refine x_iload_n 66 hK rfl rfl (lk1_n (lk1_n lk1_s (by decide) (Or.inl rfl)) (by decide) (Or.inl rfl)) ?_
        refine x_iload 68 hK rfl rfl lk1_s ?_
        refine x_iadd 69 hK rfl rfl ?_
        have g125 := gi_r h 178 ((5 + (3 * k)) + 1).toNat
        refine x_ialoadE 70 hK rfl rfl (sp_178 (h := h4) hG4) (by omega) (by omega) (by omega) (e' := (gi h 178 ((5 + (3 * k)) + 1).toNat)) ((gi_k (by omega) _).trans ((ot _ (by omega)))) ?_
        refine x_iastore 71 hK rfl rfl (sp_178 (h := h4) hG4) (by omega) (by omega) (by omega) ?_
        refine x_iinc 74 hK rfl rfl lk1_s _ rfl ?_
        refine x_goto 49 hK rfl rfl ?_
        refine x_iload 51 hK rfl rfl lk1_s ?_
        refine x_iconst 52 hK rfl rfl ?_
        refine x_if_icmp_ge 77 55 hK rfl rfl rfl (by omega) (by omega) (fun c => by omega) (fun _ => ?_)
        refine x_aload_n 56 hK rfl rfl (lk1_n (lk1_n (lk1_n (lk1_n l0 (by decide) (Or.inl rfl)) (by decide) (Or.inl rfl)) (by decide) (Or.inl rfl)) (by decide) (Or.inl rfl)) ?_
        refine x_iconst 57 hK rfl rfl ?_
        refine x_iconst 58 hK rfl rfl ?_
        refine x_iload_n 59 hK rfl rfl (lk1_n (lk1_n (lk1_n (lk1_n l1 (by decide) (Or.inl rfl)) (by decide) (Or.inl rfl)) (by decide) (Or.inl rfl)) (by decide) (Or.inl rfl)) ?_
        refine x_imul 60 hK rfl rfl ?_
        refine x_iadd 61 hK rfl rfl ?_
        refine x_iload 63 hK rfl rfl lk1_s ?_
        refine x_iadd 64 hK rfl rfl ?_
        refine x_aload_n 65 hK rfl rfl (lk1_n (lk1_n (lk1_n (lk1_n l0 (by decide) (Or.inl rfl)) (by decide) (Or.inl rfl)) (by decide) (Or.inl rfl)) (by decide) (Or.inl rfl)) ?_
        refine x_iload_n 66 hK rfl rfl (lk1_n (lk1_n (lk1_n lk1_s (by decide) (Or.inl rfl)) (by decide) (Or.inl rfl)) (by decide) (Or.inl rfl)) ?_
        refine x_iload 68 hK rfl rfl lk1_s ?_
        refine x_iadd 69 hK rfl rfl ?_
        have g126 := gi_r h 178 ((5 + (3 * k)) + 2).toNat
        refine x_ialoadE 70 hK rfl rfl (sp_178 (h := h4) hG4) (by omega) (by omega) (by omega) (e' := (gi h 178 ((5 + (3 * k)) + 2).toNat)) ((gi_k (by omega) _).trans ((gi_k (by omega) _).trans ((ot _ (by omega))))) ?_
        refine x_iastore 71 hK rfl rfl (sp_178 (h := h4) hG4) (by omega) (by omega) (by omega) ?_
        refine x_iinc 74 hK rfl rfl lk1_s _ rfl ?_
        refine x_goto 49 hK rfl rfl ?_
        refine x_iload 51 hK rfl rfl lk1_s ?_
        refine x_iconst 52 hK rfl rfl ?_
        refine x_if_icmp_ge 77 55 hK rfl rfl rfl (by omega) (by omega) (fun _ => ?_) (fun c => by omega)
        refine x_iinc 80 hK rfl rfl (lk1_n (lk1_n (lk1_n (lk1_n (lk1_n l1 (by decide) (Or.inl rfl)) (by decide) (Or.inl rfl)) (by decide) (Or.inl rfl)) (by decide) (Or.inl rfl)) (by decide) (Or.inl rfl)) _ rfl ?_
        refine x_iinc 83 hK rfl rfl (lk1_n (lk1_n (lk1_n (lk1_n (lk1_n (lk1_n l2 (by decide) (Or.inl rfl)) (by decide) (Or.inl rfl)) (by decide) (Or.inl rfl)) (by decide) (Or.inl rfl)) (by decide) (Or.inl rfl)) (by decide) (Or.inl rfl)) _ rfl ?_
        refine x_goto 4 hK rfl rfl ?_
        change K 4 _ _ (wI (wI (wI h4 178 ((5 + (3 * d)) + 0).toNat (gi h 178 ((5 + (3 * k)) + 0).toNat)) 178 ((5 + (3 * d)) + 1).toNat (gi h 178 ((5 + (3 * k)) + 1).toNat)) 178 ((5 + (3 * d)) + 2).toNat (gi h 178 ((5 + (3 * k)) + 2).toNat)) _ _
        have due : ¬ gi h 178 ((5 + (3 * k)) + 0).toNat = gi h 178 0 := by omega
        have t0 : gi (wI (wI (wI h4 178 ((5 + (3 * d)) + 0).toNat (gi h 178 ((5 + (3 * k)) + 0).toNat)) 178 ((5 + (3 * d)) + 1).toNat (gi h 178 ((5 + (3 * k)) + 1).toNat)) 178 ((5 + (3 * d)) + 2).toNat (gi h 178 ((5 + (3 * k)) + 2).toNat)) 178 ((5 + (3 * d)) + 0).toNat = (gi h 178 ((5 + (3 * k)) + 0).toNat) := (gi_k (by omega) _).trans ((gi_k (by omega) _).trans (gi_same (by omega)))
        have t1 : gi (wI (wI (wI h4 178 ((5 + (3 * d)) + 0).toNat (gi h 178 ((5 + (3 * k)) + 0).toNat)) 178 ((5 + (3 * d)) + 1).toNat (gi h 178 ((5 + (3 * k)) + 1).toNat)) 178 ((5 + (3 * d)) + 2).toNat (gi h 178 ((5 + (3 * k)) + 2).toNat)) 178 ((5 + (3 * d)) + 1).toNat = (gi h 178 ((5 + (3 * k)) + 1).toNat) := (gi_k (by omega) _).trans (gi_same (by omega))
        have t2 : gi (wI (wI (wI h4 178 ((5 + (3 * d)) + 0).toNat (gi h 178 ((5 + (3 * k)) + 0).toNat)) 178 ((5 + (3 * d)) + 1).toNat (gi h 178 ((5 + (3 * k)) + 1).toNat)) 178 ((5 + (3 * d)) + 2).toNat (gi h 178 ((5 + (3 * k)) + 2).toNat)) 178 ((5 + (3 * d)) + 2).toNat = (gi h 178 ((5 + (3 * k)) + 2).toNat) := gi_same (by omega)
        have tq : tri (gi (wI (wI (wI h4 178 ((5 + (3 * d)) + 0).toNat (gi h 178 ((5 + (3 * k)) + 0).toNat)) 178 ((5 + (3 * d)) + 1).toNat (gi h 178 ((5 + (3 * k)) + 1).toNat)) 178 ((5 + (3 * d)) + 2).toNat (gi h 178 ((5 + (3 * k)) + 2).toNat)) 178) d.toNat = (gi h 178 ((5 + (3 * k)) + 0).toNat, gi h 178 ((5 + (3 * k)) + 1).toNat, gi h 178 ((5 + (3 * k)) + 2).toNat) := by unfold tri; rw [show 5 + 3 * d.toNat = ((5 + (3 * d)) + 0).toNat by omega, show 6 + 3 * d.toNat = ((5 + (3 * d)) + 1).toNat by omega, show 7 + 3 * d.toNat = ((5 + (3 * d)) + 2).toNat by omega, t0, t1, t2]
        exact ih _ (by omega) (d + 1) (k + 1) _ _ rfl (by omega) (by omega) ((gi_k (by omega) _).trans ((gi_k (by omega) _).trans ((gi_k (by omega) _).trans c3))) (by rw [wl1, List.filter_append, show [tri (gi h 178) k.toNat].filter (fun q => !decide (q.1 = gi h 178 0)) = [tri (gi h 178) k.toNat] from flt_y (by rw [ts]; show (!decide (gi h 178 ((5 + (3 * k)) + 0).toNat = gi h 178 0)) = true; rw [decide_eq_false due]; rfl), ← wq, tn_s d0.1, wlK_s, tq, ← ts]; congr 1; exact wlK_congr fun j z1 z2 => (gi_k (by omega) _).trans ((gi_k (by omega) _).trans (gi_k (by omega) _))) ((fun j hj => (gi_k (by omega) _).trans ((gi_k (by omega) _).trans ((gi_k (by omega) _).trans (ot j (by omega)))))) (by rw [wl1, List.filter_append, show [tri (gi h 178) k.toNat].filter (fun q => decide (q.1 = gi h 178 0)) = [] from flt_n (by rw [ts]; exact decide_eq_false due), List.append_nil, ← la]; exact (gi_k (by omega) _).trans ((gi_k (by omega) _).trans (gi_k (by omega) _))) (lk1_n (lk1_n (lk1_n (lk1_n (lk1_n (lk1_n (lk1_n l0 (by decide) (Or.inl rfl)) (by decide) (Or.inl rfl)) (by decide) (Or.inl rfl)) (by decide) (Or.inl rfl)) (by decide) (Or.inl rfl)) (by decide) (Or.inl rfl)) (by decide) (Or.inl rfl)) (lk1_n lk1_s (by decide) (Or.inl rfl)) lk1_s (GD_st (GD_st (GD_st (hG4) (r := 61) rfl rfl (fun z => by omega) (fun z => by omega) (fun j hj z => by omega)) (r := 61) rfl rfl (fun z => by omega) (fun z => by omega) (fun j hj z => by omega)) (r := 61) rfl rfl (fun z => by omega) (fun z => by omega) (fun j hj z => by omega)) (FRM_wn 5 40 (FRM_wn 5 40 (FRM_wn 5 40 (hF4) (r := 61) rfl rfl rfl (by omega) (by omega)) (r := 61) rfl rfl rfl (by omega) (by omega)) (r := 61) rfl rfl rfl (by omega) (by omega))
      · refine x_aload_n 29 hK rfl rfl (lk1_n l0 (by decide) (Or.inl rfl)) ?_
        refine x_iconst 30 hK rfl rfl ?_
        refine x_aload_n 31 hK rfl rfl (lk1_n l0 (by decide) (Or.inl rfl)) ?_
        refine x_iconst 32 hK rfl rfl ?_
        have g127 := gri (0) (8) hG4 (a := 178) (r := 61) (k := 1) rfl rfl
        refine x_ialoadE 33 hK rfl rfl (sp_178 (h := h4) hG4) (by omega) (by omega) (by omega) (e' := (gi h4 178 1)) (rfl) ?_
        refine x_aload_n 34 hK rfl rfl (lk1_n l0 (by decide) (Or.inl rfl)) ?_
        refine x_iload_n 35 hK rfl rfl lk1_s ?_
        refine x_iconst 36 hK rfl rfl ?_
        refine x_iadd 37 hK rfl rfl ?_
        have g128 := gi_r h 178 ((5 + (3 * k)) + 1).toNat
        refine x_ialoadE 38 hK rfl rfl (sp_178 (h := h4) hG4) (by omega) (by omega) (by omega) (e' := (gi h 178 ((5 + (3 * k)) + 1).toNat)) ((ot _ (by omega))) ?_
        refine x_iadd 39 hK rfl rfl ?_
        refine x_callS 42 hK hmono rfl (Or.inl rfl) rfl [.int (I ((gi h4 178 1) + (gi h 178 ((5 + (3 * k)) + 1).toNat)))] [.int (I 1), .ref 178] rfl rfl (Nat.le_of_ble_eq_true rfl) (Nat.le_of_ble_eq_true rfl) (CLd_le (Nat.le_of_ble_eq_true rfl) (ctX11_put hSP (by omega))) ?_
        rintro v9 h9 ⟨e9, rfl⟩
        rw [e9]
        clear e9
        refine x_iastore 43 hK rfl rfl (sp_178 (h := h4) hG4) (by omega) (by omega) (by omega) ?_
        refine x_goto 80 hK rfl rfl ?_
        refine x_iinc 83 hK rfl rfl (lk1_n l2 (by decide) (Or.inl rfl)) _ rfl ?_
        refine x_goto 4 hK rfl rfl ?_
        have due : gi h 178 ((5 + (3 * k)) + 0).toNat = gi h 178 0 := by omega
        exact ih _ (by omega) d (k + 1) _ _ rfl (by omega) (by omega) ((gi_k (by decide) _).trans c3) (by rw [wl1, List.filter_append, show [tri (gi h 178) k.toNat].filter (fun q => !decide (q.1 = gi h 178 0)) = [] from flt_n (by rw [ts]; show (!decide (gi h 178 ((5 + (3 * k)) + 0).toNat = gi h 178 0)) = false; rw [decide_eq_true due]; rfl), List.append_nil, ← wq]; exact wlK_congr fun j z1 _ => gi_k (by omega) _) ((fun j hj => (gi_k (by omega) _).trans (ot j (by omega)))) (by rw [wl1, List.filter_append, List.foldl_append, show [tri (gi h 178) k.toNat].filter (fun q => decide (q.1 = gi h 178 0)) = [tri (gi h 178) k.toNat] from flt_y (by rw [ts]; exact decide_eq_true due), ← la, ts]; exact gi_same (by omega)) (lk1_n (lk1_n l0 (by decide) (Or.inl rfl)) (by decide) (Or.inl rfl)) (lk1_n (lk1_n l1 (by decide) (Or.inl rfl)) (by decide) (Or.inl rfl)) lk1_s (GD_st (hG4) (r := 61) rfl rfl (fun z => by omega) (fun z => by omega) (fun j hj z => by omega)) (FRM_w (hF4) (r := 61) rfl rfl)
  refine x_iconst 1 hK rfl rfl ?_
  refine x_istore_n 2 hK rfl rfl [(1, .int (I 0)), (0, .ref 178)] rfl ?_
  refine x_iconst 3 hK rfl rfl ?_
  refine x_istore_n 4 hK rfl rfl [(2, .int (I 0)), (1, .int (I 0)), (0, .ref 178)] rfl ?_
  exact loop _ 0 0 _ _ rfl (by omega) (by omega) (rfl) (rfl) ((fun _ _ => rfl)) (rfl) rfl rfl rfl (hG) ((FRM.rf : FRM gRL [(0, 61, 1, 1), (0, 61, 3, 3), (0, 61, 5, 40)] h h))
set_option maxRecDepth 4000 in
theorem ctX11_hitsAtF {SP : CT} (hSP : MONO SP) {sh : List (Nat × Nat)} {h : aH} (hG : GD gE gRL sh h) {a b : Int} (ra : r32 a) (rb : r32 b) : CLd SP 2 mX11_hitsAt [.ref 171, .int (I a), .int (I b)] h 0 0 (fun rv h' => h' = h ∧ rv = some (.int (I (hitN (gi h 175) (gi h 176) a b (gi h 171 6).toNat)))) := by
  refine x_met _ rfl (Nat.le_of_ble_eq_true rfl) (fun K hK => ?_)
  have hmono := MONO_CLd hSP 1
  have loop : ∀ (mz : Nat) (e i : Int) (ls : List (Nat × Value)), ((gi h 171 6 - i).toNat = mz) → (0 ≤ i ∧ i ≤ gi h 171 6) → (e = hitN (gi h 175) (gi h 176) a b i.toNat) → lk ls 0 = some (.ref 171) → lk ls 1 = some (.int (I a)) → lk ls 2 = some (.int (I b)) → lk ls 3 = some (.int (I e)) → lk ls 4 = some (.int (I i)) → K 5 ls [] h 0 0 := by
    intro mz
    induction mz using Nat.strongRecOn with
    | ind mz ih =>
    intro e i ls hm i0 ee l0 l1 l2 l3 l4
    have g6 := gri 0 16 hG (a := 171) (r := 54) (k := 6) rfl rfl
    have hb := hitN_b (gi h 175) (gi h 176) a b i.toNat
    refine x_iload 7 hK rfl rfl l4 ?_
    refine x_aload_n 8 hK rfl rfl l0 ?_
    have g138 := gri (0) (16) hG (a := 171) (r := 54) (k := 6) rfl rfl
    refine x_getE 11 hK rfl (Or.inl rfl) rfl (sp_171 (h := h) hG) (e := (gi h 171 6)) (rfl) ?_
    refine x_if_icmp_ge 53 14 hK rfl rfl rfl (by omega) (by omega) (fun c4 => ?_) (fun c4 => ?_)
    · refine x_iload_n 54 hK rfl rfl l3 ?_
      exact x_iret hK rfl ⟨rfl, by rw [ee, show i = gi h 171 6 by omega]⟩
    · refine x_iload_n 15 hK rfl rfl l3 ?_
      refine x_aload_n 16 hK rfl rfl l0 ?_
      refine x_getR 19 hK rfl rfl (sp_171 (h := h) hG) (rf_171_11 (h := h) hG) ?_
      refine x_iload 21 hK rfl rfl l4 ?_
      have g139 := grn (0) (999) hG (a := 175) (r := 58) (k := i.toNat) rfl rfl (by omega)
      refine x_ialoadE 22 hK rfl rfl (sp_175 (h := h) hG) (by omega) (by omega) (by omega) (e' := (gi h 175 i.toNat)) (rfl) ?_
      refine x_iload_n 23 hK rfl rfl l1 ?_
      refine x_if_icmp_ne 41 26 hK rfl rfl rfl (by omega) (by omega) (fun c13 => ?_) (fun c13 => ?_)
      · refine x_iconst 42 hK rfl rfl ?_
        refine x_callS 45 hK hmono rfl (Or.inl rfl) rfl [.int (I 0)] [.int (I e)] rfl rfl (Nat.le_of_ble_eq_true rfl) (Nat.le_of_ble_eq_true rfl) (CLd_le (Nat.le_of_ble_eq_true rfl) (ctX11_flag (by omega))) ?_
        rintro v9 h9 ⟨e9, rfl⟩
        rw [e9]
        clear e9
        refine x_iadd 46 hK rfl rfl ?_
        refine x_istore_n 47 hK rfl rfl _ rfl ?_
        refine x_iinc 50 hK rfl rfl (lk1_n l4 (by decide) (Or.inl rfl)) _ rfl ?_
        refine x_goto 5 hK rfl rfl ?_
        exact ih _ (by omega) (e + 0) (i + 1) _ rfl (by omega) (by rw [hitN_s i0.1, ← ee]; first | rw [if_pos (by omega)] | rw [if_neg (by omega)]) (lk1_n (lk1_n l0 (by decide) (Or.inl rfl)) (by decide) (Or.inl rfl)) (lk1_n (lk1_n l1 (by decide) (Or.inl rfl)) (by decide) (Or.inl rfl)) (lk1_n (lk1_n l2 (by decide) (Or.inl rfl)) (by decide) (Or.inl rfl)) (lk1_n lk1_s (by decide) (Or.inl rfl)) lk1_s
      · refine x_aload_n 27 hK rfl rfl l0 ?_
        refine x_getR 30 hK rfl rfl (sp_171 (h := h) hG) (rf_171_12 (h := h) hG) ?_
        refine x_iload 32 hK rfl rfl l4 ?_
        have g141 := gi_r h 176 i.toNat
        refine x_ialoadE 33 hK rfl rfl (sp_176 (h := h) hG) (by omega) (by omega) (by omega) (e' := (gi h 176 i.toNat)) (rfl) ?_
        refine x_iload_n 34 hK rfl rfl l2 ?_
        refine x_if_icmp_ne 41 37 hK rfl rfl rfl (by omega) (by omega) (fun c26 => ?_) (fun c26 => ?_)
        · refine x_iconst 42 hK rfl rfl ?_
          refine x_callS 45 hK hmono rfl (Or.inl rfl) rfl [.int (I 0)] [.int (I e)] rfl rfl (Nat.le_of_ble_eq_true rfl) (Nat.le_of_ble_eq_true rfl) (CLd_le (Nat.le_of_ble_eq_true rfl) (ctX11_flag (by omega))) ?_
          rintro v9 h9 ⟨e9, rfl⟩
          rw [e9]
          clear e9
          refine x_iadd 46 hK rfl rfl ?_
          refine x_istore_n 47 hK rfl rfl _ rfl ?_
          refine x_iinc 50 hK rfl rfl (lk1_n l4 (by decide) (Or.inl rfl)) _ rfl ?_
          refine x_goto 5 hK rfl rfl ?_
          exact ih _ (by omega) (e + 0) (i + 1) _ rfl (by omega) (by rw [hitN_s i0.1, ← ee]; first | rw [if_pos (by omega)] | rw [if_neg (by omega)]) (lk1_n (lk1_n l0 (by decide) (Or.inl rfl)) (by decide) (Or.inl rfl)) (lk1_n (lk1_n l1 (by decide) (Or.inl rfl)) (by decide) (Or.inl rfl)) (lk1_n (lk1_n l2 (by decide) (Or.inl rfl)) (by decide) (Or.inl rfl)) (lk1_n lk1_s (by decide) (Or.inl rfl)) lk1_s
        · refine x_iconst 38 hK rfl rfl ?_
          refine x_goto 42 hK rfl rfl ?_
          refine x_callS 45 hK hmono rfl (Or.inl rfl) rfl [.int (I 1)] [.int (I e)] rfl rfl (Nat.le_of_ble_eq_true rfl) (Nat.le_of_ble_eq_true rfl) (CLd_le (Nat.le_of_ble_eq_true rfl) (ctX11_flag (by omega))) ?_
          rintro v9 h9 ⟨e9, rfl⟩
          rw [e9]
          clear e9
          refine x_iadd 46 hK rfl rfl ?_
          refine x_istore_n 47 hK rfl rfl _ rfl ?_
          refine x_iinc 50 hK rfl rfl (lk1_n l4 (by decide) (Or.inl rfl)) _ rfl ?_
          refine x_goto 5 hK rfl rfl ?_
          exact ih _ (by omega) (e + 1) (i + 1) _ rfl (by omega) (by rw [hitN_s i0.1, ← ee]; first | rw [if_pos (by omega)] | rw [if_neg (by omega)]) (lk1_n (lk1_n l0 (by decide) (Or.inl rfl)) (by decide) (Or.inl rfl)) (lk1_n (lk1_n l1 (by decide) (Or.inl rfl)) (by decide) (Or.inl rfl)) (lk1_n (lk1_n l2 (by decide) (Or.inl rfl)) (by decide) (Or.inl rfl)) (lk1_n lk1_s (by decide) (Or.inl rfl)) lk1_s
  refine x_iconst 1 hK rfl rfl ?_
  refine x_istore_n 2 hK rfl rfl [(3, .int (I 0)), (0, .ref 171), (1, .int (I a)), (2, .int (I b))] rfl ?_
  refine x_iconst 3 hK rfl rfl ?_
  refine x_istore 5 hK rfl rfl [(4, .int (I 0)), (3, .int (I 0)), (0, .ref 171), (1, .int (I a)), (2, .int (I b))] rfl ?_
  have g6 := gri 0 16 hG (a := 171) (r := 54) (k := 6) rfl rfl
  exact loop _ 0 0 _ rfl (by omega) (rfl) rfl rfl rfl rfl rfl
theorem mh_178 {k : Nat} (hk : 41 ≤ k) : mHas [(0, 61, 1, 1), (0, 61, 3, 3), (0, 61, 5, 40)] 0 61 k = false := by
  refine mHas_no ?_
  have e : ∀ x y : Nat, y ≤ 40 → (Nat.ble x k && Nat.ble k y) = false := fun x y hy => by
    have : Nat.ble k y = false := by
      cases c : Nat.ble k y
      · rfl
      · have := Nat.le_of_ble_eq_true c; omega
    rw [this, Bool.and_false]
  simp only [List.all_cons, List.all_nil, Bool.and_true, Bool.and_assoc, e _ 1 (by omega), e _ 3 (by omega), e _ 40 (by omega), Bool.and_false, Bool.not_false]
set_option maxRecDepth 4000 in
theorem ctX11_stepGoesNF {SP : CT} (hSP : MONO SP) {sh : List (Nat × Nat)} {h : aH} (hG : GD gE gRL sh h) {b : Int} (wb : WB b (RC h 178 0)) (hb : b ≤ 1000000) (h31 : 0 ≤ gi h 171 31 ∧ gi h 171 31 ≤ 1000000000) (h32 : 0 ≤ gi h 171 32 ∧ gi h 171 32 ≤ 1000000000) : CLd SP 5 mX11_stepGoes [.ref 171, .ref 178] h 0 0 (fun rv h' => rv = none ∧ GD gE gRL sh h' ∧ FRM gRL [(0, 54, 31, 32), (0, 61, 0, 56)] h h' ∧ vw (RC h' 178 0) = stW (gi h 175) (gi h 176) (gi h 171 6).toNat (gi h 171 7) (gi h 177) (vw (RC h 178 0)) ∧ gi h' 171 31 = gi h 171 31 + stH (gi h 175) (gi h 176) (gi h 171 6).toNat (vw (RC h 178 0)) ∧ gi h' 171 32 = gi h 171 32 + stU (gi h 171 7) (gi h 177) (vw (RC h 178 0)) ∧ WB (b + 1) (RC h' 178 0)) := by
  refine x_met _ rfl (Nat.le_of_ble_eq_true rfl) (fun K hK => ?_)
  have hmono := MONO_CLd hSP 4
  have g3 := gri 0 12 hG (a := 178) (r := 61) (k := 3) rfl rfl
  have g7 := gri 0 8 hG (a := 171) (r := 54) (k := 7) rfl rfl
  have g6 := gri 0 16 hG (a := 171) (r := 54) (k := 6) rfl rfl
  obtain ⟨w0, w1, w2, w3, w4, w5⟩ := wb
  rw [RC_0 (by omega)] at w0 w1 w2 w3 w4
  have w6 : ∀ m, m < 8 → (0 ≤ gi h 178 (41 + m) ∧ gi h 178 (41 + m) ≤ 99) ∧ 0 ≤ gi h 178 (49 + m) ∧ gi h 178 (49 + m) ≤ b := fun m hm => by have := w5 m hm; rw [RC_0 (by omega), RC_0 (by omega)] at this; exact this
  have hH := hitN_b (gi h 175) (gi h 176) (gi h 178 0 + 1) (stL (vw (RC h 178 0))) (gi h 171 6).toNat
  have eH : stH (gi h 175) (gi h 176) (gi h 171 6).toNat (vw (RC h 178 0)) = hitN (gi h 175) (gi h 176) (gi h 178 0 + 1) (stL (vw (RC h 178 0))) (gi h 171 6).toNat := by show hitN _ _ (RC h 178 0 0 + 1) _ _ = _; rw [RC_0 (by omega)]
  have eL : stL (vw (RC h 178 0)) = ((wl (RC h 178 0)).filter fun q => decide (q.1 = gi h 178 0 + 1)).foldl ptF (gi h 178 1) := by show ((wl (RC h 178 0)).filter fun z => decide (z.1 = RC h 178 0 0 + 1)).foldl ptF (RC h 178 0 1) = _; rw [RC_0 (by omega), RC_0 (by omega)]
  have lb : 0 ≤ stL (vw (RC h 178 0)) ∧ stL (vw (RC h 178 0)) ≤ 8 := by rw [eL]; exact ptF_b w1 _
  have loop : ∀ (mz : Nat) (k : Int) (h4 : aH) (ls : List (Nat × Value)), ((gi h 171 7 - k).toNat = mz) → (0 ≤ k ∧ k ≤ gi h 171 7) → (gi h4 178 0 = gi h 178 0 + 1) → (gi h4 178 1 = stL (vw (RC h 178 0))) → (gi h4 178 2 = gi h 178 2 + stH (gi h 175) (gi h 176) (gi h 171 6).toNat (vw (RC h 178 0))) → (gi h4 178 4 = gi h 178 4) → (wl (RC h4 178 0) = (wl (RC h 178 0)).filter (fun z => !decide (z.1 = gi h 178 0 + 1))) → (∀ j : Nat, j < 8 → gi h4 178 (41 + j) = (if (j : Int) < k then fdS (gi h 178 (41 + j)) (gi h 177 j) else gi h 178 (41 + j)) ∧ gi h4 178 (49 + j) = (if (j : Int) < k then huS (gi h 178 (49 + j)) (gi h 178 (41 + j)) (gi h 177 j) else gi h 178 (49 + j))) → (gi h4 171 31 = gi h 171 31 + stH (gi h 175) (gi h 176) (gi h 171 6).toNat (vw (RC h 178 0))) → (gi h4 171 32 = gi h 171 32 + hcN (fun j => gi h 178 (41 + j)) (gi h 177) k.toNat) → lk ls 0 = some (.ref 171) → lk ls 1 = some (.ref 178) → lk ls 3 = some (.int (I k)) → GD gE gRL sh h4 → FRM gRL [(0, 54, 31, 32), (0, 61, 0, 56)] h h4 → K 41 ls [] h4 0 0 := by
    intro mz
    induction mz using Nat.strongRecOn with
    | ind mz ih =>
    intro k h4 ls hm k0 a0 a1 a2 a4 aw fl a31 a32 l0 l1 l3 hG4 hF4
    have g43 := gri 0 12 hG4 (a := 178) (r := 61) (k := 3) rfl rfl
    have hcb := hcN_b (fun j => gi h 178 (41 + j)) (gi h 177) k.toNat
    have w7 := fun z : k < 8 => w6 k.toNat (by omega)
    have hs := hcN_s (f := (fun j => gi h 178 (41 + j))) (e := gi h 177) k0.1
    refine x_iload_n 42 hK rfl rfl l3 ?_
    refine x_aload_n 43 hK rfl rfl l0 ?_
    have g144 := gri (0) (8) hG (a := 171) (r := 54) (k := 7) rfl rfl
    refine x_getE 46 hK rfl (Or.inl rfl) rfl (sp_171 (h := h4) hG4) (e := (gi h 171 7)) (FRM_gi hF4 (r := 54) rfl rfl) ?_
    refine x_if_icmp_ge 133 49 hK rfl rfl rfl (by omega) (by omega) (fun c4 => ?_) (fun c4 => ?_)
    · obtain rfl : k = gi h 171 7 := by omega
      have ev : vw (RC h4 178 0) = stW (gi h 175) (gi h 176) (gi h 171 6).toNat (gi h 171 7) (gi h 177) (vw (RC h 178 0)) := by
        refine WS_ext ?_ ?_ ?_ ?_ ?_ (fun m => ?_) (fun m => ?_)
        · show RC h4 178 0 0 = RC h 178 0 0 + 1; rw [RC_0 (by omega), RC_0 (by omega), a0]
        · show RC h4 178 0 1 = stL (vw (RC h 178 0)); rw [RC_0 (by omega), a1]
        · show RC h4 178 0 2 = RC h 178 0 2 + _; rw [RC_0 (by omega), RC_0 (by omega), a2]
        · show RC h4 178 0 4 = RC h 178 0 4; rw [RC_0 (by omega), RC_0 (by omega), a4]
        · show wl (RC h4 178 0) = (wl (RC h 178 0)).filter (fun z => !decide (z.1 = RC h 178 0 0 + 1)); rw [RC_0 (by omega)]; exact aw
        · show (if m < 8 then RC h4 178 0 (41 + m) else 0) = if (m : Int) < gi h 171 7 then fdS (if m < 8 then RC h 178 0 (41 + m) else 0) (gi h 177 m) else (if m < 8 then RC h 178 0 (41 + m) else 0)
          by_cases c : m < 8
          · rw [if_pos c, if_pos c, RC_0 (by omega), RC_0 (by omega)]; exact (fl m c).1
          · rw [if_neg c, if_neg c, if_neg (by omega)]
        · show (if m < 8 then RC h4 178 0 (49 + m) else 0) = if (m : Int) < gi h 171 7 then huS (if m < 8 then RC h 178 0 (49 + m) else 0) (if m < 8 then RC h 178 0 (41 + m) else 0) (gi h 177 m) else (if m < 8 then RC h 178 0 (49 + m) else 0)
          by_cases c : m < 8
          · rw [if_pos c, if_pos c, if_pos c, RC_0 (by omega), RC_0 (by omega), RC_0 (by omega)]; exact (fl m c).2
          · rw [if_neg c, if_neg c, if_neg (by omega)]
      have eu : stU (gi h 171 7) (gi h 177) (vw (RC h 178 0)) = hcN (fun j => gi h 178 (41 + j)) (gi h 177) (gi h 171 7).toNat := by
        show hcN (fun m => if m < 8 then RC h 178 0 (41 + m) else 0) _ _ = _
        exact hcN_c _ fun m hm => by rw [if_pos (by omega), RC_0 (by omega)]
      have ewb : WB (b + 1) (RC h4 178 0) := by
        have y1 := gri 0 8 hG4 (a := 178) (r := 61) (k := 1) rfl rfl
        refine ⟨?_, ?_, ?_, ?_, ?_, fun m hm => ?_⟩
        · rw [RC_0 (by omega), a0]; omega
        · rw [RC_0 (by omega)]; exact y1
        · rw [RC_0 (by omega), a2, eH]; omega
        · rw [RC_0 (by omega)]; exact g43
        · rw [RC_0 (by omega), a4]; omega
        · rw [RC_0 (by omega), RC_0 (by omega), (fl m hm).1, (fl m hm).2]
          have z1 := w6 m hm
          have z2 := grn 0 9 hG (a := 177) (r := 60) (k := m) rfl rfl (by omega)
          unfold fdS huS
          (repeat' split) <;> omega
      exact x_vret hK rfl ⟨rfl, hG4, hF4, ev, a31, by rw [a32, eu], ewb⟩
    · refine x_aload_n 50 hK rfl rfl l1 ?_
      refine x_bipush 52 hK rfl rfl rfl ?_
      refine x_iload_n 53 hK rfl rfl l3 ?_
      refine x_iadd 54 hK rfl rfl ?_
      refine x_ialoadE 55 hK rfl rfl (sp_178 (h := h4) hG4) (by omega) (by omega) (by omega) (e' := (gi h 178 (41 + k.toNat))) (((gi_to (by omega)).trans ((fl k.toNat (by omega)).1.trans (if_neg (by omega))))) ?_
      refine x_aload_n 56 hK rfl rfl l0 ?_
      refine x_getR 59 hK rfl rfl (sp_171 (h := h4) hG4) (rf_171_13 (h := h4) hG4) ?_
      refine x_iload_n 60 hK rfl rfl l3 ?_
      have g145 := grn (0) (9) hG (a := 177) (r := 60) (k := k.toNat) rfl rfl (by omega)
      refine x_ialoadE 61 hK rfl rfl (sp_177 (h := h4) hG4) (by omega) (by omega) (by omega) (e' := (gi h 177 k.toNat)) (FRM_gi hF4 (r := 60) rfl rfl) ?_
      refine x_if_icmp_ge 68 64 hK rfl rfl rfl (by omega) (by omega) (fun c15 => ?_) (fun c15 => ?_)
      · refine x_iconst 69 hK rfl rfl ?_
        refine x_istore 71 hK rfl rfl _ rfl ?_
        refine x_aload_n 72 hK rfl rfl (lk1_n l1 (by decide) (Or.inl rfl)) ?_
        refine x_bipush 74 hK rfl rfl rfl ?_
        refine x_iload_n 75 hK rfl rfl (lk1_n l3 (by decide) (Or.inl rfl)) ?_
        refine x_iadd 76 hK rfl rfl ?_
        refine x_dup2 77 hK rfl rfl rfl rfl ?_
        refine x_ialoadE 78 hK rfl rfl (sp_178 (h := h4) hG4) (by omega) (by omega) (by omega) (e' := (gi h 178 (49 + k.toNat))) (((gi_to (by omega)).trans ((fl k.toNat (by omega)).2.trans (if_neg (by omega))))) ?_
        refine x_iload 80 hK rfl rfl lk1_s ?_
        refine x_callS 83 hK hmono rfl (Or.inl rfl) rfl [.int (I 0)] [.int (I (gi h 178 (49 + k.toNat))), .int (I (49 + k)), .ref 178] rfl rfl (Nat.le_of_ble_eq_true rfl) (Nat.le_of_ble_eq_true rfl) (CLd_le (Nat.le_of_ble_eq_true rfl) (ctX11_flag (by omega))) ?_
        rintro v9 h9 ⟨e9, rfl⟩
        rw [e9]
        clear e9
        refine x_iadd 84 hK rfl rfl ?_
        refine x_iastore 85 hK rfl rfl (sp_178 (h := h4) hG4) (by omega) (by omega) (by omega) ?_
        refine x_aload_n 86 hK rfl rfl (lk1_n l0 (by decide) (Or.inl rfl)) ?_
        refine x_dup 87 hK rfl rfl rfl ?_
        refine x_getE 90 hK rfl (Or.inl rfl) rfl (sp_171 (h := h4) hG4) (e := (gi h 171 32 + hcN (fun j => gi h 178 (41 + j)) (gi h 177) k.toNat)) ((gi_a (by decide) _).trans (a32)) ?_
        refine x_iload 92 hK rfl rfl lk1_s ?_
        have hGp147 : GD gE gRL sh (wI h4 178 (49 + k).toNat ((gi h 178 (49 + k.toNat)) + 0)) := GD_st (hG4) (r := 61) rfl rfl (fun z => by omega) (fun z => by omega) (fun j hj z => by omega)
        refine x_callS 95 hK hmono rfl (Or.inl rfl) rfl [.int (I 0)] [.int (I (gi h 171 32 + hcN (fun j => gi h 178 (41 + j)) (gi h 177) k.toNat)), .ref 171] rfl rfl (Nat.le_of_ble_eq_true rfl) (Nat.le_of_ble_eq_true rfl) (CLd_le (Nat.le_of_ble_eq_true rfl) (ctX11_flag (by omega))) ?_
        rintro v9 h9 ⟨e9, rfl⟩
        rw [e9]
        clear e9
        refine x_iadd 96 hK rfl rfl ?_
        refine x_putI 99 hK rfl rfl (sp_171 (h := h4) hG4) ?_
        refine x_aload_n 100 hK rfl rfl (lk1_n l1 (by decide) (Or.inl rfl)) ?_
        refine x_bipush 102 hK rfl rfl rfl ?_
        refine x_iload_n 103 hK rfl rfl (lk1_n l3 (by decide) (Or.inl rfl)) ?_
        refine x_iadd 104 hK rfl rfl ?_
        refine x_iload 106 hK rfl rfl lk1_s ?_
        refine x_if_eq 113 109 hK rfl rfl rfl (by omega) (fun _ => ?_) (fun c => by omega)
        refine x_aload_n 114 hK rfl rfl (lk1_n l1 (by decide) (Or.inl rfl)) ?_
        refine x_bipush 116 hK rfl rfl rfl ?_
        refine x_iload_n 117 hK rfl rfl (lk1_n l3 (by decide) (Or.inl rfl)) ?_
        refine x_iadd 118 hK rfl rfl ?_
        refine x_ialoadE 119 hK rfl rfl (sp_178 (h := h4) hG4) (by omega) (by omega) (by omega) (e' := (gi h 178 (41 + k.toNat))) ((gi_a (by decide) _).trans ((gi_k (by omega) _).trans (((gi_to (by omega)).trans ((fl k.toNat (by omega)).1.trans (if_neg (by omega))))))) ?_
        refine x_aload_n 120 hK rfl rfl (lk1_n l0 (by decide) (Or.inl rfl)) ?_
        refine x_getR 123 hK rfl rfl (sp_171 (h := h4) hG4) (rf_171_13 (h := h4) hG4) ?_
        refine x_iload_n 124 hK rfl rfl (lk1_n l3 (by decide) (Or.inl rfl)) ?_
        refine x_ialoadE 125 hK rfl rfl (sp_177 (h := h4) hG4) (by omega) (by omega) (by omega) (e' := (gi h 177 k.toNat)) ((gi_a (by decide) _).trans ((gi_a (by decide) _).trans (FRM_gi hF4 (r := 60) rfl rfl))) ?_
        refine x_isub 126 hK rfl rfl ?_
        refine x_iastore 127 hK rfl rfl (sp_178 (h := h4) hG4) (by omega) (by omega) (by omega) ?_
        refine x_iinc 130 hK rfl rfl (lk1_n l3 (by decide) (Or.inl rfl)) _ rfl ?_
        refine x_goto 41 hK rfl rfl ?_
        have n3 : gi (wI (wI (wI h4 178 (49 + k).toNat ((gi h 178 (49 + k.toNat)) + 0)) 171 32 ((gi h 171 32 + hcN (fun j => gi h 178 (41 + j)) (gi h 177) k.toNat) + 0)) 178 (41 + k).toNat ((gi h 178 (41 + k.toNat)) - (gi h 177 k.toNat))) 178 3 = gi h4 178 3 := ((gi_k (by omega) _).trans ((gi_a (by decide) _).trans ((gi_k (by omega) _).trans rfl)))
        have y1 : gi (wI (wI (wI h4 178 (49 + k).toNat ((gi h 178 (49 + k.toNat)) + 0)) 171 32 ((gi h 171 32 + hcN (fun j => gi h 178 (41 + j)) (gi h 177) k.toNat) + 0)) 178 (41 + k).toNat ((gi h 178 (41 + k.toNat)) - (gi h 177 k.toNat))) 178 (41 + k).toNat = ((gi h 178 (41 + k.toNat)) - (gi h 177 k.toNat)) := gi_same (by omega)
        have y2 : gi (wI (wI (wI h4 178 (49 + k).toNat ((gi h 178 (49 + k.toNat)) + 0)) 171 32 ((gi h 171 32 + hcN (fun j => gi h 178 (41 + j)) (gi h 177) k.toNat) + 0)) 178 (41 + k).toNat ((gi h 178 (41 + k.toNat)) - (gi h 177 k.toNat))) 178 (49 + k).toNat = ((gi h 178 (49 + k.toNat)) + 0) := (gi_k (by omega) _).trans ((gi_a (by decide) _).trans (gi_same (by omega)))
        have fn : ∀ j : Nat, j < 8 → gi (wI (wI (wI h4 178 (49 + k).toNat ((gi h 178 (49 + k.toNat)) + 0)) 171 32 ((gi h 171 32 + hcN (fun j => gi h 178 (41 + j)) (gi h 177) k.toNat) + 0)) 178 (41 + k).toNat ((gi h 178 (41 + k.toNat)) - (gi h 177 k.toNat))) 178 (41 + j) = (if (j : Int) < (k + 1) then fdS (gi h 178 (41 + j)) (gi h 177 j) else gi h 178 (41 + j)) ∧ gi (wI (wI (wI h4 178 (49 + k).toNat ((gi h 178 (49 + k.toNat)) + 0)) 171 32 ((gi h 171 32 + hcN (fun j => gi h 178 (41 + j)) (gi h 177) k.toNat) + 0)) 178 (41 + k).toNat ((gi h 178 (41 + k.toNat)) - (gi h 177 k.toNat))) 178 (49 + j) = (if (j : Int) < (k + 1) then huS (gi h 178 (49 + j)) (gi h 178 (41 + j)) (gi h 177 j) else gi h 178 (49 + j)) := by
          intro j hj
          by_cases c : j = k.toNat
          · subst c
            rw [if_pos (by omega), if_pos (by omega), (gi_to (show 41 + k.toNat = (41 + k).toNat by omega)).trans y1, (gi_to (show 49 + k.toNat = (49 + k).toNat by omega)).trans y2]
            unfold fdS huS
            rw [if_neg (by omega), if_neg (by omega)]
            exact ⟨rfl, Int.add_zero _⟩
          · rw [← if_j k0.1 c, ← if_j k0.1 c]
            exact ⟨((gi_k (by omega) _).trans ((gi_a (by decide) _).trans ((gi_k (by omega) _).trans (fl j hj).1))), ((gi_k (by omega) _).trans ((gi_a (by decide) _).trans ((gi_k (by omega) _).trans (fl j hj).2)))⟩
        exact ih _ (by omega) (k + 1) _ _ rfl (by omega) (((gi_k (by omega) _).trans ((gi_a (by decide) _).trans ((gi_k (by omega) _).trans a0)))) (((gi_k (by omega) _).trans ((gi_a (by decide) _).trans ((gi_k (by omega) _).trans a1)))) (((gi_k (by omega) _).trans ((gi_a (by decide) _).trans ((gi_k (by omega) _).trans a2)))) (((gi_k (by omega) _).trans ((gi_a (by decide) _).trans ((gi_k (by omega) _).trans a4)))) ((by rw [← aw, wl_RC (by rw [n3]; omega), wl_RC (by omega), n3]; exact wlK_congr fun j z1 z2 => ((gi_k (by omega) _).trans ((gi_a (by decide) _).trans ((gi_k (by omega) _).trans rfl))))) (fn) ((((gi_a (by decide) _).trans ((gi_k (by decide) _).trans ((gi_a (by decide) _).trans a31))))) ((by rw [hs, if_neg (by omega)]; exact ((gi_a (by decide) _).trans (gi_same (by omega))).trans (by omega))) (lk1_n (lk1_n l0 (by decide) (Or.inl rfl)) (by decide) (Or.inl rfl)) (lk1_n (lk1_n l1 (by decide) (Or.inl rfl)) (by decide) (Or.inl rfl)) lk1_s (GD_st (GD_w0 (GD_st (hG4) (r := 61) rfl rfl (fun z => by omega) (fun z => by omega) (fun j hj z => by omega)) (r := 54) rfl rfl) (r := 61) rfl rfl (fun z => by omega) (fun z => by omega) (fun j hj z => by omega)) (FRM_wn 0 56 (FRM_w (FRM_wn 0 56 (hF4) (r := 61) rfl rfl rfl (by omega) (by omega)) (r := 54) rfl rfl) (r := 61) rfl rfl rfl (by omega) (by omega))
      · refine x_iconst 65 hK rfl rfl ?_
        refine x_goto 69 hK rfl rfl ?_
        refine x_istore 71 hK rfl rfl _ rfl ?_
        refine x_aload_n 72 hK rfl rfl (lk1_n l1 (by decide) (Or.inl rfl)) ?_
        refine x_bipush 74 hK rfl rfl rfl ?_
        refine x_iload_n 75 hK rfl rfl (lk1_n l3 (by decide) (Or.inl rfl)) ?_
        refine x_iadd 76 hK rfl rfl ?_
        refine x_dup2 77 hK rfl rfl rfl rfl ?_
        refine x_ialoadE 78 hK rfl rfl (sp_178 (h := h4) hG4) (by omega) (by omega) (by omega) (e' := (gi h 178 (49 + k.toNat))) (((gi_to (by omega)).trans ((fl k.toNat (by omega)).2.trans (if_neg (by omega))))) ?_
        refine x_iload 80 hK rfl rfl lk1_s ?_
        refine x_callS 83 hK hmono rfl (Or.inl rfl) rfl [.int (I 1)] [.int (I (gi h 178 (49 + k.toNat))), .int (I (49 + k)), .ref 178] rfl rfl (Nat.le_of_ble_eq_true rfl) (Nat.le_of_ble_eq_true rfl) (CLd_le (Nat.le_of_ble_eq_true rfl) (ctX11_flag (by omega))) ?_
        rintro v9 h9 ⟨e9, rfl⟩
        rw [e9]
        clear e9
        refine x_iadd 84 hK rfl rfl ?_
        refine x_iastore 85 hK rfl rfl (sp_178 (h := h4) hG4) (by omega) (by omega) (by omega) ?_
        refine x_aload_n 86 hK rfl rfl (lk1_n l0 (by decide) (Or.inl rfl)) ?_
        refine x_dup 87 hK rfl rfl rfl ?_
        refine x_getE 90 hK rfl (Or.inl rfl) rfl (sp_171 (h := h4) hG4) (e := (gi h 171 32 + hcN (fun j => gi h 178 (41 + j)) (gi h 177) k.toNat)) ((gi_a (by decide) _).trans (a32)) ?_
        refine x_iload 92 hK rfl rfl lk1_s ?_
        have hGp150 : GD gE gRL sh (wI h4 178 (49 + k).toNat ((gi h 178 (49 + k.toNat)) + 1)) := GD_st (hG4) (r := 61) rfl rfl (fun z => by omega) (fun z => by omega) (fun j hj z => by omega)
        refine x_callS 95 hK hmono rfl (Or.inl rfl) rfl [.int (I 1)] [.int (I (gi h 171 32 + hcN (fun j => gi h 178 (41 + j)) (gi h 177) k.toNat)), .ref 171] rfl rfl (Nat.le_of_ble_eq_true rfl) (Nat.le_of_ble_eq_true rfl) (CLd_le (Nat.le_of_ble_eq_true rfl) (ctX11_flag (by omega))) ?_
        rintro v9 h9 ⟨e9, rfl⟩
        rw [e9]
        clear e9
        refine x_iadd 96 hK rfl rfl ?_
        refine x_putI 99 hK rfl rfl (sp_171 (h := h4) hG4) ?_
        refine x_aload_n 100 hK rfl rfl (lk1_n l1 (by decide) (Or.inl rfl)) ?_
        refine x_bipush 102 hK rfl rfl rfl ?_
        refine x_iload_n 103 hK rfl rfl (lk1_n l3 (by decide) (Or.inl rfl)) ?_
        refine x_iadd 104 hK rfl rfl ?_
        refine x_iload 106 hK rfl rfl lk1_s ?_
        refine x_if_eq 113 109 hK rfl rfl rfl (by omega) (fun c => by omega) (fun _ => ?_)
        refine x_iconst 110 hK rfl rfl ?_
        refine x_goto 126 hK rfl rfl ?_
        refine x_iastore 127 hK rfl rfl (sp_178 (h := h4) hG4) (by omega) (by omega) (by omega) ?_
        refine x_iinc 130 hK rfl rfl (lk1_n l3 (by decide) (Or.inl rfl)) _ rfl ?_
        refine x_goto 41 hK rfl rfl ?_
        have n3 : gi (wI (wI (wI h4 178 (49 + k).toNat ((gi h 178 (49 + k.toNat)) + 1)) 171 32 ((gi h 171 32 + hcN (fun j => gi h 178 (41 + j)) (gi h 177) k.toNat) + 1)) 178 (41 + k).toNat 0) 178 3 = gi h4 178 3 := ((gi_k (by omega) _).trans ((gi_a (by decide) _).trans ((gi_k (by omega) _).trans rfl)))
        have y1 : gi (wI (wI (wI h4 178 (49 + k).toNat ((gi h 178 (49 + k.toNat)) + 1)) 171 32 ((gi h 171 32 + hcN (fun j => gi h 178 (41 + j)) (gi h 177) k.toNat) + 1)) 178 (41 + k).toNat 0) 178 (41 + k).toNat = 0 := gi_same (by omega)
        have y2 : gi (wI (wI (wI h4 178 (49 + k).toNat ((gi h 178 (49 + k.toNat)) + 1)) 171 32 ((gi h 171 32 + hcN (fun j => gi h 178 (41 + j)) (gi h 177) k.toNat) + 1)) 178 (41 + k).toNat 0) 178 (49 + k).toNat = ((gi h 178 (49 + k.toNat)) + 1) := (gi_k (by omega) _).trans ((gi_a (by decide) _).trans (gi_same (by omega)))
        have fn : ∀ j : Nat, j < 8 → gi (wI (wI (wI h4 178 (49 + k).toNat ((gi h 178 (49 + k.toNat)) + 1)) 171 32 ((gi h 171 32 + hcN (fun j => gi h 178 (41 + j)) (gi h 177) k.toNat) + 1)) 178 (41 + k).toNat 0) 178 (41 + j) = (if (j : Int) < (k + 1) then fdS (gi h 178 (41 + j)) (gi h 177 j) else gi h 178 (41 + j)) ∧ gi (wI (wI (wI h4 178 (49 + k).toNat ((gi h 178 (49 + k.toNat)) + 1)) 171 32 ((gi h 171 32 + hcN (fun j => gi h 178 (41 + j)) (gi h 177) k.toNat) + 1)) 178 (41 + k).toNat 0) 178 (49 + j) = (if (j : Int) < (k + 1) then huS (gi h 178 (49 + j)) (gi h 178 (41 + j)) (gi h 177 j) else gi h 178 (49 + j)) := by
          intro j hj
          by_cases c : j = k.toNat
          · subst c
            rw [if_pos (by omega), if_pos (by omega), (gi_to (show 41 + k.toNat = (41 + k).toNat by omega)).trans y1, (gi_to (show 49 + k.toNat = (49 + k).toNat by omega)).trans y2]
            unfold fdS huS
            rw [if_pos (by omega), if_pos (by omega)]
            exact ⟨rfl, rfl⟩
          · rw [← if_j k0.1 c, ← if_j k0.1 c]
            exact ⟨((gi_k (by omega) _).trans ((gi_a (by decide) _).trans ((gi_k (by omega) _).trans (fl j hj).1))), ((gi_k (by omega) _).trans ((gi_a (by decide) _).trans ((gi_k (by omega) _).trans (fl j hj).2)))⟩
        exact ih _ (by omega) (k + 1) _ _ rfl (by omega) (((gi_k (by omega) _).trans ((gi_a (by decide) _).trans ((gi_k (by omega) _).trans a0)))) (((gi_k (by omega) _).trans ((gi_a (by decide) _).trans ((gi_k (by omega) _).trans a1)))) (((gi_k (by omega) _).trans ((gi_a (by decide) _).trans ((gi_k (by omega) _).trans a2)))) (((gi_k (by omega) _).trans ((gi_a (by decide) _).trans ((gi_k (by omega) _).trans a4)))) ((by rw [← aw, wl_RC (by rw [n3]; omega), wl_RC (by omega), n3]; exact wlK_congr fun j z1 z2 => ((gi_k (by omega) _).trans ((gi_a (by decide) _).trans ((gi_k (by omega) _).trans rfl))))) (fn) ((((gi_a (by decide) _).trans ((gi_k (by decide) _).trans ((gi_a (by decide) _).trans a31))))) ((by rw [hs, if_pos (by omega)]; exact ((gi_a (by decide) _).trans (gi_same (by omega))).trans (by omega))) (lk1_n (lk1_n l0 (by decide) (Or.inl rfl)) (by decide) (Or.inl rfl)) (lk1_n (lk1_n l1 (by decide) (Or.inl rfl)) (by decide) (Or.inl rfl)) lk1_s (GD_st (GD_w0 (GD_st (hG4) (r := 61) rfl rfl (fun z => by omega) (fun z => by omega) (fun j hj z => by omega)) (r := 54) rfl rfl) (r := 61) rfl rfl (fun z => by omega) (fun z => by omega) (fun j hj z => by omega)) (FRM_wn 0 56 (FRM_w (FRM_wn 0 56 (hF4) (r := 61) rfl rfl rfl (by omega) (by omega)) (r := 54) rfl rfl) (r := 61) rfl rfl rfl (by omega) (by omega))
  refine x_aload_n 1 hK rfl rfl rfl ?_
  refine x_iconst 2 hK rfl rfl ?_
  refine x_dup2 3 hK rfl rfl rfl rfl ?_
  have g152 := gi_r h 178 0
  refine x_ialoadE 4 hK rfl rfl (sp_178 (h := h) hG) (by omega) (by omega) (by omega) (e' := (gi h 178 0)) (rfl) ?_
  refine x_iconst 5 hK rfl rfl ?_
  refine x_iadd 6 hK rfl rfl ?_
  refine x_iastore 7 hK rfl rfl (sp_178 (h := h) hG) (by omega) (by omega) (by omega) ?_
  refine x_aload_n 8 hK rfl rfl rfl ?_
  change K 8 _ _ (wI h 178 0 ((gi h 178 0) + 1)) _ _
  have hG1 : GD gE gRL sh (wI h 178 0 ((gi h 178 0) + 1)) := GD_w0 (hG) (r := 61) rfl rfl
  have e0 : gi (wI h 178 0 ((gi h 178 0) + 1)) 178 0 = gi h 178 0 + 1 := gi_same (by omega)
  have ew : wl (RC (wI h 178 0 ((gi h 178 0) + 1)) 178 0) = wl (RC h 178 0) := by rw [wl_RC (by rw [gi_k (by decide)]; omega), wl_RC (by omega), gi_k (by decide)]; exact wlK_congr fun j z1 z2 => gi_k (by omega) _
  refine x_callS 11 hK hmono rfl (Or.inl rfl) rfl [.ref 178] [] rfl rfl (Nat.le_of_ble_eq_true rfl) (Nat.le_of_ble_eq_true rfl) (CLd_le (Nat.le_of_ble_eq_true rfl) (ctX11_doesDueNF hSP hG1)) ?_
  rintro v2 h2 ⟨rfl, hG2, hF2, d1, d2⟩
  rw [e0, ew] at d1 d2
  rw [show gi (wI h 178 0 ((gi h 178 0) + 1)) 178 1 = gi h 178 1 from gi_k (by decide) _, ← eL] at d1
  refine x_aload_n 12 hK rfl rfl rfl ?_
  refine x_aload_n 13 hK rfl rfl rfl ?_
  refine x_iconst 14 hK rfl rfl ?_
  refine x_ialoadE 15 hK rfl rfl (sp_178 (h := h2) hG2) (by omega) (by omega) (by omega) (e' := ((gi h 178 0) + 1)) ((FRM_gi hF2 (r := 61) rfl rfl).trans (gi_same (by omega))) ?_
  refine x_aload_n 16 hK rfl rfl rfl ?_
  refine x_iconst 17 hK rfl rfl ?_
  refine x_ialoadE 18 hK rfl rfl (sp_178 (h := h2) hG2) (by omega) (by omega) (by omega) (e' := (stL (vw (RC h 178 0)))) (d1) ?_
  refine x_callV 21 hK hmono rfl rfl [.ref 171, .int (I ((gi h 178 0) + 1)), .int (I (stL (vw (RC h 178 0))))] [] rfl rfl (Nat.le_of_ble_eq_true rfl) (Nat.le_of_ble_eq_true rfl) rfl (sp_171 (h := h2) hG2) (CLd_le (Nat.le_of_ble_eq_true rfl) (ctX11_hitsAtF hSP hG2 (by omega) (by omega))) ?_
  rintro v9 h9 ⟨e9, rfl⟩
  rw [e9, show gi h2 175 = gi h 175 from funext fun j => (FRM_gi hF2 (r := 58) rfl rfl).trans (gi_a (by decide) _), show gi h2 176 = gi h 176 from funext fun j => (FRM_gi hF2 (r := 59) rfl rfl).trans (gi_a (by decide) _), show gi h2 171 6 = gi h 171 6 from (FRM_gi hF2 (r := 54) rfl rfl).trans (gi_a (by decide) _), ← eH]
  clear e9
  rw [← eH] at hH
  refine x_istore_n 22 hK rfl rfl [(2, .int (I (stH (gi h 175) (gi h 176) (gi h 171 6).toNat (vw (RC h 178 0))))), (0, .ref 171), (1, .ref 178)] rfl ?_
  refine x_aload_n 23 hK rfl rfl rfl ?_
  refine x_iconst 24 hK rfl rfl ?_
  refine x_dup2 25 hK rfl rfl rfl rfl ?_
  have g153 := gi_r h 178 2
  refine x_ialoadE 26 hK rfl rfl (sp_178 (h := h2) hG2) (by omega) (by omega) (by omega) (e' := (gi h 178 2)) ((FRM_gi hF2 (r := 61) rfl rfl).trans (gi_k (by decide) _)) ?_
  refine x_iload_n 27 hK rfl rfl rfl ?_
  refine x_iadd 28 hK rfl rfl ?_
  refine x_iastore 29 hK rfl rfl (sp_178 (h := h2) hG2) (by omega) (by omega) (by omega) ?_
  refine x_aload_n 30 hK rfl rfl rfl ?_
  refine x_dup 31 hK rfl rfl rfl ?_
  have g154 := gi_r h 171 31
  refine x_getE 34 hK rfl (Or.inl rfl) rfl (sp_171 (h := h2) hG2) (e := (gi h 171 31)) ((gi_a (by decide) _).trans ((FRM_gi hF2 (r := 54) rfl rfl).trans (gi_a (by decide) _))) ?_
  refine x_iload_n 35 hK rfl rfl rfl ?_
  refine x_iadd 36 hK rfl rfl ?_
  refine x_putI 39 hK rfl rfl (sp_171 (h := h2) hG2) ?_
  refine x_iconst 40 hK rfl rfl ?_
  refine x_istore_n 41 hK rfl rfl [(3, .int (I 0)), (2, .int (I (stH (gi h 175) (gi h 176) (gi h 171 6).toNat (vw (RC h 178 0))))), (0, .ref 171), (1, .ref 178)] rfl ?_
  change K 41 _ _ (wI (wI h2 178 2 ((gi h 178 2) + (stH (gi h 175) (gi h 176) (gi h 171 6).toNat (vw (RC h 178 0))))) 171 31 ((gi h 171 31) + (stH (gi h 175) (gi h 176) (gi h 171 6).toNat (vw (RC h 178 0))))) _ _
  have g23 := gri 0 12 hG2 (a := 178) (r := 61) (k := 3) rfl rfl
  have n3 : gi (wI (wI h2 178 2 ((gi h 178 2) + (stH (gi h 175) (gi h 176) (gi h 171 6).toNat (vw (RC h 178 0))))) 171 31 ((gi h 171 31) + (stH (gi h 175) (gi h 176) (gi h 171 6).toNat (vw (RC h 178 0))))) 178 3 = gi h2 178 3 := (gi_a (by decide) _).trans (gi_k (by decide) _)
  exact loop _ 0 _ _ rfl (by omega) ((gi_a (by decide) _).trans ((gi_k (by decide) _).trans ((FRM_gi hF2 (r := 61) rfl rfl).trans (gi_same (by omega))))) ((gi_a (by decide) _).trans ((gi_k (by decide) _).trans (d1))) ((gi_a (by decide) _).trans (gi_same (by omega))) ((gi_a (by decide) _).trans ((gi_k (by decide) _).trans ((FRM_gi hF2 (r := 61) rfl rfl).trans (gi_k (by decide) _)))) ((by rw [← d2, wl_RC (by rw [n3]; omega), wl_RC (by omega), n3]; exact wlK_congr fun j z1 z2 => (gi_a (by decide) _).trans (gi_k (by omega) _))) ((fun j hj => by rw [if_neg (by omega), if_neg (by omega)]; exact ⟨(gi_a (by decide) _).trans ((gi_k (by omega) _).trans ((FRM_gi hF2 (r := 61) rfl (mh_178 (by omega))).trans (gi_k (by omega) _))), (gi_a (by decide) _).trans ((gi_k (by omega) _).trans ((FRM_gi hF2 (r := 61) rfl (mh_178 (by omega))).trans (gi_k (by omega) _)))⟩)) (gi_same (by omega)) ((((gi_k (by decide) _).trans ((gi_a (by decide) _).trans ((FRM_gi hF2 (r := 54) rfl rfl).trans (gi_a (by decide) _)))).trans (Int.add_zero _).symm)) rfl rfl rfl (GD_w0 (GD_w0 (hG2) (r := 61) rfl rfl) (r := 54) rfl rfl) (FRM_w (FRM_w ((FRM_w ((FRM.rf : FRM gRL [(0, 54, 31, 32), (0, 61, 0, 56)] h h)) (r := 61) rfl rfl).trans ((hF2).mono rfl)) (r := 61) rfl rfl) (r := 54) rfl rfl)
