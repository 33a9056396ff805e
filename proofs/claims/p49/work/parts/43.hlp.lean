section
/-! FOR PROOFS BY HAND OVER THE GLOBAL TABLES -/
section HLP
variable {sh : List (Nat × Nat)} {h : aH}
theorem shx {a r : Nat} {s : Nat × Nat} (hG : GD gE gRL sh h) (hr : gRL[a]? = some r) (hs : eS gE r = s) : h.1[a]? = some s := by rw [hG.1, hG.2.1 a r hr, hs]
theorem gri {a r k : Nat} (lo hi : Int) (hG : GD gE gRL sh h) (hr : gRL[a]? = some r) (hg : gI (eG gE r) k k = (lo, hi)) : lo ≤ gi h a k ∧ gi h a k ≤ hi := by
  have := gI_ok (hG.2.2.1 a r hr) (Nat.le_refl k) (Nat.le_refl k)
  rw [hg] at this
  exact this
/-- what an int anywhere in a row holds, where one segment says it of the whole row -/
theorem grn {a r k n : Nat} (lo hi : Int) (hG : GD gE gRL sh h) (hr : gRL[a]? = some r) (hg : eG gE r = [(0, n, lo, hi)]) (hk : k ≤ n) : lo ≤ gi h a k ∧ gi h a k ≤ hi := by
  have := hG.2.2.1 a r hr (0, n, lo, hi) (by rw [hg]; exact List.mem_singleton.mpr rfl) k (Nat.zero_le _) hk
  exact this
theorem oneB {r a : Nat} (h : ((List.range gRL.length).all fun b => !(decide (gRL[b]? = some r)) || Nat.beq b a) = true) {b : Nat} (hb : gRL[b]? = some r) : b = a := by
  have z := List.all_eq_true.mp h b (List.mem_range.mpr (List.getElem?_eq_some_iff.mp hb).1)
  rw [hb] at z
  simpa using z
noncomputable def onlyAt (q b : Nat) : List Nat → Nat → Bool
  | [], _ => true
  | x :: t, i => (!(Nat.beq x q) || Nat.beq i b) && onlyAt q b t (i + 1)
theorem onlyAt_ok {q b : Nat} : ∀ {l : List Nat} {i : Nat}, onlyAt q b l i = true → ∀ c, l[c]? = some q → i + c = b
  | [], _, _, c, e => by rw [List.getElem?_nil] at e; cases e
  | x :: t, i, h, 0, e => by
    have h2 : ((!(Nat.beq x q) || Nat.beq i b) && onlyAt q b t (i + 1)) = true := h
    rw [Bool.and_eq_true] at h2
    have e2 : x = q := Option.some.inj e
    have h3 := h2.1
    rw [show Nat.beq x q = true from Nat.beq_eq.mpr e2] at h3
    exact Nat.beq_eq.mp h3
  | x :: t, i, h, c + 1, e => by
    have h2 : ((!(Nat.beq x q) || Nat.beq i b) && onlyAt q b t (i + 1)) = true := h
    rw [Bool.and_eq_true] at h2
    have z := onlyAt_ok h2.2 c e
    omega
theorem grO {a r k q b : Nat} (hG : GD gE gRL sh h) (hr : gRL[a]? = some r) (hg : gR (eR gE r) k k = some q) (h1 : onlyAt q b gRL 0 = true) : aR h a k = some b := by
  obtain ⟨z, z1, z2, z3, z4⟩ := gR_ok hg
  obtain ⟨c, c1, c2⟩ := hG.2.2.2 a r hr z z1 k z2 z3
  rw [z4] at c2
  have e := onlyAt_ok h1 c c2
  rw [c1, show c = b by omega]
/-- one int is written -/
theorem GD_w {a r k : Nat} {e : Int} (hG : GD gE gRL sh h) (hr : gRL[a]? = some r) (he : r32 e) (ho : ∀ q ∈ eG gE r, q.1 ≤ k → k ≤ q.2.1 → q.2.2.1 ≤ e ∧ e ≤ q.2.2.2) : GD gE gRL sh (wI h a k e) := by
  refine ⟨hG.1, hG.2.1, fun b r' hb q hq j h1 h2 => ?_, hG.2.2.2⟩
  show q.2.2.1 ≤ gi (wI h a k e) b j ∧ gi (wI h a k e) b j ≤ q.2.2.2
  by_cases e1 : b = a
  · subst e1
    by_cases e2 : j = k
    · subst e2
      rw [gi_same he]
      rw [hr] at hb
      cases hb
      exact ho q hq h1 h2
    · rw [gi_k e2]
      exact hG.2.2.1 b r' hb q hq j h1 h2
  · rw [gi_a e1]
    exact hG.2.2.1 b r' hb q hq j h1 h2
theorem GD_wX {a r k : Nat} {e : Int} (hG : GD gE gRL sh h) (hr : gRL[a]? = some r) (ho : ∀ q ∈ eG gE r, q.1 ≤ k → k ≤ q.2.1 → False) : GD gE gRL sh (wI h a k e) := by
  refine ⟨hG.1, hG.2.1, fun b r' hb q hq j h1 h2 => ?_, hG.2.2.2⟩
  show q.2.2.1 ≤ gi (wI h a k e) b j ∧ gi (wI h a k e) b j ≤ q.2.2.2
  by_cases e1 : b = a
  · subst e1
    rw [hr] at hb
    cases hb
    have e2 : j ≠ k := fun z => by subst z; exact ho q hq h1 h2
    rw [gi_k e2]
    exact hG.2.2.1 b r hr q hq j h1 h2
  · rw [gi_a e1]
    exact hG.2.2.1 b r' hb q hq j h1 h2
theorem GD_w0 {a r k : Nat} {e : Int} (hG : GD gE gRL sh h) (hr : gRL[a]? = some r) (ho : (eG gE r).filter (fun q => Nat.ble q.1 k && Nat.ble k q.2.1) = []) : GD gE gRL sh (wI h a k e) :=
  GD_wX hG hr fun q hq h1 h2 => by
    have : q ∈ (eG gE r).filter (fun q => Nat.ble q.1 k && Nat.ble k q.2.1) := List.mem_filter.mpr ⟨hq, by simp [h1, h2]⟩
    rw [ho] at this
    cases this
theorem GD_w1 {a r k x y : Nat} {e lo hi : Int} (hG : GD gE gRL sh h) (hr : gRL[a]? = some r) (he : r32 e) (ho : (eG gE r).filter (fun q => Nat.ble q.1 k && Nat.ble k q.2.1) = [(x, y, lo, hi)]) (h1 : lo ≤ e) (h2 : e ≤ hi) : GD gE gRL sh (wI h a k e) :=
  GD_w hG hr he fun q hq h3 h4 => by
    have : q ∈ (eG gE r).filter (fun q => Nat.ble q.1 k && Nat.ble k q.2.1) := List.mem_filter.mpr ⟨hq, by simp [h3, h4]⟩
    rw [ho] at this
    rw [List.mem_singleton.mp this]
    exact ⟨h1, h2⟩
theorem GD_wn {a r k : Nat} {e : Int} (hG : GD gE gRL sh h) (hr : gRL[a]? = some r) (ho : eG gE r = []) : GD gE gRL sh (wI h a k e) :=
  GD_wX hG hr fun q hq _ _ => by rw [ho] at hq; cases hq
theorem GD_wu {a r k x y : Nat} {e lo hi : Int} (hG : GD gE gRL sh h) (hr : gRL[a]? = some r) (he : r32 e) (ho : eG gE r = [(x, y, lo, hi)]) (h1 : lo ≤ e) (h2 : e ≤ hi) : GD gE gRL sh (wI h a k e) :=
  GD_w hG hr he fun q hq _ _ => by rw [ho] at hq; rw [List.mem_singleton.mp hq]; exact ⟨h1, h2⟩
theorem GD_J {a k : Nat} {v : Int64} (hG : GD gE gRL sh h) : GD gE gRL sh (sJ h a k v) := hG
theorem FRM_w {M : MD} {h0 : aH} {a r k : Nat} {e : Int} (hF : FRM gRL M h0 h) (hr : gRL[a]? = some r) (hm : mHas M 0 r k = true) : FRM gRL M h0 (wI h a k e) := by
  refine ⟨fun b j z => ?_, hF.2.1, hF.2.2⟩
  have e1 : ¬ (b = a ∧ j = k) := by rintro ⟨rfl, rfl⟩; have := z r hr; rw [hm] at this; cases this
  have : aI (wI h a k e) b j = aI h b j := by
    by_cases hb : b = a
    · subst hb
      have : j ≠ k := fun q => e1 ⟨rfl, q⟩
      simp [wI, aI, sI, up_s, upd, this]
    · simp [wI, aI, sI, up_n hb]
  rw [this]
  exact hF.1 b j z
theorem mHas_n {M : MD} {w r a b k : Nat} (h : mIn M w r a b = true) (hr : bse r = r) (h1 : a ≤ k) (h2 : k ≤ b) : mHas M w r k = true := by
  obtain ⟨q, hq, h3⟩ := List.any_eq_true.mp h
  refine List.any_eq_true.mpr ⟨q, hq, ?_⟩
  simp only [Bool.and_eq_true, Nat.beq_eq, Nat.ble_eq] at h3 ⊢
  rw [hr] at h3
  omega
theorem FRM_wn {M : MD} {h0 : aH} {a r k : Nat} {e : Int} (x y : Nat) (hF : FRM gRL M h0 h) (hr : gRL[a]? = some r) (hm : mIn M 0 r x y = true) (hb : bse r = r) (h1 : x ≤ k) (h2 : k ≤ y) : FRM gRL M h0 (wI h a k e) := FRM_w hF hr (mHas_n hm hb h1 h2)
theorem FRM_J {M : MD} {h0 : aH} {a r k : Nat} {v : Int64} (hF : FRM gRL M h0 h) (hr : gRL[a]? = some r) (hm : mHas M 1 r k = true) : FRM gRL M h0 (sJ h a k v) := by
  refine ⟨hF.1, fun b j z => ?_, hF.2.2⟩
  have e1 : ¬ (b = a ∧ j = k) := by rintro ⟨rfl, rfl⟩; have := z r hr; rw [hm] at this; cases this
  have : aJ (sJ h a k v) b j = aJ h b j := by
    by_cases hb : b = a
    · subst hb
      have : j ≠ k := fun q => e1 ⟨rfl, q⟩
      simp [aJ, sJ, up_s, vp_updL, this]
    · simp [aJ, sJ, up_n hb]
  rw [this]
  exact hF.2.1 b j z
/-- what stays -/
theorem FRM_gi {M : MD} {h0 : aH} {a r k : Nat} (hF : FRM gRL M h0 h) (hr : gRL[a]? = some r) (hm : mHas M 0 r k = false) : gi h a k = gi h0 a k := by
  show (aI h a k).toInt = (aI h0 a k).toInt
  rw [hF.1 a k fun r' hr' => by rw [hr] at hr'; cases hr'; exact hm]
theorem gov_n {h : aH} : gov gRL (fun _ => none) [] h := fun q hq => by cases hq
/-- arguments -/
theorem ar_n {ls : List (Nat × Value)} {xs : List Value} (g : gst gRL (fun _ => none) ls h [] xs) : xs = [] := by
  cases xs with
  | nil => rfl
  | cons x xs => exact g.elim
theorem ar_c {ls : List (Nat × Value)} {v : AV} {vs : List AV} {xs : List Value} (g : gst gRL (fun _ => none) ls h (v :: vs) xs) : ∃ x ys, xs = x :: ys ∧ gv gRL (fun _ => none) ls h v x ∧ gst gRL (fun _ => none) ls h vs ys := by
  cases xs with
  | nil => exact g.elim
  | cons x xs => exact ⟨x, xs, rfl, g⟩
theorem ar_r {ls : List (Nat × Value)} {r a : Nat} {z : Int × Int} {x : Value} (hr5 : r < 500) (h1 : ((List.range gRL.length).all fun c => !(decide (gRL[c]? = some r)) || Nat.beq c a) = true) (g : gv gRL (fun _ => none) ls h (2, r, z) x) : x = .ref a := by
  obtain ⟨b, rfl, hb⟩ := g
  unfold isr at hb
  rw [if_pos (show r < 500 from hr5)] at hb
  rw [oneB h1 hb]
theorem ar_i {ls : List (Nat × Value)} {lo hi : Int} {x : Value} (g : gv gRL (fun _ => none) ls h (0, 0, lo, hi) x) : ∃ n : Int, r32 n ∧ x = .int (I n) ∧ lo ≤ n ∧ n ≤ hi := by
  obtain ⟨w, rfl, b1, b2, -⟩ := g
  exact ⟨w.toInt, r_I w, by rw [t_I], b1, b2⟩
theorem ge_i {ls : List (Nat × Value)} {lo hi e : Int} (hr : r32 e) (h1 : lo ≤ e) (h2 : e ≤ hi) : gst gRL (fun _ => none) ls h [(0, 0, lo, hi)] (some (Value.int (I e))).toList :=
  ⟨⟨I e, rfl, by show lo ≤ (I e).toInt; rw [I_t hr]; exact h1, by show (I e).toInt ≤ hi; rw [I_t hr]; exact h2, trivial⟩, trivial⟩
/-- arguments of a call, for what is said of it -/
theorem gv_i {sg : Nat → Option Nat} {ls : List (Nat × Value)} {lo hi e : Int} (hr : r32 e) (h1 : lo ≤ e) (h2 : e ≤ hi) : gv gRL sg ls h (0, 0, lo, hi) (.int (I e)) :=
  ⟨I e, rfl, by show lo ≤ (I e).toInt; rw [I_t hr]; exact h1, by show (I e).toInt ≤ hi; rw [I_t hr]; exact h2, trivial⟩
theorem gv_r {ls : List (Nat × Value)} {r a : Nat} {z : Int × Int} (hr5 : r < 500) (hr : gRL[a]? = some r) : gv gRL (fun _ => none) ls h (2, r, z) (.ref a) :=
  ⟨a, rfl, by unfold isr; rw [if_pos (show r < 500 from hr5)]; exact hr⟩
theorem QS_i {lo hi : Int} {rv : Option Value} (g : gst gRL (fun _ => none) [] h [(0, 0, lo, hi)] rv.toList) : ∃ n : Int, r32 n ∧ rv = some (.int (I n)) ∧ lo ≤ n ∧ n ≤ hi := by
  cases rv with
  | none => exact g.elim
  | some x =>
    obtain ⟨n, h1, rfl, h2, h3⟩ := ar_i g.1
    exact ⟨n, h1, rfl, h2, h3⟩
theorem QS_v {rv : Option Value} (g : gst gRL (fun _ => none) [] h [] rv.toList) : rv = none := by
  cases rv with
  | none => rfl
  | some x => exact g.elim
end HLP
/-! the cells that stand alone: shapes, references, their roles -/
theorem sp_0 {sh : List (Nat × Nat)} {h : aH} (hG : GD gE gRL sh h) : h.1[0]? = some (110, 17) := shx hG (r := 0) rfl rfl
theorem sp_1 {sh : List (Nat × Nat)} {h : aH} (hG : GD gE gRL sh h) : h.1[1]? = some (109, 6) := shx hG (r := 1) rfl rfl
theorem sp_2 {sh : List (Nat × Nat)} {h : aH} (hG : GD gE gRL sh h) : h.1[2]? = some (2, 80) := shx hG (r := 2) rfl rfl
theorem sp_3 {sh : List (Nat × Nat)} {h : aH} (hG : GD gE gRL sh h) : h.1[3]? = some (103, 2) := shx hG (r := 3) rfl rfl
theorem sp_4 {sh : List (Nat × Nat)} {h : aH} (hG : GD gE gRL sh h) : h.1[4]? = some (1, 30) := shx hG (r := 4) rfl rfl
theorem sp_17 {sh : List (Nat × Nat)} {h : aH} (hG : GD gE gRL sh h) : h.1[17]? = some (105, 5) := shx hG (r := 11) rfl rfl
theorem sp_18 {sh : List (Nat × Nat)} {h : aH} (hG : GD gE gRL sh h) : h.1[18]? = some (0, 40) := shx hG (r := 12) rfl rfl
theorem sp_19 {sh : List (Nat × Nat)} {h : aH} (hG : GD gE gRL sh h) : h.1[19]? = some (102, 3) := shx hG (r := 13) rfl rfl
theorem sp_20 {sh : List (Nat × Nat)} {h : aH} (hG : GD gE gRL sh h) : h.1[20]? = some (0, 16) := shx hG (r := 14) rfl rfl
theorem sp_21 {sh : List (Nat × Nat)} {h : aH} (hG : GD gE gRL sh h) : h.1[21]? = some (0, 16) := shx hG (r := 15) rfl rfl
theorem sp_22 {sh : List (Nat × Nat)} {h : aH} (hG : GD gE gRL sh h) : h.1[22]? = some (0, 8) := shx hG (r := 16) rfl rfl
theorem sp_23 {sh : List (Nat × Nat)} {h : aH} (hG : GD gE gRL sh h) : h.1[23]? = some (108, 9) := shx hG (r := 17) rfl rfl
theorem sp_24 {sh : List (Nat × Nat)} {h : aH} (hG : GD gE gRL sh h) : h.1[24]? = some (0, 12) := shx hG (r := 18) rfl rfl
theorem sp_25 {sh : List (Nat × Nat)} {h : aH} (hG : GD gE gRL sh h) : h.1[25]? = some (0, 12) := shx hG (r := 19) rfl rfl
theorem sp_26 {sh : List (Nat × Nat)} {h : aH} (hG : GD gE gRL sh h) : h.1[26]? = some (0, 8) := shx hG (r := 20) rfl rfl
theorem sp_27 {sh : List (Nat × Nat)} {h : aH} (hG : GD gE gRL sh h) : h.1[27]? = some (0, 8) := shx hG (r := 21) rfl rfl
theorem sp_28 {sh : List (Nat × Nat)} {h : aH} (hG : GD gE gRL sh h) : h.1[28]? = some (108, 9) := shx hG (r := 22) rfl rfl
theorem sp_29 {sh : List (Nat × Nat)} {h : aH} (hG : GD gE gRL sh h) : h.1[29]? = some (0, 12) := shx hG (r := 23) rfl rfl
theorem sp_30 {sh : List (Nat × Nat)} {h : aH} (hG : GD gE gRL sh h) : h.1[30]? = some (0, 12) := shx hG (r := 24) rfl rfl
theorem sp_31 {sh : List (Nat × Nat)} {h : aH} (hG : GD gE gRL sh h) : h.1[31]? = some (0, 8) := shx hG (r := 25) rfl rfl
theorem sp_32 {sh : List (Nat × Nat)} {h : aH} (hG : GD gE gRL sh h) : h.1[32]? = some (0, 8) := shx hG (r := 26) rfl rfl
theorem sp_33 {sh : List (Nat × Nat)} {h : aH} (hG : GD gE gRL sh h) : h.1[33]? = some (101, 5) := shx hG (r := 27) rfl rfl
theorem sp_34 {sh : List (Nat × Nat)} {h : aH} (hG : GD gE gRL sh h) : h.1[34]? = some (4, 15) := shx hG (r := 28) rfl rfl
theorem sp_35 {sh : List (Nat × Nat)} {h : aH} (hG : GD gE gRL sh h) : h.1[35]? = some (4, 3) := shx hG (r := 29) rfl rfl
theorem sp_36 {sh : List (Nat × Nat)} {h : aH} (hG : GD gE gRL sh h) : h.1[36]? = some (3, 3) := shx hG (r := 30) rfl rfl
theorem sp_127 {sh : List (Nat × Nat)} {h : aH} (hG : GD gE gRL sh h) : h.1[127]? = some (100, 6) := shx hG (r := 41) rfl rfl
theorem sp_128 {sh : List (Nat × Nat)} {h : aH} (hG : GD gE gRL sh h) : h.1[128]? = some (0, 30) := shx hG (r := 42) rfl rfl
theorem sp_129 {sh : List (Nat × Nat)} {h : aH} (hG : GD gE gRL sh h) : h.1[129]? = some (0, 31) := shx hG (r := 43) rfl rfl
theorem sp_130 {sh : List (Nat × Nat)} {h : aH} (hG : GD gE gRL sh h) : h.1[130]? = some (0, 31) := shx hG (r := 44) rfl rfl
theorem sp_131 {sh : List (Nat × Nat)} {h : aH} (hG : GD gE gRL sh h) : h.1[131]? = some (0, 30) := shx hG (r := 45) rfl rfl
theorem sp_132 {sh : List (Nat × Nat)} {h : aH} (hG : GD gE gRL sh h) : h.1[132]? = some (0, 9) := shx hG (r := 46) rfl rfl
theorem sp_133 {sh : List (Nat × Nat)} {h : aH} (hG : GD gE gRL sh h) : h.1[133]? = some (107, 3) := shx hG (r := 47) rfl rfl
theorem sp_134 {sh : List (Nat × Nat)} {h : aH} (hG : GD gE gRL sh h) : h.1[134]? = some (0, 25) := shx hG (r := 48) rfl rfl
theorem sp_135 {sh : List (Nat × Nat)} {h : aH} (hG : GD gE gRL sh h) : h.1[135]? = some (6, 25) := shx hG (r := 49) rfl rfl
theorem sp_161 {sh : List (Nat × Nat)} {h : aH} (hG : GD gE gRL sh h) : h.1[161]? = some (0, 9) := shx hG (r := 51) rfl rfl
theorem sp_162 {sh : List (Nat × Nat)} {h : aH} (hG : GD gE gRL sh h) : h.1[162]? = some (5, 8) := shx hG (r := 52) rfl rfl
theorem sp_171 {sh : List (Nat × Nat)} {h : aH} (hG : GD gE gRL sh h) : h.1[171]? = some (111, 53) := shx hG (r := 54) rfl rfl
theorem sp_172 {sh : List (Nat × Nat)} {h : aH} (hG : GD gE gRL sh h) : h.1[172]? = some (1, 40) := shx hG (r := 55) rfl rfl
theorem sp_173 {sh : List (Nat × Nat)} {h : aH} (hG : GD gE gRL sh h) : h.1[173]? = some (0, 10) := shx hG (r := 56) rfl rfl
theorem sp_174 {sh : List (Nat × Nat)} {h : aH} (hG : GD gE gRL sh h) : h.1[174]? = some (3, 10) := shx hG (r := 57) rfl rfl
theorem sp_175 {sh : List (Nat × Nat)} {h : aH} (hG : GD gE gRL sh h) : h.1[175]? = some (0, 16) := shx hG (r := 58) rfl rfl
theorem sp_176 {sh : List (Nat × Nat)} {h : aH} (hG : GD gE gRL sh h) : h.1[176]? = some (0, 16) := shx hG (r := 59) rfl rfl
theorem sp_177 {sh : List (Nat × Nat)} {h : aH} (hG : GD gE gRL sh h) : h.1[177]? = some (0, 8) := shx hG (r := 60) rfl rfl
theorem sp_178 {sh : List (Nat × Nat)} {h : aH} (hG : GD gE gRL sh h) : h.1[178]? = some (0, 57) := shx hG (r := 61) rfl rfl
theorem sp_179 {sh : List (Nat × Nat)} {h : aH} (hG : GD gE gRL sh h) : h.1[179]? = some (0, 57) := shx hG (r := 62) rfl rfl
theorem sp_180 {sh : List (Nat × Nat)} {h : aH} (hG : GD gE gRL sh h) : h.1[180]? = some (0, 80) := shx hG (r := 63) rfl rfl
theorem sp_181 {sh : List (Nat × Nat)} {h : aH} (hG : GD gE gRL sh h) : h.1[181]? = some (0, 32) := shx hG (r := 64) rfl rfl
theorem sp_182 {sh : List (Nat × Nat)} {h : aH} (hG : GD gE gRL sh h) : h.1[182]? = some (0, 80) := shx hG (r := 65) rfl rfl
theorem sp_183 {sh : List (Nat × Nat)} {h : aH} (hG : GD gE gRL sh h) : h.1[183]? = some (0, 80) := shx hG (r := 66) rfl rfl
theorem sp_184 {sh : List (Nat × Nat)} {h : aH} (hG : GD gE gRL sh h) : h.1[184]? = some (0, 80) := shx hG (r := 67) rfl rfl
theorem sp_185 {sh : List (Nat × Nat)} {h : aH} (hG : GD gE gRL sh h) : h.1[185]? = some (0, 4) := shx hG (r := 68) rfl rfl
theorem sp_186 {sh : List (Nat × Nat)} {h : aH} (hG : GD gE gRL sh h) : h.1[186]? = some (0, 912) := shx hG (r := 69) rfl rfl
theorem sp_187 {sh : List (Nat × Nat)} {h : aH} (hG : GD gE gRL sh h) : h.1[187]? = some (0, 60) := shx hG (r := 70) rfl rfl
theorem sp_188 {sh : List (Nat × Nat)} {h : aH} (hG : GD gE gRL sh h) : h.1[188]? = some (0, 60) := shx hG (r := 71) rfl rfl
theorem sp_189 {sh : List (Nat × Nat)} {h : aH} (hG : GD gE gRL sh h) : h.1[189]? = some (0, 30) := shx hG (r := 72) rfl rfl
theorem sp_190 {sh : List (Nat × Nat)} {h : aH} (hG : GD gE gRL sh h) : h.1[190]? = some (0, 9) := shx hG (r := 73) rfl rfl
theorem sp_191 {sh : List (Nat × Nat)} {h : aH} (hG : GD gE gRL sh h) : h.1[191]? = some (0, 9) := shx hG (r := 74) rfl rfl
theorem sp_192 {sh : List (Nat × Nat)} {h : aH} (hG : GD gE gRL sh h) : h.1[192]? = some (0, 14409) := shx hG (r := 75) rfl rfl
theorem sp_193 {sh : List (Nat × Nat)} {h : aH} (hG : GD gE gRL sh h) : h.1[193]? = some (0, 12) := shx hG (r := 76) rfl rfl
theorem sp_194 {sh : List (Nat × Nat)} {h : aH} (hG : GD gE gRL sh h) : h.1[194]? = some (0, 12) := shx hG (r := 77) rfl rfl
theorem sp_195 {sh : List (Nat × Nat)} {h : aH} (hG : GD gE gRL sh h) : h.1[195]? = some (0, 225) := shx hG (r := 78) rfl rfl
theorem sp_196 {sh : List (Nat × Nat)} {h : aH} (hG : GD gE gRL sh h) : h.1[196]? = some (3, 225) := shx hG (r := 79) rfl rfl
theorem sp_197 {sh : List (Nat × Nat)} {h : aH} (hG : GD gE gRL sh h) : h.1[197]? = some (3, 225) := shx hG (r := 80) rfl rfl
theorem sp_198 {sh : List (Nat × Nat)} {h : aH} (hG : GD gE gRL sh h) : h.1[198]? = some (3, 3) := shx hG (r := 81) rfl rfl
theorem sp_199 {sh : List (Nat × Nat)} {h : aH} (hG : GD gE gRL sh h) : h.1[199]? = some (0, 3) := shx hG (r := 82) rfl rfl
theorem sp_200 {sh : List (Nat × Nat)} {h : aH} (hG : GD gE gRL sh h) : h.1[200]? = some (0, 171) := shx hG (r := 83) rfl rfl
theorem rf_0_0 {sh : List (Nat × Nat)} {h : aH} (hG : GD gE gRL sh h) : aR h 0 0 = some 1 := grO hG (r := 0) (q := 1) rfl rfl (by decide +kernel)
theorem rf_0_1 {sh : List (Nat × Nat)} {h : aH} (hG : GD gE gRL sh h) : aR h 0 1 = some 3 := grO hG (r := 0) (q := 3) rfl rfl (by decide +kernel)
theorem rf_0_6 {sh : List (Nat × Nat)} {h : aH} (hG : GD gE gRL sh h) : aR h 0 6 = some 17 := grO hG (r := 0) (q := 11) rfl rfl (by decide +kernel)
theorem rf_0_7 {sh : List (Nat × Nat)} {h : aH} (hG : GD gE gRL sh h) : aR h 0 7 = some 19 := grO hG (r := 0) (q := 13) rfl rfl (by decide +kernel)
theorem rf_0_8 {sh : List (Nat × Nat)} {h : aH} (hG : GD gE gRL sh h) : aR h 0 8 = some 22 := grO hG (r := 0) (q := 16) rfl rfl (by decide +kernel)
theorem rf_0_10 {sh : List (Nat × Nat)} {h : aH} (hG : GD gE gRL sh h) : aR h 0 10 = some 23 := grO hG (r := 0) (q := 17) rfl rfl (by decide +kernel)
theorem rf_0_11 {sh : List (Nat × Nat)} {h : aH} (hG : GD gE gRL sh h) : aR h 0 11 = some 28 := grO hG (r := 0) (q := 22) rfl rfl (by decide +kernel)
theorem rf_0_12 {sh : List (Nat × Nat)} {h : aH} (hG : GD gE gRL sh h) : aR h 0 12 = some 33 := grO hG (r := 0) (q := 27) rfl rfl (by decide +kernel)
theorem rf_0_13 {sh : List (Nat × Nat)} {h : aH} (hG : GD gE gRL sh h) : aR h 0 13 = some 127 := grO hG (r := 0) (q := 41) rfl rfl (by decide +kernel)
theorem rf_0_14 {sh : List (Nat × Nat)} {h : aH} (hG : GD gE gRL sh h) : aR h 0 14 = some 133 := grO hG (r := 0) (q := 47) rfl rfl (by decide +kernel)
theorem rf_0_15 {sh : List (Nat × Nat)} {h : aH} (hG : GD gE gRL sh h) : aR h 0 15 = some 161 := grO hG (r := 0) (q := 51) rfl rfl (by decide +kernel)
theorem rf_0_16 {sh : List (Nat × Nat)} {h : aH} (hG : GD gE gRL sh h) : aR h 0 16 = some 162 := grO hG (r := 0) (q := 52) rfl rfl (by decide +kernel)
theorem rf_1_0 {sh : List (Nat × Nat)} {h : aH} (hG : GD gE gRL sh h) : aR h 1 0 = some 2 := grO hG (r := 1) (q := 2) rfl rfl (by decide +kernel)
theorem rf_3_0 {sh : List (Nat × Nat)} {h : aH} (hG : GD gE gRL sh h) : aR h 3 0 = some 4 := grO hG (r := 3) (q := 4) rfl rfl (by decide +kernel)
theorem rf_17_0 {sh : List (Nat × Nat)} {h : aH} (hG : GD gE gRL sh h) : aR h 17 0 = some 18 := grO hG (r := 11) (q := 12) rfl rfl (by decide +kernel)
theorem rf_19_1 {sh : List (Nat × Nat)} {h : aH} (hG : GD gE gRL sh h) : aR h 19 1 = some 20 := grO hG (r := 13) (q := 14) rfl rfl (by decide +kernel)
theorem rf_19_2 {sh : List (Nat × Nat)} {h : aH} (hG : GD gE gRL sh h) : aR h 19 2 = some 21 := grO hG (r := 13) (q := 15) rfl rfl (by decide +kernel)
theorem rf_23_5 {sh : List (Nat × Nat)} {h : aH} (hG : GD gE gRL sh h) : aR h 23 5 = some 24 := grO hG (r := 17) (q := 18) rfl rfl (by decide +kernel)
theorem rf_23_6 {sh : List (Nat × Nat)} {h : aH} (hG : GD gE gRL sh h) : aR h 23 6 = some 25 := grO hG (r := 17) (q := 19) rfl rfl (by decide +kernel)
theorem rf_23_7 {sh : List (Nat × Nat)} {h : aH} (hG : GD gE gRL sh h) : aR h 23 7 = some 26 := grO hG (r := 17) (q := 20) rfl rfl (by decide +kernel)
theorem rf_23_8 {sh : List (Nat × Nat)} {h : aH} (hG : GD gE gRL sh h) : aR h 23 8 = some 27 := grO hG (r := 17) (q := 21) rfl rfl (by decide +kernel)
theorem rf_28_5 {sh : List (Nat × Nat)} {h : aH} (hG : GD gE gRL sh h) : aR h 28 5 = some 29 := grO hG (r := 22) (q := 23) rfl rfl (by decide +kernel)
theorem rf_28_6 {sh : List (Nat × Nat)} {h : aH} (hG : GD gE gRL sh h) : aR h 28 6 = some 30 := grO hG (r := 22) (q := 24) rfl rfl (by decide +kernel)
theorem rf_28_7 {sh : List (Nat × Nat)} {h : aH} (hG : GD gE gRL sh h) : aR h 28 7 = some 31 := grO hG (r := 22) (q := 25) rfl rfl (by decide +kernel)
theorem rf_28_8 {sh : List (Nat × Nat)} {h : aH} (hG : GD gE gRL sh h) : aR h 28 8 = some 32 := grO hG (r := 22) (q := 26) rfl rfl (by decide +kernel)
theorem rf_33_0 {sh : List (Nat × Nat)} {h : aH} (hG : GD gE gRL sh h) : aR h 33 0 = some 34 := grO hG (r := 27) (q := 28) rfl rfl (by decide +kernel)
theorem rf_33_3 {sh : List (Nat × Nat)} {h : aH} (hG : GD gE gRL sh h) : aR h 33 3 = some 35 := grO hG (r := 27) (q := 29) rfl rfl (by decide +kernel)
theorem rf_33_4 {sh : List (Nat × Nat)} {h : aH} (hG : GD gE gRL sh h) : aR h 33 4 = some 36 := grO hG (r := 27) (q := 30) rfl rfl (by decide +kernel)
theorem rf_127_0 {sh : List (Nat × Nat)} {h : aH} (hG : GD gE gRL sh h) : aR h 127 0 = some 128 := grO hG (r := 41) (q := 42) rfl rfl (by decide +kernel)
theorem rf_127_1 {sh : List (Nat × Nat)} {h : aH} (hG : GD gE gRL sh h) : aR h 127 1 = some 129 := grO hG (r := 41) (q := 43) rfl rfl (by decide +kernel)
theorem rf_127_2 {sh : List (Nat × Nat)} {h : aH} (hG : GD gE gRL sh h) : aR h 127 2 = some 130 := grO hG (r := 41) (q := 44) rfl rfl (by decide +kernel)
theorem rf_127_3 {sh : List (Nat × Nat)} {h : aH} (hG : GD gE gRL sh h) : aR h 127 3 = some 131 := grO hG (r := 41) (q := 45) rfl rfl (by decide +kernel)
theorem rf_127_4 {sh : List (Nat × Nat)} {h : aH} (hG : GD gE gRL sh h) : aR h 127 4 = some 132 := grO hG (r := 41) (q := 46) rfl rfl (by decide +kernel)
theorem rf_133_1 {sh : List (Nat × Nat)} {h : aH} (hG : GD gE gRL sh h) : aR h 133 1 = some 134 := grO hG (r := 47) (q := 48) rfl rfl (by decide +kernel)
theorem rf_133_2 {sh : List (Nat × Nat)} {h : aH} (hG : GD gE gRL sh h) : aR h 133 2 = some 135 := grO hG (r := 47) (q := 49) rfl rfl (by decide +kernel)
theorem rf_171_2 {sh : List (Nat × Nat)} {h : aH} (hG : GD gE gRL sh h) : aR h 171 2 = some 172 := grO hG (r := 54) (q := 55) rfl rfl (by decide +kernel)
theorem rf_171_9 {sh : List (Nat × Nat)} {h : aH} (hG : GD gE gRL sh h) : aR h 171 9 = some 173 := grO hG (r := 54) (q := 56) rfl rfl (by decide +kernel)
theorem rf_171_10 {sh : List (Nat × Nat)} {h : aH} (hG : GD gE gRL sh h) : aR h 171 10 = some 174 := grO hG (r := 54) (q := 57) rfl rfl (by decide +kernel)
theorem rf_171_11 {sh : List (Nat × Nat)} {h : aH} (hG : GD gE gRL sh h) : aR h 171 11 = some 175 := grO hG (r := 54) (q := 58) rfl rfl (by decide +kernel)
theorem rf_171_12 {sh : List (Nat × Nat)} {h : aH} (hG : GD gE gRL sh h) : aR h 171 12 = some 176 := grO hG (r := 54) (q := 59) rfl rfl (by decide +kernel)
theorem rf_171_13 {sh : List (Nat × Nat)} {h : aH} (hG : GD gE gRL sh h) : aR h 171 13 = some 177 := grO hG (r := 54) (q := 60) rfl rfl (by decide +kernel)
theorem rf_171_14 {sh : List (Nat × Nat)} {h : aH} (hG : GD gE gRL sh h) : aR h 171 14 = some 178 := grO hG (r := 54) (q := 61) rfl rfl (by decide +kernel)
theorem rf_171_15 {sh : List (Nat × Nat)} {h : aH} (hG : GD gE gRL sh h) : aR h 171 15 = some 179 := grO hG (r := 54) (q := 62) rfl rfl (by decide +kernel)
theorem rf_171_16 {sh : List (Nat × Nat)} {h : aH} (hG : GD gE gRL sh h) : aR h 171 16 = some 180 := grO hG (r := 54) (q := 63) rfl rfl (by decide +kernel)
theorem rf_171_21 {sh : List (Nat × Nat)} {h : aH} (hG : GD gE gRL sh h) : aR h 171 21 = some 181 := grO hG (r := 54) (q := 64) rfl rfl (by decide +kernel)
theorem rf_171_23 {sh : List (Nat × Nat)} {h : aH} (hG : GD gE gRL sh h) : aR h 171 23 = some 182 := grO hG (r := 54) (q := 65) rfl rfl (by decide +kernel)
theorem rf_171_24 {sh : List (Nat × Nat)} {h : aH} (hG : GD gE gRL sh h) : aR h 171 24 = some 183 := grO hG (r := 54) (q := 66) rfl rfl (by decide +kernel)
theorem rf_171_27 {sh : List (Nat × Nat)} {h : aH} (hG : GD gE gRL sh h) : aR h 171 27 = some 184 := grO hG (r := 54) (q := 67) rfl rfl (by decide +kernel)
theorem rf_171_28 {sh : List (Nat × Nat)} {h : aH} (hG : GD gE gRL sh h) : aR h 171 28 = some 185 := grO hG (r := 54) (q := 68) rfl rfl (by decide +kernel)
theorem rf_171_30 {sh : List (Nat × Nat)} {h : aH} (hG : GD gE gRL sh h) : aR h 171 30 = some 186 := grO hG (r := 54) (q := 69) rfl rfl (by decide +kernel)
theorem rf_171_33 {sh : List (Nat × Nat)} {h : aH} (hG : GD gE gRL sh h) : aR h 171 33 = some 187 := grO hG (r := 54) (q := 70) rfl rfl (by decide +kernel)
theorem rf_171_34 {sh : List (Nat × Nat)} {h : aH} (hG : GD gE gRL sh h) : aR h 171 34 = some 188 := grO hG (r := 54) (q := 71) rfl rfl (by decide +kernel)
theorem rf_171_36 {sh : List (Nat × Nat)} {h : aH} (hG : GD gE gRL sh h) : aR h 171 36 = some 189 := grO hG (r := 54) (q := 72) rfl rfl (by decide +kernel)
theorem rf_171_37 {sh : List (Nat × Nat)} {h : aH} (hG : GD gE gRL sh h) : aR h 171 37 = some 190 := grO hG (r := 54) (q := 73) rfl rfl (by decide +kernel)
theorem rf_171_38 {sh : List (Nat × Nat)} {h : aH} (hG : GD gE gRL sh h) : aR h 171 38 = some 191 := grO hG (r := 54) (q := 74) rfl rfl (by decide +kernel)
theorem rf_171_41 {sh : List (Nat × Nat)} {h : aH} (hG : GD gE gRL sh h) : aR h 171 41 = some 192 := grO hG (r := 54) (q := 75) rfl rfl (by decide +kernel)
theorem rf_171_43 {sh : List (Nat × Nat)} {h : aH} (hG : GD gE gRL sh h) : aR h 171 43 = some 193 := grO hG (r := 54) (q := 76) rfl rfl (by decide +kernel)
theorem rf_171_44 {sh : List (Nat × Nat)} {h : aH} (hG : GD gE gRL sh h) : aR h 171 44 = some 194 := grO hG (r := 54) (q := 77) rfl rfl (by decide +kernel)
theorem rf_171_45 {sh : List (Nat × Nat)} {h : aH} (hG : GD gE gRL sh h) : aR h 171 45 = some 195 := grO hG (r := 54) (q := 78) rfl rfl (by decide +kernel)
theorem rf_171_46 {sh : List (Nat × Nat)} {h : aH} (hG : GD gE gRL sh h) : aR h 171 46 = some 196 := grO hG (r := 54) (q := 79) rfl rfl (by decide +kernel)
theorem rf_171_47 {sh : List (Nat × Nat)} {h : aH} (hG : GD gE gRL sh h) : aR h 171 47 = some 197 := grO hG (r := 54) (q := 80) rfl rfl (by decide +kernel)
theorem rf_171_50 {sh : List (Nat × Nat)} {h : aH} (hG : GD gE gRL sh h) : aR h 171 50 = some 198 := grO hG (r := 54) (q := 81) rfl rfl (by decide +kernel)
theorem rf_171_51 {sh : List (Nat × Nat)} {h : aH} (hG : GD gE gRL sh h) : aR h 171 51 = some 199 := grO hG (r := 54) (q := 82) rfl rfl (by decide +kernel)
theorem rf_171_52 {sh : List (Nat × Nat)} {h : aH} (hG : GD gE gRL sh h) : aR h 171 52 = some 200 := grO hG (r := 54) (q := 83) rfl rfl (by decide +kernel)
end
section
/-! COPIES: the object's state put by, brought back, kept; how late she can be (NB) -/
section LCM
variable {CL : CT} {ac : AC} {ret : Option FieldType} {Q : QT} {K : KT} {r1 r2 r1' r2' : Nat} {r3 r3' : Int} {pc : Nat} {ls : List (Nat × Value)} {st : List Value} {h : aH} {bc bs : Nat}
/-- comparing longs, and the branch behind it -/
theorem lc_r {a b : Int} : r32 (if a < b then -1 else if b < a then 1 else 0) := by
  split
  · omega
  · split <;> omega
theorem lc_eq {a b : Int} : (if a < b then (-1 : Int) else if b < a then 1 else 0) = 0 ↔ a = b := by
  split
  · omega
  · split <;> omega
theorem x_lcmp_eq (p q : Nat) {a b : Int} {off : Int} (hK : CLO CL ac ret Q K) (hf : fr ac pc = some (.lcmp, r1, r2, r3)) (hf2 : fr ac (pc + 1) = some (.ifCond .eq off, r1', r2', r3')) (hp : tg (pc + 1) off = p) (hq : pc + 4 = q) (ha : r64 a) (hb : r64 b) (h1 : a = b → K p ls st h bc bs) (h2 : ¬ (a = b) → K q ls st h bc bs) : K pc ls (.long (J b) :: .long (J a) :: st) h bc bs :=
  x_lcmp (pc + 1) hK hf rfl ha hb (x_if_eq p q hK hf2 hp hq lc_r (fun w => h1 (lc_eq.mp w)) fun w => h2 fun y => w (lc_eq.mpr y))
theorem lc_ne {a b : Int} : (if a < b then (-1 : Int) else if b < a then 1 else 0) ≠ 0 ↔ a ≠ b := by
  split
  · omega
  · split <;> omega
theorem x_lcmp_ne (p q : Nat) {a b : Int} {off : Int} (hK : CLO CL ac ret Q K) (hf : fr ac pc = some (.lcmp, r1, r2, r3)) (hf2 : fr ac (pc + 1) = some (.ifCond .ne off, r1', r2', r3')) (hp : tg (pc + 1) off = p) (hq : pc + 4 = q) (ha : r64 a) (hb : r64 b) (h1 : a ≠ b → K p ls st h bc bs) (h2 : ¬ (a ≠ b) → K q ls st h bc bs) : K pc ls (.long (J b) :: .long (J a) :: st) h bc bs :=
  x_lcmp (pc + 1) hK hf rfl ha hb (x_if_ne p q hK hf2 hp hq lc_r (fun w => h1 (lc_ne.mp w)) fun w => h2 fun y => w (lc_ne.mpr y))
theorem lc_lt {a b : Int} : (if a < b then (-1 : Int) else if b < a then 1 else 0) < 0 ↔ a < b := by
  split
  · omega
  · split <;> omega
theorem x_lcmp_lt (p q : Nat) {a b : Int} {off : Int} (hK : CLO CL ac ret Q K) (hf : fr ac pc = some (.lcmp, r1, r2, r3)) (hf2 : fr ac (pc + 1) = some (.ifCond .lt off, r1', r2', r3')) (hp : tg (pc + 1) off = p) (hq : pc + 4 = q) (ha : r64 a) (hb : r64 b) (h1 : a < b → K p ls st h bc bs) (h2 : ¬ (a < b) → K q ls st h bc bs) : K pc ls (.long (J b) :: .long (J a) :: st) h bc bs :=
  x_lcmp (pc + 1) hK hf rfl ha hb (x_if_lt p q hK hf2 hp hq lc_r (fun w => h1 (lc_lt.mp w)) fun w => h2 fun y => w (lc_lt.mpr y))
theorem lc_gt {a b : Int} : 0 < (if a < b then (-1 : Int) else if b < a then 1 else 0) ↔ b < a := by
  split
  · omega
  · split <;> omega
theorem x_lcmp_gt (p q : Nat) {a b : Int} {off : Int} (hK : CLO CL ac ret Q K) (hf : fr ac pc = some (.lcmp, r1, r2, r3)) (hf2 : fr ac (pc + 1) = some (.ifCond .gt off, r1', r2', r3')) (hp : tg (pc + 1) off = p) (hq : pc + 4 = q) (ha : r64 a) (hb : r64 b) (h1 : b < a → K p ls st h bc bs) (h2 : ¬ (b < a) → K q ls st h bc bs) : K pc ls (.long (J b) :: .long (J a) :: st) h bc bs :=
  x_lcmp (pc + 1) hK hf rfl ha hb (x_if_gt p q hK hf2 hp hq lc_r (fun w => h1 (lc_gt.mp w)) fun w => h2 fun y => w (lc_gt.mpr y))
theorem lc_le {a b : Int} : (if a < b then (-1 : Int) else if b < a then 1 else 0) ≤ 0 ↔ a ≤ b := by
  split
  · omega
  · split <;> omega
theorem x_lcmp_le (p q : Nat) {a b : Int} {off : Int} (hK : CLO CL ac ret Q K) (hf : fr ac pc = some (.lcmp, r1, r2, r3)) (hf2 : fr ac (pc + 1) = some (.ifCond .le off, r1', r2', r3')) (hp : tg (pc + 1) off = p) (hq : pc + 4 = q) (ha : r64 a) (hb : r64 b) (h1 : a ≤ b → K p ls st h bc bs) (h2 : ¬ (a ≤ b) → K q ls st h bc bs) : K pc ls (.long (J b) :: .long (J a) :: st) h bc bs :=
  x_lcmp (pc + 1) hK hf rfl ha hb (x_if_le p q hK hf2 hp hq lc_r (fun w => h1 (lc_le.mp w)) fun w => h2 fun y => w (lc_le.mpr y))
end LCM

section LKS
variable {ls : List (Nat × Value)} {i j : Nat} {v x : Value}
theorem lk_flt {f : Nat × Value → Bool} : ∀ {ls : List (Nat × Value)} {j : Nat} {x : Value}, lk ls j = some x → f (j, x) = true → lk (ls.filter f) j = some x
  | [], _, _, h, _ => by cases h
  | q :: t, j, x, h, hf => by
    unfold lk at h
    by_cases e : q.1 = j
    · rw [if_pos e] at h
      cases h
      have : f q = true := by rw [← hf, ← e]
      rw [List.filter_cons_of_pos this]
      unfold lk
      rw [if_pos e]
    · rw [if_neg e] at h
      have ih := lk_flt (f := f) h hf
      by_cases hq : f q = true
      · rw [List.filter_cons_of_pos hq]
        unfold lk
        rw [if_neg e]
        exact ih
      · rw [List.filter_cons_of_neg hq]
        exact ih
theorem lk1_s : lk (so1 ls i v) i = some v := if_pos rfl
theorem lk2_s : lk (so2 ls i v) i = some v := if_pos rfl
theorem lk1_n (hl : lk ls j = some x) (h : j ≠ i) (hc : x.category = 1 ∨ j + 1 ≠ i) : lk (so1 ls i v) j = some x := by
  show (if i = j then some v else lk (ls.filter _) j) = some x
  rw [if_neg (fun e => h e.symm)]
  refine lk_flt hl ?_
  rcases hc with hc | hc
  · simp [h, hc]
  · simp [h, hc]
theorem lk2_n (hl : lk ls j = some x) (h : j ≠ i) (h2 : j ≠ i + 1) (hc : x.category = 1 ∨ j + 1 ≠ i) : lk (so2 ls i v) j = some x := by
  show (if i = j then some v else lk (ls.filter _) j) = some x
  rw [if_neg (fun e => h e.symm)]
  refine lk_flt hl ?_
  rcases hc with hc | hc
  · simp [h, h2, hc]
  · simp [h, h2, hc]
end LKS
section JDV
theorem J_inj {a b : Int} (ha : r64 a) (hb : r64 b) : J a = J b ↔ a = b := ⟨fun h => by have := congrArg Int64.toInt h; rwa [J_t ha, J_t hb] at this, fun h => by rw [h]⟩
theorem J_ne0 {b : Int} (hb : r64 b) (h0 : b ≠ 0) : ¬ J b = 0 := by
  rw [show (0 : Int64) = J 0 from rfl, J_inj hb ⟨by omega, by omega⟩]; exact h0
theorem J_divp {a b : Int} (ha : r64 a) (hb : r64 b) (h0 : 0 ≤ a) (h1 : 0 < b) : J a / J b = J (a / b) := by
  apply Int64.toInt.inj
  have h2 : 0 ≤ a / b := Int.ediv_nonneg h0 (by omega)
  have h3 : a / b ≤ a := Int.ediv_le_self _ h0
  have hne : J b ≠ -1 := fun h => by
    have := congrArg Int64.toInt h
    rw [J_t hb] at this
    have e : (-1 : Int64).toInt = -1 := rfl
    rw [e] at this
    omega
  rw [Int64.toInt_div_of_ne_right _ _ hne, J_t ha, J_t hb, J_t ⟨by omega, by omega⟩, Int.tdiv_eq_ediv_of_nonneg h0]
theorem J_remp {a b : Int} (ha : r64 a) (hb : r64 b) (h0 : 0 ≤ a) (h1 : 0 < b) : J a - J a / J b * J b = J (a % b) := by
  rw [J_divp ha hb h0 h1, J_mul, J_sub]
  congr 1
  have := Int.emod_add_mul_ediv a b
  have e : b * (a / b) = a / b * b := Int.mul_comm _ _
  omega
variable {CL : CT} {ac : AC} {ret : Option FieldType} {Q : QT} {K : KT} {r1 r2 : Nat} {r3 : Int} {pc : Nat} {ls : List (Nat × Value)} {st : List Value} {h : aH} {bc bs : Nat}
theorem x_lconstE (p : Nat) (e : Int) {n : Fin 2} (hK : CLO CL ac ret Q K) (hf : fr ac pc = some (.lconst n, r1, r2, r3)) (hp : pc + 1 = p) (he : (((n : Fin 2) : Nat) : Int) = e) (hk : K p ls (.long (J e) :: st) h bc bs) : K pc ls st h bc bs := by
  subst he; exact x_lconst p hK hf hp hk
theorem x_ldivp (p : Nat) {a b : Int} (hK : CLO CL ac ret Q K) (hf : fr ac pc = some (.ldiv, r1, r2, r3)) (hp : pc + 1 = p) (ha : r64 a) (hb : r64 b) (h0 : 0 ≤ a) (h1 : 0 < b) (hk : K p ls (.long (J (a / b)) :: st) h bc bs) : K pc ls (.long (J b) :: .long (J a) :: st) h bc bs := by
  subst hp
  rw [← J_divp ha hb h0 h1] at hk
  exact x_row hK hf ⟨J_ne0 hb (by omega), hk⟩
theorem x_lremp (p : Nat) {a b : Int} (hK : CLO CL ac ret Q K) (hf : fr ac pc = some (.lrem, r1, r2, r3)) (hp : pc + 1 = p) (ha : r64 a) (hb : r64 b) (h0 : 0 ≤ a) (h1 : 0 < b) (hk : K p ls (.long (J (a % b)) :: st) h bc bs) : K pc ls (.long (J b) :: .long (J a) :: st) h bc bs := by
  subst hp
  rw [← J_remp ha hb h0 h1] at hk
  exact x_row hK hf ⟨J_ne0 hb (by omega), hk⟩
theorem x_lsw {a : Int} {d : Int} {ps : Array (Int × Int)} (hK : CLO CL ac ret Q K) (hf : fr ac pc = some (.lookupswitch d ps, r1, r2, r3)) (ha : r32 a) {l : List (Int × Int)} (hl : ps.toList = l) (hk : K (tg pc (Op.lookupswitch.offset l d a)) ls st h bc bs) : K pc ls (.int (I a) :: st) h bc bs := by
  subst hl
  have e : (I a).toInt = a := I_t ha
  rw [← e] at hk
  exact x_row hK hf hk
theorem x_iandX (p : Nat) {a b : Int} (hK : CLO CL ac ret Q K) (hf : fr ac pc = some (.iand, r1, r2, r3)) (hp : pc + 1 = p) (hk : ∀ c, r32 c → K p ls (.int (I c) :: st) h bc bs) : K pc ls (.int (I b) :: .int (I a) :: st) h bc bs :=
  x_iand p hK hf hp (t_I _).symm (hk _ (r_I _))
theorem x_iorX (p : Nat) {a b : Int} (hK : CLO CL ac ret Q K) (hf : fr ac pc = some (.ior, r1, r2, r3)) (hp : pc + 1 = p) (hk : ∀ c, r32 c → K p ls (.int (I c) :: st) h bc bs) : K pc ls (.int (I b) :: .int (I a) :: st) h bc bs :=
  x_ior p hK hf hp (t_I _).symm (hk _ (r_I _))
theorem x_ishlX (p : Nat) {a b : Int} (hK : CLO CL ac ret Q K) (hf : fr ac pc = some (.ishl, r1, r2, r3)) (hp : pc + 1 = p) (hk : ∀ c, r32 c → K p ls (.int (I c) :: st) h bc bs) : K pc ls (.int (I b) :: .int (I a) :: st) h bc bs :=
  x_ishl p hK hf hp (t_I _).symm (hk _ (r_I _))
theorem FRM_Jn {M : MD} {h0 : aH} {a r k : Nat} {v : Int64} (x y : Nat) (hF : FRM gRL M h0 h) (hr : gRL[a]? = some r) (hm : mIn M 1 r x y = true) (hb : bse r = r) (h1 : x ≤ k) (h2 : k ≤ y) : FRM gRL M h0 (sJ h a k v) := FRM_J hF hr (mHas_n hm hb h1 h2)
end JDV

/-- the number of the step, in the state and in what is put by, is at most b -/
noncomputable def NB (b : Int) (h : aH) : Prop := (0 ≤ gi h 178 0 ∧ gi h 178 0 ≤ b) ∧ (∀ u : Nat, u < 16 → 0 ≤ gi h 186 (57 * u) ∧ gi h 186 (57 * u) ≤ b) ∧ ∀ u : Nat, u < 3 → 0 ≤ gi h 200 (57 * u) ∧ gi h 200 (57 * u) ≤ b
theorem NB.mono {b c : Int} {h : aH} (hb : b ≤ c) (n : NB b h) : NB c h := ⟨⟨n.1.1, by have := n.1.2; omega⟩, fun u hu => ⟨(n.2.1 u hu).1, by have := (n.2.1 u hu).2; omega⟩, fun u hu => ⟨(n.2.2 u hu).1, by have := (n.2.2 u hu).2; omega⟩⟩
/-- what is elsewhere doesn't matter -/
theorem NB.w {b : Int} {h : aH} {a k : Nat} {e : Int} (n : NB b h) (ha : a ≠ 178 ∧ a ≠ 186 ∧ a ≠ 200) : NB b (wI h a k e) := by
  refine ⟨?_, fun u hu => ?_, fun u hu => ?_⟩
  · rw [gi_a (fun q => ha.1 q.symm)]; exact n.1
  · rw [gi_a (fun q => ha.2.1 q.symm)]; exact n.2.1 u hu
  · rw [gi_a (fun q => ha.2.2 q.symm)]; exact n.2.2 u hu
/-- what is said of the rows that are put by (69, 83) is what is said of the state (61), row by row -/
noncomputable def rowsOf (n r : Nat) : Bool := (eG gE r).all fun q => Nat.beq q.1 q.2.1 && (List.range n).any fun u => (eG gE 61).any fun s => Nat.beq s.1 s.2.1 && Nat.beq q.1 (57 * u + s.1) && decide (q.2.2 = s.2.2)
noncomputable def rowsIn (n r : Nat) : Bool := (eG gE 61).all fun s => Nat.beq s.1 s.2.1 && Nat.blt s.1 57 && (List.range n).all fun u => decide ((57 * u + s.1, 57 * u + s.1, s.2.2) ∈ eG gE r)
theorem rowsOf_ok {n r : Nat} (h : rowsOf n r = true) {q : Nat × Nat × Int × Int} (hq : q ∈ eG gE r) : q.1 = q.2.1 ∧ ∃ u, u < n ∧ ∃ s ∈ eG gE 61, q.1 = 57 * u + s.1 ∧ q.2.2 = s.2.2 ∧ s.1 = s.2.1 := by
  have z := List.all_eq_true.mp h q hq
  rw [Bool.and_eq_true] at z
  obtain ⟨u, hu, z2⟩ := List.any_eq_true.mp z.2
  obtain ⟨s, hs, z3⟩ := List.any_eq_true.mp z2
  simp only [Bool.and_eq_true, Nat.beq_eq, decide_eq_true_eq] at z3
  exact ⟨Nat.beq_eq.mp z.1, u, List.mem_range.mp hu, s, hs, z3.1.2, z3.2, z3.1.1⟩
theorem rowsIn_ok {n r : Nat} (h : rowsIn n r = true) {s : Nat × Nat × Int × Int} (hs : s ∈ eG gE 61) : s.1 = s.2.1 ∧ s.1 < 57 ∧ ∀ u, u < n → (57 * u + s.1, 57 * u + s.1, s.2.2) ∈ eG gE r := by
  have z := List.all_eq_true.mp h s hs
  simp only [Bool.and_eq_true, Nat.beq_eq] at z
  refine ⟨z.1.1, bt z.1.2, fun u hu => ?_⟩
  have := List.all_eq_true.mp z.2 u (List.mem_range.mpr hu)
  exact of_decide_eq_true this
theorem ro69 : rowsOf 16 69 = true := by decide +kernel
theorem ri69 : rowsIn 16 69 = true := by decide +kernel
theorem ro83 : rowsOf 3 83 = true := by decide +kernel
theorem ri83 : rowsIn 3 83 = true := by decide +kernel
theorem e6162 : eG gE 62 = eG gE 61 := rfl
section CPY
variable {sh : List (Nat × Nat)} {h : aH}
/-- a place of the state is copied into a row -/
theorem cp_in {r a n : Nat} (hro : rowsOf n r = true) (hr : gRL[a]? = some r) (hG : GD gE gRL sh h) (u k : Nat) (hu : u < n) (hk : k < 57) : GD gE gRL sh (wI h a (57 * u + k) (gi h 178 k)) := by
  refine GD_w hG hr (gi_r _ _ _) fun q hq h1 h2 => ?_
  obtain ⟨e1, v, hv, s, hs, e2, e3, e4⟩ := rowsOf_ok hro hq
  obtain ⟨-, s57, -⟩ := rowsIn_ok ri69 hs
  have : k = s.1 := by omega
  rw [e3, this]
  exact hG.2.2.1 178 61 rfl s hs s.1 (Nat.le_refl _) (by omega)
/-- and back -/
theorem cp_out {r a n : Nat} (hri : rowsIn n r = true) (hr : gRL[a]? = some r) (hG : GD gE gRL sh h) (u k : Nat) (hu : u < n) (hk : k < 57) : GD gE gRL sh (wI h 178 k (gi h a (57 * u + k))) := by
  refine GD_w hG (r := 61) rfl (gi_r _ _ _) fun s hs h1 h2 => ?_
  obtain ⟨e1, s57, hin⟩ := rowsIn_ok hri hs
  have : k = s.1 := by omega
  rw [this]
  exact hG.2.2.1 a r hr _ (hin u hu) (57 * u + s.1) (Nat.le_refl _) (Nat.le_refl _)
theorem cp_then (hG : GD gE gRL sh h) (k : Nat) (hk : k < 57) : GD gE gRL sh (wI h 179 k (gi h 178 k)) := by
  refine GD_w hG (r := 62) rfl (gi_r _ _ _) fun s hs h1 h2 => ?_
  rw [e6162] at hs
  exact hG.2.2.1 178 61 rfl s hs k h1 h2
theorem cp_sh (hG : GD gE gRL sh h) (k : Nat) (hk : k < 855) : GD gE gRL sh (wI h 186 k (gi h 186 (k + 57))) := by
  refine GD_w hG (r := 69) rfl (gi_r _ _ _) fun q hq h1 h2 => ?_
  obtain ⟨e1, v, hv, s, hs, e2, e3, e4⟩ := rowsOf_ok ro69 hq
  obtain ⟨-, s57, hin⟩ := rowsIn_ok ri69 hs
  have z := hG.2.2.1 186 69 rfl _ (hin (v + 1) (by omega)) (k + 57) (by show 57 * (v + 1) + s.1 ≤ _; omega) (by show _ ≤ 57 * (v + 1) + s.1; omega)
  rw [e3]
  exact z
end CPY
/-! small ones -/
theorem ctX11_in {SP : CT} {h : aH} {a b c : Int} (ha : r64 a) (hb : r64 b) (hc : r64 c) : CLd SP 1 mX11_in [.long (J a), .long (J b), .long (J c)] h 0 0 (fun rv h' => h' = h ∧ ((rv = some (.int (I 1)) ∧ b ≤ a ∧ a ≤ c) ∨ (rv = some (.int (I 0)) ∧ ¬ (b ≤ a ∧ a ≤ c)))) := by
  refine x_met _ rfl (Nat.le_of_ble_eq_true rfl) (fun K hK => ?_)
  refine x_lload_n 1 hK rfl rfl rfl ?_
  refine x_lload_n 2 hK rfl rfl rfl ?_
  refine x_lcmp_lt 17 6 hK rfl rfl rfl rfl (by omega) (by omega) (fun c3 => ?_) (fun c3 => ?_)
  · refine x_iconst 18 hK rfl rfl ?_
    exact x_zret hK rfl (by omega) ⟨rfl, Or.inr ⟨rfl, by omega⟩⟩
  · refine x_lload_n 7 hK rfl rfl rfl ?_
    refine x_lload 9 hK rfl rfl rfl ?_
    refine x_lcmp_gt 17 13 hK rfl rfl rfl rfl (by omega) (by omega) (fun c8 => ?_) (fun c8 => ?_)
    · refine x_iconst 18 hK rfl rfl ?_
      exact x_zret hK rfl (by omega) ⟨rfl, Or.inr ⟨rfl, by omega⟩⟩
    · refine x_iconst 14 hK rfl rfl ?_
      refine x_goto 18 hK rfl rfl ?_
      exact x_zret hK rfl (by omega) ⟨rfl, Or.inl ⟨rfl, by omega, by omega⟩⟩
theorem ctX11_flag {SP : CT} {h : aH} {a : Int} (ha : a = 0 ∨ a = 1) : CLd SP 1 mX11_flag [.int (I a)] h 0 0 (fun rv h' => h' = h ∧ rv = some (.int (I a))) := by
  refine x_met _ rfl (Nat.le_of_ble_eq_true rfl) (fun K hK => ?_)
  refine x_iload_n 1 hK rfl rfl rfl ?_
  refine x_if_eq 8 4 hK rfl rfl rfl (by omega) (fun c2 => ?_) (fun c2 => ?_)
  · refine x_iconst 9 hK rfl rfl ?_
    exact x_iret hK rfl ⟨rfl, by rw [show a = 0 by omega]⟩
  · refine x_iconst 5 hK rfl rfl ?_
    refine x_goto 9 hK rfl rfl ?_
    exact x_iret hK rfl ⟨rfl, by rw [show a = 1 by omega]⟩
end
section
/-! LEAVES: a rule that is worked out, fractions, reading numbers -/
/-- an answer that is an int, whichever it is -/
theorem int_ans {h : aH} {rv : Option Value} {o : List AV × OV × List (Nat × Int × Int)} {l : OT} (hm : o ∈ l) (hl : (l.all fun o => match o.1 with
  | [(0, 0, _, _)] => true
  | _ => false) = true) (g : gst gRL (fun _ => none) [] h o.1 rv.toList) : ∃ n : Int, r32 n ∧ rv = some (.int (I n)) := by
  have z := List.all_eq_true.mp hl o hm
  split at z
  · rename_i lo hi he
    rw [he] at g
    obtain ⟨n, h1, h2, -⟩ := QS_i g
    exact ⟨n, h1, h2⟩
  · cases z
theorem VC_at {c : Nat → Int} {n : Int} (hv : VCd c n) {k : Nat} (hk : (k : Int) < n) : 0 ≤ hgt c k ∧ hgt c k ≤ k ∧ (c k = 3000 → 1 ≤ hgt c k ∧ hgt c (k + 1) = hgt c k) ∧ (c k ≠ 3000 → 2000 ≤ c k → 2 ≤ hgt c k ∧ hgt c (k + 1) = hgt c k - 1) ∧ (c k < 2000 → hgt c (k + 1) = hgt c k + 1) ∧ (1000 ≤ c k → c k < 2000 → c k ≤ 1003) := by
  obtain ⟨h1, h2, h3, h4, h5⟩ := hv.2 k hk
  have e : hgt c (k + 1) = hgt c k + (if c k = 3000 then 0 else if 2000 ≤ c k then -1 else 1) := rfl
  refine ⟨h1, h2, fun z => ⟨h3 z, ?_⟩, fun z y => ⟨h4 z y, ?_⟩, fun z => ?_, h5⟩
  · rw [e, if_pos z]; omega
  · rw [e, if_neg z, if_pos y]; omega
  · rw [e, if_neg (by omega), if_neg (by omega)]
theorem td8 {a : Int} (h : r32 a) : -268435456 ≤ a.tdiv 8 ∧ a.tdiv 8 ≤ 268435456 := by
  by_cases c : 0 ≤ a
  · rw [Int.tdiv_eq_ediv_of_nonneg c]; omega
  · have e : a.tdiv 8 = -((-a).tdiv 8) := by rw [Int.neg_tdiv, Int.neg_neg]
    rw [e, Int.tdiv_eq_ediv_of_nonneg (by omega)]; omega
theorem ctX11_ruled {SP : CT} (hSP : MONO SP) {sh : List (Nat × Nat)} {h : aH} (hG : GD gE gRL sh h) (hX : XI h) : CLd SP 4 mX11_ruled [.ref 171] h 0 0 (fun rv h' => (∃ n, rv = some (.int (I n)) ∧ 1 ≤ n ∧ n ≤ 12) ∧ GD gE gRL sh h' ∧ FRM gRL [(0, 67, 0, 79)] h h') := by
  refine x_met _ rfl (Nat.le_of_ble_eq_true rfl) (fun K hK => ?_)
  have hmono := MONO_CLd hSP 3
  have hc80 : gi h 171 25 ≤ 80 := hX.1
  have hcl := gri 0 80 hG (a := 171) (r := 54) (k := 25) rfl rfl
  have loop : ∀ (m : Nat) (k : Nat) (h1 : aH) (ls : List (Nat × Value)), ((gi h 171 25 - k).toNat = m) → (k : Int) ≤ gi h 171 25 → lk ls 0 = some (.ref 171) → lk ls 1 = some (.int (I (hgt (fun k => gi h 182 k) k))) → lk ls 2 = some (.int (I (k : Int))) → GD gE gRL sh h1 → FRM gRL [(0, 67, 0, 79)] h h1 → K 4 ls [] h1 0 0 := by
    intro m
    induction m using Nat.strongRecOn with
    | ind m ih =>
    intro k h1 ls hm hk l0 l1 l2 hG1 hF
    have hc : gi h1 171 25 = gi h 171 25 := FRM_gi hF (r := 54) rfl rfl
    have hcd : ∀ j, gi h1 182 j = gi h 182 j := fun j => by
      show (aI h1 182 j).toInt = (aI h 182 j).toInt
      rw [hF.1 182 j fun r' hr' => by
        have hr : 65 = r' := Option.some.inj ((show gRL[182]? = some 65 from rfl).symm.trans hr')
        subst hr; rfl]
    have hX1 : XI h1 := xOk_ok rfl h h1 hF hX
    have gr := gi_r h1
    have hq : (k : Int) < gi h 171 25 → _ := fun z => VC_at (c := fun k => gi h 182 k) hX (k := k) z
    generalize hgt (fun k => gi h 182 k) k = t at *
    refine x_iload_n 5 hK rfl rfl l2 ?_
    refine x_aload_n 6 hK rfl rfl l0 ?_
    refine x_getE 9 hK rfl (Or.inl rfl) rfl (sp_171 (h := h1) hG1) (e := (gi h 171 25)) (hc) ?_
    refine x_if_icmp_ge 125 12 hK rfl rfl rfl (by first | exact gi_r _ _ _ | omega | (have z1 := gr 184 0; omega)) (by first | exact gi_r _ _ _ | omega | (have z1 := gr 184 0; omega)) (fun c4 => ?_) (fun c4 => ?_)
    · refine x_aload_n 126 hK rfl rfl l0 ?_
      refine x_getE 129 hK rfl (Or.inl rfl) rfl (sp_171 (h := h1) hG1) (e := (gi h 171 25)) (hc) ?_
      refine x_if_ne 146 132 hK rfl rfl rfl (by first | exact gi_r _ _ _ | omega | (have z1 := gr 184 0; omega)) (fun c7 => ?_) (fun c7 => ?_)
      · refine x_aload_n 147 hK rfl rfl l0 ?_
        refine x_getR 150 hK rfl rfl (sp_171 (h := h1) hG1) (rf_171_27 (h := h1) hG1) ?_
        refine x_iconst 151 hK rfl rfl ?_
        refine x_ialoadE 152 hK rfl rfl (sp_184 (h := h1) hG1) (by first | exact gi_r _ _ _ | omega | (have z1 := gr 184 0; omega)) (by first | exact gi_r _ _ _ | omega | (have z1 := gr 184 0; omega)) (by first | exact gi_r _ _ _ | omega | (have z1 := gr 184 0; omega)) (e' := (gi h1 184 0)) (rfl) ?_
        refine x_istore_n 153 hK rfl rfl _ rfl ?_
        refine x_iconst 154 hK rfl rfl ?_
        refine x_bipush 156 hK rfl rfl rfl ?_
        refine x_iload_n 157 hK rfl rfl lk1_s ?_
        refine x_min 160 hK rfl rfl (Nat.le_of_ble_eq_true rfl) (by first | exact gi_r _ _ _ | omega | (have z1 := gr 184 0; omega)) (by first | exact gi_r _ _ _ | omega | (have z1 := gr 184 0; omega)) ?_
        refine x_max 163 hK rfl rfl (Nat.le_of_ble_eq_true rfl) (by first | exact gi_r _ _ _ | omega | (have z1 := gr 184 0; omega)) (by first | exact gi_r _ _ _ | omega | (have z1 := gr 184 0; omega)) ?_
        exact x_iret hK rfl ⟨⟨_, rfl, by omega, by omega⟩, hG1, hF⟩
      · refine x_aload_n 133 hK rfl rfl l0 ?_
        refine x_getR 136 hK rfl rfl (sp_171 (h := h1) hG1) (rf_171_28 (h := h1) hG1) ?_
        refine x_iconst 137 hK rfl rfl ?_
        refine x_ialoadE 138 hK rfl rfl (sp_185 (h := h1) hG1) (by first | exact gi_r _ _ _ | omega | (have z1 := gr 184 0; omega)) (by first | exact gi_r _ _ _ | omega | (have z1 := gr 184 0; omega)) (by first | exact gi_r _ _ _ | omega | (have z1 := gr 184 0; omega)) (e' := (gi h1 185 0)) (rfl) ?_
        refine x_bipush 140 hK rfl rfl rfl ?_
        refine x_idiv 141 hK rfl rfl (gi_r _ _ _) (by omega) (by omega) (by omega) ?_
        have td := td8 (gr 185 0)
        generalize (gi h1 185 0).tdiv 8 = w8 at *
        refine x_iconst 142 hK rfl rfl ?_
        refine x_iadd 143 hK rfl rfl ?_
        refine x_goto 152 hK rfl rfl ?_
        refine x_istore_n 153 hK rfl rfl _ rfl ?_
        refine x_iconst 154 hK rfl rfl ?_
        refine x_bipush 156 hK rfl rfl rfl ?_
        refine x_iload_n 157 hK rfl rfl lk1_s ?_
        refine x_min 160 hK rfl rfl (Nat.le_of_ble_eq_true rfl) (by first | exact gi_r _ _ _ | omega | (have z1 := gr 184 0; omega)) (by first | exact gi_r _ _ _ | omega | (have z1 := gr 184 0; omega)) ?_
        refine x_max 163 hK rfl rfl (Nat.le_of_ble_eq_true rfl) (by first | exact gi_r _ _ _ | omega | (have z1 := gr 184 0; omega)) (by first | exact gi_r _ _ _ | omega | (have z1 := gr 184 0; omega)) ?_
        exact x_iret hK rfl ⟨⟨_, rfl, by omega, by omega⟩, hG1, hF⟩
    · refine x_aload_n 13 hK rfl rfl l0 ?_
      refine x_getR 16 hK rfl rfl (sp_171 (h := h1) hG1) (rf_171_23 (h := h1) hG1) ?_
      refine x_iload_n 17 hK rfl rfl l2 ?_
      refine x_ialoadE 18 hK rfl rfl (sp_182 (h := h1) hG1) (by omega) (by omega) (by omega) (e' := gi h 182 k) ((hcd _).trans (by rw [Int.toNat_natCast])) ?_
      have hq2 := hq (by omega)
      have gc := gi_r h 182 k
      generalize gi h 182 k = c at *
      refine x_istore_n 19 hK rfl rfl _ rfl ?_
      refine x_iload_n 20 hK rfl rfl lk1_s ?_
      refine x_sipush 23 hK rfl rfl rfl ?_
      refine x_if_icmp_ne 46 26 hK rfl rfl rfl (by first | exact gi_r _ _ _ | omega | (have z1 := gr 184 0; omega)) (by first | exact gi_r _ _ _ | omega | (have z1 := gr 184 0; omega)) (fun c42 => ?_) (fun c42 => ?_)
      · refine x_iload_n 47 hK rfl rfl lk1_s ?_
        refine x_sipush 50 hK rfl rfl rfl ?_
        refine x_if_icmp_lt 89 53 hK rfl rfl rfl (by first | exact gi_r _ _ _ | omega | (have z1 := gr 184 0; omega)) (by first | exact gi_r _ _ _ | omega | (have z1 := gr 184 0; omega)) (fun c45 => ?_) (fun c45 => ?_)
        · refine x_aload_n 90 hK rfl rfl (lk1_n l0 (by decide) (Or.inl rfl)) ?_
          refine x_getR 93 hK rfl rfl (sp_171 (h := h1) hG1) (rf_171_27 (h := h1) hG1) ?_
          refine x_iload_n 94 hK rfl rfl (lk1_n l1 (by decide) (Or.inl rfl)) ?_
          refine x_iload_n 95 hK rfl rfl lk1_s ?_
          refine x_sipush 98 hK rfl rfl rfl ?_
          refine x_if_icmp_lt 114 101 hK rfl rfl rfl (by first | exact gi_r _ _ _ | omega | (have z1 := gr 184 0; omega)) (by first | exact gi_r _ _ _ | omega | (have z1 := gr 184 0; omega)) (fun c51 => ?_) (fun c51 => ?_)
          · refine x_iload_n 115 hK rfl rfl lk1_s ?_
            refine x_iastore 116 hK rfl rfl (sp_184 (h := h1) hG1) (by first | exact gi_r _ _ _ | omega | (have z1 := gr 184 0; omega)) (by first | exact gi_r _ _ _ | omega | (have z1 := gr 184 0; omega)) (by first | exact gi_r _ _ _ | omega | (have z1 := gr 184 0; omega)) ?_
            refine x_iinc 119 hK rfl rfl (lk1_n l1 (by decide) (Or.inl rfl)) _ rfl ?_
            refine x_iinc 122 hK rfl rfl (lk1_n (lk1_n l2 (by decide) (Or.inl rfl)) (by decide) (Or.inl rfl)) _ rfl ?_
            refine x_goto 4 hK rfl rfl ?_
            have hh : hgt (fun k => gi h 182 k) (k + 1) = (t + 1) := by omega
            refine ih _ (by omega) (k + 1) _ _ rfl (by omega) (lk1_n (lk1_n (lk1_n l0 (by decide) (Or.inl rfl)) (by decide) (Or.inl rfl)) (by decide) (Or.inl rfl)) (by rw [hh]; exact (lk1_n lk1_s (by decide) (Or.inl rfl))) lk1_s (GD_wn (hG1) (r := 67) rfl rfl) (FRM_wn 0 79 (hF) (r := 67) rfl rfl rfl (by omega) (by omega))
          · refine x_aload_n 102 hK rfl rfl (lk1_n l0 (by decide) (Or.inl rfl)) ?_
            refine x_getR 105 hK rfl rfl (sp_171 (h := h1) hG1) (rf_171_28 (h := h1) hG1) ?_
            refine x_iload_n 106 hK rfl rfl lk1_s ?_
            refine x_sipush 109 hK rfl rfl rfl ?_
            refine x_isub 110 hK rfl rfl ?_
            refine x_ialoadE 111 hK rfl rfl (sp_185 (h := h1) hG1) (by first | exact gi_r _ _ _ | omega | (have z1 := gr 184 0; omega)) (by first | exact gi_r _ _ _ | omega | (have z1 := gr 184 0; omega)) (by first | exact gi_r _ _ _ | omega | (have z1 := gr 184 0; omega)) (e' := (gi h1 185 (c - 1000).toNat)) (rfl) ?_
            refine x_goto 115 hK rfl rfl ?_
            refine x_iastore 116 hK rfl rfl (sp_184 (h := h1) hG1) (by first | exact gi_r _ _ _ | omega | (have z1 := gr 184 0; omega)) (by first | exact gi_r _ _ _ | omega | (have z1 := gr 184 0; omega)) (by first | exact gi_r _ _ _ | omega | (have z1 := gr 184 0; omega)) ?_
            refine x_iinc 119 hK rfl rfl (lk1_n l1 (by decide) (Or.inl rfl)) _ rfl ?_
            refine x_iinc 122 hK rfl rfl (lk1_n (lk1_n l2 (by decide) (Or.inl rfl)) (by decide) (Or.inl rfl)) _ rfl ?_
            refine x_goto 4 hK rfl rfl ?_
            have hh : hgt (fun k => gi h 182 k) (k + 1) = (t + 1) := by omega
            refine ih _ (by omega) (k + 1) _ _ rfl (by omega) (lk1_n (lk1_n (lk1_n l0 (by decide) (Or.inl rfl)) (by decide) (Or.inl rfl)) (by decide) (Or.inl rfl)) (by rw [hh]; exact (lk1_n lk1_s (by decide) (Or.inl rfl))) lk1_s (GD_wn (hG1) (r := 67) rfl rfl) (FRM_wn 0 79 (hF) (r := 67) rfl rfl rfl (by omega) (by omega))
        · refine x_iinc 56 hK rfl rfl (lk1_n l1 (by decide) (Or.inl rfl)) _ rfl ?_
          refine x_aload_n 57 hK rfl rfl (lk1_n (lk1_n l0 (by decide) (Or.inl rfl)) (by decide) (Or.inl rfl)) ?_
          refine x_getR 60 hK rfl rfl (sp_171 (h := h1) hG1) (rf_171_27 (h := h1) hG1) ?_
          refine x_iload_n 61 hK rfl rfl lk1_s ?_
          refine x_iconst 62 hK rfl rfl ?_
          refine x_isub 63 hK rfl rfl ?_
          refine x_iload_n 64 hK rfl rfl (lk1_n lk1_s (by decide) (Or.inl rfl)) ?_
          refine x_sipush 67 hK rfl rfl rfl ?_
          refine x_isub 68 hK rfl rfl ?_
          refine x_aload_n 69 hK rfl rfl (lk1_n (lk1_n l0 (by decide) (Or.inl rfl)) (by decide) (Or.inl rfl)) ?_
          refine x_getR 72 hK rfl rfl (sp_171 (h := h1) hG1) (rf_171_27 (h := h1) hG1) ?_
          refine x_iload_n 73 hK rfl rfl lk1_s ?_
          refine x_iconst 74 hK rfl rfl ?_
          refine x_isub 75 hK rfl rfl ?_
          refine x_ialoadE 76 hK rfl rfl (sp_184 (h := h1) hG1) (by first | exact gi_r _ _ _ | omega | (have z1 := gr 184 0; omega)) (by first | exact gi_r _ _ _ | omega | (have z1 := gr 184 0; omega)) (by first | exact gi_r _ _ _ | omega | (have z1 := gr 184 0; omega)) (e' := (gi h1 184 ((t + (-1)) - 1).toNat)) (rfl) ?_
          refine x_aload_n 77 hK rfl rfl (lk1_n (lk1_n l0 (by decide) (Or.inl rfl)) (by decide) (Or.inl rfl)) ?_
          refine x_getR 80 hK rfl rfl (sp_171 (h := h1) hG1) (rf_171_27 (h := h1) hG1) ?_
          refine x_iload_n 81 hK rfl rfl lk1_s ?_
          refine x_ialoadE 82 hK rfl rfl (sp_184 (h := h1) hG1) (by first | exact gi_r _ _ _ | omega | (have z1 := gr 184 0; omega)) (by first | exact gi_r _ _ _ | omega | (have z1 := gr 184 0; omega)) (by first | exact gi_r _ _ _ | omega | (have z1 := gr 184 0; omega)) (e' := (gi h1 184 (t + (-1)).toNat)) (rfl) ?_
          refine x_callS 85 hK hmono rfl (Or.inl rfl) rfl [.int (I (c - 2000)), .int (I (gi h1 184 ((t + (-1)) - 1).toNat)), .int (I (gi h1 184 (t + (-1)).toNat))] [.int (I ((t + (-1)) - 1)), .ref 184] rfl rfl (Nat.le_of_ble_eq_true rfl) (Nat.le_of_ble_eq_true rfl) (CLd_le (Nat.le_of_ble_eq_true rfl) (kX11_worked_3 hSP [.int (I (c - 2000)), .int (I (gi h1 184 ((t + (-1)) - 1).toNat)), .int (I (gi h1 184 (t + (-1)).toNat))] _ hX1 ⟨gv_i (by first | exact gi_r _ _ _ | omega) (by first | exact (gi_r _ _ _).1 | omega) (by first | exact (gi_r _ _ _).2 | omega), gv_i (gi_r _ _ _) (gi_r _ _ _).1 (gi_r _ _ _).2, gv_i (gi_r _ _ _) (gi_r _ _ _).1 (gi_r _ _ _).2, trivial⟩ hG1 gov_n)) ?_
          rintro v9 h9 ⟨hG9, hF9, o9, m9, q9, -, -⟩
          obtain ⟨w, hw, rfl⟩ := int_ans m9 rfl q9
          replace hF9 : FRM gRL [(0, 67, 0, 79)] h h9 := hF.trans (hF9.mono rfl)
          refine x_iastore 86 hK rfl rfl (sp_184 (h := h9) hG9) (by first | exact gi_r _ _ _ | omega | (have z1 := gr 184 0; omega)) (by first | exact gi_r _ _ _ | omega | (have z1 := gr 184 0; omega)) (by first | exact gi_r _ _ _ | omega | (have z1 := gr 184 0; omega)) ?_
          refine x_goto 119 hK rfl rfl ?_
          refine x_iinc 122 hK rfl rfl (lk1_n (lk1_n l2 (by decide) (Or.inl rfl)) (by decide) (Or.inl rfl)) _ rfl ?_
          refine x_goto 4 hK rfl rfl ?_
          have hh : hgt (fun k => gi h 182 k) (k + 1) = (t + (-1)) := by omega
          refine ih _ (by omega) (k + 1) _ _ rfl (by omega) (lk1_n (lk1_n (lk1_n l0 (by decide) (Or.inl rfl)) (by decide) (Or.inl rfl)) (by decide) (Or.inl rfl)) (by rw [hh]; exact (lk1_n lk1_s (by decide) (Or.inl rfl))) lk1_s (GD_wn (hG9) (r := 67) rfl rfl) (FRM_wn 0 79 (hF9) (r := 67) rfl rfl rfl (by omega) (by omega))
      · refine x_aload_n 27 hK rfl rfl (lk1_n l0 (by decide) (Or.inl rfl)) ?_
        refine x_getR 30 hK rfl rfl (sp_171 (h := h1) hG1) (rf_171_27 (h := h1) hG1) ?_
        refine x_iload_n 31 hK rfl rfl (lk1_n l1 (by decide) (Or.inl rfl)) ?_
        refine x_iconst 32 hK rfl rfl ?_
        refine x_isub 33 hK rfl rfl ?_
        refine x_aload_n 34 hK rfl rfl (lk1_n l0 (by decide) (Or.inl rfl)) ?_
        refine x_getR 37 hK rfl rfl (sp_171 (h := h1) hG1) (rf_171_27 (h := h1) hG1) ?_
        refine x_iload_n 38 hK rfl rfl (lk1_n l1 (by decide) (Or.inl rfl)) ?_
        refine x_iconst 39 hK rfl rfl ?_
        refine x_isub 40 hK rfl rfl ?_
        refine x_ialoadE 41 hK rfl rfl (sp_184 (h := h1) hG1) (by first | exact gi_r _ _ _ | omega | (have z1 := gr 184 0; omega)) (by first | exact gi_r _ _ _ | omega | (have z1 := gr 184 0; omega)) (by first | exact gi_r _ _ _ | omega | (have z1 := gr 184 0; omega)) (e' := (gi h1 184 (t - 1).toNat)) (rfl) ?_
        refine x_ineg 42 hK rfl rfl ?_
        refine x_iastore 43 hK rfl rfl (sp_184 (h := h1) hG1) (by first | exact gi_r _ _ _ | omega | (have z1 := gr 184 0; omega)) (by first | exact gi_r _ _ _ | omega | (have z1 := gr 184 0; omega)) (by first | exact gi_r _ _ _ | omega | (have z1 := gr 184 0; omega)) ?_
        refine x_goto 119 hK rfl rfl ?_
        refine x_iinc 122 hK rfl rfl (lk1_n l2 (by decide) (Or.inl rfl)) _ rfl ?_
        refine x_goto 4 hK rfl rfl ?_
        have hh : hgt (fun k => gi h 182 k) (k + 1) = t := by omega
        refine ih _ (by omega) (k + 1) _ _ rfl (by omega) (lk1_n (lk1_n l0 (by decide) (Or.inl rfl)) (by decide) (Or.inl rfl)) (by rw [hh]; exact (lk1_n (lk1_n l1 (by decide) (Or.inl rfl)) (by decide) (Or.inl rfl))) lk1_s (GD_wn (hG1) (r := 67) rfl rfl) (FRM_wn 0 79 (hF) (r := 67) rfl rfl rfl (by omega) (by omega))
  refine x_iconst 1 hK rfl rfl ?_
  refine x_istore_n 2 hK rfl rfl [(1, .int (I 0)), (0, .ref 171)] rfl ?_
  refine x_iconst 3 hK rfl rfl ?_
  refine x_istore_n 4 hK rfl rfl [(2, .int (I 0)), (1, .int (I 0)), (0, .ref 171)] rfl ?_
  exact loop _ 0 h _ rfl (by omega) rfl rfl rfl hG FRM.rf
theorem gcd_step {a b : Int} (ha : 0 ≤ a) (hb : 0 < b) : Nat.gcd b.toNat (a % b).toNat = Nat.gcd a.toNat b.toNat := by
  rw [Int.toNat_emod ha (by omega), Nat.gcd_comm a.toNat b.toNat, Nat.gcd_rec b.toNat a.toNat]
  exact Nat.gcd_comm _ _
theorem ctX11_common {SP : CT} (hSP : MONO SP) {h : aH} : ∀ (n : Nat) (a b : Int), 0 ≤ a → 0 ≤ b → r64 a → r64 b → b < 2 ^ n → CLd SP (2 * n + 1) mX11_common [.long (J a), .long (J b)] h 0 0 (fun rv h' => h' = h ∧ rv = some (.long (J (Nat.gcd a.toNat b.toNat : Int)))) := by
  have base : ∀ (d : Nat) (a b : Int), 0 ≤ a → 0 ≤ b → r64 a → r64 b → (0 < b → CLd SP d mX11_common [.long (J b), .long (J (a % b))] h 0 0 (fun rv h' => h' = h ∧ rv = some (.long (J (Nat.gcd a.toNat b.toNat : Int))))) → CLd SP (d + 1) mX11_common [.long (J a), .long (J b)] h 0 0 (fun rv h' => h' = h ∧ rv = some (.long (J (Nat.gcd a.toNat b.toNat : Int)))) := by
    intro d a b ha hb ra rb hc
    refine x_met _ rfl (Nat.le_of_ble_eq_true rfl) (fun K hK => ?_)
    have hmono := MONO_CLd hSP d
    refine x_lload_n 1 hK rfl rfl rfl ?_
    refine x_lconstE 2 0 hK rfl rfl rfl ?_
    refine x_lcmp_ne 10 6 hK rfl rfl rfl rfl (by omega) (by omega) (fun c3 => ?_) (fun c3 => ?_)
    · refine x_lload_n 11 hK rfl rfl rfl ?_
      refine x_lload_n 12 hK rfl rfl rfl ?_
      refine x_lload_n 13 hK rfl rfl rfl ?_
      refine x_lremp 14 hK rfl rfl (by omega) (by omega) (by omega) (by omega) ?_
      refine x_callS 17 hK hmono rfl (Or.inl rfl) rfl [.long (J b), .long (J (a % b))] [] rfl rfl (Nat.le_of_ble_eq_true rfl) (Nat.le_of_ble_eq_true rfl) (hc (by omega)) ?_
      rintro v9 h9 ⟨rfl, rfl⟩
      exact x_lret hK rfl ⟨rfl, rfl⟩
    · refine x_lload_n 7 hK rfl rfl rfl ?_
      refine x_goto 17 hK rfl rfl ?_
      refine x_lret hK rfl ⟨rfl, ?_⟩
      have e : b = 0 := by omega
      subst e
      rw [show (0 : Int).toNat = 0 from rfl, Nat.gcd_zero_right, Int.toNat_of_nonneg ha]
  have lt : ∀ a b : Int, 0 < b → 0 ≤ a % b ∧ a % b < b := fun a b hb => ⟨Int.emod_nonneg _ (by omega), Int.emod_lt_of_pos _ hb⟩
  intro n
  induction n with
  | zero =>
    intro a b ha hb ra rb hlt
    refine base 0 a b ha hb ra rb fun z => ?_
    have : b < 1 := hlt
    omega
  | succ n ih =>
    intro a b ha hb ra rb hlt
    refine base (2 * n + 2) a b ha hb ra rb fun z => ?_
    have l1 := lt a b z
    rw [← gcd_step ha z]
    by_cases c : a % b < 2 ^ n
    · exact CLd_le (Nat.le_succ _) (ih b (a % b) hb l1.1 rb ⟨by omega, by omega⟩ c)
    · have p1 : (0 : Int) < 2 ^ n := Int.pow_pos (by decide)
      refine base (2 * n + 1) b (a % b) hb l1.1 rb ⟨by omega, by omega⟩ fun y => ?_
      have l2 := lt b (a % b) y
      rw [← gcd_step hb y]
      refine ih (a % b) (b % (a % b)) l1.1 l2.1 ⟨by omega, by omega⟩ ⟨by omega, by omega⟩ ?_
      have e1 : b % (a % b) ≤ b - a % b := by
        have h1 := Int.emod_add_mul_ediv b (a % b)
        have h2 : 1 ≤ b / (a % b) := (Int.le_ediv_iff_mul_le y).mpr (by omega)
        have h3 : a % b * 1 ≤ a % b * (b / (a % b)) := Int.mul_le_mul_of_nonneg_left h2 l1.1
        omega
      have e2 : (2 : Int) ^ (n + 1) = 2 * 2 ^ n := by rw [Int.pow_succ]; omega
      omega
/-! the class reads a text -/
/-- the sign at place a of the text that is open; -1 at its end -/
noncomputable def fx (h : aH) (a : Int) : Int := if 0 ≤ a ∧ a < gi h 1 3 ∧ a < 80 then gi h 2 a.toNat else -1
/-- a number of at most n digits from place a on: its value, and where it ends -/
noncomputable def tkv (f : Int → Int) : Nat → Int → Int → Int × Int
  | 0, a, v => (v, a)
  | n + 1, a, v => if 48 ≤ f a ∧ f a ≤ 57 then tkv f n (a + 1) (v * 10 + f a - 48) else (v, a)
theorem fx_r {sh : List (Nat × Nat)} {h : aH} (hG : GD gE gRL sh h) (a : Int) : -1 ≤ fx h a ∧ fx h a ≤ 65535 := by
  unfold fx
  split
  · rename_i c
    have := grn 0 65535 hG (a := 2) (r := 2) (k := a.toNat) rfl rfl (by omega)
    omega
  · omega
theorem ctX9_next {SP : CT} (hSP : MONO SP) {sh : List (Nat × Nat)} {h : aH} (hG : GD gE gRL sh h) : CLd SP 1 mX9_next [.ref 1] h 0 0 (fun rv h' => h' = h ∧ rv = some (.int (I (fx h (gi h 1 2))))) := by
  refine x_met _ rfl (Nat.le_of_ble_eq_true rfl) (fun K hK => ?_)
  have hmono := MONO_CLd hSP 0
  have g2 := gi_r h 1 2
  have g3 := gi_r h 1 3
  refine x_aload_n 1 hK rfl rfl rfl ?_
  refine x_getE 4 hK rfl (Or.inl rfl) rfl (sp_1 (h := h) hG) (e := (gi h 1 2)) (rfl) ?_
  refine x_if_lt 39 7 hK rfl rfl rfl (by omega) (fun c3 => ?_) (fun c3 => ?_)
  · refine x_iconst 40 hK rfl rfl ?_
    refine x_iret hK rfl ⟨rfl, ?_⟩
    unfold fx
    rw [if_neg (by omega)]
  · refine x_aload_n 8 hK rfl rfl rfl ?_
    refine x_getE 11 hK rfl (Or.inl rfl) rfl (sp_1 (h := h) hG) (e := (gi h 1 2)) (rfl) ?_
    refine x_aload_n 12 hK rfl rfl rfl ?_
    refine x_getE 15 hK rfl (Or.inl rfl) rfl (sp_1 (h := h) hG) (e := (gi h 1 3)) (rfl) ?_
    refine x_if_icmp_ge 39 18 hK rfl rfl rfl (by omega) (by omega) (fun c10 => ?_) (fun c10 => ?_)
    · refine x_iconst 40 hK rfl rfl ?_
      refine x_iret hK rfl ⟨rfl, ?_⟩
      unfold fx
      rw [if_neg (by omega)]
    · refine x_aload_n 19 hK rfl rfl rfl ?_
      refine x_getE 22 hK rfl (Or.inl rfl) rfl (sp_1 (h := h) hG) (e := (gi h 1 2)) (rfl) ?_
      refine x_bipush 24 hK rfl rfl rfl ?_
      refine x_if_icmp_ge 39 27 hK rfl rfl rfl (by omega) (by omega) (fun c16 => ?_) (fun c16 => ?_)
      · refine x_iconst 40 hK rfl rfl ?_
        refine x_iret hK rfl ⟨rfl, ?_⟩
        unfold fx
        rw [if_neg (by omega)]
      · refine x_aload_n 28 hK rfl rfl rfl ?_
        refine x_getR 31 hK rfl rfl (sp_1 (h := h) hG) (rf_1_0 (h := h) hG) ?_
        refine x_aload_n 32 hK rfl rfl rfl ?_
        refine x_getE 35 hK rfl (Or.inl rfl) rfl (sp_1 (h := h) hG) (e := (gi h 1 2)) (rfl) ?_
        refine x_caloadE 36 hK rfl rfl (sp_2 (h := h) hG) (by omega) (by omega) (by omega) (e' := (gi h 2 (gi h 1 2).toNat)) (rfl) ?_
        refine x_goto 40 hK rfl rfl ?_
        refine x_iret hK rfl ⟨rfl, ?_⟩
        unfold fx
        rw [if_pos (by omega)]
theorem ctX10_isDigit {SP : CT} (hSP : MONO SP) {h : aH} {s : Int} (hs : r32 s) : CLd SP 1 mX10_isDigit [.int (I s)] h 0 0 (fun rv h' => h' = h ∧ ((rv = some (.int (I 1)) ∧ 48 ≤ s ∧ s ≤ 57) ∨ (rv = some (.int (I 0)) ∧ ¬ (48 ≤ s ∧ s ≤ 57)))) := by
  refine x_met _ rfl (Nat.le_of_ble_eq_true rfl) (fun K hK => ?_)
  have hmono := MONO_CLd hSP 0
  refine x_iload_n 1 hK rfl rfl rfl ?_
  refine x_bipush 3 hK rfl rfl rfl ?_
  refine x_if_icmp_lt 16 6 hK rfl rfl rfl (by omega) (by omega) (fun c3 => ?_) (fun c3 => ?_)
  · refine x_iconst 17 hK rfl rfl ?_
    exact x_zret hK rfl (by omega) ⟨rfl, Or.inr ⟨rfl, by omega⟩⟩
  · refine x_iload_n 7 hK rfl rfl rfl ?_
    refine x_bipush 9 hK rfl rfl rfl ?_
    refine x_if_icmp_gt 16 12 hK rfl rfl rfl (by omega) (by omega) (fun c8 => ?_) (fun c8 => ?_)
    · refine x_iconst 17 hK rfl rfl ?_
      exact x_zret hK rfl (by omega) ⟨rfl, Or.inr ⟨rfl, by omega⟩⟩
    · refine x_iconst 13 hK rfl rfl ?_
      refine x_goto 17 hK rfl rfl ?_
      exact x_zret hK rfl (by omega) ⟨rfl, Or.inl ⟨rfl, by omega, by omega⟩⟩
theorem ctX9_ended {SP : CT} (hSP : MONO SP) {sh : List (Nat × Nat)} {h : aH} (hG : GD gE gRL sh h) : CLd SP 1 mX9_ended [.ref 1] h 0 0 (fun rv h' => h' = h ∧ ((rv = some (.int (I 1)) ∧ gi h 1 3 ≤ gi h 1 2) ∨ (rv = some (.int (I 0)) ∧ gi h 1 2 < gi h 1 3))) := by
  refine x_met _ rfl (Nat.le_of_ble_eq_true rfl) (fun K hK => ?_)
  have hmono := MONO_CLd hSP 0
  have g2 := gi_r h 1 2
  have g3 := gi_r h 1 3
  refine x_aload_n 1 hK rfl rfl rfl ?_
  refine x_getE 4 hK rfl (Or.inl rfl) rfl (sp_1 (h := h) hG) (e := (gi h 1 2)) (rfl) ?_
  refine x_aload_n 5 hK rfl rfl rfl ?_
  refine x_getE 8 hK rfl (Or.inl rfl) rfl (sp_1 (h := h) hG) (e := (gi h 1 3)) (rfl) ?_
  refine x_if_icmp_lt 15 11 hK rfl rfl rfl (by omega) (by omega) (fun c5 => ?_) (fun c5 => ?_)
  · refine x_iconst 16 hK rfl rfl ?_
    exact x_zret hK rfl (by omega) ⟨rfl, Or.inr ⟨rfl, by omega⟩⟩
  · refine x_iconst 12 hK rfl rfl ?_
    refine x_goto 16 hK rfl rfl ?_
    exact x_zret hK rfl (by omega) ⟨rfl, Or.inl ⟨rfl, by omega⟩⟩
theorem tkv_step {f : Int → Int} {n : Nat} {a v : Int} (h : 48 ≤ f a ∧ f a ≤ 57) : tkv f (n + 1) a v = tkv f n (a + 1) (v * 10 + f a - 48) := by
  show (if _ then _ else _) = _
  rw [if_pos h]
theorem tkv_stop {f : Int → Int} {n : Nat} {a v : Int} (h : ¬ (48 ≤ f a ∧ f a ≤ 57)) : tkv f n a v = (v, a) := by
  cases n with
  | zero => rfl
  | succ n =>
    show (if _ then _ else _) = _
    rw [if_neg h]
theorem ctX9_takeNumber {SP : CT} (hSP : MONO SP) {sh : List (Nat × Nat)} {h : aH} (hG : GD gE gRL sh h) {n : Int} (hn : 1 ≤ n ∧ n ≤ 3) : CLd SP 3 mX9_takeNumber [.ref 1, .int (I n)] h 0 0 (fun rv h' => (∃ e, rv = some (.int (I e)) ∧ (e = if (tkv (fx h) n.toNat (gi h 1 2) 0).2 = gi h 1 2 then -1 else (tkv (fx h) n.toNat (gi h 1 2) 0).1) ∧ (e = -1 ∨ (0 ≤ e ∧ (n = 1 → e ≤ 9) ∧ (n = 2 → e ≤ 99) ∧ e ≤ 999))) ∧ GD gE gRL sh h' ∧ FRM gRL [(0, 1, 2, 2), (0, 1, 5, 5)] h h' ∧ gi h' 1 2 = (tkv (fx h) n.toNat (gi h 1 2) 0).2 ∧ (gi h' 1 5 = 0 ∨ gi h' 1 5 = 1) ∧ (gi h' 1 5 = 1 ↔ (gi h' 1 2 < gi h 1 2 + n ∧ gi h 1 4 = 1 ∧ gi h 1 3 ≤ gi h' 1 2))) := by
  refine x_met _ rfl (Nat.le_of_ble_eq_true rfl) (fun K hK => ?_)
  have hmono := MONO_CLd hSP 2
  have g2 := gi_r h 1 2
  have g3 := gi_r h 1 3
  have g4 := gri 0 1 hG (a := 1) (r := 1) (k := 4) rfl rfl
  have g3b := gri 0 76 hG (a := 1) (r := 1) (k := 3) rfl rfl
  have loop : ∀ (m : Nat) (r v : Int) (h1 : aH) (ls : List (Nat × Value)), ((n - r).toNat = m) → 0 ≤ r → r ≤ n → (0 ≤ v ∧ (r = 0 → v = 0) ∧ (r = 1 → v ≤ 9) ∧ (r = 2 → v ≤ 99) ∧ v ≤ 999) → tkv (fx h) m (gi h 1 2 + r) v = tkv (fx h) n.toNat (gi h 1 2) 0 → gi h1 1 2 = gi h 1 2 + r → (r = 0 ∨ gi h 1 2 + r ≤ 80) → lk ls 0 = some (.ref 1) → lk ls 1 = some (.int (I n)) → lk ls 2 = some (.int (I v)) → lk ls 3 = some (.int (I r)) → GD gE gRL sh h1 → FRM gRL [(0, 1, 2, 2), (0, 1, 5, 5)] h h1 → K 4 ls [] h1 0 0 := by
    intro m
    induction m with
    | zero =>
      intro r v h1 ls hm h0 hr hv htk hat h80 l0 l1 l2 l3 hG1 hF
      have hrn : r = n := by omega
      have f3 : gi h1 1 3 = gi h 1 3 := FRM_gi hF (r := 1) rfl rfl
      have f4 : gi h1 1 4 = gi h 1 4 := FRM_gi hF (r := 1) rfl rfl
      have e1 : (v, gi h 1 2 + r) = tkv (fx h) n.toNat (gi h 1 2) 0 := htk

      refine x_iload_n 5 hK rfl rfl l3 ?_
      refine x_iload_n 6 hK rfl rfl l1 ?_
      refine x_if_icmp_ge 48 9 hK rfl rfl rfl (by omega) (by omega) (fun _ => ?_) (fun c => by omega)
      refine x_aload_n 49 hK rfl rfl l0 ?_
      refine x_iload_n 50 hK rfl rfl l3 ?_
      refine x_iload_n 51 hK rfl rfl l1 ?_
      refine x_if_icmp_ge 72 54 hK rfl rfl rfl (by omega) (by omega) (fun c4 => ?_) (fun c4 => ?_)
      · refine x_iconst 73 hK rfl rfl ?_
        refine x_putZ 76 hK rfl rfl (sp_1 (h := h1) hG1) (by omega) ?_
        refine x_iload_n 77 hK rfl rfl l3 ?_
        refine x_if_ne 84 80 hK rfl rfl rfl (by omega) (fun c8 => ?_) (fun c8 => ?_)
        · refine x_iload_n 85 hK rfl rfl l2 ?_
          refine x_iret hK rfl ?_
          rw [← e1]
          refine ⟨⟨v, rfl, ?_, by omega⟩, GD_w1 (hG1) (r := 1) rfl (by omega) rfl (by omega) (by omega), FRM_w (hF) (r := 1) rfl rfl, ?_, ?_, ?_⟩
          · first | (rw [if_pos (by show _ + _ = _; omega)]; done) | (rw [if_neg (by show ¬ (_ + _ = _); omega)]; done)
          · rw [gi_k (by decide)]; exact hat
          · rw [gi_same (by omega)]; omega
          · rw [gi_same (by omega), gi_k (by decide), hat]; omega
        · refine x_iconst 81 hK rfl rfl ?_
          refine x_goto 85 hK rfl rfl ?_
          refine x_iret hK rfl ?_
          rw [← e1]
          refine ⟨⟨(-1), rfl, ?_, by omega⟩, GD_w1 (hG1) (r := 1) rfl (by omega) rfl (by omega) (by omega), FRM_w (hF) (r := 1) rfl rfl, ?_, ?_, ?_⟩
          · first | (rw [if_pos (by show _ + _ = _; omega)]; done) | (rw [if_neg (by show ¬ (_ + _ = _); omega)]; done)
          · rw [gi_k (by decide)]; exact hat
          · rw [gi_same (by omega)]; omega
          · rw [gi_same (by omega), gi_k (by decide), hat]; omega
      · refine x_aload_n 55 hK rfl rfl l0 ?_
        refine x_getE 58 hK rfl (Or.inr rfl) rfl (sp_1 (h := h1) hG1) (e := (gi h 1 4)) (f4) ?_
        refine x_if_eq 72 61 hK rfl rfl rfl (by omega) (fun c16 => ?_) (fun c16 => ?_)
        · refine x_iconst 73 hK rfl rfl ?_
          refine x_putZ 76 hK rfl rfl (sp_1 (h := h1) hG1) (by omega) ?_
          refine x_iload_n 77 hK rfl rfl l3 ?_
          refine x_if_ne 84 80 hK rfl rfl rfl (by omega) (fun c20 => ?_) (fun c20 => ?_)
          · refine x_iload_n 85 hK rfl rfl l2 ?_
            refine x_iret hK rfl ?_
            rw [← e1]
            refine ⟨⟨v, rfl, ?_, by omega⟩, GD_w1 (hG1) (r := 1) rfl (by omega) rfl (by omega) (by omega), FRM_w (hF) (r := 1) rfl rfl, ?_, ?_, ?_⟩
            · first | (rw [if_pos (by show _ + _ = _; omega)]; done) | (rw [if_neg (by show ¬ (_ + _ = _); omega)]; done)
            · rw [gi_k (by decide)]; exact hat
            · rw [gi_same (by omega)]; omega
            · rw [gi_same (by omega), gi_k (by decide), hat]; omega
          · refine x_iconst 81 hK rfl rfl ?_
            refine x_goto 85 hK rfl rfl ?_
            refine x_iret hK rfl ?_
            rw [← e1]
            refine ⟨⟨(-1), rfl, ?_, by omega⟩, GD_w1 (hG1) (r := 1) rfl (by omega) rfl (by omega) (by omega), FRM_w (hF) (r := 1) rfl rfl, ?_, ?_, ?_⟩
            · first | (rw [if_pos (by show _ + _ = _; omega)]; done) | (rw [if_neg (by show ¬ (_ + _ = _); omega)]; done)
            · rw [gi_k (by decide)]; exact hat
            · rw [gi_same (by omega)]; omega
            · rw [gi_same (by omega), gi_k (by decide), hat]; omega
        · refine x_aload_n 62 hK rfl rfl l0 ?_
          refine x_callV 65 hK hmono rfl rfl [.ref 1] [.ref 1] rfl rfl (Nat.le_of_ble_eq_true rfl) (Nat.le_of_ble_eq_true rfl) rfl (sp_1 (h := h1) hG1) (CLd_le (Nat.le_of_ble_eq_true rfl) (ctX9_ended hSP hG1)) ?_
          rintro v9 h9 ⟨e9, ⟨rfl, j1⟩ | ⟨rfl, j1⟩⟩ <;> rw [e9] <;> clear e9
          · refine x_if_eq 72 68 hK rfl rfl rfl (by omega) (fun c => by omega) (fun _ => ?_)
            refine x_iconst 69 hK rfl rfl ?_
            refine x_goto 73 hK rfl rfl ?_
            refine x_putZ 76 hK rfl rfl (sp_1 (h := h1) hG1) (by omega) ?_
            refine x_iload_n 77 hK rfl rfl l3 ?_
            refine x_if_ne 84 80 hK rfl rfl rfl (by omega) (fun c33 => ?_) (fun c33 => ?_)
            · refine x_iload_n 85 hK rfl rfl l2 ?_
              refine x_iret hK rfl ?_
              rw [← e1]
              refine ⟨⟨v, rfl, ?_, by omega⟩, GD_w1 (hG1) (r := 1) rfl (by omega) rfl (by omega) (by omega), FRM_w (hF) (r := 1) rfl rfl, ?_, ?_, ?_⟩
              · first | (rw [if_pos (by show _ + _ = _; omega)]; done) | (rw [if_neg (by show ¬ (_ + _ = _); omega)]; done)
              · rw [gi_k (by decide)]; exact hat
              · rw [gi_same (by omega)]; omega
              · rw [gi_same (by omega), gi_k (by decide), hat]; omega
            · refine x_iconst 81 hK rfl rfl ?_
              refine x_goto 85 hK rfl rfl ?_
              refine x_iret hK rfl ?_
              rw [← e1]
              refine ⟨⟨(-1), rfl, ?_, by omega⟩, GD_w1 (hG1) (r := 1) rfl (by omega) rfl (by omega) (by omega), FRM_w (hF) (r := 1) rfl rfl, ?_, ?_, ?_⟩
              · first | (rw [if_pos (by show _ + _ = _; omega)]; done) | (rw [if_neg (by show ¬ (_ + _ = _); omega)]; done)
              · rw [gi_k (by decide)]; exact hat
              · rw [gi_same (by omega)]; omega
              · rw [gi_same (by omega), gi_k (by decide), hat]; omega
          · refine x_if_eq 72 68 hK rfl rfl rfl (by omega) (fun _ => ?_) (fun c => by omega)
            refine x_iconst 73 hK rfl rfl ?_
            refine x_putZ 76 hK rfl rfl (sp_1 (h := h1) hG1) (by omega) ?_
            refine x_iload_n 77 hK rfl rfl l3 ?_
            refine x_if_ne 84 80 hK rfl rfl rfl (by omega) (fun c43 => ?_) (fun c43 => ?_)
            · refine x_iload_n 85 hK rfl rfl l2 ?_
              refine x_iret hK rfl ?_
              rw [← e1]
              refine ⟨⟨v, rfl, ?_, by omega⟩, GD_w1 (hG1) (r := 1) rfl (by omega) rfl (by omega) (by omega), FRM_w (hF) (r := 1) rfl rfl, ?_, ?_, ?_⟩
              · first | (rw [if_pos (by show _ + _ = _; omega)]; done) | (rw [if_neg (by show ¬ (_ + _ = _); omega)]; done)
              · rw [gi_k (by decide)]; exact hat
              · rw [gi_same (by omega)]; omega
              · rw [gi_same (by omega), gi_k (by decide), hat]; omega
            · refine x_iconst 81 hK rfl rfl ?_
              refine x_goto 85 hK rfl rfl ?_
              refine x_iret hK rfl ?_
              rw [← e1]
              refine ⟨⟨(-1), rfl, ?_, by omega⟩, GD_w1 (hG1) (r := 1) rfl (by omega) rfl (by omega) (by omega), FRM_w (hF) (r := 1) rfl rfl, ?_, ?_, ?_⟩
              · first | (rw [if_pos (by show _ + _ = _; omega)]; done) | (rw [if_neg (by show ¬ (_ + _ = _); omega)]; done)
              · rw [gi_k (by decide)]; exact hat
              · rw [gi_same (by omega)]; omega
              · rw [gi_same (by omega), gi_k (by decide), hat]; omega
    | succ m ih =>
      intro r v h1 ls hm h0 hr hv htk hat h80 l0 l1 l2 l3 hG1 hF
      have f3 : gi h1 1 3 = gi h 1 3 := FRM_gi hF (r := 1) rfl rfl
      have f4 : gi h1 1 4 = gi h 1 4 := FRM_gi hF (r := 1) rfl rfl
      have fs : ∀ j, gi h1 2 j = gi h 2 j := fun j => FRM_gi hF (r := 2) rfl rfl
      have hfx : fx h1 (gi h1 1 2) = fx h (gi h 1 2 + r) := by unfold fx; rw [hat, f3, fs]
      have hfr := fx_r hG (gi h 1 2 + r)
      have hin : fx h (gi h 1 2 + r) ≠ -1 → 0 ≤ gi h 1 2 + r ∧ gi h 1 2 + r < 80 := fun z => by
        unfold fx at z
        by_cases c : 0 ≤ gi h 1 2 + r ∧ gi h 1 2 + r < gi h 1 3 ∧ gi h 1 2 + r < 80
        · omega
        · rw [if_neg c] at z; exact absurd rfl z
      have hst := fun z => tkv_step (f := fx h) (n := m) (a := gi h 1 2 + r) (v := v) z
      have hsp := fun z => tkv_stop (f := fx h) (n := m + 1) (a := gi h 1 2 + r) (v := v) z
      generalize fx h (gi h 1 2 + r) = s at *
      refine x_iload_n 5 hK rfl rfl l3 ?_
      refine x_iload_n 6 hK rfl rfl l1 ?_
      refine x_if_icmp_ge 48 9 hK rfl rfl rfl (by omega) (by omega) (fun c => by omega) (fun _ => ?_)
      refine x_aload_n 10 hK rfl rfl l0 ?_
      refine x_callV 13 hK hmono rfl rfl [.ref 1] [] rfl rfl (Nat.le_of_ble_eq_true rfl) (Nat.le_of_ble_eq_true rfl) rfl (sp_1 (h := h1) hG1) (CLd_le (Nat.le_of_ble_eq_true rfl) (ctX9_next hSP hG1)) ?_
      rintro v9 h9 ⟨e9, rfl⟩
      rw [e9, hfx]
      clear e9
      refine x_callS 16 hK hmono rfl (Or.inr rfl) rfl [.int (I s)] [] rfl rfl (Nat.le_of_ble_eq_true rfl) (Nat.le_of_ble_eq_true rfl) (CLd_le (Nat.le_of_ble_eq_true rfl) (ctX10_isDigit hSP (by omega))) ?_
      rintro v9 h9 ⟨e9, ⟨rfl, i1, i2⟩ | ⟨rfl, i1⟩⟩ <;> rw [e9] <;> clear e9
      · refine x_if_eq 48 19 hK rfl rfl rfl (by omega) (fun c => by omega) (fun _ => ?_)
        refine x_iload_n 20 hK rfl rfl l2 ?_
        refine x_bipush 22 hK rfl rfl rfl ?_
        refine x_imul 23 hK rfl rfl ?_
        refine x_aload_n 24 hK rfl rfl l0 ?_
        refine x_callV 27 hK hmono rfl rfl [.ref 1] [.int (I (v * 10))] rfl rfl (Nat.le_of_ble_eq_true rfl) (Nat.le_of_ble_eq_true rfl) rfl (sp_1 (h := h1) hG1) (CLd_le (Nat.le_of_ble_eq_true rfl) (ctX9_next hSP hG1)) ?_
        rintro v9 h9 ⟨e9, rfl⟩
        rw [e9, hfx]
        clear e9
        refine x_iadd 28 hK rfl rfl ?_
        refine x_bipush 30 hK rfl rfl rfl ?_
        refine x_isub 31 hK rfl rfl ?_
        refine x_istore_n 32 hK rfl rfl _ rfl ?_
        refine x_aload_n 33 hK rfl rfl (lk1_n l0 (by decide) (Or.inl rfl)) ?_
        refine x_dup 34 hK rfl rfl rfl ?_
        refine x_getE 37 hK rfl (Or.inl rfl) rfl (sp_1 (h := h1) hG1) (e := (gi h 1 2 + r)) (hat) ?_
        refine x_iconst 38 hK rfl rfl ?_
        refine x_iadd 39 hK rfl rfl ?_
        refine x_putI 42 hK rfl rfl (sp_1 (h := h1) hG1) ?_
        refine x_iinc 45 hK rfl rfl (lk1_n l3 (by decide) (Or.inl rfl)) _ rfl ?_
        refine x_goto 4 hK rfl rfl ?_
        refine ih (r + 1) _ _ _ (by omega) (by omega) (by omega) (by omega) ?_ ((gi_same (by omega)).trans (by omega)) (by omega) (lk1_n (lk1_n l0 (by decide) (Or.inl rfl)) (by decide) (Or.inl rfl)) (lk1_n (lk1_n l1 (by decide) (Or.inl rfl)) (by decide) (Or.inl rfl)) (lk1_n lk1_s (by decide) (Or.inl rfl)) lk1_s (GD_w0 (hG1) (r := 1) rfl rfl) (FRM_w (hF) (r := 1) rfl rfl)
        rw [← htk, hst ⟨i1, i2⟩, show gi h 1 2 + (r + 1) = gi h 1 2 + r + 1 by omega]
      · refine x_if_eq 48 19 hK rfl rfl rfl (by omega) (fun _ => ?_) (fun c => by omega)
        have e1 : (v, gi h 1 2 + r) = tkv (fx h) n.toNat (gi h 1 2) 0 := (hsp (by omega)).symm.trans htk
        refine x_aload_n 49 hK rfl rfl l0 ?_
        refine x_iload_n 50 hK rfl rfl l3 ?_
        refine x_iload_n 51 hK rfl rfl l1 ?_
        refine x_if_icmp_ge 72 54 hK rfl rfl rfl (by omega) (by omega) (fun c28 => ?_) (fun c28 => ?_)
        · refine x_iconst 73 hK rfl rfl ?_
          refine x_putZ 76 hK rfl rfl (sp_1 (h := h1) hG1) (by omega) ?_
          refine x_iload_n 77 hK rfl rfl l3 ?_
          refine x_if_ne 84 80 hK rfl rfl rfl (by omega) (fun c32 => ?_) (fun c32 => ?_)
          · refine x_iload_n 85 hK rfl rfl l2 ?_
            refine x_iret hK rfl ?_
            rw [← e1]
            refine ⟨⟨v, rfl, ?_, by omega⟩, GD_w1 (hG1) (r := 1) rfl (by omega) rfl (by omega) (by omega), FRM_w (hF) (r := 1) rfl rfl, ?_, ?_, ?_⟩
            · first | (rw [if_pos (by show _ + _ = _; omega)]; done) | (rw [if_neg (by show ¬ (_ + _ = _); omega)]; done)
            · rw [gi_k (by decide)]; exact hat
            · rw [gi_same (by omega)]; omega
            · rw [gi_same (by omega), gi_k (by decide), hat]; omega
          · refine x_iconst 81 hK rfl rfl ?_
            refine x_goto 85 hK rfl rfl ?_
            refine x_iret hK rfl ?_
            rw [← e1]
            refine ⟨⟨(-1), rfl, ?_, by omega⟩, GD_w1 (hG1) (r := 1) rfl (by omega) rfl (by omega) (by omega), FRM_w (hF) (r := 1) rfl rfl, ?_, ?_, ?_⟩
            · first | (rw [if_pos (by show _ + _ = _; omega)]; done) | (rw [if_neg (by show ¬ (_ + _ = _); omega)]; done)
            · rw [gi_k (by decide)]; exact hat
            · rw [gi_same (by omega)]; omega
            · rw [gi_same (by omega), gi_k (by decide), hat]; omega
        · refine x_aload_n 55 hK rfl rfl l0 ?_
          refine x_getE 58 hK rfl (Or.inr rfl) rfl (sp_1 (h := h1) hG1) (e := (gi h 1 4)) (f4) ?_
          refine x_if_eq 72 61 hK rfl rfl rfl (by omega) (fun c40 => ?_) (fun c40 => ?_)
          · refine x_iconst 73 hK rfl rfl ?_
            refine x_putZ 76 hK rfl rfl (sp_1 (h := h1) hG1) (by omega) ?_
            refine x_iload_n 77 hK rfl rfl l3 ?_
            refine x_if_ne 84 80 hK rfl rfl rfl (by omega) (fun c44 => ?_) (fun c44 => ?_)
            · refine x_iload_n 85 hK rfl rfl l2 ?_
              refine x_iret hK rfl ?_
              rw [← e1]
              refine ⟨⟨v, rfl, ?_, by omega⟩, GD_w1 (hG1) (r := 1) rfl (by omega) rfl (by omega) (by omega), FRM_w (hF) (r := 1) rfl rfl, ?_, ?_, ?_⟩
              · first | (rw [if_pos (by show _ + _ = _; omega)]; done) | (rw [if_neg (by show ¬ (_ + _ = _); omega)]; done)
              · rw [gi_k (by decide)]; exact hat
              · rw [gi_same (by omega)]; omega
              · rw [gi_same (by omega), gi_k (by decide), hat]; omega
            · refine x_iconst 81 hK rfl rfl ?_
              refine x_goto 85 hK rfl rfl ?_
              refine x_iret hK rfl ?_
              rw [← e1]
              refine ⟨⟨(-1), rfl, ?_, by omega⟩, GD_w1 (hG1) (r := 1) rfl (by omega) rfl (by omega) (by omega), FRM_w (hF) (r := 1) rfl rfl, ?_, ?_, ?_⟩
              · first | (rw [if_pos (by show _ + _ = _; omega)]; done) | (rw [if_neg (by show ¬ (_ + _ = _); omega)]; done)
              · rw [gi_k (by decide)]; exact hat
              · rw [gi_same (by omega)]; omega
              · rw [gi_same (by omega), gi_k (by decide), hat]; omega
          · refine x_aload_n 62 hK rfl rfl l0 ?_
            refine x_callV 65 hK hmono rfl rfl [.ref 1] [.ref 1] rfl rfl (Nat.le_of_ble_eq_true rfl) (Nat.le_of_ble_eq_true rfl) rfl (sp_1 (h := h1) hG1) (CLd_le (Nat.le_of_ble_eq_true rfl) (ctX9_ended hSP hG1)) ?_
            rintro v9 h9 ⟨e9, ⟨rfl, j1⟩ | ⟨rfl, j1⟩⟩ <;> rw [e9] <;> clear e9
            · refine x_if_eq 72 68 hK rfl rfl rfl (by omega) (fun c => by omega) (fun _ => ?_)
              refine x_iconst 69 hK rfl rfl ?_
              refine x_goto 73 hK rfl rfl ?_
              refine x_putZ 76 hK rfl rfl (sp_1 (h := h1) hG1) (by omega) ?_
              refine x_iload_n 77 hK rfl rfl l3 ?_
              refine x_if_ne 84 80 hK rfl rfl rfl (by omega) (fun c57 => ?_) (fun c57 => ?_)
              · refine x_iload_n 85 hK rfl rfl l2 ?_
                refine x_iret hK rfl ?_
                rw [← e1]
                refine ⟨⟨v, rfl, ?_, by omega⟩, GD_w1 (hG1) (r := 1) rfl (by omega) rfl (by omega) (by omega), FRM_w (hF) (r := 1) rfl rfl, ?_, ?_, ?_⟩
                · first | (rw [if_pos (by show _ + _ = _; omega)]; done) | (rw [if_neg (by show ¬ (_ + _ = _); omega)]; done)
                · rw [gi_k (by decide)]; exact hat
                · rw [gi_same (by omega)]; omega
                · rw [gi_same (by omega), gi_k (by decide), hat]; omega
              · refine x_iconst 81 hK rfl rfl ?_
                refine x_goto 85 hK rfl rfl ?_
                refine x_iret hK rfl ?_
                rw [← e1]
                refine ⟨⟨(-1), rfl, ?_, by omega⟩, GD_w1 (hG1) (r := 1) rfl (by omega) rfl (by omega) (by omega), FRM_w (hF) (r := 1) rfl rfl, ?_, ?_, ?_⟩
                · first | (rw [if_pos (by show _ + _ = _; omega)]; done) | (rw [if_neg (by show ¬ (_ + _ = _); omega)]; done)
                · rw [gi_k (by decide)]; exact hat
                · rw [gi_same (by omega)]; omega
                · rw [gi_same (by omega), gi_k (by decide), hat]; omega
            · refine x_if_eq 72 68 hK rfl rfl rfl (by omega) (fun _ => ?_) (fun c => by omega)
              refine x_iconst 73 hK rfl rfl ?_
              refine x_putZ 76 hK rfl rfl (sp_1 (h := h1) hG1) (by omega) ?_
              refine x_iload_n 77 hK rfl rfl l3 ?_
              refine x_if_ne 84 80 hK rfl rfl rfl (by omega) (fun c67 => ?_) (fun c67 => ?_)
              · refine x_iload_n 85 hK rfl rfl l2 ?_
                refine x_iret hK rfl ?_
                rw [← e1]
                refine ⟨⟨v, rfl, ?_, by omega⟩, GD_w1 (hG1) (r := 1) rfl (by omega) rfl (by omega) (by omega), FRM_w (hF) (r := 1) rfl rfl, ?_, ?_, ?_⟩
                · first | (rw [if_pos (by show _ + _ = _; omega)]; done) | (rw [if_neg (by show ¬ (_ + _ = _); omega)]; done)
                · rw [gi_k (by decide)]; exact hat
                · rw [gi_same (by omega)]; omega
                · rw [gi_same (by omega), gi_k (by decide), hat]; omega
              · refine x_iconst 81 hK rfl rfl ?_
                refine x_goto 85 hK rfl rfl ?_
                refine x_iret hK rfl ?_
                rw [← e1]
                refine ⟨⟨(-1), rfl, ?_, by omega⟩, GD_w1 (hG1) (r := 1) rfl (by omega) rfl (by omega) (by omega), FRM_w (hF) (r := 1) rfl rfl, ?_, ?_, ?_⟩
                · first | (rw [if_pos (by show _ + _ = _; omega)]; done) | (rw [if_neg (by show ¬ (_ + _ = _); omega)]; done)
                · rw [gi_k (by decide)]; exact hat
                · rw [gi_same (by omega)]; omega
                · rw [gi_same (by omega), gi_k (by decide), hat]; omega
  refine x_iconst 1 hK rfl rfl ?_
  refine x_istore_n 2 hK rfl rfl [(2, .int (I 0)), (0, .ref 1), (1, .int (I n))] rfl ?_
  refine x_iconst 3 hK rfl rfl ?_
  refine x_istore_n 4 hK rfl rfl [(3, .int (I 0)), (2, .int (I 0)), (0, .ref 1), (1, .int (I n))] rfl ?_
  exact loop _ 0 0 h _ rfl (by omega) (by omega) (by omega) (by rw [Int.add_zero, Int.sub_zero]) (by omega) (by omega) rfl rfl rfl rfl hG FRM.rf
end
section
/-! THE READER OF RULES (the class): what waits; orders that are due (the reference) -/
/-- how much a sign binds -/
noncomputable def rk (s : Int) : Int := if s = 42 ∨ s = 47 then 3 else if s = 43 ∨ s = 45 then 2 else if s = 60 ∨ s = 61 ∨ s = 62 then 1 else if s = 256 then 4 else 0
/-- what is said of the state's places -/
noncomputable def clsB : Bool := (eG gE 61).all fun q => (Nat.beq q.1 1 && Nat.beq q.2.1 1 && decide (q.2.2 = (0, 8))) || (Nat.beq q.1 3 && Nat.beq q.2.1 3 && decide (q.2.2 = (0, 12))) || (List.range 12).any fun j => Nat.beq q.1 (6 + 3 * j) && Nat.beq q.2.1 (6 + 3 * j) && decide (q.2.2 = (-1, 1))
theorem clsB_t : clsB = true := by decide +kernel
theorem cls61 {q : Nat × Nat × Int × Int} (hq : q ∈ eG gE 61) : (q.1 = 1 ∧ q.2.1 = 1 ∧ q.2.2 = (0, 8)) ∨ (q.1 = 3 ∧ q.2.1 = 3 ∧ q.2.2 = (0, 12)) ∨ ∃ j, j < 12 ∧ q.1 = 6 + 3 * j ∧ q.2.1 = 6 + 3 * j ∧ q.2.2 = (-1, 1) := by
  have z := List.all_eq_true.mp clsB_t q hq
  simp only [Bool.or_eq_true, Bool.and_eq_true, Nat.beq_eq, decide_eq_true_eq] at z
  rcases z with (z | z) | z
  · exact Or.inl ⟨z.1.1, z.1.2, z.2⟩
  · exact Or.inr (Or.inl ⟨z.1.1, z.1.2, z.2⟩)
  · obtain ⟨j, hj, y⟩ := List.any_eq_true.mp z
    simp only [Bool.and_eq_true, Nat.beq_eq, decide_eq_true_eq] at y
    exact Or.inr (Or.inr ⟨j, List.mem_range.mp hj, y.1.1, y.1.2, y.2⟩)
noncomputable def inB : Bool := (List.range 12).all fun j => decide ((6 + 3 * j, 6 + 3 * j, -1, 1) ∈ eG gE 61)
theorem inB_t : inB = true := by decide +kernel
theorem in61 {j : Nat} (hj : j < 12) : (6 + 3 * j, 6 + 3 * j, -1, 1) ∈ eG gE 61 := of_decide_eq_true (List.all_eq_true.mp inB_t j (List.mem_range.mpr hj))
/-- a place of the state is written: the lane, how many orders, their helms are bounded -/
theorem GD_st {sh : List (Nat × Nat)} {h : aH} {a r k : Nat} {e : Int} (hG : GD gE gRL sh h) (hr : gRL[a]? = some r) (h61 : eG gE r = eG gE 61) (h1 : k = 1 → 0 ≤ e ∧ e ≤ 8) (h3 : k = 3 → 0 ≤ e ∧ e ≤ 12) (hw : ∀ j, j < 12 → k = 6 + 3 * j → -1 ≤ e ∧ e ≤ 1) : GD gE gRL sh (wI h a k e) := by
  by_cases hc : k = 1 ∨ k = 3 ∨ ∃ j, j < 12 ∧ k = 6 + 3 * j
  · refine GD_w hG hr ?_ fun q hq l1 l2 => ?_
    · rcases hc with hc | hc | ⟨j, hj, hc⟩
      · have := h1 hc; omega
      · have := h3 hc; omega
      · have := hw j hj hc; omega
    rw [h61] at hq
    rcases cls61 hq with ⟨e1, e2, e3⟩ | ⟨e1, e2, e3⟩ | ⟨j, hj, e1, e2, e3⟩
    · rw [e3]; exact h1 (by omega)
    · rw [e3]; exact h3 (by omega)
    · rw [e3]; exact hw j hj (by omega)
  · refine GD_wX hG hr fun q hq l1 l2 => hc ?_
    rw [h61] at hq
    rcases cls61 hq with ⟨e1, e2, e3⟩ | ⟨e1, e2, e3⟩ | ⟨j, hj, e1, e2, e3⟩
    · exact Or.inl (by omega)
    · exact Or.inr (Or.inl (by omega))
    · exact Or.inr (Or.inr ⟨j, hj, by omega⟩)
theorem ctX11_put {SP : CT} (hSP : MONO SP) {h : aH} {n : Int} (hn : r32 n) : CLd SP 1 mX11_put [.int (I n)] h 0 0 (fun rv h' => h' = h ∧ rv = some (.int (I (max 0 (min 8 n))))) := by
  refine x_met _ rfl (Nat.le_of_ble_eq_true rfl) (fun K hK => ?_)
  have hmono := MONO_CLd hSP 0
  refine x_iconst 1 hK rfl rfl ?_
  refine x_bipush 3 hK rfl rfl rfl ?_
  refine x_iload_n 4 hK rfl rfl rfl ?_
  refine x_min 7 hK rfl rfl (Nat.le_of_ble_eq_true rfl) (by omega) (by omega) ?_
  refine x_max 10 hK rfl rfl (Nat.le_of_ble_eq_true rfl) (by omega) (by omega) ?_
  exact x_iret hK rfl ⟨rfl, rfl⟩
end
section
/-! THE SAME IN THE CHECKER'S WORDS, 1 -/
noncomputable def sX11_ruled_0 : SM := (mX11_ruled, [(2, 54, 0, 0)], [], [([(0, 0, 1, 12)], [], [])], [(0, 67, 0, 79)])
theorem kX11_ruled_0 {SP : CT} (hSP : MONO SP) {sh : List (Nat × Nat)} : SMOK gE gRL sh (CLd SP 4) sX11_ruled_0 := by
  intro as h hX ga hG hov
  obtain ⟨x0, as0, rfl, g0, ga0⟩ := ar_c ga
  obtain rfl := ar_r (by decide) (by decide +kernel : ((List.range gRL.length).all fun c => !(decide (gRL[c]? = some 54)) || Nat.beq c 171) = true) g0
  obtain rfl := ar_n ga0
  refine MONO_CLd hSP 4 _ _ _ _ _ _ _ (fun rv h' hq => ?_) (ctX11_ruled hSP hG hX)
  revert hq
  rintro ⟨⟨e, rfl, h1, h2⟩, hG9, hF9⟩
  exact ⟨hG9, hF9, _, List.mem_cons_self, ge_i (by omega) (by omega) (by omega), gov_n, fun q hq => by cases hq⟩
end
