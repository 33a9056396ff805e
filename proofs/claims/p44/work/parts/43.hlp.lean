/-! FOR PROOFS BY HAND OVER THE GLOBAL TABLES -/
section HLP
variable {sh : List (Nat × Nat)} {h : aH}
theorem shx {a r : Nat} {s : Nat × Nat} (hG : GD gE gRL sh h) (hr : gRL[a]? = some r) (hs : eS gE r = s) : h.1[a]? = some s := by rw [hG.1, hG.2.1 a r hr, hs]
theorem gri {a r k : Nat} (lo hi : Int) (hG : GD gE gRL sh h) (hr : gRL[a]? = some r) (hg : gI (eG gE r) k k = (lo, hi)) : lo ≤ gi h a k ∧ gi h a k ≤ hi := by
  have := gI_ok (hG.2.2.1 a r hr) (Nat.le_refl k) (Nat.le_refl k)
  rw [hg] at this
  exact this
/-- what an int anywhere in a row holds, where one segment says it of the whole row -/
theorem grn {a r k n : Nat} (lo hi : Int) (hG : GD gE gRL sh h) (hr : gRL[a]? = some r) (hg : eG gE r = [(0, n, lo, hi)]) (hk : k ≤ n) : lo ≤ gi h a k ∧ gi h a k ≤ hi := by
  have := hG.2.2.1 a r hr (0, n, lo, hi) (by rw [hg]; exact List.mem_singleton.mpr rfl) k (Nat.zero_le _) hk
  exact this
theorem oneB {r a : Nat} (h : ((List.range gRL.length).all fun b => !(decide (gRL[b]? = some r)) || Nat.beq b a) = true) {b : Nat} (hb : gRL[b]? = some r) : b = a := by
  have z := List.all_eq_true.mp h b (List.mem_range.mpr (List.getElem?_eq_some_iff.mp hb).1)
  rw [hb] at z
  simpa using z
def onlyAt (q b : Nat) : List Nat → Nat → Bool
  | [], _ => true
  | x :: t, i => (!(Nat.beq x q) || Nat.beq i b) && onlyAt q b t (i + 1)
theorem onlyAt_ok {q b : Nat} : ∀ {l : List Nat} {i : Nat}, onlyAt q b l i = true → ∀ c, l[c]? = some q → i + c = b
  | [], _, _, c, e => by rw [List.getElem?_nil] at e; cases e
  | x :: t, i, h, 0, e => by
    have h2 : ((!(Nat.beq x q) || Nat.beq i b) && onlyAt q b t (i + 1)) = true := h
    rw [Bool.and_eq_true] at h2
    have e2 : x = q := Option.some.inj e
    have h3 := h2.1
    rw [show Nat.beq x q = true from Nat.beq_eq.mpr e2] at h3
    exact Nat.beq_eq.mp h3
  | x :: t, i, h, c + 1, e => by
    have h2 : ((!(Nat.beq x q) || Nat.beq i b) && onlyAt q b t (i + 1)) = true := h
    rw [Bool.and_eq_true] at h2
    have z := onlyAt_ok h2.2 c e
    omega
theorem grO {a r k q b : Nat} (hG : GD gE gRL sh h) (hr : gRL[a]? = some r) (hg : gR (eR gE r) k k = some q) (h1 : onlyAt q b gRL 0 = true) : aR h a k = some b := by
  obtain ⟨z, z1, z2, z3, z4⟩ := gR_ok hg
  obtain ⟨c, c1, c2⟩ := hG.2.2.2 a r hr z z1 k z2 z3
  rw [z4] at c2
  have e := onlyAt_ok h1 c c2
  rw [c1, show c = b by omega]
/-- one int is written -/
theorem GD_w {a r k : Nat} {e : Int} (hG : GD gE gRL sh h) (hr : gRL[a]? = some r) (he : r32 e) (ho : ∀ q ∈ eG gE r, q.1 ≤ k → k ≤ q.2.1 → q.2.2.1 ≤ e ∧ e ≤ q.2.2.2) : GD gE gRL sh (wI h a k e) := by
  refine ⟨hG.1, hG.2.1, fun b r' hb q hq j h1 h2 => ?_, hG.2.2.2⟩
  show q.2.2.1 ≤ gi (wI h a k e) b j ∧ gi (wI h a k e) b j ≤ q.2.2.2
  by_cases e1 : b = a
  · subst e1
    by_cases e2 : j = k
    · subst e2
      rw [gi_same he]
      rw [hr] at hb
      cases hb
      exact ho q hq h1 h2
    · rw [gi_k e2]
      exact hG.2.2.1 b r' hb q hq j h1 h2
  · rw [gi_a e1]
    exact hG.2.2.1 b r' hb q hq j h1 h2
theorem GD_wX {a r k : Nat} {e : Int} (hG : GD gE gRL sh h) (hr : gRL[a]? = some r) (ho : ∀ q ∈ eG gE r, q.1 ≤ k → k ≤ q.2.1 → False) : GD gE gRL sh (wI h a k e) := by
  refine ⟨hG.1, hG.2.1, fun b r' hb q hq j h1 h2 => ?_, hG.2.2.2⟩
  show q.2.2.1 ≤ gi (wI h a k e) b j ∧ gi (wI h a k e) b j ≤ q.2.2.2
  by_cases e1 : b = a
  · subst e1
    rw [hr] at hb
    cases hb
    have e2 : j ≠ k := fun z => by subst z; exact ho q hq h1 h2
    rw [gi_k e2]
    exact hG.2.2.1 b r hr q hq j h1 h2
  · rw [gi_a e1]
    exact hG.2.2.1 b r' hb q hq j h1 h2
theorem GD_w0 {a r k : Nat} {e : Int} (hG : GD gE gRL sh h) (hr : gRL[a]? = some r) (ho : (eG gE r).filter (fun q => Nat.ble q.1 k && Nat.ble k q.2.1) = []) : GD gE gRL sh (wI h a k e) :=
  GD_wX hG hr fun q hq h1 h2 => by
    have : q ∈ (eG gE r).filter (fun q => Nat.ble q.1 k && Nat.ble k q.2.1) := List.mem_filter.mpr ⟨hq, by simp [h1, h2]⟩
    rw [ho] at this
    cases this
theorem GD_w1 {a r k x y : Nat} {e lo hi : Int} (hG : GD gE gRL sh h) (hr : gRL[a]? = some r) (he : r32 e) (ho : (eG gE r).filter (fun q => Nat.ble q.1 k && Nat.ble k q.2.1) = [(x, y, lo, hi)]) (h1 : lo ≤ e) (h2 : e ≤ hi) : GD gE gRL sh (wI h a k e) :=
  GD_w hG hr he fun q hq h3 h4 => by
    have : q ∈ (eG gE r).filter (fun q => Nat.ble q.1 k && Nat.ble k q.2.1) := List.mem_filter.mpr ⟨hq, by simp [h3, h4]⟩
    rw [ho] at this
    rw [List.mem_singleton.mp this]
    exact ⟨h1, h2⟩
theorem GD_wn {a r k : Nat} {e : Int} (hG : GD gE gRL sh h) (hr : gRL[a]? = some r) (ho : eG gE r = []) : GD gE gRL sh (wI h a k e) :=
  GD_wX hG hr fun q hq _ _ => by rw [ho] at hq; cases hq
theorem GD_wu {a r k x y : Nat} {e lo hi : Int} (hG : GD gE gRL sh h) (hr : gRL[a]? = some r) (he : r32 e) (ho : eG gE r = [(x, y, lo, hi)]) (h1 : lo ≤ e) (h2 : e ≤ hi) : GD gE gRL sh (wI h a k e) :=
  GD_w hG hr he fun q hq _ _ => by rw [ho] at hq; rw [List.mem_singleton.mp hq]; exact ⟨h1, h2⟩
theorem GD_J {a k : Nat} {v : Int64} (hG : GD gE gRL sh h) : GD gE gRL sh (sJ h a k v) := hG
theorem FRM_w {M : MD} {h0 : aH} {a r k : Nat} {e : Int} (hF : FRM gRL M h0 h) (hr : gRL[a]? = some r) (hm : mHas M 0 r k = true) : FRM gRL M h0 (wI h a k e) := by
  refine ⟨fun b j z => ?_, hF.2.1, hF.2.2⟩
  have e1 : ¬ (b = a ∧ j = k) := by rintro ⟨rfl, rfl⟩; have := z r hr; rw [hm] at this; cases this
  have : aI (wI h a k e) b j = aI h b j := by
    by_cases hb : b = a
    · subst hb
      have : j ≠ k := fun q => e1 ⟨rfl, q⟩
      simp [wI, aI, sI, up_s, upd, this]
    · simp [wI, aI, sI, up_n hb]
  rw [this]
  exact hF.1 b j z
theorem mHas_n {M : MD} {w r a b k : Nat} (h : mIn M w r a b = true) (hr : bse r = r) (h1 : a ≤ k) (h2 : k ≤ b) : mHas M w r k = true := by
  obtain ⟨q, hq, h3⟩ := List.any_eq_true.mp h
  refine List.any_eq_true.mpr ⟨q, hq, ?_⟩
  simp only [Bool.and_eq_true, Nat.beq_eq, Nat.ble_eq] at h3 ⊢
  rw [hr] at h3
  omega
theorem FRM_wn {M : MD} {h0 : aH} {a r k : Nat} {e : Int} (x y : Nat) (hF : FRM gRL M h0 h) (hr : gRL[a]? = some r) (hm : mIn M 0 r x y = true) (hb : bse r = r) (h1 : x ≤ k) (h2 : k ≤ y) : FRM gRL M h0 (wI h a k e) := FRM_w hF hr (mHas_n hm hb h1 h2)
theorem FRM_J {M : MD} {h0 : aH} {a r k : Nat} {v : Int64} (hF : FRM gRL M h0 h) (hr : gRL[a]? = some r) (hm : mHas M 1 r k = true) : FRM gRL M h0 (sJ h a k v) := by
  refine ⟨hF.1, fun b j z => ?_, hF.2.2⟩
  have e1 : ¬ (b = a ∧ j = k) := by rintro ⟨rfl, rfl⟩; have := z r hr; rw [hm] at this; cases this
  have : aJ (sJ h a k v) b j = aJ h b j := by
    by_cases hb : b = a
    · subst hb
      have : j ≠ k := fun q => e1 ⟨rfl, q⟩
      simp [aJ, sJ, up_s, vp_updL, this]
    · simp [aJ, sJ, up_n hb]
  rw [this]
  exact hF.2.1 b j z
/-- what stays -/
theorem FRM_gi {M : MD} {h0 : aH} {a r k : Nat} (hF : FRM gRL M h0 h) (hr : gRL[a]? = some r) (hm : mHas M 0 r k = false) : gi h a k = gi h0 a k := by
  show (aI h a k).toInt = (aI h0 a k).toInt
  rw [hF.1 a k fun r' hr' => by rw [hr] at hr'; cases hr'; exact hm]
theorem gov_n {h : aH} : gov gRL (fun _ => none) [] h := fun q hq => by cases hq
theorem gov_c {h : aH} {r k a : Nat} {lo hi : Int} {t : OV} (hr5 : r < 500) (h1 : ((List.range gRL.length).all fun c => !(decide (gRL[c]? = some r)) || Nat.beq c a) = true) (hv : lo ≤ gi h a k ∧ gi h a k ≤ hi) (ht : gov gRL (fun _ => none) t h) : gov gRL (fun _ => none) ((r, k, lo, hi) :: t) h := by
  intro q hq b hb
  rcases List.mem_cons.mp hq with rfl | hq
  · unfold isr at hb
    rw [if_pos (show r < 500 from hr5)] at hb
    rw [oneB h1 hb]
    exact hv
  · exact ht q hq b hb
/-- arguments -/
theorem ar_n {ls : List (Nat × Value)} {xs : List Value} (g : gst gRL (fun _ => none) ls h [] xs) : xs = [] := by
  cases xs with
  | nil => rfl
  | cons x xs => exact g.elim
theorem ar_c {ls : List (Nat × Value)} {v : AV} {vs : List AV} {xs : List Value} (g : gst gRL (fun _ => none) ls h (v :: vs) xs) : ∃ x ys, xs = x :: ys ∧ gv gRL (fun _ => none) ls h v x ∧ gst gRL (fun _ => none) ls h vs ys := by
  cases xs with
  | nil => exact g.elim
  | cons x xs => exact ⟨x, xs, rfl, g⟩
theorem ar_r {ls : List (Nat × Value)} {r a : Nat} {z : Int × Int} {x : Value} (hr5 : r < 500) (h1 : ((List.range gRL.length).all fun c => !(decide (gRL[c]? = some r)) || Nat.beq c a) = true) (g : gv gRL (fun _ => none) ls h (2, r, z) x) : x = .ref a := by
  obtain ⟨b, rfl, hb⟩ := g
  unfold isr at hb
  rw [if_pos (show r < 500 from hr5)] at hb
  rw [oneB h1 hb]
theorem ar_q {ls : List (Nat × Value)} {r : Nat} {z : Int × Int} {x : Value} (hr5 : r < 500) (g : gv gRL (fun _ => none) ls h (2, r, z) x) : ∃ b, x = .ref b ∧ gRL[b]? = some r := by
  obtain ⟨b, rfl, hb⟩ := g
  unfold isr at hb
  rw [if_pos (show r < 500 from hr5)] at hb
  exact ⟨b, rfl, hb⟩
theorem ar_i {ls : List (Nat × Value)} {lo hi : Int} {x : Value} (g : gv gRL (fun _ => none) ls h (0, 0, lo, hi) x) : ∃ n : Int, r32 n ∧ x = .int (I n) ∧ lo ≤ n ∧ n ≤ hi := by
  obtain ⟨w, rfl, b1, b2, -⟩ := g
  exact ⟨w.toInt, r_I w, by rw [t_I], b1, b2⟩
theorem ar_l {ls : List (Nat × Value)} {lo hi : Int} {x : Value} (g : gv gRL (fun _ => none) ls h (1, 0, lo, hi) x) : ∃ n : Int, r64 n ∧ x = .long (J n) ∧ lo ≤ n ∧ n ≤ hi := by
  obtain ⟨w, rfl, b1, b2, -⟩ := g
  exact ⟨w.toInt, r_J w, by rw [t_J], b1, b2⟩
theorem ge_i {ls : List (Nat × Value)} {lo hi e : Int} (hr : r32 e) (h1 : lo ≤ e) (h2 : e ≤ hi) : gst gRL (fun _ => none) ls h [(0, 0, lo, hi)] (some (Value.int (I e))).toList :=
  ⟨⟨I e, rfl, by show lo ≤ (I e).toInt; rw [I_t hr]; exact h1, by show (I e).toInt ≤ hi; rw [I_t hr]; exact h2, trivial⟩, trivial⟩
theorem ge_a {ls : List (Nat × Value)} {e : Int} : gst gRL (fun _ => none) ls h [(0, 0, -2147483648, 2147483647)] (some (Value.int (I e))).toList :=
  ⟨⟨I e, rfl, i32_lo _, i32_hi _, trivial⟩, trivial⟩
/-- arguments of a call, for what is said of it -/
theorem gv_i {sg : Nat → Option Nat} {ls : List (Nat × Value)} {lo hi e : Int} (hr : r32 e) (h1 : lo ≤ e) (h2 : e ≤ hi) : gv gRL sg ls h (0, 0, lo, hi) (.int (I e)) :=
  ⟨I e, rfl, by show lo ≤ (I e).toInt; rw [I_t hr]; exact h1, by show (I e).toInt ≤ hi; rw [I_t hr]; exact h2, trivial⟩
theorem gv_l {sg : Nat → Option Nat} {ls : List (Nat × Value)} {lo hi e : Int} (hr : r64 e) (h1 : lo ≤ e) (h2 : e ≤ hi) : gv gRL sg ls h (1, 0, lo, hi) (.long (J e)) :=
  ⟨J e, rfl, by show lo ≤ (J e).toInt; rw [J_t hr]; exact h1, by show (J e).toInt ≤ hi; rw [J_t hr]; exact h2, trivial⟩
theorem gv_r {ls : List (Nat × Value)} {r a : Nat} {z : Int × Int} (hr5 : r < 500) (hr : gRL[a]? = some r) : gv gRL (fun _ => none) ls h (2, r, z) (.ref a) :=
  ⟨a, rfl, by unfold isr; rw [if_pos (show r < 500 from hr5)]; exact hr⟩
theorem QS_i {lo hi : Int} {rv : Option Value} (g : gst gRL (fun _ => none) [] h [(0, 0, lo, hi)] rv.toList) : ∃ n : Int, r32 n ∧ rv = some (.int (I n)) ∧ lo ≤ n ∧ n ≤ hi := by
  cases rv with
  | none => exact g.elim
  | some x =>
    obtain ⟨n, h1, rfl, h2, h3⟩ := ar_i g.1
    exact ⟨n, h1, rfl, h2, h3⟩
theorem QS_v {rv : Option Value} (g : gst gRL (fun _ => none) [] h [] rv.toList) : rv = none := by
  cases rv with
  | none => rfl
  | some x => exact g.elim
end HLP
/-! the cells that stand alone: shapes, references, their roles -/
theorem sp_1 {sh : List (Nat × Nat)} {h : aH} (hG : GD gE gRL sh h) : h.1[1]? = some (109, 6) := shx hG (r := 1) rfl rfl
theorem sp_2 {sh : List (Nat × Nat)} {h : aH} (hG : GD gE gRL sh h) : h.1[2]? = some (2, 80) := shx hG (r := 2) rfl rfl
theorem sp_3 {sh : List (Nat × Nat)} {h : aH} (hG : GD gE gRL sh h) : h.1[3]? = some (103, 2) := shx hG (r := 3) rfl rfl
theorem sp_17 {sh : List (Nat × Nat)} {h : aH} (hG : GD gE gRL sh h) : h.1[17]? = some (105, 5) := shx hG (r := 11) rfl rfl
theorem sp_18 {sh : List (Nat × Nat)} {h : aH} (hG : GD gE gRL sh h) : h.1[18]? = some (0, 40) := shx hG (r := 12) rfl rfl
theorem sp_171 {sh : List (Nat × Nat)} {h : aH} (hG : GD gE gRL sh h) : h.1[171]? = some (111, 53) := shx hG (r := 54) rfl rfl
theorem sp_172 {sh : List (Nat × Nat)} {h : aH} (hG : GD gE gRL sh h) : h.1[172]? = some (1, 40) := shx hG (r := 55) rfl rfl
theorem sp_173 {sh : List (Nat × Nat)} {h : aH} (hG : GD gE gRL sh h) : h.1[173]? = some (0, 10) := shx hG (r := 56) rfl rfl
theorem sp_174 {sh : List (Nat × Nat)} {h : aH} (hG : GD gE gRL sh h) : h.1[174]? = some (3, 10) := shx hG (r := 57) rfl rfl
theorem sp_175 {sh : List (Nat × Nat)} {h : aH} (hG : GD gE gRL sh h) : h.1[175]? = some (0, 16) := shx hG (r := 58) rfl rfl
theorem sp_176 {sh : List (Nat × Nat)} {h : aH} (hG : GD gE gRL sh h) : h.1[176]? = some (0, 16) := shx hG (r := 59) rfl rfl
theorem sp_177 {sh : List (Nat × Nat)} {h : aH} (hG : GD gE gRL sh h) : h.1[177]? = some (0, 8) := shx hG (r := 60) rfl rfl
theorem sp_178 {sh : List (Nat × Nat)} {h : aH} (hG : GD gE gRL sh h) : h.1[178]? = some (0, 57) := shx hG (r := 61) rfl rfl
theorem sp_179 {sh : List (Nat × Nat)} {h : aH} (hG : GD gE gRL sh h) : h.1[179]? = some (0, 57) := shx hG (r := 62) rfl rfl
theorem sp_180 {sh : List (Nat × Nat)} {h : aH} (hG : GD gE gRL sh h) : h.1[180]? = some (0, 80) := shx hG (r := 63) rfl rfl
theorem sp_181 {sh : List (Nat × Nat)} {h : aH} (hG : GD gE gRL sh h) : h.1[181]? = some (0, 32) := shx hG (r := 64) rfl rfl
theorem sp_182 {sh : List (Nat × Nat)} {h : aH} (hG : GD gE gRL sh h) : h.1[182]? = some (0, 80) := shx hG (r := 65) rfl rfl
theorem sp_183 {sh : List (Nat × Nat)} {h : aH} (hG : GD gE gRL sh h) : h.1[183]? = some (0, 80) := shx hG (r := 66) rfl rfl
theorem sp_184 {sh : List (Nat × Nat)} {h : aH} (hG : GD gE gRL sh h) : h.1[184]? = some (0, 80) := shx hG (r := 67) rfl rfl
theorem sp_185 {sh : List (Nat × Nat)} {h : aH} (hG : GD gE gRL sh h) : h.1[185]? = some (0, 4) := shx hG (r := 68) rfl rfl
theorem sp_186 {sh : List (Nat × Nat)} {h : aH} (hG : GD gE gRL sh h) : h.1[186]? = some (0, 912) := shx hG (r := 69) rfl rfl
theorem sp_187 {sh : List (Nat × Nat)} {h : aH} (hG : GD gE gRL sh h) : h.1[187]? = some (0, 60) := shx hG (r := 70) rfl rfl
theorem sp_188 {sh : List (Nat × Nat)} {h : aH} (hG : GD gE gRL sh h) : h.1[188]? = some (0, 60) := shx hG (r := 71) rfl rfl
theorem sp_189 {sh : List (Nat × Nat)} {h : aH} (hG : GD gE gRL sh h) : h.1[189]? = some (0, 30) := shx hG (r := 72) rfl rfl
theorem sp_190 {sh : List (Nat × Nat)} {h : aH} (hG : GD gE gRL sh h) : h.1[190]? = some (0, 9) := shx hG (r := 73) rfl rfl
theorem sp_191 {sh : List (Nat × Nat)} {h : aH} (hG : GD gE gRL sh h) : h.1[191]? = some (0, 9) := shx hG (r := 74) rfl rfl
theorem sp_192 {sh : List (Nat × Nat)} {h : aH} (hG : GD gE gRL sh h) : h.1[192]? = some (0, 14409) := shx hG (r := 75) rfl rfl
theorem sp_193 {sh : List (Nat × Nat)} {h : aH} (hG : GD gE gRL sh h) : h.1[193]? = some (0, 12) := shx hG (r := 76) rfl rfl
theorem sp_194 {sh : List (Nat × Nat)} {h : aH} (hG : GD gE gRL sh h) : h.1[194]? = some (0, 12) := shx hG (r := 77) rfl rfl
theorem sp_195 {sh : List (Nat × Nat)} {h : aH} (hG : GD gE gRL sh h) : h.1[195]? = some (0, 225) := shx hG (r := 78) rfl rfl
theorem sp_196 {sh : List (Nat × Nat)} {h : aH} (hG : GD gE gRL sh h) : h.1[196]? = some (3, 225) := shx hG (r := 79) rfl rfl
theorem sp_198 {sh : List (Nat × Nat)} {h : aH} (hG : GD gE gRL sh h) : h.1[198]? = some (3, 3) := shx hG (r := 81) rfl rfl
theorem sp_199 {sh : List (Nat × Nat)} {h : aH} (hG : GD gE gRL sh h) : h.1[199]? = some (0, 3) := shx hG (r := 82) rfl rfl
theorem sp_200 {sh : List (Nat × Nat)} {h : aH} (hG : GD gE gRL sh h) : h.1[200]? = some (0, 171) := shx hG (r := 83) rfl rfl
theorem rf_1_0 {sh : List (Nat × Nat)} {h : aH} (hG : GD gE gRL sh h) : aR h 1 0 = some 2 := grO hG (r := 1) (q := 2) rfl rfl (by decide +kernel)
theorem rf_17_0 {sh : List (Nat × Nat)} {h : aH} (hG : GD gE gRL sh h) : aR h 17 0 = some 18 := grO hG (r := 11) (q := 12) rfl rfl (by decide +kernel)
theorem rf_171_2 {sh : List (Nat × Nat)} {h : aH} (hG : GD gE gRL sh h) : aR h 171 2 = some 172 := grO hG (r := 54) (q := 55) rfl rfl (by decide +kernel)
theorem rf_171_9 {sh : List (Nat × Nat)} {h : aH} (hG : GD gE gRL sh h) : aR h 171 9 = some 173 := grO hG (r := 54) (q := 56) rfl rfl (by decide +kernel)
theorem rf_171_10 {sh : List (Nat × Nat)} {h : aH} (hG : GD gE gRL sh h) : aR h 171 10 = some 174 := grO hG (r := 54) (q := 57) rfl rfl (by decide +kernel)
theorem rf_171_11 {sh : List (Nat × Nat)} {h : aH} (hG : GD gE gRL sh h) : aR h 171 11 = some 175 := grO hG (r := 54) (q := 58) rfl rfl (by decide +kernel)
theorem rf_171_12 {sh : List (Nat × Nat)} {h : aH} (hG : GD gE gRL sh h) : aR h 171 12 = some 176 := grO hG (r := 54) (q := 59) rfl rfl (by decide +kernel)
theorem rf_171_13 {sh : List (Nat × Nat)} {h : aH} (hG : GD gE gRL sh h) : aR h 171 13 = some 177 := grO hG (r := 54) (q := 60) rfl rfl (by decide +kernel)
theorem rf_171_14 {sh : List (Nat × Nat)} {h : aH} (hG : GD gE gRL sh h) : aR h 171 14 = some 178 := grO hG (r := 54) (q := 61) rfl rfl (by decide +kernel)
theorem rf_171_15 {sh : List (Nat × Nat)} {h : aH} (hG : GD gE gRL sh h) : aR h 171 15 = some 179 := grO hG (r := 54) (q := 62) rfl rfl (by decide +kernel)
theorem rf_171_16 {sh : List (Nat × Nat)} {h : aH} (hG : GD gE gRL sh h) : aR h 171 16 = some 180 := grO hG (r := 54) (q := 63) rfl rfl (by decide +kernel)
theorem rf_171_21 {sh : List (Nat × Nat)} {h : aH} (hG : GD gE gRL sh h) : aR h 171 21 = some 181 := grO hG (r := 54) (q := 64) rfl rfl (by decide +kernel)
theorem rf_171_23 {sh : List (Nat × Nat)} {h : aH} (hG : GD gE gRL sh h) : aR h 171 23 = some 182 := grO hG (r := 54) (q := 65) rfl rfl (by decide +kernel)
theorem rf_171_24 {sh : List (Nat × Nat)} {h : aH} (hG : GD gE gRL sh h) : aR h 171 24 = some 183 := grO hG (r := 54) (q := 66) rfl rfl (by decide +kernel)
theorem rf_171_27 {sh : List (Nat × Nat)} {h : aH} (hG : GD gE gRL sh h) : aR h 171 27 = some 184 := grO hG (r := 54) (q := 67) rfl rfl (by decide +kernel)
theorem rf_171_28 {sh : List (Nat × Nat)} {h : aH} (hG : GD gE gRL sh h) : aR h 171 28 = some 185 := grO hG (r := 54) (q := 68) rfl rfl (by decide +kernel)
theorem rf_171_30 {sh : List (Nat × Nat)} {h : aH} (hG : GD gE gRL sh h) : aR h 171 30 = some 186 := grO hG (r := 54) (q := 69) rfl rfl (by decide +kernel)
theorem rf_171_33 {sh : List (Nat × Nat)} {h : aH} (hG : GD gE gRL sh h) : aR h 171 33 = some 187 := grO hG (r := 54) (q := 70) rfl rfl (by decide +kernel)
theorem rf_171_34 {sh : List (Nat × Nat)} {h : aH} (hG : GD gE gRL sh h) : aR h 171 34 = some 188 := grO hG (r := 54) (q := 71) rfl rfl (by decide +kernel)
theorem rf_171_36 {sh : List (Nat × Nat)} {h : aH} (hG : GD gE gRL sh h) : aR h 171 36 = some 189 := grO hG (r := 54) (q := 72) rfl rfl (by decide +kernel)
theorem rf_171_37 {sh : List (Nat × Nat)} {h : aH} (hG : GD gE gRL sh h) : aR h 171 37 = some 190 := grO hG (r := 54) (q := 73) rfl rfl (by decide +kernel)
theorem rf_171_38 {sh : List (Nat × Nat)} {h : aH} (hG : GD gE gRL sh h) : aR h 171 38 = some 191 := grO hG (r := 54) (q := 74) rfl rfl (by decide +kernel)
theorem rf_171_41 {sh : List (Nat × Nat)} {h : aH} (hG : GD gE gRL sh h) : aR h 171 41 = some 192 := grO hG (r := 54) (q := 75) rfl rfl (by decide +kernel)
theorem rf_171_43 {sh : List (Nat × Nat)} {h : aH} (hG : GD gE gRL sh h) : aR h 171 43 = some 193 := grO hG (r := 54) (q := 76) rfl rfl (by decide +kernel)
theorem rf_171_44 {sh : List (Nat × Nat)} {h : aH} (hG : GD gE gRL sh h) : aR h 171 44 = some 194 := grO hG (r := 54) (q := 77) rfl rfl (by decide +kernel)
theorem rf_171_45 {sh : List (Nat × Nat)} {h : aH} (hG : GD gE gRL sh h) : aR h 171 45 = some 195 := grO hG (r := 54) (q := 78) rfl rfl (by decide +kernel)
theorem rf_171_46 {sh : List (Nat × Nat)} {h : aH} (hG : GD gE gRL sh h) : aR h 171 46 = some 196 := grO hG (r := 54) (q := 79) rfl rfl (by decide +kernel)
theorem rf_171_50 {sh : List (Nat × Nat)} {h : aH} (hG : GD gE gRL sh h) : aR h 171 50 = some 198 := grO hG (r := 54) (q := 81) rfl rfl (by decide +kernel)
theorem rf_171_51 {sh : List (Nat × Nat)} {h : aH} (hG : GD gE gRL sh h) : aR h 171 51 = some 199 := grO hG (r := 54) (q := 82) rfl rfl (by decide +kernel)
theorem rf_171_52 {sh : List (Nat × Nat)} {h : aH} (hG : GD gE gRL sh h) : aR h 171 52 = some 200 := grO hG (r := 54) (q := 83) rfl rfl (by decide +kernel)
