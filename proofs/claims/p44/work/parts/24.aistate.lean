/-! STATES OF THE CHECKER: refined, written, behind a call -/
section AIS
variable {E : ET} {rl : List Nat} {sg : Nat → Option Nat} {sh : List (Nat × Nat)} {M : MD} {h0 : aH} {ρ : Nat → Int}
theorem isr_lt (hE : EOK E rl sg) {r a : Nat} (h : isr rl sg r a) : r < 1000 := by
  unfold isr at h
  split at h
  · omega
  · exact (hE.2 r a (by omega) h).2
theorem bse_bse {r : Nat} (h : r < 1000) : bse (bse r) = bse r := by
  unfold bse
  by_cases h1 : r < 500
  · rw [if_pos h1, if_pos h1]
  · rw [if_neg h1, if_pos (by omega)]
theorem eG_b {r : Nat} (h : r < 1000) : eG E (bse r) = eG E r := by unfold eG; rw [bse_bse h]
theorem eS_b {r : Nat} (h : r < 1000) : eS E (bse r) = eS E r := by unfold eS; rw [bse_bse h]
theorem eR_b {r : Nat} (h : r < 1000) : eR E (bse r) = eR E r := by unfold eR; rw [bse_bse h]
theorem shp (hE : EOK E rl sg) {h : aH} (hG : GD E rl sh h) {r a : Nat} (hr : isr rl sg r a) : h.1[a]? = some (eS E r) := by
  rw [hG.1, hG.2.1 a _ (isr_rl hE hr), eS_b (isr_lt hE hr)]
theorem rfn_ok (hE : EOK E rl sg) {S : AS} {ls : List (Nat × Value)} {st : List Value} {h : aH} (hv : IV E rl sg sh M h0 ρ S ls st h) {p : Nat} {x lo hi : Int} (hp : gp rl sg ls h p x) (h1 : lo ≤ x) (h2 : x ≤ hi) : IV E rl sg sh M h0 ρ (rfn E S p lo hi) ls st h := by
  unfold rfn
  split
  · exact hv
  · rename_i hp0
    have hp0' : ¬ p = 0 := fun q => hp0 (Nat.beq_eq.mpr q)
    obtain ⟨a1, a2, a3, a4, a5, a6⟩ := hv
    unfold gp at hp
    rw [if_neg hp0'] at hp
    split
    · rename_i hl
      have hl' : p < 1000 := by simpa [Nat.blt_eq] using hl
      rw [if_pos hl'] at hp
      obtain ⟨y, e, q⟩ := hp
      split
      · rename_i w a b he
        refine ⟨a1, a2, ?_, a4, a5, a6⟩
        intro z hz
        rcases List.mem_cons.mp hz with rfl | hz
        · obtain ⟨x', e', g'⟩ := a3 _ (alk_mem he)
          have e1 : x' = .int y := by rw [e] at e'; exact (Option.some.inj e').symm
          subst e1
          obtain ⟨w', e2, b1, b2, -⟩ := g'
          cases e2
          have := lm_ok b1 b2 (by omega : lo ≤ y.toInt) (by omega : y.toInt ≤ hi)
          exact ⟨_, e, y, rfl, this.1, this.2, trivial⟩
        · exact a3 z (List.mem_filter.mp hz).1
      · exact ⟨a1, a2, a3, a4, a5, a6⟩
    · rename_i hl
      have hl' : ¬ p < 1000 := by simpa [Nat.blt_eq] using hl
      rw [if_neg hl'] at hp
      refine ⟨a1, a2, a3, a4, ?_, a6⟩
      intro z hz a ha
      rcases List.mem_cons.mp hz with rfl | hz
      · have r9 := rd_ok hE a1 a5 ha (k := (p - 1000) % 10000)
        have hx : (aI h a ((p - 1000) % 10000)).toInt = x := hp a ha
        exact lm_ok r9.1 r9.2 (by rw [hx]; exact h1) (by rw [hx]; exact h2)
      · exact a5 z (List.mem_filter.mp hz).1 a ha
theorem IV.stk {S : AS} {ls : List (Nat × Value)} {st st' : List Value} {h : aH} {vs : List AV} (hv : IV E rl sg sh M h0 ρ S ls st h) (g : gst rl sg ls h vs st') : IV E rl sg sh M h0 ρ (S.1, vs, S.2.2) ls st' h :=
  ⟨hv.1, hv.2.1, hv.2.2.1, g, hv.2.2.2.2.1, hv.2.2.2.2.2⟩
/-- a branch taken -/
theorem side_ok (hE : EOK E rl sg) {S : AS} {ls : List (Nat × Value)} {st : List Value} {h : aH} (hv : IV E rl sg sh M h0 ρ S ls st h) {cd : ClassFile.Cond} {x y : AV} {u v : Int32} (gx : x.2.2.1 ≤ u.toInt ∧ u.toInt ≤ x.2.2.2 ∧ gp rl sg ls h x.2.1 u.toInt) (gy : y.2.2.1 ≤ v.toInt ∧ v.toInt ≤ y.2.2.2 ∧ gp rl sg ls h y.2.1 v.toInt) (hc : icd cd u v) (pc : Nat) : ∃ S', (pc, S') ∈ side E cd x y S pc ∧ IV E rl sg sh M h0 ρ S' ls st h := by
  unfold side
  split
  · exact ⟨S, List.mem_singleton.mpr rfl, hv⟩
  · rename_i p q he
    have c := cmpT_ok gx.1 gx.2.1 gy.1 gy.2.1 hc he
    have hb : (ile p.1 p.2 && ile q.1 q.2) = true := by
      rw [Bool.and_eq_true]
      exact ⟨decide_eq_true (by omega), decide_eq_true (by omega)⟩
    rw [if_pos hb]
    exact ⟨_, List.mem_singleton.mpr rfl, rfn_ok hE (rfn_ok hE hv gx.2.2 c.1 c.2.1) gy.2.2 c.2.2.1 c.2.2.2⟩
theorem okI_ok : ∀ {g : List (Nat × Nat × Int × Int)} {a b : Nat} {lo hi : Int}, okI g a b lo hi = true → ∀ q ∈ g, ∀ k, a ≤ k → k ≤ b → q.1 ≤ k → k ≤ q.2.1 → q.2.2.1 ≤ lo ∧ hi ≤ q.2.2.2
  | q :: t, a, b, lo, hi, h, z, hz, k, h1, h2, h3, h4 => by
    unfold okI at h
    rw [Bool.and_eq_true] at h
    rcases List.mem_cons.mp hz with rfl | hz
    · have h5 := h.1
      simp only [Bool.or_eq_true, Bool.and_eq_true, Nat.blt_eq] at h5
      rcases h5 with (h5 | h5) | h5
      · omega
      · omega
      · exact ⟨ile_t h5.1, ile_t h5.2⟩
    · exact okI_ok h.2 z hz k h1 h2 h3 h4
/-- ints of one cell are written, at [a, b] -/
theorem wr_ok (hE : EOK E rl sg) {h h' : aH} {r c a b : Nat} {lo hi : Int} {o : OV} (hG : GD E rl sh h) (hF : FRM rl M h0 h) (ho : gov rl sg o h) (hr : isr rl sg r c)
    (hsh : h'.1 = h.1) (hJ : h'.2.2.1 = h.2.2.1) (hR : h'.2.2.2 = h.2.2.2) (hI : ∀ d j, d ≠ c ∨ ¬ (a ≤ j ∧ j ≤ b) → aI h' d j = aI h d j) (hv : ∀ j, a ≤ j → j ≤ b → (lo ≤ (aI h' c j).toInt ∧ (aI h' c j).toInt ≤ hi) ∨ aI h' c j = aI h c j)
    (hok : okI (eG E r) a b lo hi = true) (hm : mIn M 0 r a b = true) : GD E rl sh h' ∧ FRM rl M h0 h' ∧ gov rl sg (ovK o r a b) h' := by
  have hcr := isr_rl hE hr
  refine ⟨⟨hsh.trans hG.1, hG.2.1, ?_, ?_⟩, hF.trans ⟨?_, fun d k _ => by show h'.2.2.1 d k = _; rw [hJ]; rfl, fun d k _ => by show h'.2.2.2 d k = _; rw [hR]; rfl⟩, ?_⟩
  · intro d r' hd q hq k h1 h2
    have old := hG.2.2.1 d r' hd q hq k h1 h2
    by_cases hd2 : d = c
    · subst hd2
      by_cases hk : a ≤ k ∧ k ≤ b
      · rcases hv k hk.1 hk.2 with h9 | h9
        · have e : r' = bse r := by rw [hcr] at hd; exact (Option.some.inj hd).symm
          rw [e, eG_b (isr_lt hE hr)] at hq
          have := okI_ok hok q hq k hk.1 hk.2 h1 h2
          omega
        · rw [h9]; exact old
      · rw [hI d k (Or.inr hk)]; exact old
    · rw [hI d k (Or.inl hd2)]; exact old
  · intro d r' hd q hq k h1 h2
    obtain ⟨z, h3, h4⟩ := hG.2.2.2 d r' hd q hq k h1 h2
    exact ⟨z, by show h'.2.2.2 d k = _; rw [hR]; exact h3, h4⟩
  · intro d k hn
    apply hI
    by_cases hd2 : d = c
    · right
      intro hk
      subst hd2
      have := hn _ hcr
      have hh : mHas M 0 (bse r) k = true := by
        obtain ⟨q, hq, hq2⟩ := List.any_eq_true.mp hm
        refine List.any_eq_true.mpr ⟨q, hq, ?_⟩
        simp only [Bool.and_eq_true, Nat.beq_eq, Nat.ble_eq] at hq2 ⊢
        omega
      rw [this] at hh
      cases hh
    · exact Or.inl hd2
  · intro q hq d hd
    unfold ovK at hq
    obtain ⟨hm2, hf⟩ := List.mem_filter.mp hq
    have old := ho q hm2 d hd
    rw [hI d q.2.1 ?_]
    · exact old
    · by_cases hd2 : d = c
      · right
        intro hk
        subst hd2
        have e : bse q.1 = bse r := by
          have := isr_rl hE hd
          rw [hcr] at this
          exact (Option.some.inj this).symm
        have : (Nat.beq (bse q.1) (bse r) && Nat.ble a q.2.1 && Nat.ble q.2.1 b) = true := by
          simp only [Bool.and_eq_true, Nat.beq_eq, Nat.ble_eq]
          exact ⟨⟨e, hk.1⟩, hk.2⟩
        rw [this] at hf
        cases hf
      · exact Or.inl hd2
/-- an int is written -/
theorem wrI_ok (hE : EOK E rl sg) {S : AS} {ls : List (Nat × Value)} {st st' : List Value} {h : aH} {rest : List AV} {r c a b k pc : Nat} {lo hi : Int} {v : Int32} {l : List (Nat × AS)} (hv : IV E rl sg sh M h0 ρ S ls st h) (hr : isr rl sg r c) (g : gst rl sg ls h rest st') (h1 : a ≤ k) (h2 : k ≤ b) (h3 : lo ≤ v.toInt) (h4 : v.toInt ≤ hi) (hw : wrI E M S rest r a b lo hi pc = some l) :
    ∃ S', (pc, S') ∈ l ∧ IV E rl sg sh M h0 ρ S' ls st' (sI h c k v) := by
  unfold wrI at hw
  split at hw
  · rename_i hc
    rw [Bool.and_eq_true] at hc
    cases hw
    refine ⟨_, List.mem_singleton.mpr rfl, ?_⟩
    obtain ⟨a1, a2, a3, a4, a5, a6⟩ := hv
    have eI : ∀ d j, d ≠ c ∨ ¬ (a ≤ j ∧ j ≤ b) → aI (sI h c k v) d j = aI h d j := by
      intro d j hd
      show a_up h.2.1 c (upd (h.2.1 c) k v) d j = _
      by_cases e : d = c
      · subst e
        rw [up_s]
        have : j ≠ k := fun e2 => by subst e2; rcases hd with hd | hd; exact hd rfl; exact hd ⟨h1, h2⟩
        exact if_neg this
      · rw [up_n e]; rfl
    have eV : aI (sI h c k v) c k = v := by
      show a_up h.2.1 c (upd (h.2.1 c) k v) c k = _
      rw [up_s]
      exact if_pos rfl
    have eV2 : ∀ j, a ≤ j → j ≤ b → (lo ≤ (aI (sI h c k v) c j).toInt ∧ (aI (sI h c k v) c j).toInt ≤ hi) ∨ aI (sI h c k v) c j = aI h c j := by
      intro j _ _
      by_cases e : j = k
      · subst e; left; rw [eV]; exact ⟨h3, h4⟩
      · right
        show a_up h.2.1 c (upd (h.2.1 c) k v) c j = _
        rw [up_s]
        exact if_neg e
    obtain ⟨b1, b2, b3⟩ := wr_ok (h' := sI h c k v) hE a1 a2 a5 hr rfl rfl rfl eI eV2 hc.1 hc.2
    refine ⟨b1, b2, fun q hq => ?_, gst_kH g, ?_, a6⟩
    · obtain ⟨x, e1, e2⟩ := a3 q hq
      exact ⟨x, e1, gv_any e2⟩
    · intro q hq d hd
      rcases List.mem_append.mp hq with hq | hq
      · split at hq
        · rename_i hc2
          rw [Bool.and_eq_true, Nat.beq_eq] at hc2
          obtain rfl := List.mem_singleton.mp hq
          have e1 := hE.1 r d c hc2.2 hd hr
          subst e1
          have e2 : a = k := by omega
          subst e2
          rw [eV]
          exact ⟨h3, h4⟩
        · cases hq
      · exact b3 q hq d hd
  · cases hw
/-- lists of values -/
theorem gst_append {ls : List (Nat × Value)} {h : aH} : ∀ {v1 : List AV} {x1 : List Value} {v2 : List AV} {x2 : List Value}, gst rl sg ls h v1 x1 → gst rl sg ls h v2 x2 → gst rl sg ls h (v1 ++ v2) (x1 ++ x2)
  | [], [], _, _, _, g => g
  | _ :: _, _ :: _, _, _, g1, g2 => ⟨g1.1, gst_append g1.2 g2⟩
theorem gst_reverse {ls : List (Nat × Value)} {h : aH} : ∀ {v1 : List AV} {x1 : List Value}, gst rl sg ls h v1 x1 → gst rl sg ls h v1.reverse x1.reverse
  | [], [], _ => trivial
  | v :: vs, x :: xs, g => by
    rw [List.reverse_cons, List.reverse_cons]
    exact gst_append (gst_reverse g.2) ⟨g.1, trivial⟩
theorem gst_take {ls : List (Nat × Value)} {h : aH} : ∀ {n : Nat} {v1 : List AV} {x1 : List Value}, gst rl sg ls h v1 x1 → gst rl sg ls h (v1.take n) (x1.take n)
  | 0, _, _, _ => trivial
  | _ + 1, [], [], _ => trivial
  | n + 1, v :: vs, x :: xs, g => ⟨g.1, gst_take g.2⟩
theorem gst_dropL {ls : List (Nat × Value)} {h : aH} : ∀ {n : Nat} {v1 : List AV} {x1 : List Value}, gst rl sg ls h v1 x1 → gst rl sg ls h (v1.drop n) (x1.drop n)
  | 0, _, _, g => g
  | _ + 1, [], [], _ => trivial
  | n + 1, v :: vs, x :: xs, g => gst_dropL (n := n) g.2
theorem gst_len {ls : List (Nat × Value)} {h : aH} : ∀ {v1 : List AV} {x1 : List Value}, gst rl sg ls h v1 x1 → x1.length = v1.length
  | [], [], _ => rfl
  | v :: vs, x :: xs, g => by rw [List.length_cons, List.length_cons, gst_len g.2]
theorem gst_get {ls : List (Nat × Value)} {h : aH} : ∀ {i : Nat} {v1 : List AV} {x1 : List Value} {v : AV} {x : Value}, gst rl sg ls h v1 x1 → v1[i]? = some v → x1[i]? = some x → gv rl sg ls h v x
  | 0, v :: vs, x :: xs, _, _, g, h1, h2 => by cases h1; cases h2; exact g.1
  | i + 1, v :: vs, x :: xs, _, _, g, h1, h2 => gst_get (i := i) g.2 (by simpa using h1) (by simpa using h2)
/-- a value as wide -/
def plainV (v : AV) : Bool := Nat.beq (noP v).2.1 v.2.1 && (!(Nat.beq v.1 2) || Nat.blt v.2.1 500)
theorem avle_ok (hE : EOK E rl sg) {ls ls' : List (Nat × Value)} {h h' : aH} {x y : AV} {v : Value} {sg' : Nat → Option Nat} (g : gv rl sg ls h x v) (ha : avle x y = true) (hy : plainV y = true) : gv rl sg' ls' h' y v := by
  obtain ⟨k, p, lo, hi⟩ := y
  obtain ⟨k', p', lo', hi'⟩ := x
  unfold plainV at hy
  rw [Bool.and_eq_true, Nat.beq_eq] at hy
  match k, ha, hy with
  | 0, ha, hy =>
    simp only [avle, Bool.and_eq_true, Nat.beq_eq, sub1] at ha
    obtain ⟨rfl, a1, a2⟩ := ha
    obtain ⟨w, e, b1, b2, -⟩ := g
    have hp : p = 0 := hy.1.symm
    subst hp
    exact ⟨w, e, Int.le_trans (ile_t a1) b1, Int.le_trans b2 (ile_t a2), trivial⟩
  | 1, ha, hy =>
    simp only [avle, Bool.and_eq_true, Nat.beq_eq, sub1] at ha
    obtain ⟨rfl, a1, a2⟩ := ha
    obtain ⟨w, e, b1, b2, -⟩ := g
    have hp : p = 0 := hy.1.symm
    subst hp
    exact ⟨w, e, Int.le_trans (ile_t a1) b1, Int.le_trans b2 (ile_t a2), trivial⟩
  | 2, ha, hy =>
    simp only [avle, Bool.and_eq_true, Nat.beq_eq, Bool.or_eq_true] at ha
    obtain ⟨rfl, a1⟩ := ha
    obtain ⟨a, e, hr⟩ := g
    have hp : p < 500 := by simpa [Nat.blt_eq] using hy.2
    have h9 := isr_rl hE hr
    refine ⟨a, e, ?_⟩
    unfold isr
    rw [if_pos hp]
    rcases a1 with rfl | a1
    · rw [h9]; unfold bse; rw [if_pos hp]
    · rw [h9]; exact congrArg some a1
  | 3, ha, hy =>
    simp only [avle, Bool.and_eq_true, Nat.beq_eq, Bool.or_eq_true] at ha
    obtain ⟨rfl, a1⟩ := ha
    obtain ⟨b, e, h6, hb⟩ := g
    refine ⟨b, e, h6, ?_⟩
    rcases a1 with rfl | rfl
    · exact Or.inl rfl
    · exact hb
  | k + 4, ha, _ => cases ha
theorem avles_ok (hE : EOK E rl sg) {ls ls' : List (Nat × Value)} {h h' : aH} {sg' : Nat → Option Nat} : ∀ {xs ys : List AV} {vs : List Value}, gst rl sg ls h xs vs → avles xs ys = true → (ys.all plainV) = true → gst rl sg' ls' h' ys vs
  | [], [], [], _, _, _ => trivial
  | x :: xs, y :: ys, v :: vs, g, ha, hp => by
    unfold avles at ha
    rw [Bool.and_eq_true] at ha
    rw [List.all_cons, Bool.and_eq_true] at hp
    exact ⟨avle_ok hE g.1 ha.1 hp.1, avles_ok hE g.2 ha.2 hp.2⟩
  | [], y :: ys, _, _, ha, _ => by unfold avles at ha; cases ha
  | x :: xs, [], _, _, ha, _ => by unfold avles at ha; cases ha
theorem ovle_ok (hE : EOK E rl sg) {h : aH} {o o' : OV} {sg' : Nat → Option Nat} (hG : GD E rl sh h) (ho : gov rl sg o h) (hl : low o' = true) (hle : ovle E o o' = true) : gov rl sg' o' h := by
  intro q hq a ha
  have hq5 : q.1 < 500 := by simpa [Nat.blt_eq] using List.all_eq_true.mp hl q hq
  have ha' : isr rl sg q.1 a := by unfold isr at ha ⊢; rw [if_pos hq5] at ha ⊢; exact ha
  have h1 := List.all_eq_true.mp hle q hq
  simp only [sub1, Bool.and_eq_true] at h1
  have h2 := rd_ok hE hG ho ha' (k := q.2.1)
  exact ⟨Int.le_trans (ile_t h1.1) h2.1, Int.le_trans h2.2 (ile_t h1.2)⟩
/-- what is said of a method, in itself well formed -/
def smwf (sm : SM) : Bool := sm.2.1.all plainV && low sm.2.2.1 && sm.2.2.2.1.all fun q => low q.2.1 && q.1.all plainV
end AIS
/-- a number among the arguments -/
def numV (v : Option Value) (n : Int) : Prop := (∃ x : Int32, v = some (.int x) ∧ x.toInt = n) ∨ ∃ x : Int64, v = some (.long x) ∧ x.toInt = n
/-- the height of the stack of a rule's code: 3000 turns one round, 2000 and more take two for one, others put one on it -/
def hgt (c : Nat → Int) : Nat → Int
  | 0 => 0
  | k + 1 => hgt c k + (if c k = 3000 then 0 else if 2000 ≤ c k then -1 else 1)
def VCd (c : Nat → Int) (n : Int) : Prop := n ≤ 80 ∧ ∀ k : Nat, (k : Int) < n → 0 ≤ hgt c k ∧ hgt c k ≤ k ∧ (c k = 3000 → 1 ≤ hgt c k) ∧ (c k ≠ 3000 → 2000 ≤ c k → 2 ≤ hgt c k) ∧ (1000 ≤ c k → c k < 2000 → c k ≤ 1003)
/-- the reference's rule can be worked out -/
def XI (h : aH) : Prop := VCd (fun k => (aI h 182 k).toInt) (aI h 171 25).toInt
/-- a method keeps what is said of it -/
def SMOK (E : ET) (rl : List Nat) (sh : List (Nat × Nat)) (CL : CT) (sm : SM) : Prop := ∀ (as : List Value) (h : aH), XI h → gst rl (fun _ => none) [] h sm.2.1 as → GD E rl sh h → gov rl (fun _ => none) sm.2.2.1 h →
  CL sm.1 as h 0 0 (fun rv h' => GD E rl sh h' ∧ FRM rl sm.2.2.2.2 h h' ∧ ∃ o ∈ sm.2.2.2.1, gst rl (fun _ => none) [] h' o.1 rv.toList ∧ gov rl (fun _ => none) o.2.1 h' ∧ ∀ q ∈ o.2.2, ∃ n : Int, numV as[q.1]? n ∧ q.2.1 ≤ n ∧ n ≤ q.2.2)
/-- the same, from where a method has come to -/
def SMOKl (E : ET) (rl : List Nat) (sh : List (Nat × Nat)) (M : MD) (h0 : aH) (CL : CT) (sm : SM) : Prop := ∀ (as : List Value) (h : aH), FRM rl M h0 h → gst rl (fun _ => none) [] h sm.2.1 as → GD E rl sh h → gov rl (fun _ => none) sm.2.2.1 h →
  CL sm.1 as h 0 0 (fun rv h' => GD E rl sh h' ∧ FRM rl sm.2.2.2.2 h h' ∧ ∃ o ∈ sm.2.2.2.1, gst rl (fun _ => none) [] h' o.1 rv.toList ∧ gov rl (fun _ => none) o.2.1 h' ∧ ∀ q ∈ o.2.2, ∃ n : Int, numV as[q.1]? n ∧ q.2.1 ≤ n ∧ n ≤ q.2.2)
