section
/-! WHAT THE ROW TELLS -/
noncomputable def gcF : Nat → Int → Int → Int
  | 0, a, _ => a
  | n + 1, a, b => if b = 0 then a else gcF n b (a % b)
theorem gcF_s {n a b : Int} (h : 0 < n) : gcF n.toNat a b = if b = 0 then a else gcF (n - 1).toNat b (a % b) := by
  obtain ⟨k, hk⟩ : ∃ k : Nat, n = ((k + 1 : Nat) : Int) := ⟨(n - 1).toNat, by omega⟩
  rw [hk, Int.toNat_natCast, show (((k + 1 : Nat) : Int) - 1).toNat = k by omega]
  rfl
theorem gcF_z {a : Int} : ∀ n : Nat, gcF n a 0 = a
  | 0 => rfl
  | _ + 1 => if_pos rfl
noncomputable def dvF (a b : Int) : Int := if gcF 100 a b = 0 then 1 else gcF 100 a b
/-- a fraction as the class tells it, and in lowest terms -/
noncomputable def frC (a b : Int) : List Int := [a / dvF a b, b / dvF a b]
noncomputable def frG (a b : Int) : List Int := [a / (Nat.gcd a.toNat b.toNat : Int), b / (Nat.gcd a.toNat b.toNat : Int)]
noncomputable def frB (a b : Int) : Bool := decide (dvF a b = (Nat.gcd a.toNat b.toNat : Int))
theorem fr_eq {a b : Int} (h : frB a b = true) : frC a b = frG a b := by
  unfold frC frG
  rw [of_decide_eq_true h]
noncomputable def pwG (s x : Int) : Nat → Int
  | 0 => s
  | n + 1 => pwG s x n * x
theorem pwG_s {s x i : Int} (h : 0 ≤ i) : pwG s x (i + 1).toNat = pwG s x i.toNat * x := by rw [tn_s h]; rfl
theorem wd_fr : ((List.range 16).all fun k => (List.range 11).all fun p => k % 2 == 0 || frB (btS k p ((k + 1) / 2)) (tenN k)) = true := by decide +kernel
theorem wd_ok {k p : Int} (hk : 1 ≤ k ∧ k ≤ 15) (ho : k % 2 = 1) (hp : 0 ≤ p ∧ p ≤ 10) : frC (btS k p ((k + 1) / 2).toNat) (tenN k.toNat) = frG (btS k p ((k + 1) / 2).toNat) (tenN k.toNat) := by
  have z := all_r (all_r wd_fr (i := k.toNat) (by omega)) (i := p.toNat) (by omega)
  rw [Bool.or_eq_true, beq_iff_eq] at z
  rcases z with z | z
  · omega
  · rw [tn_c (by omega), tn_c hp.1] at z
    rw [show ((k + 1) / 2).toNat = (k.toNat + 1) / 2 by omega]
    exact fr_eq z
theorem kn_fr : ((List.range 13).all fun n => (List.range 11).all fun p => frB (pwF (10 - p) n * p) (pwF 10 (n + 1)) && decide (pwG p (10 - p) n = pwF (10 - p) n * p ∧ pwG 10 10 n = pwF 10 (n + 1) ∧ 0 ≤ pwF (10 - p) n * p ∧ pwF (10 - p) n * p ≤ 100000000000000 ∧ 1 ≤ pwF 10 (n + 1) ∧ pwF 10 (n + 1) ≤ 100000000000000)) = true := by decide +kernel
theorem kn_ok {n p : Int} (hn : 0 ≤ n ∧ n ≤ 12) (hp : 0 ≤ p ∧ p ≤ 10) : frC (pwF (10 - p) n.toNat * p) (pwF 10 (n + 1).toNat) = frG (pwF (10 - p) n.toNat * p) (pwF 10 (n + 1).toNat) ∧ pwG p (10 - p) n.toNat = pwF (10 - p) n.toNat * p ∧ pwG 10 10 n.toNat = pwF 10 (n + 1).toNat ∧ (0 ≤ pwF (10 - p) n.toNat * p ∧ pwF (10 - p) n.toNat * p ≤ 100000000000000) ∧ 1 ≤ pwF 10 (n + 1).toNat ∧ pwF 10 (n + 1).toNat ≤ 100000000000000 := by
  have z := all_r (all_r kn_fr (i := n.toNat) (by omega)) (i := p.toNat) (by omega)
  rw [Bool.and_eq_true, tn_c hp.1, ← tn_s hn.1] at z
  have y := of_decide_eq_true z.2
  exact ⟨fr_eq z.1, y.1, y.2.1, ⟨y.2.2.1, y.2.2.2.1⟩, y.2.2.2.2⟩
theorem ch_fr : ((List.range 13).all fun n => (List.range 11).all fun p => frB (pwF (10 - p) n) (pwF 10 n) && decide (0 ≤ pwF (10 - p) n ∧ pwF (10 - p) n ≤ 100000000000000 ∧ 1 ≤ pwF 10 n ∧ pwF 10 n ≤ 100000000000000)) = true := by decide +kernel
theorem ch_ok {n p : Int} (hn : 0 ≤ n ∧ n ≤ 12) (hp : 0 ≤ p ∧ p ≤ 10) : frC (pwF (10 - p) n.toNat) (pwF 10 n.toNat) = frG (pwF (10 - p) n.toNat) (pwF 10 n.toNat) ∧ (0 ≤ pwF (10 - p) n.toNat ∧ pwF (10 - p) n.toNat ≤ 100000000000000) ∧ 1 ≤ pwF 10 n.toNat ∧ pwF 10 n.toNat ≤ 100000000000000 := by
  have z := all_r (all_r ch_fr (i := n.toNat) (by omega)) (i := p.toNat) (by omega)
  rw [Bool.and_eq_true, tn_c hp.1] at z
  have y := of_decide_eq_true z.2
  exact ⟨fr_eq z.1, ⟨y.1, y.2.1⟩, y.2.2⟩
theorem fr_11 : frC 1 1 = frG 1 1 := by decide +kernel
/-- POSTS up to a CELL -/
noncomputable def cntP (g : Nat → Int) (c : Int) : Nat → Int
  | 0 => 0
  | j + 1 => cntP g c j + if g j ≤ c then 1 else 0
noncomputable def lieP (g f : Nat → Int) (c : Int) : Nat → Int
  | 0 => 0
  | j + 1 => lieP g f c j + if g j ≤ c ∧ f j = 1 then 1 else 0
theorem cntP_s {g : Nat → Int} {c i : Int} (h : 0 ≤ i) : cntP g c (i + 1).toNat = cntP g c i.toNat + if g i.toNat ≤ c then 1 else 0 := by rw [tn_s h]; rfl
theorem lieP_s {g f : Nat → Int} {c i : Int} (h : 0 ≤ i) : lieP g f c (i + 1).toNat = lieP g f c i.toNat + if g i.toNat ≤ c ∧ f i.toNat = 1 then 1 else 0 := by rw [tn_s h]; rfl
theorem cntP_b {g : Nat → Int} {c : Int} : ∀ n : Nat, 0 ≤ cntP g c n ∧ cntP g c n ≤ n
  | 0 => ⟨Int.le_refl _, Int.le_refl _⟩
  | n + 1 => by
    have := cntP_b (g := g) (c := c) n
    show 0 ≤ cntP g c n + (if g n ≤ c then 1 else 0) ∧ cntP g c n + (if g n ≤ c then 1 else 0) ≤ ((n + 1 : Nat) : Int)
    split <;> omega
theorem lieP_b {g f : Nat → Int} {c : Int} : ∀ n : Nat, 0 ≤ lieP g f c n ∧ lieP g f c n ≤ n
  | 0 => ⟨Int.le_refl _, Int.le_refl _⟩
  | n + 1 => by
    have := lieP_b (g := g) (f := f) (c := c) n
    show 0 ≤ lieP g f c n + (if g n ≤ c ∧ f n = 1 then 1 else 0) ∧ lieP g f c n + (if g n ≤ c ∧ f n = 1 then 1 else 0) ≤ ((n + 1 : Nat) : Int)
    split <;> omega
/-- of POSTS that rise those behind one that is beyond are beyond, too -/
theorem cntP_r {g f : Nat → Int} {c : Int} {i : Nat} : ∀ n : Nat, i ≤ n → (∀ j : Nat, i ≤ j → j < n → c < g j) → cntP g c n = cntP g c i ∧ lieP g f c n = lieP g f c i
  | 0, h, _ => by rw [show i = 0 by omega]; exact ⟨rfl, rfl⟩
  | n + 1, h, hj => by
    by_cases q : i = n + 1
    · rw [q]; exact ⟨rfl, rfl⟩
    · have ih := cntP_r (g := g) (f := f) (c := c) n (by omega) fun j a b => hj j a (by omega)
      have y := hj n (by omega) (by omega)
      constructor
      · show cntP g c n + (if g n ≤ c then 1 else 0) = _
        rw [if_neg (by omega), Int.add_zero]
        exact ih.1
      · show lieP g f c n + (if g n ≤ c ∧ f n = 1 then 1 else 0) = _
        rw [if_neg (fun z => by have := z.1; omega), Int.add_zero]
        exact ih.2
set_option maxRecDepth 4000 in
theorem ctX3_tellFractionF {SP : CT} (hSP : MONO SP) {sh : List (Nat × Nat)} {h : aH} (hG : GD gE gRL sh h) {a b : Int} (ha : 0 ≤ a) (hb : 0 ≤ b) (ra : r64 a) (rb : r64 b) : CLd SP 4 mX3_tellFraction [.ref 3, .long (J a), .long (J b)] h 0 0 (fun rv h' => rv = none ∧ GD gE gRL sh h' ∧ FRM gRL [(0, 3, 1, 1), (1, 4, 0, 29)] h h' ∧ gi h' 3 1 = 2 ∧ crow h' = frC a b) := by
  refine x_met _ rfl (Nat.le_of_ble_eq_true rfl) (fun K hK => ?_)
  have hmono := MONO_CLd hSP 3
  have loop : ∀ (mz : Nat) (c r i : Int) (ls : List (Nat × Value)), ((100 - i).toNat = mz) → (0 ≤ i ∧ i ≤ 100) → (0 ≤ c) → (0 ≤ r) → (r64 c) → (r64 r) → (gcF (100 - i).toNat c r = gcF 100 a b) → lk ls 0 = some (.ref 3) → lk ls 1 = some (.long (J a)) → lk ls 3 = some (.long (J b)) → lk ls 5 = some (.long (J c)) → lk ls 7 = some (.long (J r)) → lk ls 9 = some (.int (I i)) → K 9 ls [] h 0 0 := by
    intro mz
    induction mz using Nat.strongRecOn with
    | ind mz ih =>
    intro c r i ls hm i0 c0 r0 rc rr gg l0 l1 l3 l5 l7 l9
    refine x_iload 11 hK rfl rfl l9 ?_
    refine x_bipush 13 hK rfl rfl rfl ?_
    refine x_if_icmp_ge 44 16 hK rfl rfl rfl (by omega) (by omega) (fun c3 => ?_) (fun c3 => ?_)
    · have gc : gcF 100 a b = c := by
        rw [← gg]
        by_cases z : r = 0
        · rw [z]; exact gcF_z _
        · rw [show (100 - i).toNat = 0 by omega]; rfl
      refine x_lload 46 hK rfl rfl l5 ?_
      refine x_lconstE 47 0 hK rfl rfl rfl ?_
      refine x_lcmp_ne 55 51 hK rfl rfl rfl rfl (by omega) (by omega) (fun c7 => ?_) (fun c7 => ?_)
      · refine x_lload 57 hK rfl rfl l5 ?_
        have eb : dvF a b = c := by
          unfold dvF
          rw [gc]
          exact if_neg (by omega)
        have q1 : 0 ≤ a / c := Int.ediv_nonneg ha (by omega)
        have q2 : a / c ≤ a := Int.ediv_le_self _ ha
        have q3 : 0 ≤ b / c := Int.ediv_nonneg hb (by omega)
        have q4 : b / c ≤ b := Int.ediv_le_self _ hb
        refine x_lstore 59 hK rfl rfl _ rfl ?_
        refine x_aload_n 60 hK rfl rfl (lk2_n l0 (by decide) (by decide) (Or.inl rfl)) ?_
        refine x_lload_n 61 hK rfl rfl (lk2_n l1 (by decide) (by decide) (Or.inr (by decide))) ?_
        refine x_lload 63 hK rfl rfl lk2_s ?_
        refine x_ldivp 64 hK rfl rfl (by omega) (by omega) (by omega) (by omega) ?_
        refine x_lload_n 65 hK rfl rfl (lk2_n l3 (by decide) (by decide) (Or.inr (by decide))) ?_
        refine x_lload 67 hK rfl rfl lk2_s ?_
        refine x_ldivp 68 hK rfl rfl (by omega) (by omega) (by omega) (by omega) ?_
        refine x_callV 71 hK hmono rfl rfl [.ref 3, .long (J (a / c)), .long (J (b / c))] [] rfl rfl (Nat.le_of_ble_eq_true rfl) (Nat.le_of_ble_eq_true rfl) rfl (sp_3 (h := h) hG) (CLd_le (Nat.le_of_ble_eq_true rfl) (ctX3_tellTwo hSP hG (by omega) (by omega))) ?_
        rintro v685 h685 ⟨rfl, hG685, hF685, t685, s685⟩
        have ef : frC a b = [(a / c), (b / c)] := by
          unfold frC
          rw [eb]
        exact x_vret hK rfl ⟨rfl, hG685, hF685, t685, (s685).trans ef.symm⟩
      · refine x_lconstE 52 1 hK rfl rfl rfl ?_
        refine x_goto 57 hK rfl rfl ?_
        have eb : dvF a b = 1 := by
          unfold dvF
          rw [gc]
          exact if_pos (by omega)
        have q1 : 0 ≤ a / 1 := Int.ediv_nonneg ha (by omega)
        have q2 : a / 1 ≤ a := Int.ediv_le_self _ ha
        have q3 : 0 ≤ b / 1 := Int.ediv_nonneg hb (by omega)
        have q4 : b / 1 ≤ b := Int.ediv_le_self _ hb
        refine x_lstore 59 hK rfl rfl _ rfl ?_
        refine x_aload_n 60 hK rfl rfl (lk2_n l0 (by decide) (by decide) (Or.inl rfl)) ?_
        refine x_lload_n 61 hK rfl rfl (lk2_n l1 (by decide) (by decide) (Or.inr (by decide))) ?_
        refine x_lload 63 hK rfl rfl lk2_s ?_
        refine x_ldivp 64 hK rfl rfl (by omega) (by omega) (by omega) (by omega) ?_
        refine x_lload_n 65 hK rfl rfl (lk2_n l3 (by decide) (by decide) (Or.inr (by decide))) ?_
        refine x_lload 67 hK rfl rfl lk2_s ?_
        refine x_ldivp 68 hK rfl rfl (by omega) (by omega) (by omega) (by omega) ?_
        refine x_callV 71 hK hmono rfl rfl [.ref 3, .long (J (a / 1)), .long (J (b / 1))] [] rfl rfl (Nat.le_of_ble_eq_true rfl) (Nat.le_of_ble_eq_true rfl) rfl (sp_3 (h := h) hG) (CLd_le (Nat.le_of_ble_eq_true rfl) (ctX3_tellTwo hSP hG (by omega) (by omega))) ?_
        rintro v686 h686 ⟨rfl, hG686, hF686, t686, s686⟩
        have ef : frC a b = [(a / 1), (b / 1)] := by
          unfold frC
          rw [eb]
        exact x_vret hK rfl ⟨rfl, hG686, hF686, t686, (s686).trans ef.symm⟩
    · refine x_lload 18 hK rfl rfl l7 ?_
      refine x_lconstE 19 0 hK rfl rfl rfl ?_
      refine x_lcmp_eq 44 23 hK rfl rfl rfl rfl (by omega) (by omega) (fun c35 => ?_) (fun c35 => ?_)
      · have gc : gcF 100 a b = c := by
          rw [← gg]
          by_cases z : r = 0
          · rw [z]; exact gcF_z _
          · rw [show (100 - i).toNat = 0 by omega]; rfl
        refine x_lload 46 hK rfl rfl l5 ?_
        refine x_lconstE 47 0 hK rfl rfl rfl ?_
        refine x_lcmp_ne 55 51 hK rfl rfl rfl rfl (by omega) (by omega) (fun c39 => ?_) (fun c39 => ?_)
        · refine x_lload 57 hK rfl rfl l5 ?_
          have eb : dvF a b = c := by
            unfold dvF
            rw [gc]
            exact if_neg (by omega)
          have q1 : 0 ≤ a / c := Int.ediv_nonneg ha (by omega)
          have q2 : a / c ≤ a := Int.ediv_le_self _ ha
          have q3 : 0 ≤ b / c := Int.ediv_nonneg hb (by omega)
          have q4 : b / c ≤ b := Int.ediv_le_self _ hb
          refine x_lstore 59 hK rfl rfl _ rfl ?_
          refine x_aload_n 60 hK rfl rfl (lk2_n l0 (by decide) (by decide) (Or.inl rfl)) ?_
          refine x_lload_n 61 hK rfl rfl (lk2_n l1 (by decide) (by decide) (Or.inr (by decide))) ?_
          refine x_lload 63 hK rfl rfl lk2_s ?_
          refine x_ldivp 64 hK rfl rfl (by omega) (by omega) (by omega) (by omega) ?_
          refine x_lload_n 65 hK rfl rfl (lk2_n l3 (by decide) (by decide) (Or.inr (by decide))) ?_
          refine x_lload 67 hK rfl rfl lk2_s ?_
          refine x_ldivp 68 hK rfl rfl (by omega) (by omega) (by omega) (by omega) ?_
          refine x_callV 71 hK hmono rfl rfl [.ref 3, .long (J (a / c)), .long (J (b / c))] [] rfl rfl (Nat.le_of_ble_eq_true rfl) (Nat.le_of_ble_eq_true rfl) rfl (sp_3 (h := h) hG) (CLd_le (Nat.le_of_ble_eq_true rfl) (ctX3_tellTwo hSP hG (by omega) (by omega))) ?_
          rintro v687 h687 ⟨rfl, hG687, hF687, t687, s687⟩
          have ef : frC a b = [(a / c), (b / c)] := by
            unfold frC
            rw [eb]
          exact x_vret hK rfl ⟨rfl, hG687, hF687, t687, (s687).trans ef.symm⟩
        · refine x_lconstE 52 1 hK rfl rfl rfl ?_
          refine x_goto 57 hK rfl rfl ?_
          have eb : dvF a b = 1 := by
            unfold dvF
            rw [gc]
            exact if_pos (by omega)
          have q1 : 0 ≤ a / 1 := Int.ediv_nonneg ha (by omega)
          have q2 : a / 1 ≤ a := Int.ediv_le_self _ ha
          have q3 : 0 ≤ b / 1 := Int.ediv_nonneg hb (by omega)
          have q4 : b / 1 ≤ b := Int.ediv_le_self _ hb
          refine x_lstore 59 hK rfl rfl _ rfl ?_
          refine x_aload_n 60 hK rfl rfl (lk2_n l0 (by decide) (by decide) (Or.inl rfl)) ?_
          refine x_lload_n 61 hK rfl rfl (lk2_n l1 (by decide) (by decide) (Or.inr (by decide))) ?_
          refine x_lload 63 hK rfl rfl lk2_s ?_
          refine x_ldivp 64 hK rfl rfl (by omega) (by omega) (by omega) (by omega) ?_
          refine x_lload_n 65 hK rfl rfl (lk2_n l3 (by decide) (by decide) (Or.inr (by decide))) ?_
          refine x_lload 67 hK rfl rfl lk2_s ?_
          refine x_ldivp 68 hK rfl rfl (by omega) (by omega) (by omega) (by omega) ?_
          refine x_callV 71 hK hmono rfl rfl [.ref 3, .long (J (a / 1)), .long (J (b / 1))] [] rfl rfl (Nat.le_of_ble_eq_true rfl) (Nat.le_of_ble_eq_true rfl) rfl (sp_3 (h := h) hG) (CLd_le (Nat.le_of_ble_eq_true rfl) (ctX3_tellTwo hSP hG (by omega) (by omega))) ?_
          rintro v688 h688 ⟨rfl, hG688, hF688, t688, s688⟩
          have ef : frC a b = [(a / 1), (b / 1)] := by
            unfold frC
            rw [eb]
          exact x_vret hK rfl ⟨rfl, hG688, hF688, t688, (s688).trans ef.symm⟩
      · have em0 : 0 ≤ c % r := Int.emod_nonneg _ (by omega)
        have em1 : c % r < r := Int.emod_lt_of_pos _ (by omega)
        refine x_lload 25 hK rfl rfl l5 ?_
        refine x_lload 27 hK rfl rfl l7 ?_
        refine x_lremp 28 hK rfl rfl (by omega) (by omega) (by omega) (by omega) ?_
        refine x_lstore 30 hK rfl rfl _ rfl ?_
        refine x_lload 32 hK rfl rfl (lk2_n l7 (by decide) (by decide) (Or.inr (by decide))) ?_
        refine x_lstore 34 hK rfl rfl _ rfl ?_
        refine x_lload 36 hK rfl rfl (lk2_n lk2_s (by decide) (by decide) (Or.inr (by decide))) ?_
        refine x_lstore 38 hK rfl rfl _ rfl ?_
        refine x_iinc 41 hK rfl rfl (lk2_n (lk2_n (lk2_n l9 (by decide) (by decide) (Or.inl rfl)) (by decide) (by decide) (Or.inl rfl)) (by decide) (by decide) (Or.inl rfl)) _ rfl ?_
        refine x_goto 9 hK rfl rfl ?_
        exact ih _ (by omega) r (c % r) (i + 1) _ rfl (by omega) (by omega) (em0) (by omega) (by omega) (by rw [← gg, gcF_s (n := 100 - i) (by omega), if_neg (by omega), show 100 - (i + 1) = 100 - i - 1 by omega]) (lk1_n (lk2_n (lk2_n (lk2_n l0 (by decide) (by decide) (Or.inl rfl)) (by decide) (by decide) (Or.inl rfl)) (by decide) (by decide) (Or.inl rfl)) (by decide) (Or.inl rfl)) (lk1_n (lk2_n (lk2_n (lk2_n l1 (by decide) (by decide) (Or.inr (by decide))) (by decide) (by decide) (Or.inr (by decide))) (by decide) (by decide) (Or.inr (by decide))) (by decide) (Or.inr (by decide))) (lk1_n (lk2_n (lk2_n (lk2_n l3 (by decide) (by decide) (Or.inr (by decide))) (by decide) (by decide) (Or.inr (by decide))) (by decide) (by decide) (Or.inr (by decide))) (by decide) (Or.inr (by decide))) (lk1_n (lk2_n lk2_s (by decide) (by decide) (Or.inr (by decide))) (by decide) (Or.inr (by decide))) (lk1_n lk2_s (by decide) (Or.inr (by decide))) lk1_s
  refine x_lload_n 1 hK rfl rfl rfl ?_
  refine x_lstore 3 hK rfl rfl [(5, .long (J a)), (0, .ref 3), (1, .long (J a)), (3, .long (J b))] rfl ?_
  refine x_lload_n 4 hK rfl rfl rfl ?_
  refine x_lstore 6 hK rfl rfl [(7, .long (J b)), (5, .long (J a)), (0, .ref 3), (1, .long (J a)), (3, .long (J b))] rfl ?_
  refine x_iconst 7 hK rfl rfl ?_
  refine x_istore 9 hK rfl rfl [(9, .int (I 0)), (7, .long (J b)), (5, .long (J a)), (0, .ref 3), (1, .long (J a)), (3, .long (J b))] rfl ?_
  exact loop _ a b 0 _ rfl (by omega) (by omega) (by omega) (by omega) (by omega) (rfl) rfl rfl rfl rfl rfl rfl
set_option maxRecDepth 4000 in
theorem ctX11_tellsFractionF {SP : CT} (hSP : MONO SP) {sh : List (Nat × Nat)} {h : aH} (hG : GD gE gRL sh h) {a b : Int} (ha : 0 ≤ a) (hb : 1 ≤ b) (ra : r64 a) (rb : r64 b) : CLd SP 130 mX11_tellsFraction [.ref 171, .long (J a), .long (J b)] h 0 0 (fun rv h' => rv = none ∧ GD gE gRL sh h' ∧ FRM gRL [(0, 54, 1, 1), (1, 55, 0, 39)] h h' ∧ gi h' 171 1 = 2 ∧ mrow h' = frG a b) := by
  refine x_met _ rfl (Nat.le_of_ble_eq_true rfl) (fun K hK => ?_)
  have hmono := MONO_CLd hSP 129
  have g1 : 0 < Nat.gcd a.toNat b.toNat := Nat.gcd_pos_of_pos_right _ (by omega)
  have g2 : Nat.gcd a.toNat b.toNat ≤ b.toNat := Nat.gcd_le_right _ (by omega)
  have hcm := ctX11_common hSP (h := h) 63 a b ha (by omega) ra rb (by have := rb.2; omega)
  have ef : frG a b = [a / (Nat.gcd a.toNat b.toNat : Int), b / (Nat.gcd a.toNat b.toNat : Int)] := rfl
  generalize Nat.gcd a.toNat b.toNat = g at *
  have ex1 : 0 ≤ a / (g : Int) := Int.ediv_nonneg ha (by omega)
  have ex2 : a / (g : Int) ≤ a := Int.ediv_le_self _ ha
  have ex3 : 0 ≤ b / (g : Int) := Int.ediv_nonneg (by omega) (by omega)
  have ex4 : b / (g : Int) ≤ b := Int.ediv_le_self _ (by omega)
  refine x_lload_n 1 hK rfl rfl rfl ?_
  refine x_lload_n 2 hK rfl rfl rfl ?_
  refine x_callS 5 hK hmono rfl (Or.inl rfl) rfl [.long (J a), .long (J b)] [] rfl rfl (Nat.le_of_ble_eq_true rfl) (Nat.le_of_ble_eq_true rfl) (CLd_le (Nat.le_of_ble_eq_true rfl) hcm) ?_
  rintro v9 h9 ⟨e9, rfl⟩
  rw [e9]
  clear e9
  refine x_lstore 7 hK rfl rfl [(5, .long (J (g : Int))), (0, .ref 171), (1, .long (J a)), (3, .long (J b))] rfl ?_
  refine x_aload_n 8 hK rfl rfl rfl ?_
  refine x_iconst 9 hK rfl rfl ?_
  refine x_putI 12 hK rfl rfl (sp_171 (h := h) hG) ?_
  refine x_aload_n 13 hK rfl rfl rfl ?_
  refine x_lload_n 14 hK rfl rfl rfl ?_
  refine x_lload 16 hK rfl rfl rfl ?_
  refine x_ldivp 17 hK rfl rfl (by omega) (by omega) (by omega) (by omega) ?_
  have hGp689 : GD gE gRL sh (wI h 171 1 0) := GD_w1 (hG) (r := 54) rfl (by omega) rfl (by omega) (by omega)
  have z691 : gi (wI h 171 1 0) 171 1 = 0 := gi_same (by omega)
  have z691r : mrow (wI h 171 1 0) = [] := mrow_0 (gi_same (by omega))
  refine x_callV 20 hK hmono rfl rfl [.ref 171, .long (J (a / (g : Int)))] [] rfl rfl (Nat.le_of_ble_eq_true rfl) (Nat.le_of_ble_eq_true rfl) rfl (sp_171 (h := h) hG) (CLd_le (Nat.le_of_ble_eq_true rfl) (ctX11_entersF hSP hGp689 (by omega) (by omega))) ?_
  rintro v690 h690 ⟨rfl, hG690, hF690, t690, s690⟩
  rw [z691] at t690
  rw [z691r] at s690
  replace t690 : gi h690 171 1 = 1 := t690
  change mrow h690 = [(a / (g : Int))] at s690
  refine x_aload_n 21 hK rfl rfl rfl ?_
  refine x_lload_n 22 hK rfl rfl rfl ?_
  refine x_lload 24 hK rfl rfl rfl ?_
  refine x_ldivp 25 hK rfl rfl (by omega) (by omega) (by omega) (by omega) ?_
  have z693 : gi h690 171 1 = 1 := t690
  have z693r : mrow h690 = [(a / (g : Int))] := s690
  refine x_callV 28 hK hmono rfl rfl [.ref 171, .long (J (b / (g : Int)))] [] rfl rfl (Nat.le_of_ble_eq_true rfl) (Nat.le_of_ble_eq_true rfl) rfl (sp_171 (h := h690) hG690) (CLd_le (Nat.le_of_ble_eq_true rfl) (ctX11_entersF hSP hG690 (by omega) (by omega))) ?_
  rintro v692 h692 ⟨rfl, hG692, hF692, t692, s692⟩
  rw [z693] at t692
  rw [z693r] at s692
  replace t692 : gi h692 171 1 = 2 := t692
  change mrow h692 = [(a / (g : Int)), (b / (g : Int))] at s692
  exact x_vret hK rfl ⟨rfl, hG692, ((FRM_w ((FRM.rf : FRM gRL [(0, 54, 1, 1), (1, 55, 0, 39)] h h)) (r := 54) rfl rfl).trans ((hF690).mono rfl)).trans ((hF692).mono rfl), t692, (s692).trans ef.symm⟩
set_option maxRecDepth 4000 in
theorem ctX10_wordW {SP : CT} (hSP : MONO SP) {sh : List (Nat × Nat)} {h : aH} (hG : GD gE gRL sh h) {k p : Int} (rk : r32 k) (rp : r32 p) : CLd SP 5 mX10_word [.ref 0, .int (I k), .int (I p)] h 0 0 (fun rv h' => (((1 ≤ k ∧ k ≤ 15 ∧ k % 2 = 1 ∧ 0 ≤ p ∧ p ≤ 10) ∧ rv = some (.int (I 0)) ∧ crow h' = frC (btS k p ((k + 1) / 2).toNat) (tenN k.toNat)) ∨ (¬ (1 ≤ k ∧ k ≤ 15 ∧ k % 2 = 1 ∧ 0 ≤ p ∧ p ≤ 10) ∧ rv = some (.int (I (-1))) ∧ crow h' = crow h)) ∧ GD gE gRL sh h' ∧ FRM gRL [(0, 3, 1, 1), (1, 4, 0, 29)] h h') := by
  refine x_met _ rfl (Nat.le_of_ble_eq_true rfl) (fun K hK => ?_)
  have hmono := MONO_CLd hSP 4
  have lb := fun (z : (1 ≤ k ∧ k ≤ 15) ∧ k % 2 = 1 ∧ 0 ≤ p ∧ p ≤ 10) => lk_bd (k := k) (p := p) z.1 z.2.1 z.2.2
  have tb := fun (z : (1 ≤ k ∧ k ≤ 15)) => tenN_bd (i := k) (by omega) (by omega)
  refine x_iload_n 1 hK rfl rfl rfl ?_
  refine x_iconst 2 hK rfl rfl ?_
  refine x_if_icmp_lt 27 5 hK rfl rfl rfl (by omega) (by omega) (fun c3 => ?_) (fun c3 => ?_)
  · refine x_iconst 28 hK rfl rfl ?_
    exact x_iret hK rfl ⟨Or.inr ⟨by omega, rfl, rfl⟩, hG, (FRM.rf : FRM gRL [(0, 3, 1, 1), (1, 4, 0, 29)] h h)⟩
  · refine x_iload_n 6 hK rfl rfl rfl ?_
    refine x_bipush 8 hK rfl rfl rfl ?_
    refine x_if_icmp_gt 27 11 hK rfl rfl rfl (by omega) (by omega) (fun c8 => ?_) (fun c8 => ?_)
    · refine x_iconst 28 hK rfl rfl ?_
      exact x_iret hK rfl ⟨Or.inr ⟨by omega, rfl, rfl⟩, hG, (FRM.rf : FRM gRL [(0, 3, 1, 1), (1, 4, 0, 29)] h h)⟩
    · refine x_iload_n 12 hK rfl rfl rfl ?_
      refine x_iconst 13 hK rfl rfl ?_
      refine x_iremp 14 hK rfl rfl (by omega) (by omega) (by omega) (by omega) ?_
      refine x_if_eq 27 17 hK rfl rfl rfl (by omega) (fun c14 => ?_) (fun c14 => ?_)
      · refine x_iconst 28 hK rfl rfl ?_
        exact x_iret hK rfl ⟨Or.inr ⟨by omega, rfl, rfl⟩, hG, (FRM.rf : FRM gRL [(0, 3, 1, 1), (1, 4, 0, 29)] h h)⟩
      · refine x_iload_n 18 hK rfl rfl rfl ?_
        refine x_if_lt 27 21 hK rfl rfl rfl (by omega) (fun c18 => ?_) (fun c18 => ?_)
        · refine x_iconst 28 hK rfl rfl ?_
          exact x_iret hK rfl ⟨Or.inr ⟨by omega, rfl, rfl⟩, hG, (FRM.rf : FRM gRL [(0, 3, 1, 1), (1, 4, 0, 29)] h h)⟩
        · refine x_iload_n 22 hK rfl rfl rfl ?_
          refine x_bipush 24 hK rfl rfl rfl ?_
          refine x_if_icmp_le 29 27 hK rfl rfl rfl (by omega) (by omega) (fun c23 => ?_) (fun c23 => ?_)
          · refine x_aload_n 30 hK rfl rfl rfl ?_
            refine x_getR 33 hK rfl rfl (sp_0 (h := h) hG) (rf_0_1 (h := h) hG) ?_
            refine x_iload_n 34 hK rfl rfl rfl ?_
            refine x_iload_n 35 hK rfl rfl rfl ?_
            refine x_callS 38 hK hmono rfl (Or.inl rfl) rfl [.int (I k), .int (I p)] [.ref 3] rfl rfl (Nat.le_of_ble_eq_true rfl) (Nat.le_of_ble_eq_true rfl) (CLd_le (Nat.le_of_ble_eq_true rfl) (ctX10_likelyWord hSP (k := k) (p := p) (by omega) (by omega))) ?_
            rintro v9 h9 ⟨e9, rfl⟩
            rw [e9]
            clear e9
            refine x_ldc2_w 41 hK rfl rfl ?_
            refine x_iload_n 42 hK rfl rfl rfl ?_
            refine x_callS 45 hK hmono rfl (Or.inl rfl) rfl [.long (J 10), .int (I k)] [.long (J (lkS k p (k / 2 + 1).toNat)), .ref 3] rfl rfl (Nat.le_of_ble_eq_true rfl) (Nat.le_of_ble_eq_true rfl) (CLd_le (Nat.le_of_ble_eq_true rfl) (ctX10_power hSP (x := 10) (n := k) (by omega))) ?_
            rintro v9 h9 ⟨e9, rfl⟩
            rw [e9]
            clear e9
            replace lb := lb (by omega)
            replace tb := tb (by omega)
            rw [pw_ten, lb.1]
            refine x_callV 48 hK hmono rfl rfl [.ref 3, .long (J (btS k p ((k + 1) / 2).toNat)), .long (J (tenN k.toNat))] [] rfl rfl (Nat.le_of_ble_eq_true rfl) (Nat.le_of_ble_eq_true rfl) rfl (sp_3 (h := h) hG) (CLd_le (Nat.le_of_ble_eq_true rfl) (ctX3_tellFractionF hSP hG (a := (btS k p ((k + 1) / 2).toNat)) (b := (tenN k.toNat)) (by omega) (by omega) (by omega) (by omega))) ?_
            rintro v694 h694 ⟨rfl, hG694, hF694, t694, s694⟩
            refine x_iconst 49 hK rfl rfl ?_
            exact x_iret hK rfl ⟨Or.inl ⟨⟨by omega, by omega, by omega, by omega, by omega⟩, rfl, s694⟩, hG694, hF694⟩
          · refine x_iconst 28 hK rfl rfl ?_
            exact x_iret hK rfl ⟨Or.inr ⟨by omega, rfl, rfl⟩, hG, (FRM.rf : FRM gRL [(0, 3, 1, 1), (1, 4, 0, 29)] h h)⟩
set_option maxRecDepth 4000 in
theorem ctX11_wordW {SP : CT} (hSP : MONO SP) {sh : List (Nat × Nat)} {h : aH} (hG : GD gE gRL sh h) {k p : Int} (rk : r32 k) (rp : r32 p) : CLd SP 131 mX11_word [.ref 171, .int (I k), .int (I p)] h 0 0 (fun rv h' => (((1 ≤ k ∧ k ≤ 15 ∧ k % 2 = 1 ∧ 0 ≤ p ∧ p ≤ 10) ∧ rv = some (.int (I 0)) ∧ mrow h' = frG (btS k p ((k + 1) / 2).toNat) (tenN k.toNat)) ∨ (¬ (1 ≤ k ∧ k ≤ 15 ∧ k % 2 = 1 ∧ 0 ≤ p ∧ p ≤ 10) ∧ rv = some (.int (I (-1))) ∧ mrow h' = mrow h)) ∧ GD gE gRL sh h' ∧ FRM gRL [(0, 54, 0, 0), (0, 54, 1, 1), (1, 54, 39, 39), (1, 54, 40, 40), (1, 55, 0, 39)] h h') := by
  refine x_met _ rfl (Nat.le_of_ble_eq_true rfl) (fun K hK => ?_)
  have hmono := MONO_CLd hSP 130
  refine x_aload_n 1 hK rfl rfl rfl ?_
  refine x_iconst 2 hK rfl rfl ?_
  refine x_putI 5 hK rfl rfl (sp_171 (h := h) hG) ?_
  refine x_iload_n 6 hK rfl rfl rfl ?_
  refine x_i2l 7 hK rfl rfl (by omega) ?_
  refine x_lconstE 8 1 hK rfl rfl rfl ?_
  refine x_ldc2_w 11 hK rfl rfl ?_
  have hGp695 : GD gE gRL sh (wI h 171 0 0) := GD_w1 (hG) (r := 54) rfl (by omega) rfl (by omega) (by omega)
  refine x_callS 14 hK hmono rfl (Or.inl rfl) rfl [.long (J k), .long (J 1), .long (J 15)] [] rfl rfl (Nat.le_of_ble_eq_true rfl) (Nat.le_of_ble_eq_true rfl) (CLd_le (Nat.le_of_ble_eq_true rfl) (ctX11_in (by omega) (by omega) (by omega))) ?_
  rintro v9 h9 ⟨e9, ⟨rfl, i1696, i2696⟩ | ⟨rfl, i1696⟩⟩ <;> rw [e9] <;> clear e9
  · refine x_if_eq 35 17 hK rfl rfl rfl (by omega) (fun c => by omega) (fun _ => ?_)
    refine x_iload_n 18 hK rfl rfl rfl ?_
    refine x_iconst 19 hK rfl rfl ?_
    refine x_iremp 20 hK rfl rfl (by omega) (by omega) (by omega) (by omega) ?_
    refine x_if_eq 35 23 hK rfl rfl rfl (by omega) (fun c13 => ?_) (fun c13 => ?_)
    · refine x_iconst 36 hK rfl rfl ?_
      exact x_iret hK rfl ⟨Or.inr ⟨by omega, rfl, mrow_k (by decide)⟩, GD_w1 (hG) (r := 54) rfl (by omega) rfl (by omega) (by omega), FRM_w ((FRM.rf : FRM gRL [(0, 54, 0, 0), (0, 54, 1, 1), (1, 54, 39, 39), (1, 54, 40, 40), (1, 55, 0, 39)] h h)) (r := 54) rfl rfl⟩
    · refine x_iload_n 24 hK rfl rfl rfl ?_
      refine x_i2l 25 hK rfl rfl (by omega) ?_
      refine x_lconstE 26 0 hK rfl rfl rfl ?_
      refine x_ldc2_w 29 hK rfl rfl ?_
      have hGp697 : GD gE gRL sh (wI h 171 0 0) := GD_w1 (hG) (r := 54) rfl (by omega) rfl (by omega) (by omega)
      refine x_callS 32 hK hmono rfl (Or.inl rfl) rfl [.long (J p), .long (J 0), .long (J 10)] [] rfl rfl (Nat.le_of_ble_eq_true rfl) (Nat.le_of_ble_eq_true rfl) (CLd_le (Nat.le_of_ble_eq_true rfl) (ctX11_in (by omega) (by omega) (by omega))) ?_
      rintro v9 h9 ⟨e9, ⟨rfl, i1698, i2698⟩ | ⟨rfl, i1698⟩⟩ <;> rw [e9] <;> clear e9
      · refine x_if_ne 37 35 hK rfl rfl rfl (by omega) (fun _ => ?_) (fun c => by omega)
        refine x_aload_n 38 hK rfl rfl rfl ?_
        refine x_iload_n 39 hK rfl rfl rfl ?_
        refine x_iload_n 40 hK rfl rfl rfl ?_
        have hGp699 : GD gE gRL sh (wI h 171 0 0) := GD_w1 (hG) (r := 54) rfl (by omega) rfl (by omega) (by omega)
        refine x_callV 43 hK hmono rfl rfl [.ref 171, .int (I k), .int (I p)] [] rfl rfl (Nat.le_of_ble_eq_true rfl) (Nat.le_of_ble_eq_true rfl) rfl (sp_171 (h := h) hG) (CLd_le (Nat.le_of_ble_eq_true rfl) (ctX11_bets hSP hGp699 (by omega) (by omega))) ?_
        rintro v700 h700 ⟨rfl, hG700, hF700, u700, d700⟩
        have tb := tenN_bd (i := k) (by omega) (by omega)
        have sb := btS_bd (k := k) (p := p) (j := (k + 1) / 2) (by omega) (by omega) (by omega) (by omega) (by omega) (by omega)
        refine x_aload_n 44 hK rfl rfl rfl ?_
        refine x_aload_n 45 hK rfl rfl rfl ?_
        refine x_getJE 48 hK rfl rfl (sp_171 (h := h700) hG700) (e := (btS k p ((k + 1) / 2).toNat)) (u700) ?_
        refine x_aload_n 49 hK rfl rfl rfl ?_
        refine x_getJE 52 hK rfl rfl (sp_171 (h := h700) hG700) (e := (tenN k.toNat)) (d700) ?_
        refine x_callV 55 hK hmono rfl rfl [.ref 171, .long (J (btS k p ((k + 1) / 2).toNat)), .long (J (tenN k.toNat))] [] rfl rfl (Nat.le_of_ble_eq_true rfl) (Nat.le_of_ble_eq_true rfl) rfl (sp_171 (h := h700) hG700) (CLd_le (Nat.le_of_ble_eq_true rfl) (ctX11_tellsFractionF hSP hG700 (a := (btS k p ((k + 1) / 2).toNat)) (b := (tenN k.toNat)) (by omega) (by omega) (by omega) (by omega))) ?_
        rintro v701 h701 ⟨rfl, hG701, hF701, t701, s701⟩
        refine x_iconst 56 hK rfl rfl ?_
        exact x_iret hK rfl ⟨Or.inl ⟨⟨by omega, by omega, by omega, by omega, by omega⟩, rfl, s701⟩, hG701, ((FRM_w ((FRM.rf : FRM gRL [(0, 54, 0, 0), (0, 54, 1, 1), (1, 54, 39, 39), (1, 54, 40, 40), (1, 55, 0, 39)] h h)) (r := 54) rfl rfl).trans ((hF700).mono rfl)).trans ((hF701).mono rfl)⟩
      · refine x_if_ne 37 35 hK rfl rfl rfl (by omega) (fun c => by omega) (fun _ => ?_)
        refine x_iconst 36 hK rfl rfl ?_
        exact x_iret hK rfl ⟨Or.inr ⟨by omega, rfl, mrow_k (by decide)⟩, GD_w1 (hG) (r := 54) rfl (by omega) rfl (by omega) (by omega), FRM_w ((FRM.rf : FRM gRL [(0, 54, 0, 0), (0, 54, 1, 1), (1, 54, 39, 39), (1, 54, 40, 40), (1, 55, 0, 39)] h h)) (r := 54) rfl rfl⟩
  · refine x_if_eq 35 17 hK rfl rfl rfl (by omega) (fun _ => ?_) (fun c => by omega)
    refine x_iconst 36 hK rfl rfl ?_
    exact x_iret hK rfl ⟨Or.inr ⟨by omega, rfl, mrow_k (by decide)⟩, GD_w1 (hG) (r := 54) rfl (by omega) rfl (by omega) (by omega), FRM_w ((FRM.rf : FRM gRL [(0, 54, 0, 0), (0, 54, 1, 1), (1, 54, 39, 39), (1, 54, 40, 40), (1, 55, 0, 39)] h h)) (r := 54) rfl rfl⟩
set_option maxRecDepth 4000 in
theorem ctX10_knowsW {SP : CT} (hSP : MONO SP) {sh : List (Nat × Nat)} {h : aH} (hG : GD gE gRL sh h) {n p : Int} (rn : r32 n) (rp : r32 p) : CLd SP 5 mX10_knows [.ref 0, .int (I n), .int (I p)] h 0 0 (fun rv h' => ((((0 ≤ n ∧ n ≤ 12) ∧ 0 ≤ p ∧ p ≤ 10) ∧ rv = some (.int (I 0)) ∧ crow h' = frC (pwF (10 - p) n.toNat * p) (pwF 10 (n + 1).toNat)) ∨ (¬ ((0 ≤ n ∧ n ≤ 12) ∧ 0 ≤ p ∧ p ≤ 10) ∧ rv = some (.int (I (-1))) ∧ crow h' = crow h)) ∧ GD gE gRL sh h' ∧ FRM gRL [(0, 3, 1, 1), (1, 4, 0, 29)] h h') := by
  refine x_met _ rfl (Nat.le_of_ble_eq_true rfl) (fun K hK => ?_)
  have hmono := MONO_CLd hSP 4
  refine x_iload_n 1 hK rfl rfl rfl ?_
  refine x_if_lt 20 4 hK rfl rfl rfl (by omega) (fun c2 => ?_) (fun c2 => ?_)
  · refine x_iconst 21 hK rfl rfl ?_
    exact x_iret hK rfl ⟨Or.inr ⟨by omega, rfl, rfl⟩, hG, (FRM.rf : FRM gRL [(0, 3, 1, 1), (1, 4, 0, 29)] h h)⟩
  · refine x_iload_n 5 hK rfl rfl rfl ?_
    refine x_bipush 7 hK rfl rfl rfl ?_
    refine x_if_icmp_gt 20 10 hK rfl rfl rfl (by omega) (by omega) (fun c7 => ?_) (fun c7 => ?_)
    · refine x_iconst 21 hK rfl rfl ?_
      exact x_iret hK rfl ⟨Or.inr ⟨by omega, rfl, rfl⟩, hG, (FRM.rf : FRM gRL [(0, 3, 1, 1), (1, 4, 0, 29)] h h)⟩
    · refine x_iload_n 11 hK rfl rfl rfl ?_
      refine x_if_lt 20 14 hK rfl rfl rfl (by omega) (fun c11 => ?_) (fun c11 => ?_)
      · refine x_iconst 21 hK rfl rfl ?_
        exact x_iret hK rfl ⟨Or.inr ⟨by omega, rfl, rfl⟩, hG, (FRM.rf : FRM gRL [(0, 3, 1, 1), (1, 4, 0, 29)] h h)⟩
      · refine x_iload_n 15 hK rfl rfl rfl ?_
        refine x_bipush 17 hK rfl rfl rfl ?_
        refine x_if_icmp_le 22 20 hK rfl rfl rfl (by omega) (by omega) (fun c16 => ?_) (fun c16 => ?_)
        · have kn := kn_ok (n := n) (p := p) (by omega) (by omega)
          refine x_aload_n 23 hK rfl rfl rfl ?_
          refine x_getR 26 hK rfl rfl (sp_0 (h := h) hG) (rf_0_1 (h := h) hG) ?_
          refine x_bipush 28 hK rfl rfl rfl ?_
          refine x_iload_n 29 hK rfl rfl rfl ?_
          refine x_isub 30 hK rfl rfl ?_
          refine x_i2l 31 hK rfl rfl (by omega) ?_
          refine x_iload_n 32 hK rfl rfl rfl ?_
          refine x_callS 35 hK hmono rfl (Or.inl rfl) rfl [.long (J (10 - p)), .int (I n)] [.ref 3] rfl rfl (Nat.le_of_ble_eq_true rfl) (Nat.le_of_ble_eq_true rfl) (CLd_le (Nat.le_of_ble_eq_true rfl) (ctX10_power hSP (x := (10 - p)) (n := n) (by omega))) ?_
          rintro v9 h9 ⟨e9, rfl⟩
          rw [e9]
          clear e9
          refine x_iload_n 36 hK rfl rfl rfl ?_
          refine x_i2l 37 hK rfl rfl (by omega) ?_
          refine x_lmul 38 hK rfl rfl ?_
          refine x_ldc2_w 41 hK rfl rfl ?_
          refine x_iload_n 42 hK rfl rfl rfl ?_
          refine x_iconst 43 hK rfl rfl ?_
          refine x_iadd 44 hK rfl rfl ?_
          refine x_callS 47 hK hmono rfl (Or.inl rfl) rfl [.long (J 10), .int (I (n + 1))] [.long (J ((pwF (10 - p) n.toNat) * p)), .ref 3] rfl rfl (Nat.le_of_ble_eq_true rfl) (Nat.le_of_ble_eq_true rfl) (CLd_le (Nat.le_of_ble_eq_true rfl) (ctX10_power hSP (x := 10) (n := (n + 1)) (by omega))) ?_
          rintro v9 h9 ⟨e9, rfl⟩
          rw [e9]
          clear e9
          refine x_callV 50 hK hmono rfl rfl [.ref 3, .long (J ((pwF (10 - p) n.toNat) * p)), .long (J (pwF 10 (n + 1).toNat))] [] rfl rfl (Nat.le_of_ble_eq_true rfl) (Nat.le_of_ble_eq_true rfl) rfl (sp_3 (h := h) hG) (CLd_le (Nat.le_of_ble_eq_true rfl) (ctX3_tellFractionF hSP hG (a := ((pwF (10 - p) n.toNat) * p)) (b := (pwF 10 (n + 1).toNat)) (by omega) (by omega) (by omega) (by omega))) ?_
          rintro v702 h702 ⟨rfl, hG702, hF702, t702, s702⟩
          refine x_iconst 51 hK rfl rfl ?_
          exact x_iret hK rfl ⟨Or.inl ⟨⟨by omega, by omega⟩, rfl, s702⟩, hG702, hF702⟩
        · refine x_iconst 21 hK rfl rfl ?_
          exact x_iret hK rfl ⟨Or.inr ⟨by omega, rfl, rfl⟩, hG, (FRM.rf : FRM gRL [(0, 3, 1, 1), (1, 4, 0, 29)] h h)⟩
set_option maxRecDepth 4000 in
theorem ctX11_knowsW {SP : CT} (hSP : MONO SP) {sh : List (Nat × Nat)} {h : aH} (hG : GD gE gRL sh h) {n p : Int} (rn : r32 n) (rp : r32 p) : CLd SP 131 mX11_knows [.ref 171, .int (I n), .int (I p)] h 0 0 (fun rv h' => ((((0 ≤ n ∧ n ≤ 12) ∧ 0 ≤ p ∧ p ≤ 10) ∧ rv = some (.int (I 0)) ∧ mrow h' = frG (pwF (10 - p) n.toNat * p) (pwF 10 (n + 1).toNat)) ∨ (¬ ((0 ≤ n ∧ n ≤ 12) ∧ 0 ≤ p ∧ p ≤ 10) ∧ rv = some (.int (I (-1))) ∧ mrow h' = mrow h)) ∧ GD gE gRL sh h' ∧ FRM gRL [(0, 54, 0, 0), (0, 54, 1, 1), (1, 55, 0, 39)] h h') := by
  refine x_met _ rfl (Nat.le_of_ble_eq_true rfl) (fun K hK => ?_)
  have hmono := MONO_CLd hSP 130
  have loop : ∀ (mz : Nat) (e f k : Int) (h3 : aH) (ls : List (Nat × Value)), ((n - k).toNat = mz) → ((0 ≤ n ∧ n ≤ 12) ∧ 0 ≤ p ∧ p ≤ 10) → (0 ≤ k ∧ k ≤ n) → (e = pwG p (10 - p) k.toNat) → (f = pwG 10 10 k.toNat) → (gi h3 171 0 = 0) → (mrow h3 = mrow h) → lk ls 0 = some (.ref 171) → lk ls 1 = some (.int (I n)) → lk ls 2 = some (.int (I p)) → lk ls 3 = some (.long (J e)) → lk ls 5 = some (.long (J f)) → lk ls 7 = some (.int (I k)) → GD gE gRL sh h3 → FRM gRL [(0, 54, 0, 0), (0, 54, 1, 1), (1, 55, 0, 39)] h h3 → K 42 ls [] h3 0 0 := by
    intro mz
    induction mz using Nat.strongRecOn with
    | ind mz ih =>
    intro e f k h3 ls hm n0 k0 ee ef t3 m3 l0 l1 l2 l3 l5 l7 hG3 hF3
    have kn := kn_ok (n := k) (p := p) (by omega) (by omega)
    refine x_iload 44 hK rfl rfl l7 ?_
    refine x_iload_n 45 hK rfl rfl l1 ?_
    refine x_if_icmp_ge 70 48 hK rfl rfl rfl (by omega) (by omega) (fun c3 => ?_) (fun c3 => ?_)
    · obtain rfl : n = k := by omega
      rw [kn.2.1] at ee
      rw [kn.2.2.1] at ef
      subst ee
      subst ef
      refine x_aload_n 71 hK rfl rfl l0 ?_
      refine x_lload_n 72 hK rfl rfl l3 ?_
      refine x_lload 74 hK rfl rfl l5 ?_
      refine x_callV 77 hK hmono rfl rfl [.ref 171, .long (J (pwF (10 - p) n.toNat * p)), .long (J (pwF 10 (n + 1).toNat))] [] rfl rfl (Nat.le_of_ble_eq_true rfl) (Nat.le_of_ble_eq_true rfl) rfl (sp_171 (h := h3) hG3) (CLd_le (Nat.le_of_ble_eq_true rfl) (ctX11_tellsFractionF hSP hG3 (a := (pwF (10 - p) n.toNat * p)) (b := (pwF 10 (n + 1).toNat)) (by omega) (by omega) (by omega) (by omega))) ?_
      rintro v703 h703 ⟨rfl, hG703, hF703, t703, s703⟩
      refine x_iconst 78 hK rfl rfl ?_
      exact x_iret hK rfl ⟨Or.inl ⟨n0, rfl, s703⟩, hG703, (hF3).trans ((hF703).mono rfl)⟩
    · refine x_lload_n 49 hK rfl rfl l3 ?_
      refine x_bipush 51 hK rfl rfl rfl ?_
      refine x_iload_n 52 hK rfl rfl l2 ?_
      refine x_isub 53 hK rfl rfl ?_
      refine x_i2l 54 hK rfl rfl (by omega) ?_
      refine x_lmul 55 hK rfl rfl ?_
      refine x_lstore_n 56 hK rfl rfl _ rfl ?_
      refine x_lload 58 hK rfl rfl (lk2_n l5 (by decide) (by decide) (Or.inr (by decide))) ?_
      refine x_ldc2_w 61 hK rfl rfl ?_
      refine x_lmul 62 hK rfl rfl ?_
      refine x_lstore 64 hK rfl rfl _ rfl ?_
      refine x_iinc 67 hK rfl rfl (lk2_n (lk2_n l7 (by decide) (by decide) (Or.inl rfl)) (by decide) (by decide) (Or.inl rfl)) _ rfl ?_
      refine x_goto 42 hK rfl rfl ?_
      exact ih _ (by omega) (e * (10 - p)) (f * 10) (k + 1) _ _ rfl (n0) (by omega) (by rw [pwG_s k0.1, ← ee]) (by rw [pwG_s k0.1, ← ef]) (t3) (m3) (lk1_n (lk2_n (lk2_n l0 (by decide) (by decide) (Or.inl rfl)) (by decide) (by decide) (Or.inl rfl)) (by decide) (Or.inl rfl)) (lk1_n (lk2_n (lk2_n l1 (by decide) (by decide) (Or.inl rfl)) (by decide) (by decide) (Or.inl rfl)) (by decide) (Or.inl rfl)) (lk1_n (lk2_n (lk2_n l2 (by decide) (by decide) (Or.inl rfl)) (by decide) (by decide) (Or.inl rfl)) (by decide) (Or.inl rfl)) (lk1_n (lk2_n lk2_s (by decide) (by decide) (Or.inr (by decide))) (by decide) (Or.inr (by decide))) (lk1_n lk2_s (by decide) (Or.inr (by decide))) lk1_s (hG3) (hF3)
  refine x_aload_n 1 hK rfl rfl rfl ?_
  refine x_iconst 2 hK rfl rfl ?_
  refine x_putI 5 hK rfl rfl (sp_171 (h := h) hG) ?_
  refine x_iload_n 6 hK rfl rfl rfl ?_
  refine x_i2l 7 hK rfl rfl (by omega) ?_
  refine x_lconstE 8 0 hK rfl rfl rfl ?_
  refine x_ldc2_w 11 hK rfl rfl ?_
  have hGp704 : GD gE gRL sh (wI h 171 0 0) := GD_w1 (hG) (r := 54) rfl (by omega) rfl (by omega) (by omega)
  refine x_callS 14 hK hmono rfl (Or.inl rfl) rfl [.long (J n), .long (J 0), .long (J 12)] [] rfl rfl (Nat.le_of_ble_eq_true rfl) (Nat.le_of_ble_eq_true rfl) (CLd_le (Nat.le_of_ble_eq_true rfl) (ctX11_in (by omega) (by omega) (by omega))) ?_
  rintro v9 h9 ⟨e9, ⟨rfl, i1705, i2705⟩ | ⟨rfl, i1705⟩⟩ <;> rw [e9] <;> clear e9
  · refine x_if_eq 29 17 hK rfl rfl rfl (by omega) (fun c => by omega) (fun _ => ?_)
    refine x_iload_n 18 hK rfl rfl rfl ?_
    refine x_i2l 19 hK rfl rfl (by omega) ?_
    refine x_lconstE 20 0 hK rfl rfl rfl ?_
    refine x_ldc2_w 23 hK rfl rfl ?_
    have hGp706 : GD gE gRL sh (wI h 171 0 0) := GD_w1 (hG) (r := 54) rfl (by omega) rfl (by omega) (by omega)
    refine x_callS 26 hK hmono rfl (Or.inl rfl) rfl [.long (J p), .long (J 0), .long (J 10)] [] rfl rfl (Nat.le_of_ble_eq_true rfl) (Nat.le_of_ble_eq_true rfl) (CLd_le (Nat.le_of_ble_eq_true rfl) (ctX11_in (by omega) (by omega) (by omega))) ?_
    rintro v9 h9 ⟨e9, ⟨rfl, i1707, i2707⟩ | ⟨rfl, i1707⟩⟩ <;> rw [e9] <;> clear e9
    · refine x_if_ne 31 29 hK rfl rfl rfl (by omega) (fun _ => ?_) (fun c => by omega)
      refine x_iload_n 32 hK rfl rfl rfl ?_
      refine x_i2l 33 hK rfl rfl (by omega) ?_
      refine x_lstore_n 34 hK rfl rfl [(3, .long (J p)), (0, .ref 171), (1, .int (I n)), (2, .int (I p))] rfl ?_
      refine x_ldc2_w 37 hK rfl rfl ?_
      refine x_lstore 39 hK rfl rfl [(5, .long (J 10)), (3, .long (J p)), (0, .ref 171), (1, .int (I n)), (2, .int (I p))] rfl ?_
      refine x_iconst 40 hK rfl rfl ?_
      refine x_istore 42 hK rfl rfl [(7, .int (I 0)), (5, .long (J 10)), (3, .long (J p)), (0, .ref 171), (1, .int (I n)), (2, .int (I p))] rfl ?_
      exact loop _ p 10 0 _ _ rfl (⟨by omega, by omega⟩) (by omega) (rfl) (rfl) (gi_same (by omega)) (mrow_k (by decide)) rfl rfl rfl rfl rfl rfl (GD_w1 (hG) (r := 54) rfl (by omega) rfl (by omega) (by omega)) (FRM_w ((FRM.rf : FRM gRL [(0, 54, 0, 0), (0, 54, 1, 1), (1, 55, 0, 39)] h h)) (r := 54) rfl rfl)
    · refine x_if_ne 31 29 hK rfl rfl rfl (by omega) (fun c => by omega) (fun _ => ?_)
      refine x_iconst 30 hK rfl rfl ?_
      exact x_iret hK rfl ⟨Or.inr ⟨by omega, rfl, mrow_k (by decide)⟩, GD_w1 (hG) (r := 54) rfl (by omega) rfl (by omega) (by omega), FRM_w ((FRM.rf : FRM gRL [(0, 54, 0, 0), (0, 54, 1, 1), (1, 55, 0, 39)] h h)) (r := 54) rfl rfl⟩
  · refine x_if_eq 29 17 hK rfl rfl rfl (by omega) (fun _ => ?_) (fun c => by omega)
    refine x_iconst 30 hK rfl rfl ?_
    exact x_iret hK rfl ⟨Or.inr ⟨by omega, rfl, mrow_k (by decide)⟩, GD_w1 (hG) (r := 54) rfl (by omega) rfl (by omega) (by omega), FRM_w ((FRM.rf : FRM gRL [(0, 54, 0, 0), (0, 54, 1, 1), (1, 55, 0, 39)] h h)) (r := 54) rfl rfl⟩
set_option maxRecDepth 4000 in
theorem ctX10_chanceW {SP : CT} (hSP : MONO SP) {sh : List (Nat × Nat)} {h : aH} (hG : GD gE gRL sh h) {s u : Nat} (hP : PT h) (hX : XI h) (hD : DR h s u) (h0 : 0 ≤ gi h 23 0) {n p s9 : Int} (rn : r32 n) (rp : r32 p) (rs : r32 s9) : CLd SP 7 mX10_chance [.ref 0, .int (I n), .int (I p), .int (I s9)] h 0 0 (fun rv h' => ((((1 ≤ n ∧ n ≤ 12) ∧ (0 ≤ p ∧ p ≤ 10) ∧ 0 ≤ s9 ∧ s9 ≤ 12) ∧ rv = some (.int (I 0)) ∧ crow h' = (if (dlA h (gi h 23 0)) ≤ s9 then frC 1 1 else frC (pwF (10 - p) n.toNat) (pwF 10 n.toNat))) ∨ (¬ ((1 ≤ n ∧ n ≤ 12) ∧ (0 ≤ p ∧ p ≤ 10) ∧ 0 ≤ s9 ∧ s9 ≤ 12) ∧ rv = some (.int (I (-1))) ∧ crow h' = crow h)) ∧ GD gE gRL sh h' ∧ FRM gRL [(0, 3, 1, 1), (0, 8, 3, 3), (0, 10, 0, 39), (1, 4, 0, 29)] h h') := by
  refine x_met _ rfl (Nat.le_of_ble_eq_true rfl) (fun K hK => ?_)
  have hmono := MONO_CLd hSP 6
  have hD2 := hD
  obtain ⟨h5, hu, pS, pL, ⟨c0, c1, c2⟩, r0, r1, r2⟩ := hD2
  have g0 := gi_r h 23 0
  have db := dlA_b h (gi h 23 0)
  refine x_iload_n 1 hK rfl rfl rfl ?_
  refine x_iconst 2 hK rfl rfl ?_
  refine x_if_icmp_lt 31 5 hK rfl rfl rfl (by omega) (by omega) (fun c3 => ?_) (fun c3 => ?_)
  · refine x_iconst 32 hK rfl rfl ?_
    exact x_iret hK rfl ⟨Or.inr ⟨by omega, rfl, rfl⟩, hG, (FRM.rf : FRM gRL [(0, 3, 1, 1), (0, 8, 3, 3), (0, 10, 0, 39), (1, 4, 0, 29)] h h)⟩
  · refine x_iload_n 6 hK rfl rfl rfl ?_
    refine x_bipush 8 hK rfl rfl rfl ?_
    refine x_if_icmp_gt 31 11 hK rfl rfl rfl (by omega) (by omega) (fun c8 => ?_) (fun c8 => ?_)
    · refine x_iconst 32 hK rfl rfl ?_
      exact x_iret hK rfl ⟨Or.inr ⟨by omega, rfl, rfl⟩, hG, (FRM.rf : FRM gRL [(0, 3, 1, 1), (0, 8, 3, 3), (0, 10, 0, 39), (1, 4, 0, 29)] h h)⟩
    · refine x_iload_n 12 hK rfl rfl rfl ?_
      refine x_if_lt 31 15 hK rfl rfl rfl (by omega) (fun c12 => ?_) (fun c12 => ?_)
      · refine x_iconst 32 hK rfl rfl ?_
        exact x_iret hK rfl ⟨Or.inr ⟨by omega, rfl, rfl⟩, hG, (FRM.rf : FRM gRL [(0, 3, 1, 1), (0, 8, 3, 3), (0, 10, 0, 39), (1, 4, 0, 29)] h h)⟩
      · refine x_iload_n 16 hK rfl rfl rfl ?_
        refine x_bipush 18 hK rfl rfl rfl ?_
        refine x_if_icmp_gt 31 21 hK rfl rfl rfl (by omega) (by omega) (fun c17 => ?_) (fun c17 => ?_)
        · refine x_iconst 32 hK rfl rfl ?_
          exact x_iret hK rfl ⟨Or.inr ⟨by omega, rfl, rfl⟩, hG, (FRM.rf : FRM gRL [(0, 3, 1, 1), (0, 8, 3, 3), (0, 10, 0, 39), (1, 4, 0, 29)] h h)⟩
        · refine x_iload_n 22 hK rfl rfl rfl ?_
          refine x_if_lt 31 25 hK rfl rfl rfl (by omega) (fun c21 => ?_) (fun c21 => ?_)
          · refine x_iconst 32 hK rfl rfl ?_
            exact x_iret hK rfl ⟨Or.inr ⟨by omega, rfl, rfl⟩, hG, (FRM.rf : FRM gRL [(0, 3, 1, 1), (0, 8, 3, 3), (0, 10, 0, 39), (1, 4, 0, 29)] h h)⟩
          · refine x_iload_n 26 hK rfl rfl rfl ?_
            refine x_bipush 28 hK rfl rfl rfl ?_
            refine x_if_icmp_le 33 31 hK rfl rfl rfl (by omega) (by omega) (fun c26 => ?_) (fun c26 => ?_)
            · refine x_iload_n 34 hK rfl rfl rfl ?_
              refine x_aload_n 35 hK rfl rfl rfl ?_
              refine x_aload_n 36 hK rfl rfl rfl ?_
              refine x_getR 39 hK rfl rfl (sp_0 (h := h) hG) (rf_0_10 (h := h) hG) ?_
              have g708 := gi_r h 23 0
              refine x_getE 42 hK rfl (Or.inl rfl) rfl (sp_23 (h := h) hG) (e := (gi h 23 0)) (rfl) ?_
              have ch := ch_ok (n := n) (p := p) (by omega) (by omega)
              refine x_callV 45 hK hmono rfl rfl [.ref 0, .int (I (gi h 23 0))] [.int (I s9)] rfl rfl (Nat.le_of_ble_eq_true rfl) (Nat.le_of_ble_eq_true rfl) rfl (sp_0 (h := h) hG) (CLd_le (Nat.le_of_ble_eq_true rfl) (ctX10_delayA hSP hG hP hX hD (t := gi h 23 0) (by omega))) ?_
              rintro v709 h709 ⟨rfl, hG709, hF709⟩
              refine x_if_icmp_lt 60 48 hK rfl rfl rfl (by omega) (by omega) (fun c33 => ?_) (fun c33 => ?_)
              · refine x_aload_n 61 hK rfl rfl rfl ?_
                refine x_getR 64 hK rfl rfl (sp_0 (h := h709) hG709) (rf_0_1 (h := h709) hG709) ?_
                refine x_bipush 66 hK rfl rfl rfl ?_
                refine x_iload_n 67 hK rfl rfl rfl ?_
                refine x_isub 68 hK rfl rfl ?_
                refine x_i2l 69 hK rfl rfl (by omega) ?_
                refine x_iload_n 70 hK rfl rfl rfl ?_
                refine x_callS 73 hK hmono rfl (Or.inl rfl) rfl [.long (J (10 - p)), .int (I n)] [.ref 3] rfl rfl (Nat.le_of_ble_eq_true rfl) (Nat.le_of_ble_eq_true rfl) (CLd_le (Nat.le_of_ble_eq_true rfl) (ctX10_power hSP (x := (10 - p)) (n := n) (by omega))) ?_
                rintro v9 h9 ⟨e9, rfl⟩
                rw [e9]
                clear e9
                refine x_ldc2_w 76 hK rfl rfl ?_
                refine x_iload_n 77 hK rfl rfl rfl ?_
                refine x_callS 80 hK hmono rfl (Or.inl rfl) rfl [.long (J 10), .int (I n)] [.long (J (pwF (10 - p) n.toNat)), .ref 3] rfl rfl (Nat.le_of_ble_eq_true rfl) (Nat.le_of_ble_eq_true rfl) (CLd_le (Nat.le_of_ble_eq_true rfl) (ctX10_power hSP (x := 10) (n := n) (by omega))) ?_
                rintro v9 h9 ⟨e9, rfl⟩
                rw [e9]
                clear e9
                refine x_callV 83 hK hmono rfl rfl [.ref 3, .long (J (pwF (10 - p) n.toNat)), .long (J (pwF 10 n.toNat))] [] rfl rfl (Nat.le_of_ble_eq_true rfl) (Nat.le_of_ble_eq_true rfl) rfl (sp_3 (h := h709) hG709) (CLd_le (Nat.le_of_ble_eq_true rfl) (ctX3_tellFractionF hSP hG709 (a := (pwF (10 - p) n.toNat)) (b := (pwF 10 n.toNat)) (by omega) (by omega) (by omega) (by omega))) ?_
                rintro v710 h710 ⟨rfl, hG710, hF710, t710, s710⟩
                refine x_iconst 84 hK rfl rfl ?_
                exact x_iret hK rfl ⟨Or.inl ⟨⟨⟨by omega, by omega⟩, ⟨by omega, by omega⟩, by omega, by omega⟩, rfl, (s710).trans (if_neg (by omega)).symm⟩, hG710, ((hF709).mono rfl).trans ((hF710).mono rfl)⟩
              · refine x_aload_n 49 hK rfl rfl rfl ?_
                refine x_getR 52 hK rfl rfl (sp_0 (h := h709) hG709) (rf_0_1 (h := h709) hG709) ?_
                refine x_lconstE 53 1 hK rfl rfl rfl ?_
                refine x_lconstE 54 1 hK rfl rfl rfl ?_
                refine x_callV 57 hK hmono rfl rfl [.ref 3, .long (J 1), .long (J 1)] [] rfl rfl (Nat.le_of_ble_eq_true rfl) (Nat.le_of_ble_eq_true rfl) rfl (sp_3 (h := h709) hG709) (CLd_le (Nat.le_of_ble_eq_true rfl) (ctX3_tellFractionF hSP hG709 (a := 1) (b := 1) (by omega) (by omega) (by omega) (by omega))) ?_
                rintro v711 h711 ⟨rfl, hG711, hF711, t711, s711⟩
                refine x_goto 83 hK rfl rfl ?_
                refine x_iconst 84 hK rfl rfl ?_
                exact x_iret hK rfl ⟨Or.inl ⟨⟨⟨by omega, by omega⟩, ⟨by omega, by omega⟩, by omega, by omega⟩, rfl, (s711).trans (if_pos (by omega)).symm⟩, hG711, ((hF709).mono rfl).trans ((hF711).mono rfl)⟩
            · refine x_iconst 32 hK rfl rfl ?_
              exact x_iret hK rfl ⟨Or.inr ⟨by omega, rfl, rfl⟩, hG, (FRM.rf : FRM gRL [(0, 3, 1, 1), (0, 8, 3, 3), (0, 10, 0, 39), (1, 4, 0, 29)] h h)⟩
set_option maxRecDepth 4000 in
theorem ctX11_chanceW {SP : CT} (hSP : MONO SP) {sh : List (Nat × Nat)} {h : aH} (hG : GD gE gRL sh h) (hX : XI h) (h0 : 0 ≤ gi h 178 0) {n p s9 : Int} (rn : r32 n) (rp : r32 p) (rs : r32 s9) : CLd SP 131 mX11_chance [.ref 171, .int (I n), .int (I p), .int (I s9)] h 0 0 (fun rv h' => ((((1 ≤ n ∧ n ≤ 12) ∧ (0 ≤ p ∧ p ≤ 10) ∧ 0 ≤ s9 ∧ s9 ≤ 12) ∧ rv = some (.int (I 0)) ∧ mrow h' = (if (dlA h (gi h 178 0)) ≤ s9 then frG 1 1 else frG (pwF (10 - p) n.toNat) (pwF 10 n.toNat))) ∨ (¬ ((1 ≤ n ∧ n ≤ 12) ∧ (0 ≤ p ∧ p ≤ 10) ∧ 0 ≤ s9 ∧ s9 ≤ 12) ∧ rv = some (.int (I (-1))) ∧ mrow h' = mrow h)) ∧ GD gE gRL sh h' ∧ FRM gRL [(0, 54, 0, 0), (0, 54, 1, 1), (0, 67, 0, 79), (0, 68, 0, 3), (1, 55, 0, 39)] h h') := by
  refine x_met _ rfl (Nat.le_of_ble_eq_true rfl) (fun K hK => ?_)
  have hmono := MONO_CLd hSP 130
  have g0 := gi_r h 178 0
  have db := dlA_b h (gi h 178 0)
  have loop : ∀ (mz : Nat) (e f k : Int) (h3 : aH) (ls : List (Nat × Value)), ((n - k).toNat = mz) → ((1 ≤ n ∧ n ≤ 12) ∧ (0 ≤ p ∧ p ≤ 10) ∧ 0 ≤ s9 ∧ s9 ≤ 12) → (0 ≤ k ∧ k ≤ n) → ((k = 0 ∧ e = 1 ∧ f = 1) ∨ (s9 < (dlA h (gi h 178 0)) ∧ e = pwF (10 - p) k.toNat ∧ f = pwF 10 k.toNat)) → (gi h3 171 0 = 0) → (mrow h3 = mrow h) → lk ls 0 = some (.ref 171) → lk ls 1 = some (.int (I n)) → lk ls 2 = some (.int (I p)) → lk ls 3 = some (.int (I s9)) → lk ls 4 = some (.long (J e)) → lk ls 6 = some (.long (J f)) → lk ls 8 = some (.int (I k)) → GD gE gRL sh h3 → FRM gRL [(0, 54, 0, 0), (0, 54, 1, 1), (0, 67, 0, 79), (0, 68, 0, 3), (1, 55, 0, 39)] h h3 → K 52 ls [] h3 0 0 := by
    intro mz
    induction mz using Nat.strongRecOn with
    | ind mz ih =>
    intro e f k h3 ls hm n0 k0 ef t3 m3 l0 l1 l2 l3 l4 l6 l8 hG3 hF3
    have ch := ch_ok (n := k) (p := p) (by omega) (by omega)
    have eb : (0 ≤ e ∧ e ≤ 100000000000000) ∧ 1 ≤ f ∧ f ≤ 100000000000000 := by
      rcases ef with ⟨z1, z2, z3⟩ | ⟨z1, z2, z3⟩
      · omega
      · rw [z2, z3]; exact ch.2
    refine x_iload 54 hK rfl rfl l8 ?_
    refine x_iload_n 55 hK rfl rfl l1 ?_
    refine x_if_icmp_ge 96 58 hK rfl rfl rfl (by omega) (by omega) (fun c3 => ?_) (fun c3 => ?_)
    · refine x_aload_n 97 hK rfl rfl l0 ?_
      refine x_lload 99 hK rfl rfl l4 ?_
      refine x_lload 101 hK rfl rfl l6 ?_
      refine x_callV 104 hK hmono rfl rfl [.ref 171, .long (J e), .long (J f)] [] rfl rfl (Nat.le_of_ble_eq_true rfl) (Nat.le_of_ble_eq_true rfl) rfl (sp_171 (h := h3) hG3) (CLd_le (Nat.le_of_ble_eq_true rfl) (ctX11_tellsFractionF hSP hG3 (a := e) (b := f) (by omega) (by omega) (by omega) (by omega))) ?_
      rintro v712 h712 ⟨rfl, hG712, hF712, t712, s712⟩
      refine x_iconst 105 hK rfl rfl ?_
      have ev : frG e f = (if (dlA h (gi h 178 0)) ≤ s9 then frG 1 1 else frG (pwF (10 - p) n.toNat) (pwF 10 n.toNat)) := by
        by_cases z : (dlA h (gi h 178 0)) ≤ s9
        · rw [if_pos z]
          rcases ef with ⟨z1, z2, z3⟩ | ⟨z1, z2, z3⟩
          · rw [z2, z3]
          · omega
        · rw [if_neg z]
          rcases ef with ⟨z1, z2, z3⟩ | ⟨z1, z2, z3⟩
          · omega
          · rw [z2, z3, show k.toNat = n.toNat by omega]
      exact x_iret hK rfl ⟨Or.inl ⟨n0, rfl, (s712).trans ev⟩, hG712, (hF3).trans ((hF712).mono rfl)⟩
    · refine x_iload_n 59 hK rfl rfl l3 ?_
      refine x_aload_n 60 hK rfl rfl l0 ?_
      refine x_aload_n 61 hK rfl rfl l0 ?_
      refine x_getR 64 hK rfl rfl (sp_171 (h := h3) hG3) (rf_171_14 (h := h3) hG3) ?_
      refine x_iconst 65 hK rfl rfl ?_
      have g713 := gi_r h 178 0
      refine x_ialoadE 66 hK rfl rfl (sp_178 (h := h3) hG3) (by omega) (by omega) (by omega) (e' := (gi h 178 0)) ((FRM_gi hF3 (r := 61) rfl rfl)) ?_
      have hXp : XI h3 := (xOk_ok rfl _ h3 hF3 hX)
      have ed : dlA h3 (gi h 178 0) = (dlA h (gi h 178 0)) := dlA_F hF3 rfl _
      refine x_callV 69 hK hmono rfl rfl [.ref 171, .int (I (gi h 178 0))] [.int (I s9)] rfl rfl (Nat.le_of_ble_eq_true rfl) (Nat.le_of_ble_eq_true rfl) rfl (sp_171 (h := h3) hG3) (CLd_le (Nat.le_of_ble_eq_true rfl) (ctX11_delayAtF hSP hG3 hXp (t := gi h 178 0) (by omega))) ?_
      rw [ed]
      rintro v714 h714 ⟨rfl, hG714, hF714⟩
      refine x_if_icmp_ge 96 72 hK rfl rfl rfl (by omega) (by omega) (fun c17 => ?_) (fun c17 => ?_)
      · refine x_aload_n 97 hK rfl rfl l0 ?_
        refine x_lload 99 hK rfl rfl l4 ?_
        refine x_lload 101 hK rfl rfl l6 ?_
        refine x_callV 104 hK hmono rfl rfl [.ref 171, .long (J e), .long (J f)] [] rfl rfl (Nat.le_of_ble_eq_true rfl) (Nat.le_of_ble_eq_true rfl) rfl (sp_171 (h := h714) hG714) (CLd_le (Nat.le_of_ble_eq_true rfl) (ctX11_tellsFractionF hSP hG714 (a := e) (b := f) (by omega) (by omega) (by omega) (by omega))) ?_
        rintro v715 h715 ⟨rfl, hG715, hF715, t715, s715⟩
        refine x_iconst 105 hK rfl rfl ?_
        have ev : frG e f = (if (dlA h (gi h 178 0)) ≤ s9 then frG 1 1 else frG (pwF (10 - p) n.toNat) (pwF 10 n.toNat)) := by
          by_cases z : (dlA h (gi h 178 0)) ≤ s9
          · rw [if_pos z]
            rcases ef with ⟨z1, z2, z3⟩ | ⟨z1, z2, z3⟩
            · rw [z2, z3]
            · omega
          · rw [if_neg z]
            rcases ef with ⟨z1, z2, z3⟩ | ⟨z1, z2, z3⟩
            · omega
            · rw [z2, z3, show k.toNat = n.toNat by omega]
        exact x_iret hK rfl ⟨Or.inl ⟨n0, rfl, (s715).trans ev⟩, hG715, ((hF3).trans ((hF714).mono rfl)).trans ((hF715).mono rfl)⟩
      · refine x_lload 74 hK rfl rfl l4 ?_
        refine x_bipush 76 hK rfl rfl rfl ?_
        refine x_iload_n 77 hK rfl rfl l2 ?_
        refine x_isub 78 hK rfl rfl ?_
        refine x_i2l 79 hK rfl rfl (by omega) ?_
        refine x_lmul 80 hK rfl rfl ?_
        refine x_lstore 82 hK rfl rfl _ rfl ?_
        refine x_lload 84 hK rfl rfl (lk2_n l6 (by decide) (by decide) (Or.inr (by decide))) ?_
        refine x_ldc2_w 87 hK rfl rfl ?_
        refine x_lmul 88 hK rfl rfl ?_
        refine x_lstore 90 hK rfl rfl _ rfl ?_
        refine x_iinc 93 hK rfl rfl (lk2_n (lk2_n l8 (by decide) (by decide) (Or.inl rfl)) (by decide) (by decide) (Or.inl rfl)) _ rfl ?_
        refine x_goto 52 hK rfl rfl ?_
        exact ih _ (by omega) (e * (10 - p)) (f * 10) (k + 1) _ _ rfl (n0) (by omega) (by
          refine Or.inr ⟨by omega, ?_, ?_⟩
          · rw [pwF_s k0.1]
            rcases ef with ⟨z1, z2, z3⟩ | ⟨z1, z2, z3⟩
            · rw [z1, z2]; rfl
            · rw [z2]
          · rw [pwF_s k0.1]
            rcases ef with ⟨z1, z2, z3⟩ | ⟨z1, z2, z3⟩
            · rw [z1, z3]; rfl
            · rw [z3]) ((FRM_gi hF714 (r := 54) rfl rfl).trans (t3)) ((mrow_F hF714 rfl rfl).trans (m3)) (lk1_n (lk2_n (lk2_n l0 (by decide) (by decide) (Or.inl rfl)) (by decide) (by decide) (Or.inl rfl)) (by decide) (Or.inl rfl)) (lk1_n (lk2_n (lk2_n l1 (by decide) (by decide) (Or.inl rfl)) (by decide) (by decide) (Or.inl rfl)) (by decide) (Or.inl rfl)) (lk1_n (lk2_n (lk2_n l2 (by decide) (by decide) (Or.inl rfl)) (by decide) (by decide) (Or.inl rfl)) (by decide) (Or.inl rfl)) (lk1_n (lk2_n (lk2_n l3 (by decide) (by decide) (Or.inl rfl)) (by decide) (by decide) (Or.inl rfl)) (by decide) (Or.inl rfl)) (lk1_n (lk2_n lk2_s (by decide) (by decide) (Or.inr (by decide))) (by decide) (Or.inr (by decide))) (lk1_n lk2_s (by decide) (Or.inr (by decide))) lk1_s (hG714) ((hF3).trans ((hF714).mono rfl))
  refine x_aload_n 1 hK rfl rfl rfl ?_
  refine x_iconst 2 hK rfl rfl ?_
  refine x_putI 5 hK rfl rfl (sp_171 (h := h) hG) ?_
  refine x_iload_n 6 hK rfl rfl rfl ?_
  refine x_i2l 7 hK rfl rfl (by omega) ?_
  refine x_lconstE 8 1 hK rfl rfl rfl ?_
  refine x_ldc2_w 11 hK rfl rfl ?_
  have hGp716 : GD gE gRL sh (wI h 171 0 0) := GD_w1 (hG) (r := 54) rfl (by omega) rfl (by omega) (by omega)
  refine x_callS 14 hK hmono rfl (Or.inl rfl) rfl [.long (J n), .long (J 1), .long (J 12)] [] rfl rfl (Nat.le_of_ble_eq_true rfl) (Nat.le_of_ble_eq_true rfl) (CLd_le (Nat.le_of_ble_eq_true rfl) (ctX11_in (by omega) (by omega) (by omega))) ?_
  rintro v9 h9 ⟨e9, ⟨rfl, i1717, i2717⟩ | ⟨rfl, i1717⟩⟩ <;> rw [e9] <;> clear e9
  · refine x_if_eq 41 17 hK rfl rfl rfl (by omega) (fun c => by omega) (fun _ => ?_)
    refine x_iload_n 18 hK rfl rfl rfl ?_
    refine x_i2l 19 hK rfl rfl (by omega) ?_
    refine x_lconstE 20 0 hK rfl rfl rfl ?_
    refine x_ldc2_w 23 hK rfl rfl ?_
    have hGp718 : GD gE gRL sh (wI h 171 0 0) := GD_w1 (hG) (r := 54) rfl (by omega) rfl (by omega) (by omega)
    refine x_callS 26 hK hmono rfl (Or.inl rfl) rfl [.long (J p), .long (J 0), .long (J 10)] [] rfl rfl (Nat.le_of_ble_eq_true rfl) (Nat.le_of_ble_eq_true rfl) (CLd_le (Nat.le_of_ble_eq_true rfl) (ctX11_in (by omega) (by omega) (by omega))) ?_
    rintro v9 h9 ⟨e9, ⟨rfl, i1719, i2719⟩ | ⟨rfl, i1719⟩⟩ <;> rw [e9] <;> clear e9
    · refine x_if_eq 41 29 hK rfl rfl rfl (by omega) (fun c => by omega) (fun _ => ?_)
      refine x_iload_n 30 hK rfl rfl rfl ?_
      refine x_i2l 31 hK rfl rfl (by omega) ?_
      refine x_lconstE 32 0 hK rfl rfl rfl ?_
      refine x_ldc2_w 35 hK rfl rfl ?_
      have hGp720 : GD gE gRL sh (wI h 171 0 0) := GD_w1 (hG) (r := 54) rfl (by omega) rfl (by omega) (by omega)
      refine x_callS 38 hK hmono rfl (Or.inl rfl) rfl [.long (J s9), .long (J 0), .long (J 12)] [] rfl rfl (Nat.le_of_ble_eq_true rfl) (Nat.le_of_ble_eq_true rfl) (CLd_le (Nat.le_of_ble_eq_true rfl) (ctX11_in (by omega) (by omega) (by omega))) ?_
      rintro v9 h9 ⟨e9, ⟨rfl, i1721, i2721⟩ | ⟨rfl, i1721⟩⟩ <;> rw [e9] <;> clear e9
      · refine x_if_ne 43 41 hK rfl rfl rfl (by omega) (fun _ => ?_) (fun c => by omega)
        refine x_lconstE 44 1 hK rfl rfl rfl ?_
        refine x_lstore 46 hK rfl rfl [(4, .long (J 1)), (0, .ref 171), (1, .int (I n)), (2, .int (I p)), (3, .int (I s9))] rfl ?_
        refine x_lconstE 47 1 hK rfl rfl rfl ?_
        refine x_lstore 49 hK rfl rfl [(6, .long (J 1)), (4, .long (J 1)), (0, .ref 171), (1, .int (I n)), (2, .int (I p)), (3, .int (I s9))] rfl ?_
        refine x_iconst 50 hK rfl rfl ?_
        refine x_istore 52 hK rfl rfl [(8, .int (I 0)), (6, .long (J 1)), (4, .long (J 1)), (0, .ref 171), (1, .int (I n)), (2, .int (I p)), (3, .int (I s9))] rfl ?_
        exact loop _ 1 1 0 _ _ rfl (⟨⟨by omega, by omega⟩, ⟨by omega, by omega⟩, by omega, by omega⟩) (by omega) (Or.inl ⟨rfl, rfl, rfl⟩) (gi_same (by omega)) (mrow_k (by decide)) rfl rfl rfl rfl rfl rfl rfl (GD_w1 (hG) (r := 54) rfl (by omega) rfl (by omega) (by omega)) (FRM_w ((FRM.rf : FRM gRL [(0, 54, 0, 0), (0, 54, 1, 1), (0, 67, 0, 79), (0, 68, 0, 3), (1, 55, 0, 39)] h h)) (r := 54) rfl rfl)
      · refine x_if_ne 43 41 hK rfl rfl rfl (by omega) (fun c => by omega) (fun _ => ?_)
        refine x_iconst 42 hK rfl rfl ?_
        exact x_iret hK rfl ⟨Or.inr ⟨by omega, rfl, mrow_k (by decide)⟩, GD_w1 (hG) (r := 54) rfl (by omega) rfl (by omega) (by omega), FRM_w ((FRM.rf : FRM gRL [(0, 54, 0, 0), (0, 54, 1, 1), (0, 67, 0, 79), (0, 68, 0, 3), (1, 55, 0, 39)] h h)) (r := 54) rfl rfl⟩
    · refine x_if_eq 41 29 hK rfl rfl rfl (by omega) (fun _ => ?_) (fun c => by omega)
      refine x_iconst 42 hK rfl rfl ?_
      exact x_iret hK rfl ⟨Or.inr ⟨by omega, rfl, mrow_k (by decide)⟩, GD_w1 (hG) (r := 54) rfl (by omega) rfl (by omega) (by omega), FRM_w ((FRM.rf : FRM gRL [(0, 54, 0, 0), (0, 54, 1, 1), (0, 67, 0, 79), (0, 68, 0, 3), (1, 55, 0, 39)] h h)) (r := 54) rfl rfl⟩
  · refine x_if_eq 41 17 hK rfl rfl rfl (by omega) (fun _ => ?_) (fun c => by omega)
    refine x_iconst 42 hK rfl rfl ?_
    exact x_iret hK rfl ⟨Or.inr ⟨by omega, rfl, mrow_k (by decide)⟩, GD_w1 (hG) (r := 54) rfl (by omega) rfl (by omega) (by omega), FRM_w ((FRM.rf : FRM gRL [(0, 54, 0, 0), (0, 54, 1, 1), (0, 67, 0, 79), (0, 68, 0, 3), (1, 55, 0, 39)] h h)) (r := 54) rfl rfl⟩
set_option maxRecDepth 4000 in
theorem ctX10_comesW {SP : CT} (hSP : MONO SP) {sh : List (Nat × Nat)} {h : aH} (hG : GD gE gRL sh h) {s u : Nat} (hP : PT h) (hX : XI h) (hD : DR h s u) (h0 : 0 ≤ gi h 23 0) {n : Int} (rn : r32 n) : CLd SP 7 mX10_comes [.ref 0, .int (I n)] h 0 0 (fun rv h' => ((¬ (0 ≤ n ∧ n ≤ 12) ∧ rv = some (.int (I (-1))) ∧ crow h' = crow h) ∨ ((0 ≤ n ∧ n ≤ 12) ∧ rv = some (.int (I (if (dlA h (gi h 23 0)) ≤ n then (gi h 171 3) - 1 else (((gi h 171 3) - 1) * n) / (dlA h (gi h 23 0))))) ∧ ∃ i : Nat, (i : Int) ≤ gi h 171 4 ∧ ((i : Int) < gi h 171 4 → (if (dlA h (gi h 23 0)) ≤ n then (gi h 171 3) - 1 else (((gi h 171 3) - 1) * n) / (dlA h (gi h 23 0))) < gi h (s + 1) i) ∧ crow h' = [cntP (gi h (s + 1)) (if (dlA h (gi h 23 0)) ≤ n then (gi h 171 3) - 1 else (((gi h 171 3) - 1) * n) / (dlA h (gi h 23 0))) i, lieP (gi h (s + 1)) (gi h (s + 2)) (if (dlA h (gi h 23 0)) ≤ n then (gi h 171 3) - 1 else (((gi h 171 3) - 1) * n) / (dlA h (gi h 23 0))) i % 2])) ∧ GD gE gRL sh h' ∧ FRM gRL [(0, 3, 1, 1), (0, 8, 3, 3), (0, 10, 0, 39), (1, 4, 0, 29)] h h') := by
  refine x_met _ rfl (Nat.le_of_ble_eq_true rfl) (fun K hK => ?_)
  have hmono := MONO_CLd hSP 6
  have hD2 := hD
  obtain ⟨h5, hu, pS, pL, ⟨c0, c1, c2⟩, r0, r1, r2⟩ := hD2
  have g3 := gri 2 40 hG (a := 171) (r := 54) (k := 3) rfl rfl
  have g4 := gri 0 10 hG (a := 171) (r := 54) (k := 4) rfl rfl
  have g0 := gi_r h 23 0
  have db := dlA_b h (gi h 23 0)
  have cm := fun z : 0 ≤ n ∧ n ≤ 12 => cm_b (S := gi h 171 3) (n := n) (d := dlA h (gi h 23 0)) g3 z db
  obtain ⟨vV, hV⟩ : ∃ vV : Int, (if (dlA h (gi h 23 0)) ≤ n then (gi h 171 3) - 1 else (((gi h 171 3) - 1) * n) / (dlA h (gi h 23 0))) = vV := ⟨_, rfl⟩
  rw [hV] at hK
  have loop : ∀ (mz : Nat) (c p l i : Int) (h4 : aH) (ls : List (Nat × Value)), ((11 - i).toNat = mz) → (0 ≤ n ∧ n ≤ 12) → (c = vV) → (0 ≤ c ∧ c ≤ 468) → (0 ≤ i ∧ i ≤ gi h 171 4) → (p = cntP (gi h (s + 1)) vV i.toNat) → (l = lieP (gi h (s + 1)) (gi h (s + 2)) vV i.toNat) → lk ls 0 = some (.ref 0) → lk ls 1 = some (.int (I n)) → lk ls 4 = some (.int (I c)) → lk ls 5 = some (.int (I p)) → lk ls 6 = some (.int (I l)) → lk ls 7 = some (.int (I i)) → GD gE gRL sh h4 → FRM gRL [(0, 8, 3, 3), (0, 10, 0, 39)] h h4 → K 59 ls [] h4 0 0 := by
    intro mz
    induction mz using Nat.strongRecOn with
    | ind mz ih =>
    intro c p l i h4 ls hm n0 c0 cr i0 p0 l0_ l0 l1 l4 l5 l6 l7 hG4 hF4
    have s1 : gi h4 s 1 = gi h 171 4 := (FRM_gi hF4 (r := 5) (ss_r h5).1 rfl).trans c1
    have gz := fun z : i < 10 => grn 0 1 hG (a := s + 2) (r := 7) (k := i.toNat) (ss_r h5).2.2 rfl (by omega)
    have pb := cntP_b (g := gi h (s + 1)) (c := vV) i.toNat
    have lb9 := lieP_b (g := gi h (s + 1)) (f := gi h (s + 2)) (c := vV) i.toNat
    refine x_iload 61 hK rfl rfl l7 ?_
    refine x_aload_n 62 hK rfl rfl l0 ?_
    refine x_getR 65 hK rfl rfl (sp_0 (h := h4) hG4) ((FRM_aR hF4 (r := 0) rfl rfl).trans (pS)) ?_
    have g722 := gri (0) (10) hG (a := 171) (r := 54) (k := 4) rfl rfl
    refine x_getE 68 hK rfl (Or.inl rfl) rfl (shx (h := h4) hG4 (r := 5) (ss_r h5).1 rfl) (e := (gi h 171 4)) (s1) ?_
    refine x_if_icmp_ge 110 71 hK rfl rfl rfl (by omega) (by omega) (fun c5 => ?_) (fun c5 => ?_)
    · refine x_aload_n 111 hK rfl rfl l0 ?_
      refine x_getR 114 hK rfl rfl (sp_0 (h := h4) hG4) (rf_0_1 (h := h4) hG4) ?_
      refine x_iload 116 hK rfl rfl l5 ?_
      refine x_i2l 117 hK rfl rfl (by omega) ?_
      refine x_iload 119 hK rfl rfl l6 ?_
      refine x_iconst 120 hK rfl rfl ?_
      refine x_iremp 121 hK rfl rfl (by omega) (by omega) (by omega) (by omega) ?_
      refine x_i2l 122 hK rfl rfl (by omega) ?_
      refine x_callV 125 hK hmono rfl rfl [.ref 3, .long (J p), .long (J (l % 2))] [] rfl rfl (Nat.le_of_ble_eq_true rfl) (Nat.le_of_ble_eq_true rfl) rfl (sp_3 (h := h4) hG4) (CLd_le (Nat.le_of_ble_eq_true rfl) (ctX3_tellTwo hSP hG4 (by omega) (by omega))) ?_
      rintro v723 h723 ⟨rfl, hG723, hF723, t723, s723⟩
      refine x_iload 127 hK rfl rfl l4 ?_
      have er : [p, (l % 2)] = [cntP (gi h (s + 1)) vV i.toNat, lieP (gi h (s + 1)) (gi h (s + 2)) vV i.toNat % 2] := by rw [p0, l0_]
      exact x_iret hK rfl ⟨Or.inr ⟨n0, by rw [c0], i.toNat, by omega, fun z => by omega, (s723).trans er⟩, hG723, ((hF4).mono rfl).trans ((hF723).mono rfl)⟩
    · have gz2 := gz (by omega)
      have ga2 := gi_r h (s + 1) i.toNat
      refine x_aload_n 72 hK rfl rfl l0 ?_
      refine x_getR 75 hK rfl rfl (sp_0 (h := h4) hG4) ((FRM_aR hF4 (r := 0) rfl rfl).trans (pS)) ?_
      refine x_getR 78 hK rfl rfl (shx (h := h4) hG4 (r := 5) (ss_r h5).1 rfl) (ss_p (show PT h4 from (PT_F hF4 (by decide) hP)) h5).1 ?_
      refine x_iload 80 hK rfl rfl l7 ?_
      refine x_ialoadE 81 hK rfl rfl (shx (h := h4) hG4 (r := 6) (ss_r h5).2.1 rfl) (by omega) (by omega) (by omega) (e' := (gi h (s + 1) i.toNat)) (FRM_gi hF4 (r := 6) (ss_r h5).2.1 rfl) ?_
      refine x_iload 83 hK rfl rfl l4 ?_
      refine x_if_icmp_gt 110 86 hK rfl rfl rfl (by omega) (by omega) (fun c24 => ?_) (fun c24 => ?_)
      · refine x_aload_n 111 hK rfl rfl l0 ?_
        refine x_getR 114 hK rfl rfl (sp_0 (h := h4) hG4) (rf_0_1 (h := h4) hG4) ?_
        refine x_iload 116 hK rfl rfl l5 ?_
        refine x_i2l 117 hK rfl rfl (by omega) ?_
        refine x_iload 119 hK rfl rfl l6 ?_
        refine x_iconst 120 hK rfl rfl ?_
        refine x_iremp 121 hK rfl rfl (by omega) (by omega) (by omega) (by omega) ?_
        refine x_i2l 122 hK rfl rfl (by omega) ?_
        refine x_callV 125 hK hmono rfl rfl [.ref 3, .long (J p), .long (J (l % 2))] [] rfl rfl (Nat.le_of_ble_eq_true rfl) (Nat.le_of_ble_eq_true rfl) rfl (sp_3 (h := h4) hG4) (CLd_le (Nat.le_of_ble_eq_true rfl) (ctX3_tellTwo hSP hG4 (by omega) (by omega))) ?_
        rintro v724 h724 ⟨rfl, hG724, hF724, t724, s724⟩
        refine x_iload 127 hK rfl rfl l4 ?_
        have er : [p, (l % 2)] = [cntP (gi h (s + 1)) vV i.toNat, lieP (gi h (s + 1)) (gi h (s + 2)) vV i.toNat % 2] := by rw [p0, l0_]
        exact x_iret hK rfl ⟨Or.inr ⟨n0, by rw [c0], i.toNat, by omega, fun z => by omega, (s724).trans er⟩, hG724, ((hF4).mono rfl).trans ((hF724).mono rfl)⟩
      · refine x_iinc 89 hK rfl rfl l5 _ rfl ?_
        refine x_iload 91 hK rfl rfl (lk1_n l6 (by decide) (Or.inl rfl)) ?_
        refine x_aload_n 92 hK rfl rfl (lk1_n l0 (by decide) (Or.inl rfl)) ?_
        refine x_getR 95 hK rfl rfl (sp_0 (h := h4) hG4) ((FRM_aR hF4 (r := 0) rfl rfl).trans (pS)) ?_
        refine x_getR 98 hK rfl rfl (shx (h := h4) hG4 (r := 5) (ss_r h5).1 rfl) (ss_p (show PT h4 from (PT_F hF4 (by decide) hP)) h5).2 ?_
        refine x_iload 100 hK rfl rfl (lk1_n l7 (by decide) (Or.inl rfl)) ?_
        refine x_ialoadE 101 hK rfl rfl (shx (h := h4) hG4 (r := 7) (ss_r h5).2.2 rfl) (by omega) (by omega) (by omega) (e' := (gi h (s + 2) i.toNat)) (FRM_gi hF4 (r := 7) (ss_r h5).2.2 rfl) ?_
        refine x_iadd 102 hK rfl rfl ?_
        refine x_istore 104 hK rfl rfl _ rfl ?_
        refine x_iinc 107 hK rfl rfl (lk1_n (lk1_n l7 (by decide) (Or.inl rfl)) (by decide) (Or.inl rfl)) _ rfl ?_
        refine x_goto 59 hK rfl rfl ?_
        exact ih _ (by omega) c (p + 1) (l + (gi h (s + 2) i.toNat)) (i + 1) _ _ rfl (n0) (c0) (cr) (by omega) (by rw [cntP_s i0.1, if_pos (by omega), ← p0]) (by
          rw [lieP_s i0.1, ← l0_]
          by_cases z : gi h (s + 2) i.toNat = 1
          · rw [if_pos ⟨by omega, z⟩, z]
          · rw [if_neg (fun y => z y.2), show gi h (s + 2) i.toNat = 0 by omega]) (lk1_n (lk1_n (lk1_n l0 (by decide) (Or.inl rfl)) (by decide) (Or.inl rfl)) (by decide) (Or.inl rfl)) (lk1_n (lk1_n (lk1_n l1 (by decide) (Or.inl rfl)) (by decide) (Or.inl rfl)) (by decide) (Or.inl rfl)) (lk1_n (lk1_n (lk1_n l4 (by decide) (Or.inl rfl)) (by decide) (Or.inl rfl)) (by decide) (Or.inl rfl)) (lk1_n (lk1_n lk1_s (by decide) (Or.inl rfl)) (by decide) (Or.inl rfl)) (lk1_n lk1_s (by decide) (Or.inl rfl)) lk1_s (hG4) (hF4)
  refine x_iload_n 1 hK rfl rfl rfl ?_
  refine x_if_lt 10 4 hK rfl rfl rfl (by omega) (fun c2 => ?_) (fun c2 => ?_)
  · refine x_iconst 11 hK rfl rfl ?_
    exact x_iret hK rfl ⟨Or.inl ⟨by omega, rfl, rfl⟩, hG, FRM.rf⟩
  · refine x_iload_n 5 hK rfl rfl rfl ?_
    refine x_bipush 7 hK rfl rfl rfl ?_
    refine x_if_icmp_le 12 10 hK rfl rfl rfl (by omega) (by omega) (fun c7 => ?_) (fun c7 => ?_)
    · refine x_aload_n 13 hK rfl rfl rfl ?_
      refine x_getR 16 hK rfl rfl (sp_0 (h := h) hG) (pS) ?_
      have g725 := gri (2) (40) hG (a := 171) (r := 54) (k := 3) rfl rfl
      refine x_getE 19 hK rfl (Or.inl rfl) rfl (shx (h := h) hG (r := 5) (ss_r h5).1 rfl) (e := (gi h 171 3)) (c0) ?_
      refine x_iconst 20 hK rfl rfl ?_
      refine x_isub 21 hK rfl rfl ?_
      refine x_istore_n 22 hK rfl rfl [(2, .int (I ((gi h 171 3) - 1))), (0, .ref 0), (1, .int (I n))] rfl ?_
      refine x_aload_n 23 hK rfl rfl rfl ?_
      refine x_aload_n 24 hK rfl rfl rfl ?_
      refine x_getR 27 hK rfl rfl (sp_0 (h := h) hG) (rf_0_10 (h := h) hG) ?_
      have g726 := gi_r h 23 0
      refine x_getE 30 hK rfl (Or.inl rfl) rfl (sp_23 (h := h) hG) (e := (gi h 23 0)) (rfl) ?_
      have cmn := cm (by omega)
      refine x_callV 33 hK hmono rfl rfl [.ref 0, .int (I (gi h 23 0))] [] rfl rfl (Nat.le_of_ble_eq_true rfl) (Nat.le_of_ble_eq_true rfl) rfl (sp_0 (h := h) hG) (CLd_le (Nat.le_of_ble_eq_true rfl) (ctX10_delayA hSP hG hP hX hD (t := gi h 23 0) (by omega))) ?_
      rintro v727 h727 ⟨rfl, hG727, hF727⟩
      refine x_istore_n 34 hK rfl rfl [(3, .int (I (dlA h (gi h 23 0)))), (2, .int (I ((gi h 171 3) - 1))), (0, .ref 0), (1, .int (I n))] rfl ?_
      refine x_iload_n 35 hK rfl rfl rfl ?_
      refine x_iload_n 36 hK rfl rfl rfl ?_
      refine x_if_icmp_lt 43 39 hK rfl rfl rfl (by omega) (by omega) (fun c22 => ?_) (fun c22 => ?_)
      · refine x_iload_n 44 hK rfl rfl rfl ?_
        refine x_iload_n 45 hK rfl rfl rfl ?_
        refine x_imul 46 hK rfl rfl ?_
        refine x_iload_n 47 hK rfl rfl rfl ?_
        refine x_idivp 48 hK rfl rfl (by omega) (by omega) (by omega) (by omega) ?_
        refine x_istore 50 hK rfl rfl [(4, .int (I ((((gi h 171 3) - 1) * n) / (dlA h (gi h 23 0))))), (3, .int (I (dlA h (gi h 23 0)))), (2, .int (I ((gi h 171 3) - 1))), (0, .ref 0), (1, .int (I n))] rfl ?_
        refine x_iconst 51 hK rfl rfl ?_
        refine x_istore 53 hK rfl rfl [(5, .int (I 0)), (4, .int (I ((((gi h 171 3) - 1) * n) / (dlA h (gi h 23 0))))), (3, .int (I (dlA h (gi h 23 0)))), (2, .int (I ((gi h 171 3) - 1))), (0, .ref 0), (1, .int (I n))] rfl ?_
        refine x_iconst 54 hK rfl rfl ?_
        refine x_istore 56 hK rfl rfl [(6, .int (I 0)), (5, .int (I 0)), (4, .int (I ((((gi h 171 3) - 1) * n) / (dlA h (gi h 23 0))))), (3, .int (I (dlA h (gi h 23 0)))), (2, .int (I ((gi h 171 3) - 1))), (0, .ref 0), (1, .int (I n))] rfl ?_
        refine x_iconst 57 hK rfl rfl ?_
        refine x_istore 59 hK rfl rfl [(7, .int (I 0)), (6, .int (I 0)), (5, .int (I 0)), (4, .int (I ((((gi h 171 3) - 1) * n) / (dlA h (gi h 23 0))))), (3, .int (I (dlA h (gi h 23 0)))), (2, .int (I ((gi h 171 3) - 1))), (0, .ref 0), (1, .int (I n))] rfl ?_
        have ev : ((((gi h 171 3) - 1) * n) / (dlA h (gi h 23 0))) = (if (dlA h (gi h 23 0)) ≤ n then (gi h 171 3) - 1 else (((gi h 171 3) - 1) * n) / (dlA h (gi h 23 0))) := by first | (rw [if_pos (by omega)]; done) | (rw [if_neg (by omega)]; done)
        exact loop _ ((((gi h 171 3) - 1) * n) / (dlA h (gi h 23 0))) 0 0 0 _ _ rfl (⟨by omega, by omega⟩) (ev.trans hV) (by omega) (by omega) (rfl) (rfl) rfl rfl rfl rfl rfl rfl (hG727) (hF727)
      · refine x_iload_n 40 hK rfl rfl rfl ?_
        refine x_goto 48 hK rfl rfl ?_
        refine x_istore 50 hK rfl rfl [(4, .int (I ((gi h 171 3) - 1))), (3, .int (I (dlA h (gi h 23 0)))), (2, .int (I ((gi h 171 3) - 1))), (0, .ref 0), (1, .int (I n))] rfl ?_
        refine x_iconst 51 hK rfl rfl ?_
        refine x_istore 53 hK rfl rfl [(5, .int (I 0)), (4, .int (I ((gi h 171 3) - 1))), (3, .int (I (dlA h (gi h 23 0)))), (2, .int (I ((gi h 171 3) - 1))), (0, .ref 0), (1, .int (I n))] rfl ?_
        refine x_iconst 54 hK rfl rfl ?_
        refine x_istore 56 hK rfl rfl [(6, .int (I 0)), (5, .int (I 0)), (4, .int (I ((gi h 171 3) - 1))), (3, .int (I (dlA h (gi h 23 0)))), (2, .int (I ((gi h 171 3) - 1))), (0, .ref 0), (1, .int (I n))] rfl ?_
        refine x_iconst 57 hK rfl rfl ?_
        refine x_istore 59 hK rfl rfl [(7, .int (I 0)), (6, .int (I 0)), (5, .int (I 0)), (4, .int (I ((gi h 171 3) - 1))), (3, .int (I (dlA h (gi h 23 0)))), (2, .int (I ((gi h 171 3) - 1))), (0, .ref 0), (1, .int (I n))] rfl ?_
        have ev : ((gi h 171 3) - 1) = (if (dlA h (gi h 23 0)) ≤ n then (gi h 171 3) - 1 else (((gi h 171 3) - 1) * n) / (dlA h (gi h 23 0))) := by first | (rw [if_pos (by omega)]; done) | (rw [if_neg (by omega)]; done)
        exact loop _ ((gi h 171 3) - 1) 0 0 0 _ _ rfl (⟨by omega, by omega⟩) (ev.trans hV) (by omega) (by omega) (rfl) (rfl) rfl rfl rfl rfl rfl rfl (hG727) (hF727)
    · refine x_iconst 11 hK rfl rfl ?_
      exact x_iret hK rfl ⟨Or.inl ⟨by omega, rfl, rfl⟩, hG, FRM.rf⟩
set_option maxRecDepth 4000 in
theorem ctX11_comesW {SP : CT} (hSP : MONO SP) {sh : List (Nat × Nat)} {h : aH} (hG : GD gE gRL sh h) (hX : XI h) (h0 : 0 ≤ gi h 178 0) {n : Int} (rn : r32 n) : CLd SP 7 mX11_comes [.ref 171, .int (I n)] h 0 0 (fun rv h' => ((¬ (0 ≤ n ∧ n ≤ 12) ∧ rv = some (.int (I (-1))) ∧ mrow h' = mrow h) ∨ ((0 ≤ n ∧ n ≤ 12) ∧ rv = some (.int (I (if (dlA h (gi h 178 0)) ≤ n then (gi h 171 3) - 1 else (((gi h 171 3) - 1) * n) / (dlA h (gi h 178 0))))) ∧ mrow h' = [cntP (gi h 173) (if (dlA h (gi h 178 0)) ≤ n then (gi h 171 3) - 1 else (((gi h 171 3) - 1) * n) / (dlA h (gi h 178 0))) (gi h 171 4).toNat, lieP (gi h 173) (gi h 174) (if (dlA h (gi h 178 0)) ≤ n then (gi h 171 3) - 1 else (((gi h 171 3) - 1) * n) / (dlA h (gi h 178 0))) (gi h 171 4).toNat % 2])) ∧ GD gE gRL sh h' ∧ FRM gRL [(0, 54, 0, 0), (0, 54, 1, 1), (0, 67, 0, 79), (0, 68, 0, 3), (1, 55, 0, 39)] h h') := by
  refine x_met _ rfl (Nat.le_of_ble_eq_true rfl) (fun K hK => ?_)
  have hmono := MONO_CLd hSP 6
  have g3 := gri 2 40 hG (a := 171) (r := 54) (k := 3) rfl rfl
  have g4 := gri 0 10 hG (a := 171) (r := 54) (k := 4) rfl rfl
  have g0 := gi_r h 178 0
  have db := dlA_b h (gi h 178 0)
  have cm := fun z : 0 ≤ n ∧ n ≤ 12 => cm_b (S := gi h 171 3) (n := n) (d := dlA h (gi h 178 0)) g3 z db
  obtain ⟨vV, hV⟩ : ∃ vV : Int, (if (dlA h (gi h 178 0)) ≤ n then (gi h 171 3) - 1 else (((gi h 171 3) - 1) * n) / (dlA h (gi h 178 0))) = vV := ⟨_, rfl⟩
  rw [hV] at hK
  have loop : ∀ (mz : Nat) (c p l i : Int) (h4 : aH) (ls : List (Nat × Value)), ((11 - i).toNat = mz) → (0 ≤ n ∧ n ≤ 12) → (c = vV) → (0 ≤ c ∧ c ≤ 468) → (0 ≤ i ∧ i ≤ gi h 171 4) → (p = cntP (gi h 173) vV i.toNat) → (l = lieP (gi h 173) (gi h 174) vV i.toNat) → (mrow h4 = mrow h) → lk ls 0 = some (.ref 171) → lk ls 1 = some (.int (I n)) → lk ls 2 = some (.int (I c)) → lk ls 3 = some (.int (I p)) → lk ls 4 = some (.int (I l)) → lk ls 5 = some (.int (I i)) → GD gE gRL sh h4 → FRM gRL [(0, 54, 0, 0), (0, 54, 1, 1), (0, 67, 0, 79), (0, 68, 0, 3), (1, 55, 0, 39)] h h4 → K 56 ls [] h4 0 0 := by
    intro mz
    induction mz using Nat.strongRecOn with
    | ind mz ih =>
    intro c p l i h4 ls hm n0 c0 cr i0 p0 l0_ m4 l0 l1 l2 l3 l4 l5 hG4 hF4
    have s1 : gi h4 171 4 = gi h 171 4 := FRM_gi hF4 (r := 54) rfl (by decide)
    have pb := cntP_b (g := gi h 173) (c := vV) i.toNat
    have lb9 := lieP_b (g := gi h 173) (f := gi h 174) (c := vV) i.toNat
    refine x_iload 58 hK rfl rfl l5 ?_
    refine x_aload_n 59 hK rfl rfl l0 ?_
    have g728 := gri (0) (10) hG (a := 171) (r := 54) (k := 4) rfl rfl
    refine x_getE 62 hK rfl (Or.inl rfl) rfl (sp_171 (h := h4) hG4) (e := (gi h 171 4)) (s1) ?_
    refine x_if_icmp_ge 127 65 hK rfl rfl rfl (by omega) (by omega) (fun c4 => ?_) (fun c4 => ?_)
    · refine x_aload_n 128 hK rfl rfl l0 ?_
      refine x_iconst 129 hK rfl rfl ?_
      refine x_putI 132 hK rfl rfl (sp_171 (h := h4) hG4) ?_
      refine x_aload_n 133 hK rfl rfl l0 ?_
      refine x_iload_n 134 hK rfl rfl l3 ?_
      refine x_i2l 135 hK rfl rfl (by omega) ?_
      have hGp729 : GD gE gRL sh (wI h4 171 1 0) := GD_w1 (hG4) (r := 54) rfl (by omega) rfl (by omega) (by omega)
      have z731 : gi (wI h4 171 1 0) 171 1 = 0 := gi_same (by omega)
      have z731r : mrow (wI h4 171 1 0) = [] := mrow_0 (gi_same (by omega))
      refine x_callV 138 hK hmono rfl rfl [.ref 171, .long (J p)] [] rfl rfl (Nat.le_of_ble_eq_true rfl) (Nat.le_of_ble_eq_true rfl) rfl (sp_171 (h := h4) hG4) (CLd_le (Nat.le_of_ble_eq_true rfl) (ctX11_entersF hSP hGp729 (by omega) (by omega))) ?_
      rintro v730 h730 ⟨rfl, hG730, hF730, t730, s730⟩
      rw [z731] at t730
      rw [z731r] at s730
      replace t730 : gi h730 171 1 = 1 := t730
      change mrow h730 = [p] at s730
      refine x_aload_n 139 hK rfl rfl l0 ?_
      refine x_iload 141 hK rfl rfl l4 ?_
      refine x_iconst 142 hK rfl rfl ?_
      refine x_iremp 143 hK rfl rfl (by omega) (by omega) (by omega) (by omega) ?_
      refine x_i2l 144 hK rfl rfl (by omega) ?_
      have z733 : gi h730 171 1 = 1 := t730
      have z733r : mrow h730 = [p] := s730
      refine x_callV 147 hK hmono rfl rfl [.ref 171, .long (J (l % 2))] [] rfl rfl (Nat.le_of_ble_eq_true rfl) (Nat.le_of_ble_eq_true rfl) rfl (sp_171 (h := h730) hG730) (CLd_le (Nat.le_of_ble_eq_true rfl) (ctX11_entersF hSP hG730 (by omega) (by omega))) ?_
      rintro v732 h732 ⟨rfl, hG732, hF732, t732, s732⟩
      rw [z733] at t732
      rw [z733r] at s732
      replace t732 : gi h732 171 1 = 2 := t732
      change mrow h732 = [p, (l % 2)] at s732
      refine x_iload_n 148 hK rfl rfl l2 ?_
      have er : [p, (l % 2)] = [cntP (gi h 173) vV (gi h 171 4).toNat, lieP (gi h 173) (gi h 174) vV (gi h 171 4).toNat % 2] := by rw [p0, l0_, show i.toNat = (gi h 171 4).toNat by omega]
      exact x_iret hK rfl ⟨Or.inr ⟨n0, by rw [c0], (s732).trans er⟩, hG732, ((FRM_w (hF4) (r := 54) rfl rfl).trans ((hF730).mono rfl)).trans ((hF732).mono rfl)⟩
    · refine x_iload_n 66 hK rfl rfl l3 ?_
      refine x_aload_n 67 hK rfl rfl l0 ?_
      refine x_getR 70 hK rfl rfl (sp_171 (h := h4) hG4) (rf_171_9 (h := h4) hG4) ?_
      refine x_iload 72 hK rfl rfl l5 ?_
      have g734 := gi_r h 173 i.toNat
      refine x_ialoadE 73 hK rfl rfl (sp_173 (h := h4) hG4) (by omega) (by omega) (by omega) (e' := (gi h 173 i.toNat)) (FRM_gi hF4 (r := 56) rfl rfl) ?_
      refine x_iload_n 74 hK rfl rfl l2 ?_
      refine x_if_icmp_gt 81 77 hK rfl rfl rfl (by omega) (by omega) (fun c26 => ?_) (fun c26 => ?_)
      · refine x_iconst 82 hK rfl rfl ?_
        refine x_callS 85 hK hmono rfl (Or.inl rfl) rfl [.int (I 0)] [.int (I p)] rfl rfl (Nat.le_of_ble_eq_true rfl) (Nat.le_of_ble_eq_true rfl) (CLd_le (Nat.le_of_ble_eq_true rfl) (ctX11_flag (by omega))) ?_
        rintro v9 h9 ⟨e9, rfl⟩
        rw [e9]
        clear e9
        refine x_iadd 86 hK rfl rfl ?_
        refine x_istore_n 87 hK rfl rfl _ rfl ?_
        refine x_iload 89 hK rfl rfl (lk1_n l4 (by decide) (Or.inl rfl)) ?_
        refine x_aload_n 90 hK rfl rfl (lk1_n l0 (by decide) (Or.inl rfl)) ?_
        refine x_getR 93 hK rfl rfl (sp_171 (h := h4) hG4) (rf_171_9 (h := h4) hG4) ?_
        refine x_iload 95 hK rfl rfl (lk1_n l5 (by decide) (Or.inl rfl)) ?_
        refine x_ialoadE 96 hK rfl rfl (sp_173 (h := h4) hG4) (by omega) (by omega) (by omega) (e' := (gi h 173 i.toNat)) (FRM_gi hF4 (r := 56) rfl rfl) ?_
        refine x_iload_n 97 hK rfl rfl (lk1_n l2 (by decide) (Or.inl rfl)) ?_
        refine x_if_icmp_gt 114 100 hK rfl rfl rfl (by omega) (by omega) (fun _ => ?_) (fun c => by omega)
        refine x_iconst 115 hK rfl rfl ?_
        refine x_callS 118 hK hmono rfl (Or.inl rfl) rfl [.int (I 0)] [.int (I l)] rfl rfl (Nat.le_of_ble_eq_true rfl) (Nat.le_of_ble_eq_true rfl) (CLd_le (Nat.le_of_ble_eq_true rfl) (ctX11_flag (by omega))) ?_
        rintro v9 h9 ⟨e9, rfl⟩
        rw [e9]
        clear e9
        refine x_iadd 119 hK rfl rfl ?_
        refine x_istore 121 hK rfl rfl _ rfl ?_
        refine x_iinc 124 hK rfl rfl (lk1_n (lk1_n l5 (by decide) (Or.inl rfl)) (by decide) (Or.inl rfl)) _ rfl ?_
        refine x_goto 56 hK rfl rfl ?_
        exact ih _ (by omega) c (p + 0) (l + 0) (i + 1) _ _ rfl (n0) (c0) (cr) (by omega) (by rw [cntP_s i0.1, if_neg (by omega), ← p0]) (by rw [lieP_s i0.1, if_neg (by omega), ← l0_]) (m4) (lk1_n (lk1_n (lk1_n l0 (by decide) (Or.inl rfl)) (by decide) (Or.inl rfl)) (by decide) (Or.inl rfl)) (lk1_n (lk1_n (lk1_n l1 (by decide) (Or.inl rfl)) (by decide) (Or.inl rfl)) (by decide) (Or.inl rfl)) (lk1_n (lk1_n (lk1_n l2 (by decide) (Or.inl rfl)) (by decide) (Or.inl rfl)) (by decide) (Or.inl rfl)) (lk1_n (lk1_n lk1_s (by decide) (Or.inl rfl)) (by decide) (Or.inl rfl)) (lk1_n lk1_s (by decide) (Or.inl rfl)) lk1_s (hG4) (hF4)
      · refine x_iconst 78 hK rfl rfl ?_
        refine x_goto 82 hK rfl rfl ?_
        refine x_callS 85 hK hmono rfl (Or.inl rfl) rfl [.int (I 1)] [.int (I p)] rfl rfl (Nat.le_of_ble_eq_true rfl) (Nat.le_of_ble_eq_true rfl) (CLd_le (Nat.le_of_ble_eq_true rfl) (ctX11_flag (by omega))) ?_
        rintro v9 h9 ⟨e9, rfl⟩
        rw [e9]
        clear e9
        refine x_iadd 86 hK rfl rfl ?_
        refine x_istore_n 87 hK rfl rfl _ rfl ?_
        refine x_iload 89 hK rfl rfl (lk1_n l4 (by decide) (Or.inl rfl)) ?_
        refine x_aload_n 90 hK rfl rfl (lk1_n l0 (by decide) (Or.inl rfl)) ?_
        refine x_getR 93 hK rfl rfl (sp_171 (h := h4) hG4) (rf_171_9 (h := h4) hG4) ?_
        refine x_iload 95 hK rfl rfl (lk1_n l5 (by decide) (Or.inl rfl)) ?_
        refine x_ialoadE 96 hK rfl rfl (sp_173 (h := h4) hG4) (by omega) (by omega) (by omega) (e' := (gi h 173 i.toNat)) (FRM_gi hF4 (r := 56) rfl rfl) ?_
        refine x_iload_n 97 hK rfl rfl (lk1_n l2 (by decide) (Or.inl rfl)) ?_
        refine x_if_icmp_gt 114 100 hK rfl rfl rfl (by omega) (by omega) (fun c => by omega) (fun _ => ?_)
        refine x_aload_n 101 hK rfl rfl (lk1_n l0 (by decide) (Or.inl rfl)) ?_
        refine x_getR 104 hK rfl rfl (sp_171 (h := h4) hG4) (rf_171_10 (h := h4) hG4) ?_
        refine x_iload 106 hK rfl rfl (lk1_n l5 (by decide) (Or.inl rfl)) ?_
        have g738 := grn (0) (1) hG (a := 174) (r := 57) (k := i.toNat) rfl rfl (by omega)
        refine x_baloadE 107 hK rfl rfl (sp_174 (h := h4) hG4) (by omega) (by omega) (by omega) (e' := (gi h 174 i.toNat)) (FRM_gi hF4 (r := 57) rfl rfl) ?_
        refine x_if_eq 114 110 hK rfl rfl rfl (by omega) (fun c61 => ?_) (fun c61 => ?_)
        · refine x_iconst 115 hK rfl rfl ?_
          refine x_callS 118 hK hmono rfl (Or.inl rfl) rfl [.int (I 0)] [.int (I l)] rfl rfl (Nat.le_of_ble_eq_true rfl) (Nat.le_of_ble_eq_true rfl) (CLd_le (Nat.le_of_ble_eq_true rfl) (ctX11_flag (by omega))) ?_
          rintro v9 h9 ⟨e9, rfl⟩
          rw [e9]
          clear e9
          refine x_iadd 119 hK rfl rfl ?_
          refine x_istore 121 hK rfl rfl _ rfl ?_
          refine x_iinc 124 hK rfl rfl (lk1_n (lk1_n l5 (by decide) (Or.inl rfl)) (by decide) (Or.inl rfl)) _ rfl ?_
          refine x_goto 56 hK rfl rfl ?_
          exact ih _ (by omega) c (p + 1) (l + 0) (i + 1) _ _ rfl (n0) (c0) (cr) (by omega) (by rw [cntP_s i0.1, if_pos (by omega), ← p0]) (by rw [lieP_s i0.1, if_neg (by omega), ← l0_]) (m4) (lk1_n (lk1_n (lk1_n l0 (by decide) (Or.inl rfl)) (by decide) (Or.inl rfl)) (by decide) (Or.inl rfl)) (lk1_n (lk1_n (lk1_n l1 (by decide) (Or.inl rfl)) (by decide) (Or.inl rfl)) (by decide) (Or.inl rfl)) (lk1_n (lk1_n (lk1_n l2 (by decide) (Or.inl rfl)) (by decide) (Or.inl rfl)) (by decide) (Or.inl rfl)) (lk1_n (lk1_n lk1_s (by decide) (Or.inl rfl)) (by decide) (Or.inl rfl)) (lk1_n lk1_s (by decide) (Or.inl rfl)) lk1_s (hG4) (hF4)
        · refine x_iconst 111 hK rfl rfl ?_
          refine x_goto 115 hK rfl rfl ?_
          refine x_callS 118 hK hmono rfl (Or.inl rfl) rfl [.int (I 1)] [.int (I l)] rfl rfl (Nat.le_of_ble_eq_true rfl) (Nat.le_of_ble_eq_true rfl) (CLd_le (Nat.le_of_ble_eq_true rfl) (ctX11_flag (by omega))) ?_
          rintro v9 h9 ⟨e9, rfl⟩
          rw [e9]
          clear e9
          refine x_iadd 119 hK rfl rfl ?_
          refine x_istore 121 hK rfl rfl _ rfl ?_
          refine x_iinc 124 hK rfl rfl (lk1_n (lk1_n l5 (by decide) (Or.inl rfl)) (by decide) (Or.inl rfl)) _ rfl ?_
          refine x_goto 56 hK rfl rfl ?_
          exact ih _ (by omega) c (p + 1) (l + 1) (i + 1) _ _ rfl (n0) (c0) (cr) (by omega) (by rw [cntP_s i0.1, if_pos (by omega), ← p0]) (by rw [lieP_s i0.1, if_pos (by omega), ← l0_]) (m4) (lk1_n (lk1_n (lk1_n l0 (by decide) (Or.inl rfl)) (by decide) (Or.inl rfl)) (by decide) (Or.inl rfl)) (lk1_n (lk1_n (lk1_n l1 (by decide) (Or.inl rfl)) (by decide) (Or.inl rfl)) (by decide) (Or.inl rfl)) (lk1_n (lk1_n (lk1_n l2 (by decide) (Or.inl rfl)) (by decide) (Or.inl rfl)) (by decide) (Or.inl rfl)) (lk1_n (lk1_n lk1_s (by decide) (Or.inl rfl)) (by decide) (Or.inl rfl)) (lk1_n lk1_s (by decide) (Or.inl rfl)) lk1_s (hG4) (hF4)
  refine x_aload_n 1 hK rfl rfl rfl ?_
  refine x_iconst 2 hK rfl rfl ?_
  refine x_putI 5 hK rfl rfl (sp_171 (h := h) hG) ?_
  refine x_iload_n 6 hK rfl rfl rfl ?_
  refine x_i2l 7 hK rfl rfl (by omega) ?_
  refine x_lconstE 8 0 hK rfl rfl rfl ?_
  refine x_ldc2_w 11 hK rfl rfl ?_
  have hGp741 : GD gE gRL sh (wI h 171 0 0) := GD_w1 (hG) (r := 54) rfl (by omega) rfl (by omega) (by omega)
  refine x_callS 14 hK hmono rfl (Or.inl rfl) rfl [.long (J n), .long (J 0), .long (J 12)] [] rfl rfl (Nat.le_of_ble_eq_true rfl) (Nat.le_of_ble_eq_true rfl) (CLd_le (Nat.le_of_ble_eq_true rfl) (ctX11_in (by omega) (by omega) (by omega))) ?_
  rintro v9 h9 ⟨e9, ⟨rfl, i1742, i2742⟩ | ⟨rfl, i1742⟩⟩ <;> rw [e9] <;> clear e9
  · refine x_if_ne 19 17 hK rfl rfl rfl (by omega) (fun _ => ?_) (fun c => by omega)
    refine x_aload_n 20 hK rfl rfl rfl ?_
    have g743 := gri (2) (40) hG (a := 171) (r := 54) (k := 3) rfl rfl
    refine x_getE 23 hK rfl (Or.inl rfl) rfl (sp_171 (h := h) hG) (e := (gi h 171 3)) (gi_k (by decide) _) ?_
    refine x_iconst 24 hK rfl rfl ?_
    refine x_isub 25 hK rfl rfl ?_
    refine x_aload_n 26 hK rfl rfl rfl ?_
    refine x_getE 29 hK rfl (Or.inl rfl) rfl (sp_171 (h := h) hG) (e := (gi h 171 3)) (gi_k (by decide) _) ?_
    refine x_iconst 30 hK rfl rfl ?_
    refine x_isub 31 hK rfl rfl ?_
    refine x_iload_n 32 hK rfl rfl rfl ?_
    refine x_imul 33 hK rfl rfl ?_
    refine x_aload_n 34 hK rfl rfl rfl ?_
    refine x_aload_n 35 hK rfl rfl rfl ?_
    refine x_getR 38 hK rfl rfl (sp_171 (h := h) hG) (rf_171_14 (h := h) hG) ?_
    refine x_iconst 39 hK rfl rfl ?_
    have g744 := gi_r h 178 0
    refine x_ialoadE 40 hK rfl rfl (sp_178 (h := h) hG) (by omega) (by omega) (by omega) (e' := (gi h 178 0)) (gi_a (by decide) _) ?_
    have hGp746 : GD gE gRL sh (wI h 171 0 0) := GD_w1 (hG) (r := 54) rfl (by omega) rfl (by omega) (by omega)
    have cmn := cm (by omega)
    have hXp : XI (wI h 171 0 0) := (xOk_ok rfl h (wI h 171 0 0) (FRM_w ((FRM.rf : FRM gRL [(0, 54, 0, 0)] h h)) (r := 54) rfl rfl) hX)
    have hFp : FRM gRL [(0, 54, 0, 0)] h (wI h 171 0 0) := FRM_w ((FRM.rf : FRM gRL [(0, 54, 0, 0)] h h)) (r := 54) rfl rfl
    have ed : dlA (wI h 171 0 0) (gi h 178 0) = (dlA h (gi h 178 0)) := dlA_F hFp rfl _
    refine x_callV 43 hK hmono rfl rfl [.ref 171, .int (I (gi h 178 0))] [.int (I (((gi h 171 3) - 1) * n)), .int (I ((gi h 171 3) - 1))] rfl rfl (Nat.le_of_ble_eq_true rfl) (Nat.le_of_ble_eq_true rfl) rfl (sp_171 (h := h) hG) (CLd_le (Nat.le_of_ble_eq_true rfl) (ctX11_delayAtF hSP hGp746 hXp (t := gi h 178 0) (by omega))) ?_
    rw [ed]
    rintro v745 h745 ⟨rfl, hG745, hF745⟩
    refine x_idivp 44 hK rfl rfl (by omega) (by omega) (by omega) (by omega) ?_
    refine x_min 47 hK rfl rfl (Nat.le_of_ble_eq_true rfl) (by omega) (by omega) ?_
    refine x_istore_n 48 hK rfl rfl [(2, .int (I (min ((gi h 171 3) - 1) ((((gi h 171 3) - 1) * n) / (dlA h (gi h 178 0)))))), (0, .ref 171), (1, .int (I n))] rfl ?_
    refine x_iconst 49 hK rfl rfl ?_
    refine x_istore_n 50 hK rfl rfl [(3, .int (I 0)), (2, .int (I (min ((gi h 171 3) - 1) ((((gi h 171 3) - 1) * n) / (dlA h (gi h 178 0)))))), (0, .ref 171), (1, .int (I n))] rfl ?_
    refine x_iconst 51 hK rfl rfl ?_
    refine x_istore 53 hK rfl rfl [(4, .int (I 0)), (3, .int (I 0)), (2, .int (I (min ((gi h 171 3) - 1) ((((gi h 171 3) - 1) * n) / (dlA h (gi h 178 0)))))), (0, .ref 171), (1, .int (I n))] rfl ?_
    refine x_iconst 54 hK rfl rfl ?_
    refine x_istore 56 hK rfl rfl [(5, .int (I 0)), (4, .int (I 0)), (3, .int (I 0)), (2, .int (I (min ((gi h 171 3) - 1) ((((gi h 171 3) - 1) * n) / (dlA h (gi h 178 0)))))), (0, .ref 171), (1, .int (I n))] rfl ?_
    exact loop _ (min ((gi h 171 3) - 1) ((((gi h 171 3) - 1) * n) / (dlA h (gi h 178 0)))) 0 0 0 _ _ rfl (⟨by omega, by omega⟩) (cmn.2.2.2.2.trans hV) (by omega) (by omega) (rfl) (rfl) ((mrow_F hF745 rfl rfl).trans (mrow_k (by decide))) rfl rfl rfl rfl rfl rfl (hG745) ((FRM_w ((FRM.rf : FRM gRL [(0, 54, 0, 0), (0, 54, 1, 1), (0, 67, 0, 79), (0, 68, 0, 3), (1, 55, 0, 39)] h h)) (r := 54) rfl rfl).trans ((hF745).mono rfl))
  · refine x_if_ne 19 17 hK rfl rfl rfl (by omega) (fun c => by omega) (fun _ => ?_)
    refine x_iconst 18 hK rfl rfl ?_
    exact x_iret hK rfl ⟨Or.inl ⟨by omega, rfl, mrow_k (by decide)⟩, GD_w1 (hG) (r := 54) rfl (by omega) rfl (by omega) (by omega), FRM_w ((FRM.rf : FRM gRL [(0, 54, 0, 0), (0, 54, 1, 1), (0, 67, 0, 79), (0, 68, 0, 3), (1, 55, 0, 39)] h h)) (r := 54) rfl rfl⟩
set_option maxRecDepth 4000 in
theorem ctX10_lanesW {SP : CT} (hSP : MONO SP) {sh : List (Nat × Nat)} {h : aH} (hG : GD gE gRL sh h) {s u : Nat} (hP : PT h) (hX : XI h) (hD : DR h s u) {L : List (Int × Int × Int)} {l : Int} (eo : kO h 23 (gi h 23 4).toNat = srt L) (hr : ∀ i : Nat, (i : Int) < gi h 23 4 → gi h 23 0 < gi h 24 i ∧ gi h 24 i ≤ gi h 23 0 + 12 ∧ -1 ≤ gi h 25 i ∧ gi h 25 i ≤ 1) (h0 : 0 ≤ gi h 23 0 ∧ gi h 23 0 ≤ 1000000) (hml : ∀ j : Nat, (j : Int) < gi h 19 0 → 0 ≤ gi h 20 j ∧ gi h 20 j ≤ 999) {n : Int} (rn : r32 n) : CLd SP 9 mX10_lanes [.ref 0, .int (I n)] h 0 0 (fun rv h' => ((¬ (0 ≤ n ∧ n ≤ 30) ∧ rv = some (.int (I (-1))) ∧ crow h' = crow h) ∨ ((0 ≤ n ∧ n ≤ 30) ∧ ∃ e : Int, rv = some (.int (I e)) ∧ BS e (XS 0 l (fun (t : Int) (g : Nat) => hitN (gi h 20) (gi h 21) ((gi h 23 0) + t) (g : Int) (gi h 19 0).toNat) L (gi h 23 0) (gi h 23 3) (dlA h) (gi h 23 1) n.toNat) ∧ crow h' = [bcF e])) ∧ GD gE gRL sh h' ∧ FRM gRL [(0, 3, 1, 1), (0, 8, 3, 3), (0, 10, 0, 39), (0, 41, 5, 5), (0, 42, 0, 29), (0, 43, 0, 30), (0, 44, 0, 30), (1, 4, 0, 29)] h h') := by
  refine x_met _ rfl (Nat.le_of_ble_eq_true rfl) (fun K hK => ?_)
  have hmono := MONO_CLd hSP 8
  obtain ⟨ff, eff⟩ : ∃ ff : Int, (if gi h 23 3 = gi h 23 0 then (1 : Int) else 0) = ff := ⟨_, rfl⟩
  have fr : ff = 0 ∨ ff = 1 := by
    rw [← eff]
    split <;> omega
  refine x_iload_n 1 hK rfl rfl rfl ?_
  refine x_if_lt 10 4 hK rfl rfl rfl (by omega) (fun c2 => ?_) (fun c2 => ?_)
  · refine x_iconst 11 hK rfl rfl ?_
    exact x_iret hK rfl ⟨Or.inl ⟨by omega, rfl, rfl⟩, hG, FRM.rf⟩
  · refine x_iload_n 5 hK rfl rfl rfl ?_
    refine x_bipush 7 hK rfl rfl rfl ?_
    refine x_if_icmp_le 12 10 hK rfl rfl rfl (by omega) (by omega) (fun c7 => ?_) (fun c7 => ?_)
    · refine x_aload_n 13 hK rfl rfl rfl ?_
      refine x_callV 16 hK hmono rfl rfl [.ref 0] [] rfl rfl (Nat.le_of_ble_eq_true rfl) (Nat.le_of_ble_eq_true rfl) rfl (sp_0 (h := h) hG) (CLd_le (Nat.le_of_ble_eq_true rfl) (ctX10_lookAheadR hSP hG hP hX hD h0 hml)) ?_
      rintro v747 h747 ⟨rfl, hG747, hF747, dn747, rb747⟩
      have k3747 : gi h747 23 3 = gi h 23 3 := FRM_gi hF747 (r := 17) rfl rfl
      have k0747 : gi h747 23 0 = gi h 23 0 := FRM_gi hF747 (r := 17) rfl rfl
      have k1747 : gi h747 23 1 = gi h 23 1 := FRM_gi hF747 (r := 17) rfl rfl
      have k4747 : gi h747 23 4 = gi h 23 4 := FRM_gi hF747 (r := 17) rfl rfl
      have d2747 : ∀ j, gi h747 24 j = gi h 24 j := fun j => FRM_gi hF747 (r := 18) rfl rfl
      have d3747 : ∀ j, gi h747 25 j = gi h 25 j := fun j => FRM_gi hF747 (r := 19) rfl rfl
      refine x_aload_n 17 hK rfl rfl rfl ?_
      refine x_getR 20 hK rfl rfl (sp_0 (h := h747) hG747) (rf_0_13 (h := h747) hG747) ?_
      refine x_aload_n 21 hK rfl rfl rfl ?_
      refine x_getR 24 hK rfl rfl (sp_0 (h := h747) hG747) (rf_0_10 (h := h747) hG747) ?_
      refine x_aload_n 25 hK rfl rfl rfl ?_
      refine x_callV 28 hK hmono rfl rfl [.ref 0] [.ref 23, .ref 127] rfl rfl (Nat.le_of_ble_eq_true rfl) (Nat.le_of_ble_eq_true rfl) rfl (sp_0 (h := h747) hG747) (CLd_le (Nat.le_of_ble_eq_true rfl) (ctX10_firstFree hSP hG747)) ?_
      rintro v9 h9 ⟨e9, rfl⟩
      rw [e9, show gi h747 23 3 = gi h 23 3 from FRM_gi hF747 (r := 17) rfl rfl, show gi h747 23 0 = gi h 23 0 from FRM_gi hF747 (r := 17) rfl rfl, eff]
      clear e9
      refine x_iload_n 29 hK rfl rfl rfl ?_
      refine x_iconst 30 hK rfl rfl ?_
      have eo748 : kO h747 23 (gi h747 23 4).toNat = srt L := by
        rw [show gi h747 23 4 = gi h 23 4 from FRM_gi hF747 (r := 17) rfl rfl, kO_eq (h := h) (h' := h747) (c := 23) (c' := 23) (n := (gi h 23 4).toNat) (fun j hj => ⟨FRM_gi hF747 (r := 18) rfl rfl, FRM_gi hF747 (r := 19) rfl rfl⟩)]
        exact eo
      have hr748 : ∀ q : Nat, (q : Int) < gi h747 23 4 → gi h 23 0 < gi h747 24 q ∧ gi h747 24 q ≤ gi h 23 0 + 12 ∧ -1 ≤ gi h747 25 q ∧ gi h747 25 q ≤ 1 := fun q hq => by
        rw [show gi h747 23 4 = gi h 23 4 from FRM_gi hF747 (r := 17) rfl rfl] at hq
        rw [show gi h747 24 q = gi h 24 q from FRM_gi hF747 (r := 18) rfl rfl, show gi h747 25 q = gi h 25 q from FRM_gi hF747 (r := 19) rfl rfl]
        exact hr q hq
      refine x_callV 33 hK hmono rfl rfl [.ref 127, .ref 23, .int (I ff), .int (I n), .int (I 1)] [] rfl rfl (Nat.le_of_ble_eq_true rfl) (Nat.le_of_ble_eq_true rfl) rfl (sp_127 (h := h747) hG747) (CLd_le (Nat.le_of_ble_eq_true rfl) (ctX0_reachF hSP hG747 (L := L) (now := gi h 23 0) (last := gi h 23 3) (l := l) (a := 0) (f := ff) (n := n) (dl := dlA h) (uh := true) (hit := (fun (t : Int) (g : Nat) => hitN (gi h 20) (gi h 21) ((gi h 23 0) + t) (g : Int) (gi h 19 0).toNat)) (FRM_gi hF747 (r := 17) rfl rfl) eo748 (fun s => dlA_b h s) h0 hr748 dn747 (by omega) (by rw [eff]; first | done | omega) (by omega) (Or.inl ⟨rfl, rb747⟩))) ?_
      rw [show gi h747 23 1 = gi h 23 1 from FRM_gi hF747 (r := 17) rfl rfl]
      rintro v748 h748 ⟨rfl, hG748, hF748, bs748⟩
      have bn748 := bs748 n.toNat (by omega)
      refine x_aload_n 34 hK rfl rfl rfl ?_
      refine x_getR 37 hK rfl rfl (sp_0 (h := h748) hG748) (rf_0_1 (h := h748) hG748) ?_
      refine x_aload_n 38 hK rfl rfl rfl ?_
      refine x_getR 41 hK rfl rfl (sp_0 (h := h748) hG748) (rf_0_13 (h := h748) hG748) ?_
      refine x_getR 44 hK rfl rfl (sp_127 (h := h748) hG748) (rf_127_2 (h := h748) hG748) ?_
      refine x_iload_n 45 hK rfl rfl rfl ?_
      have g749 := gi_r h748 130 n.toNat
      refine x_ialoadE 46 hK rfl rfl (sp_130 (h := h748) hG748) (by omega) (by omega) (by omega) (e' := (gi h748 130 n.toNat)) (rfl) ?_
      have bz750 := bcF_r (gi h748 130 n.toNat)
      refine x_callS 49 hK hmono rfl (Or.inl rfl) rfl [.int (I (gi h748 130 n.toNat))] [.ref 3] rfl rfl (Nat.le_of_ble_eq_true rfl) (Nat.le_of_ble_eq_true rfl) (CLd_le (Nat.le_of_ble_eq_true rfl) (ctJ6_bitCount_0f7a4F hSP (x := (gi h748 130 n.toNat)))) ?_
      rintro v9 h9 ⟨e9, rfl⟩
      rw [e9]
      clear e9
      refine x_i2l 50 hK rfl rfl (by omega) ?_
      refine x_callV 53 hK hmono rfl rfl [.ref 3, .long (J (bcF (gi h748 130 n.toNat)))] [] rfl rfl (Nat.le_of_ble_eq_true rfl) (Nat.le_of_ble_eq_true rfl) rfl (sp_3 (h := h748) hG748) (CLd_le (Nat.le_of_ble_eq_true rfl) (ctX3_tellOne hSP hG748 (by omega))) ?_
      rintro v751 h751 ⟨rfl, hG751, hF751, t751, s751⟩
      refine x_aload_n 54 hK rfl rfl rfl ?_
      refine x_getR 57 hK rfl rfl (sp_0 (h := h751) hG751) (rf_0_13 (h := h751) hG751) ?_
      refine x_getR 60 hK rfl rfl (sp_127 (h := h751) hG751) (rf_127_2 (h := h751) hG751) ?_
      refine x_iload_n 61 hK rfl rfl rfl ?_
      refine x_ialoadE 62 hK rfl rfl (sp_130 (h := h751) hG751) (by omega) (by omega) (by omega) (e' := (gi h748 130 n.toNat)) (FRM_gi hF751 (r := 44) rfl rfl) ?_
      exact x_iret hK rfl ⟨Or.inr ⟨⟨by omega, by omega⟩, _, rfl, bn748, s751⟩, hG751, (((hF747).mono rfl).trans ((hF748).mono rfl)).trans ((hF751).mono rfl)⟩
    · refine x_iconst 11 hK rfl rfl ?_
      exact x_iret hK rfl ⟨Or.inl ⟨by omega, rfl, rfl⟩, hG, FRM.rf⟩
set_option maxRecDepth 4000 in
theorem ctX11_lanesW {SP : CT} (hSP : MONO SP) {sh : List (Nat × Nat)} {h : aH} (hG : GD gE gRL sh h) (hX : XI h) {n : Int} (h0 : 0 ≤ gi h 178 0 ∧ gi h 178 0 ≤ 1000000) (rn : r32 n) : CLd SP 12 mX11_lanes [.ref 171, .int (I n)] h 0 0 (fun rv h' => ((¬ (0 ≤ n ∧ n ≤ 30) ∧ rv = some (.int (I (-1))) ∧ mrow h' = mrow h) ∨ ((0 ≤ n ∧ n ≤ 30) ∧ ∃ e : Int, rv = some (.int (I e)) ∧ BS e (XS 0 (gi h 171 5) (fun (t : Int) (g : Nat) => hitN (gi h 175) (gi h 176) ((gi h 178 0) + t) (g : Int) (gi h 171 6).toNat) (wl (RC h 178 0)) (gi h 178 0) (gi h 178 4) (dlA h) (gi h 178 1) n.toNat) ∧ mrow h' = [bcF e])) ∧ GD gE gRL sh h' ∧ FRM gRL [(0, 54, 0, 0), (0, 54, 1, 1), (0, 67, 0, 79), (0, 68, 0, 3), (0, 72, 0, 29), (0, 73, 0, 8), (0, 74, 0, 8), (1, 55, 0, 39)] h h') := by
  refine x_met _ rfl (Nat.le_of_ble_eq_true rfl) (fun K hK => ?_)
  have hmono := MONO_CLd hSP 11
  obtain ⟨w, hw⟩ : ∃ w : Nat → Int, (XS 0 (gi h 171 5) (fun (t : Int) (g : Nat) => hitN (gi h 175) (gi h 176) ((gi h 178 0) + t) (g : Int) (gi h 171 6).toNat) (wl (RC h 178 0)) (gi h 178 0) (gi h 178 4) (dlA h) (gi h 178 1) n.toNat) = w := ⟨_, rfl⟩
  rw [hw] at hK
  have loop : ∀ (mz : Nat) (c i : Int) (h4 : aH) (ls : List (Nat × Value)), ((9 - i).toNat = mz) → (0 ≤ n ∧ n ≤ 30) → (0 ≤ i ∧ i ≤ 9) → (LV h4 190 = w) → (0 ≤ c ∧ c ≤ 511) → (BSi c i w) → lk ls 0 = some (.ref 171) → lk ls 1 = some (.int (I n)) → lk ls 2 = some (.int (I c)) → lk ls 3 = some (.int (I i)) → GD gE gRL sh h4 → FRM gRL [(0, 54, 0, 0), (0, 54, 1, 1), (0, 67, 0, 79), (0, 68, 0, 3), (0, 72, 0, 29), (0, 73, 0, 8), (0, 74, 0, 8), (1, 55, 0, 39)] h h4 → K 33 ls [] h4 0 0 := by
    intro mz
    induction mz using Nat.strongRecOn with
    | ind mz ih =>
    intro c i h4 ls hm n0 i0 lv cr c0 l0 l1 l2 l3 hG4 hF4
    have eu : i < 9 → gi h4 190 i.toNat = w i.toNat := fun z => by rw [← lv, LV_at (by omega)]
    refine x_iload_n 34 hK rfl rfl l3 ?_
    refine x_bipush 36 hK rfl rfl rfl ?_
    refine x_if_icmp_ge 67 39 hK rfl rfl rfl (by omega) (by omega) (fun c3 => ?_) (fun c3 => ?_)
    · refine x_aload_n 68 hK rfl rfl l0 ?_
      refine x_iconst 69 hK rfl rfl ?_
      refine x_putI 72 hK rfl rfl (sp_171 (h := h4) hG4) ?_
      refine x_aload_n 73 hK rfl rfl l0 ?_
      refine x_iload_n 74 hK rfl rfl l2 ?_
      have bz752 := bcF_r c
      refine x_callS 77 hK hmono rfl (Or.inl rfl) rfl [.int (I c)] [.ref 171] rfl rfl (Nat.le_of_ble_eq_true rfl) (Nat.le_of_ble_eq_true rfl) (CLd_le (Nat.le_of_ble_eq_true rfl) (ctJ6_bitCount_0f7a4F hSP (x := c))) ?_
      rintro v9 h9 ⟨e9, rfl⟩
      rw [e9]
      clear e9
      refine x_i2l 78 hK rfl rfl (by omega) ?_
      have hGp753 : GD gE gRL sh (wI h4 171 1 0) := GD_w1 (hG4) (r := 54) rfl (by omega) rfl (by omega) (by omega)
      have z755 : gi (wI h4 171 1 0) 171 1 = 0 := gi_same (by omega)
      have z755r : mrow (wI h4 171 1 0) = [] := mrow_0 (gi_same (by omega))
      refine x_callV 81 hK hmono rfl rfl [.ref 171, .long (J (bcF c))] [] rfl rfl (Nat.le_of_ble_eq_true rfl) (Nat.le_of_ble_eq_true rfl) rfl (sp_171 (h := h4) hG4) (CLd_le (Nat.le_of_ble_eq_true rfl) (ctX11_entersF hSP hGp753 (by omega) (by omega))) ?_
      rintro v754 h754 ⟨rfl, hG754, hF754, t754, s754⟩
      rw [z755] at t754
      rw [z755r] at s754
      replace t754 : gi h754 171 1 = 1 := t754
      change mrow h754 = [(bcF c)] at s754
      refine x_iload_n 82 hK rfl rfl l2 ?_
      rw [show i = 9 by omega] at c0
      exact x_iret hK rfl ⟨Or.inr ⟨n0, c, rfl, BSi_9 c0, s754⟩, hG754, (FRM_w (hF4) (r := 54) rfl rfl).trans ((hF754).mono rfl)⟩
    · refine x_iload_n 40 hK rfl rfl l2 ?_
      refine x_aload_n 41 hK rfl rfl l0 ?_
      refine x_getR 44 hK rfl rfl (sp_171 (h := h4) hG4) (rf_171_37 (h := h4) hG4) ?_
      refine x_iload_n 45 hK rfl rfl l3 ?_
      have g756 := gi_r h4 190 i.toNat
      refine x_ialoadE 46 hK rfl rfl (sp_190 (h := h4) hG4) (by omega) (by omega) (by omega) (e' := (gi h4 190 i.toNat)) (rfl) ?_
      refine x_sipush 49 hK rfl rfl rfl ?_
      refine x_if_icmp_ge 58 52 hK rfl rfl rfl (by omega) (by omega) (fun c20 => ?_) (fun c20 => ?_)
      · refine x_iconst 59 hK rfl rfl ?_
        have g757 := bOr_r c 0
        refine x_iorF 60 hK rfl rfl ?_
        refine x_istore_n 61 hK rfl rfl _ rfl ?_
        refine x_iinc 64 hK rfl rfl (lk1_n l3 (by decide) (Or.inl rfl)) _ rfl ?_
        refine x_goto 33 hK rfl rfl ?_
        have bz := BSi_n c0 (by omega) (by rw [← eu (by omega)]; omega)
        exact ih _ (by omega) (bOr c 0) (i + 1) _ _ rfl (n0) (by omega) (lv) (bz.1) (bz) (lk1_n (lk1_n l0 (by decide) (Or.inl rfl)) (by decide) (Or.inl rfl)) (lk1_n (lk1_n l1 (by decide) (Or.inl rfl)) (by decide) (Or.inl rfl)) (lk1_n lk1_s (by decide) (Or.inl rfl)) lk1_s (hG4) (hF4)
      · refine x_iconst 53 hK rfl rfl ?_
        refine x_iload_n 54 hK rfl rfl l3 ?_
        have g758 := bShl_r 1 i
        refine x_ishlF 55 hK rfl rfl ?_
        refine x_goto 59 hK rfl rfl ?_
        have g759 := bOr_r c (bShl 1 i)
        refine x_iorF 60 hK rfl rfl ?_
        refine x_istore_n 61 hK rfl rfl _ rfl ?_
        refine x_iinc 64 hK rfl rfl (lk1_n l3 (by decide) (Or.inl rfl)) _ rfl ?_
        refine x_goto 33 hK rfl rfl ?_
        have bz := BSi_y c0 (by omega) (by rw [← eu (by omega)]; omega)
        exact ih _ (by omega) (bOr c (bShl 1 i)) (i + 1) _ _ rfl (n0) (by omega) (lv) (bz.1) (bz) (lk1_n (lk1_n l0 (by decide) (Or.inl rfl)) (by decide) (Or.inl rfl)) (lk1_n (lk1_n l1 (by decide) (Or.inl rfl)) (by decide) (Or.inl rfl)) (lk1_n lk1_s (by decide) (Or.inl rfl)) lk1_s (hG4) (hF4)
  refine x_aload_n 1 hK rfl rfl rfl ?_
  refine x_iconst 2 hK rfl rfl ?_
  refine x_putI 5 hK rfl rfl (sp_171 (h := h) hG) ?_
  refine x_iload_n 6 hK rfl rfl rfl ?_
  refine x_i2l 7 hK rfl rfl (by omega) ?_
  refine x_lconstE 8 0 hK rfl rfl rfl ?_
  refine x_ldc2_w 11 hK rfl rfl ?_
  have hGp760 : GD gE gRL sh (wI h 171 0 0) := GD_w1 (hG) (r := 54) rfl (by omega) rfl (by omega) (by omega)
  refine x_callS 14 hK hmono rfl (Or.inl rfl) rfl [.long (J n), .long (J 0), .long (J 30)] [] rfl rfl (Nat.le_of_ble_eq_true rfl) (Nat.le_of_ble_eq_true rfl) (CLd_le (Nat.le_of_ble_eq_true rfl) (ctX11_in (by omega) (by omega) (by omega))) ?_
  rintro v9 h9 ⟨e9, ⟨rfl, i1761, i2761⟩ | ⟨rfl, i1761⟩⟩ <;> rw [e9] <;> clear e9
  · refine x_if_ne 19 17 hK rfl rfl rfl (by omega) (fun _ => ?_) (fun c => by omega)
    refine x_aload_n 20 hK rfl rfl rfl ?_
    refine x_iconst 21 hK rfl rfl ?_
    have hGp763 : GD gE gRL sh (wI h 171 0 0) := GD_w1 (hG) (r := 54) rfl (by omega) rfl (by omega) (by omega)
    refine x_callV 24 hK hmono rfl rfl [.ref 171, .int (I 0)] [] rfl rfl (Nat.le_of_ble_eq_true rfl) (Nat.le_of_ble_eq_true rfl) rfl (sp_171 (h := h) hG) (CLd_le (Nat.le_of_ble_eq_true rfl) (ctX11_choosesAny hSP hGp763 (a := 0) (by omega))) ?_
    rintro v762 h762 ⟨rfl, hG762, hF762, ch762⟩
    refine x_aload_n 25 hK rfl rfl rfl ?_
    refine x_iload_n 26 hK rfl rfl rfl ?_
    have fq762 : FRM gRL [(0, 54, 0, 0), (0, 54, 1, 1), (0, 67, 0, 79), (0, 68, 0, 3), (0, 72, 0, 29), (0, 73, 0, 8), (0, 74, 0, 8), (1, 55, 0, 39)] h h762 := (FRM_w ((FRM.rf : FRM gRL [(0, 54, 0, 0), (0, 54, 1, 1), (0, 67, 0, 79), (0, 68, 0, 3), (0, 72, 0, 29), (0, 73, 0, 8), (0, 74, 0, 8), (1, 55, 0, 39)] h h)) (r := 54) rfl rfl).trans ((hF762).mono rfl)
    have hXp762 : XI h762 := xOk_ok rfl h h762 fq762 hX
    have h0762 : 0 ≤ gi h762 178 0 ∧ gi h762 178 0 ≤ 1000000 := by
      rw [show gi h762 178 0 = gi h 178 0 from FRM_gi fq762 (r := 61) rfl rfl]
      exact h0
    have ex762 : opsF (fun k => gi h762 189 k.toNat) (gi h762 171 5) (fun (t : Int) (g : Nat) => hitN (gi h762 175) (gi h762 176) ((gi h762 178 0) + t) (g : Int) (gi h762 171 6).toNat) (opsT (wl (RC h762 178 0)) (gi h762 178 0) (gi h762 178 4) (dlA h762) n.toNat) (fun (l : Nat) => if (l : Int) = gi h762 178 1 then 0 else 1000) = (XS 0 (gi h 171 5) (fun (t : Int) (g : Nat) => hitN (gi h 175) (gi h 176) ((gi h 178 0) + t) (g : Int) (gi h 171 6).toNat) (wl (RC h 178 0)) (gi h 178 0) (gi h 178 4) (dlA h) (gi h 178 1) n.toNat) := by
      rw [show gi h762 178 0 = gi h 178 0 from FRM_gi fq762 (r := 61) rfl rfl, show gi h762 178 4 = gi h 178 4 from FRM_gi fq762 (r := 61) rfl rfl, show gi h762 178 1 = gi h 178 1 from FRM_gi fq762 (r := 61) rfl rfl, show gi h762 171 5 = gi h 171 5 from FRM_gi fq762 (r := 54) rfl rfl, show gi h762 171 6 = gi h 171 6 from FRM_gi fq762 (r := 54) rfl rfl, show gi h762 175 = gi h 175 from funext fun j => FRM_gi fq762 (r := 58) rfl (mHas_non (by decide) j), show gi h762 176 = gi h 176 from funext fun j => FRM_gi fq762 (r := 59) rfl (mHas_non (by decide) j), show RC h762 178 0 = RC h 178 0 from RC_F fq762 (r := 61) rfl (by decide) 0, show dlA h762 = dlA h from funext fun z => dlA_F fq762 rfl z]
      refine opsF_ch _ _ fun q hq h1 => ?_
      have z := opsT_n _ hq h1
      show gi h762 189 q.2.toNat = chA 0 q.2
      rw [ch762 q.2.toNat (by omega), show ((q.2.toNat : Nat) : Int) = q.2 by omega]
      rfl
    refine x_callV 29 hK hmono rfl rfl [.ref 171, .int (I n)] [] rfl rfl (Nat.le_of_ble_eq_true rfl) (Nat.le_of_ble_eq_true rfl) rfl (sp_171 (h := h762) hG762) (CLd_le (Nat.le_of_ble_eq_true rfl) (ctX11_laysLeast hSP hG762 hXp762 (n := n) (by omega) h0762)) ?_
    rw [ex762, hw]
    rintro v764 h764 ⟨rfl, hG764, hF764, lv764⟩
    refine x_iconst 30 hK rfl rfl ?_
    refine x_istore_n 31 hK rfl rfl [(2, .int (I 0)), (0, .ref 171), (1, .int (I n))] rfl ?_
    refine x_iconst 32 hK rfl rfl ?_
    refine x_istore_n 33 hK rfl rfl [(3, .int (I 0)), (2, .int (I 0)), (0, .ref 171), (1, .int (I n))] rfl ?_
    exact loop _ 0 0 _ _ rfl (⟨by omega, by omega⟩) (by omega) (lv764) (by omega) (BSi_0 w) rfl rfl rfl rfl (hG764) (((FRM_w ((FRM.rf : FRM gRL [(0, 54, 0, 0), (0, 54, 1, 1), (0, 67, 0, 79), (0, 68, 0, 3), (0, 72, 0, 29), (0, 73, 0, 8), (0, 74, 0, 8), (1, 55, 0, 39)] h h)) (r := 54) rfl rfl).trans ((hF762).mono rfl)).trans ((hF764).mono rfl))
  · refine x_if_ne 19 17 hK rfl rfl rfl (by omega) (fun c => by omega) (fun _ => ?_)
    refine x_iconst 18 hK rfl rfl ?_
    exact x_iret hK rfl ⟨Or.inl ⟨by omega, rfl, mrow_k (by decide)⟩, GD_w1 (hG) (r := 54) rfl (by omega) rfl (by omega) (by omega), FRM_w ((FRM.rf : FRM gRL [(0, 54, 0, 0), (0, 54, 1, 1), (0, 67, 0, 79), (0, 68, 0, 3), (0, 72, 0, 29), (0, 73, 0, 8), (0, 74, 0, 8), (1, 55, 0, 39)] h h)) (r := 54) rfl rfl⟩
end
section
/-! HOW MANY NUMBERS THE ROW HAS -/
theorem cRow_ext {f g : Int → Int} {last : Int} (h : ∀ k, 0 ≤ k → k ≤ last → f k = g k) (h0 : 0 ≤ last) : ∀ (d : Nat) (l : Int), (d : Int) ≤ last → cRow f last d l = cRow g last d l
  | 0, _, _ => rfl
  | d + 1, l, hd => by
    have e : nxV (cwF f last d) l = nxV (cwF g last d) l := nxV_ext fun q _ _ => cwF_ext h h0 d q (by omega)
    show nxV (cwF f last d) l :: cRow f last d (max 0 (min 8 (l + nxV (cwF f last d) l))) = nxV (cwF g last d) l :: cRow g last d (max 0 (min 8 (l + nxV (cwF g last d) l)))
    rw [e, cRow_ext h h0 d _ (by omega)]
theorem ord_row {sh : List (Nat × Nat)} {h : aH} (hG : GD gE gRL sh h) (hc : ∀ k : Nat, k ≤ 24 → gi h 134 k = snF (gi h 193) (gi h 194) k (gi h 171 42).toNat) (hn : 0 < gi h 171 42) : (if 0 < sMn (fun k => snF (gi h 193) (gi h 194) k (gi h 171 42).toNat) (lsF (gi h 193) (gi h 171 42).toNat) (lsF (gi h 193) (gi h 171 42).toNat).toNat 4 then sRow (fun k => snF (gi h 193) (gi h 194) k (gi h 171 42).toNat) (lsF (gi h 193) (gi h 171 42).toNat) (lsF (gi h 193) (gi h 171 42).toNat).toNat 4 else []) = if 0 < cwF (fun k : Int => gi h 134 k.toNat) (lcF (gi h 134) 24) (lcF (gi h 134) 24).toNat 4 then cRow (fun k : Int => gi h 134 k.toNat) (lcF (gi h 134) 24) (lcF (gi h 134) 24).toNat 4 else [] := by
  have gn := gri 0 12 hG (a := 171) (r := 54) (k := 42) rfl rfl
  have hs : ∀ i, i < (gi h 171 42).toNat → 0 ≤ gi h 193 i ∧ gi h 193 i ≤ 24 := fun i hi => grn 0 24 hG (a := 193) (r := 76) rfl rfl (by omega)
  have hl : ∀ i, i < (gi h 171 42).toNat → 0 ≤ gi h 194 i ∧ gi h 194 i ≤ 8 := fun i hi => grn 0 8 hG (a := 194) (r := 77) rfl rfl (by omega)
  have oe := ord_eq hG hc hn
  have lb := lcF_b (gi h 134) 24
  have el := ls_lc (by omega) hs (fun i hi => (hl i hi).1) hc
  rw [← el] at oe ⊢
  rw [row_mn (f := fun k => snF (gi h 193) (gi h 194) k (gi h 171 42).toNat) (fun k => (snF_b _ hl).1) _ _ (by omega), cRow_ext (f := fun k => snF (gi h 193) (gi h 194) k (gi h 171 42).toNat) (g := fun k : Int => gi h 134 k.toNat) (fun k k0 k1 => by
    show snF (gi h 193) (gi h 194) k (gi h 171 42).toNat = gi h 134 k.toNat
    rw [hc _ (by omega), show ((k.toNat : Nat) : Int) = k by omega]) lb.1 _ _ (by omega)]
  by_cases c : 0 < cwF (fun k : Int => gi h 134 k.toNat) (lcF (gi h 134) 24) (lcF (gi h 134) 24).toNat 4
  · rw [if_pos c, if_pos (by omega)]
  · rw [if_neg c, if_neg (by omega)]
set_option maxRecDepth 4000 in
theorem ctX10_voyageW {SP : CT} (hSP : MONO SP) {sh : List (Nat × Nat)} {h : aH} (hG : GD gE gRL sh h) {s u : Nat} (hP : PT h) (hX : XI h) (hD : DR h s u) {b : Int} {w : WS} (hS : STR (gi h 0 9) (kS h 23) w) (hw : WW b w) (hb : b ≤ 800000) {ml ln ea : Nat → Int} (hml : ∀ j : Nat, (j : Int) < gi h 19 0 → gi h 20 j = ml j ∧ gi h 21 j = ln j) (hea : ∀ m : Nat, (m : Int) < (gi h 0 9) → gi h 22 m = ea m ∧ 0 ≤ ea m ∧ ea m ≤ 9) : CLd SP 9 mX10_voyage [.ref 0] h 0 0 (fun rv h' => (((cfl (gi h 1 1) 60 (rdAs (txF (gi h 2) (min (gi h 1 1) 60)) (min (gi h 1 1) 60) 60 0).1) ≠ -1 ∧ rv = some (.int (I (-1 - (cfl (gi h 1 1) 60 (rdAs (txF (gi h 2) (min (gi h 1 1) 60)) (min (gi h 1 1) 60) 60 0).1)))) ∧ STR (gi h 0 9) (kS h' 23) w ∧ PL h' = PL h ∧ crow h' = crow h) ∨ ((cfl (gi h 1 1) 60 (rdAs (txF (gi h 2) (min (gi h 1 1) 60)) (min (gi h 1 1) 60) 60 0).1) = -1 ∧ rv = some (.int (I ((vyI (dlA h) (gi h 171 5) ml ln (gi h 19 0).toNat (gi h 0 9) ea (rdAs (txF (gi h 2) (min (gi h 1 1) 60)) (min (gi h 1 1) 60) 60 0).2 w).1 : Nat))) ∧ STR (gi h 0 9) (kS h' 23) (vyI (dlA h) (gi h 171 5) ml ln (gi h 19 0).toNat (gi h 0 9) ea (rdAs (txF (gi h 2) (min (gi h 1 1) 60)) (min (gi h 1 1) 60) 60 0).2 w).2.1 ∧ PL h' = (if 0 < (vyI (dlA h) (gi h 171 5) ml ln (gi h 19 0).toNat (gi h 0 9) ea (rdAs (txF (gi h 2) (min (gi h 1 1) 60)) (min (gi h 1 1) 60) 60 0).2 w).1 then pushC (PL h) (kS h 23) else PL h) ∧ gi h' 3 1 = 2 ∧ crow h' = [if (vyI (dlA h) (gi h 171 5) ml ln (gi h 19 0).toNat (gi h 0 9) ea (rdAs (txF (gi h 2) (min (gi h 1 1) 60)) (min (gi h 1 1) 60) 60 0).2 w).1 < (rdAs (txF (gi h 2) (min (gi h 1 1) 60)) (min (gi h 1 1) 60) 60 0).2.length then 1 else 0, (vyI (dlA h) (gi h 171 5) ml ln (gi h 19 0).toNat (gi h 0 9) ea (rdAs (txF (gi h 2) (min (gi h 1 1) 60)) (min (gi h 1 1) 60) 60 0).2 w).2.1.2.2.1 - w.2.2.1])) ∧ GD gE gRL sh h' ∧ FRM gRL [(0, 1, 1, 5), (0, 3, 1, 1), (0, 8, 3, 3), (0, 10, 0, 39), (0, 17, 0, 4), (0, 18, 0, 11), (0, 19, 0, 11), (0, 20, 0, 7), (0, 21, 0, 7), (0, 22, 0, 4), (0, 23, 0, 11), (0, 24, 0, 11), (0, 25, 0, 7), (0, 26, 0, 7), (0, 27, 1, 2), (0, 31, 0, 4), (0, 32, 0, 11), (0, 33, 0, 11), (0, 34, 0, 7), (0, 35, 0, 7), (1, 4, 0, 29)] h h' ∧ gi h' 1 1 = 0) := by
  refine x_met _ rfl (Nat.le_of_ble_eq_true rfl) (fun K hK => ?_)
  have hmono := MONO_CLd hSP 8
  have gn := gri 0 80 hG (a := 1) (r := 1) (k := 1) rfl rfl
  obtain ⟨n, hn⟩ : ∃ n, gi h 1 1 = n := ⟨_, rfl⟩
  rw [hn] at gn hK
  obtain ⟨T, hT⟩ : ∃ T, (txF (gi h 2) (min n 60)) = T := ⟨_, rfl⟩
  rw [hT] at hK
  have fe0 : ∀ a, min n 60 ≤ a → T a = -1 := fun a ha => by rw [← hT]; exact if_neg (by omega)
  obtain ⟨RR, hRR⟩ : ∃ RR, (rdAs T (min n 60) 60 0) = RR := ⟨_, rfl⟩
  rw [hRR] at hK
  have rp := rdAs_p fe0 60 0 (by omega)
  rw [hRR] at rp
  obtain ⟨VV, hVV⟩ : ∃ VV, (vyI (dlA h) (gi h 171 5) ml ln (gi h 19 0).toNat (gi h 0 9) ea RR.2 w) = VV := ⟨_, rfl⟩
  rw [hVV] at hK
  have g9 := gri 0 8 hG (a := 0) (r := 0) (k := 9) rfl rfl
  have g19 := gri 0 16 hG (a := 19) (r := 13) (k := 0) rfl rfl
  have k2 := (STR_to hG hS).2.2.1
  have wh := hw.2.2.1
  have loop : ∀ (mz : Nat) (c r i : Int) (h4 : aH) (ls : List (Nat × Value)), ((60 - i).toNat = mz) → (cfl n 60 RR.1 = -1) → (0 ≤ i ∧ i ≤ 60) → ((r = 0 ∨ r = 1) ∧ 0 ≤ c ∧ c ≤ 60) → (∃ (p : Int) (x : WS), STR (gi h 0 9) (kS h4 23) x ∧ WW (b + 9 * i) x ∧ (r = 0 → c = i ∧ gi h4 1 2 = p ∧ (i ≤ p ∧ p ≤ min n 60) ∧ (rdAs T (min n 60) (60 - i).toNat p).1 = (true, min n 60) ∧ (RR.2.length : Int) = i + ((rdAs T (min n 60) (60 - i).toNat p).2.length : Nat) ∧ (VV.1 : Int) = i + ((vyI (dlA h) (gi h 171 5) ml ln (gi h 19 0).toNat (gi h 0 9) ea (rdAs T (min n 60) (60 - i).toNat p).2 x).1 : Nat) ∧ VV.2.1 = (vyI (dlA h) (gi h 171 5) ml ln (gi h 19 0).toNat (gi h 0 9) ea (rdAs T (min n 60) (60 - i).toNat p).2 x).2.1) ∧ (r = 1 → (VV.1 : Int) = c ∧ VV.2.1 = x ∧ (VV.1 < RR.2.length))) → (kS h4 28 = kS h 23) → (gi h4 1 3 = min n 60) → (gi h4 1 4 = if 60 < n then 1 else 0) → lk ls 0 = some (.ref 0) → lk ls 2 = some (.int (I c)) → lk ls 3 = some (.int (I r)) → lk ls 4 = some (.int (I i)) → GD gE gRL sh h4 → FRM gRL [(0, 1, 2, 5), (0, 8, 3, 3), (0, 10, 0, 39), (0, 17, 0, 4), (0, 18, 0, 11), (0, 19, 0, 11), (0, 20, 0, 7), (0, 21, 0, 7), (0, 22, 0, 4), (0, 23, 0, 11), (0, 24, 0, 11), (0, 25, 0, 7), (0, 26, 0, 7)] h h4 → K 58 ls [] h4 0 0 := by
    intro mz
    induction mz using Nat.strongRecOn with
    | ind mz ih =>
    intro c r i h4 ls hm c9 i0 r0 hx s28 s3 s4 l0 l2 l3 l4 hG4 hF4
    obtain ⟨p, x, hs, wx, hr0, hr1⟩ := hx
    have sF : fx h4 = T := by rw [fx_tx, s3, ← hT, show gi h4 2 = gi h 2 from funext fun k => FRM_gi hF4 (r := 2) rfl rfl]
    have n94 : gi h4 0 9 = (gi h 0 9) := FRM_gi hF4 (r := 0) rfl rfl
    have n19 : gi h4 19 0 = gi h 19 0 := FRM_gi hF4 (r := 13) rfl rfl
    have n1 : gi h4 1 1 = n := (FRM_gi hF4 (r := 1) rfl rfl).trans hn
    have hD4 : DR h4 s u := DR_F hF4 rfl hD
    have dl4 : dlA h4 = dlA h := funext fun z => dlA_F hF4 rfl z
    have l54 : gi h4 171 5 = gi h 171 5 := FRM_gi hF4 (r := 54) rfl rfl
    refine x_iload 60 hK rfl rfl l4 ?_
    refine x_bipush 62 hK rfl rfl rfl ?_
    refine x_if_icmp_ge 110 65 hK rfl rfl rfl (by omega) (by omega) (fun c3 => ?_) (fun c3 => ?_)
    · have fx9 : (VV.1 : Int) = c ∧ VV.2.1 = x ∧ (r = 1 ↔ VV.1 < RR.2.length) := by
        rcases r0.1 with z | z
        · obtain ⟨q0, q1, q2, q3, q4, q5, q6⟩ := hr0 z
          have le : (rdAs T (min n 60) (60 - i).toNat p).2 = [] := by
            by_cases y : (60 - i).toNat = 0
            · rw [y]; rfl
            · obtain ⟨k, hk⟩ : ∃ k : Nat, (60 - i).toNat = k + 1 := ⟨(60 - i).toNat - 1, by omega⟩
              rw [hk, rdAs_s, if_pos (by omega)]
          rw [le] at q4 q5 q6
          have q5 : (VV.1 : Int) = i + ((0 : Nat) : Int) := q5
          have q4 : (RR.2.length : Int) = i + ((0 : Nat) : Int) := q4
          exact ⟨by omega, q6, by omega⟩
        · obtain ⟨q5, q6, q7⟩ := hr1 z
          exact ⟨q5, q6, fun _ => q7, fun _ => z⟩
      obtain ⟨f5, f6, f7⟩ := fx9
      have jx := STR_to hG4 hs
      have wx2 := wx.2.2.1
      have e28 : gi h4 28 2 = gi h 23 2 := congrArg (fun z : CWS => z.2.2.1) s28
      refine x_aload_n 111 hK rfl rfl l0 ?_
      refine x_getR 114 hK rfl rfl (sp_0 (h := h4) hG4) (rf_0_0 (h := h4) hG4) ?_
      refine x_iconst 115 hK rfl rfl ?_
      refine x_putI 118 hK rfl rfl (sp_1 (h := h4) hG4) ?_
      refine x_iload_n 119 hK rfl rfl l2 ?_
      refine x_if_le 133 122 hK rfl rfl rfl (by omega) (fun c10 => ?_) (fun c10 => ?_)
      · refine x_aload_n 134 hK rfl rfl l0 ?_
        refine x_getR 137 hK rfl rfl (sp_0 (h := h4) hG4) (rf_0_1 (h := h4) hG4) ?_
        refine x_iload_n 138 hK rfl rfl l3 ?_
        refine x_if_eq 145 141 hK rfl rfl rfl (by omega) (fun c14 => ?_) (fun c14 => ?_)
        · refine x_lconstE 146 0 hK rfl rfl rfl ?_
          refine x_aload_n 147 hK rfl rfl l0 ?_
          refine x_getR 150 hK rfl rfl (sp_0 (h := h4) hG4) (rf_0_10 (h := h4) hG4) ?_
          refine x_getE 153 hK rfl (Or.inl rfl) rfl (sp_23 (h := h4) hG4) (e := (x.2.2.1)) ((gi_a (by decide) _).trans (jx.2.2.1)) ?_
          refine x_aload_n 154 hK rfl rfl l0 ?_
          refine x_getR 157 hK rfl rfl (sp_0 (h := h4) hG4) (rf_0_11 (h := h4) hG4) ?_
          have g583 := gi_r h 23 2
          refine x_getE 160 hK rfl (Or.inl rfl) rfl (sp_28 (h := h4) hG4) (e := (gi h 23 2)) ((gi_a (by decide) _).trans (e28)) ?_
          refine x_isub 161 hK rfl rfl ?_
          refine x_i2l 162 hK rfl rfl (by omega) ?_
          have hGp584 : GD gE gRL sh (wI h4 1 1 0) := GD_w1 (hG4) (r := 1) rfl (by omega) rfl (by omega) (by omega)
          refine x_callV 165 hK hmono rfl rfl [.ref 3, .long (J 0), .long (J ((x.2.2.1) - (gi h 23 2)))] [] rfl rfl (Nat.le_of_ble_eq_true rfl) (Nat.le_of_ble_eq_true rfl) rfl (sp_3 (h := h4) hG4) (CLd_le (Nat.le_of_ble_eq_true rfl) (ctX3_tellTwo hSP hGp584 (by omega) (by omega))) ?_
          rintro v585 h585 ⟨rfl, hG585, hF585, t585, s585⟩
          refine x_iload_n 166 hK rfl rfl l2 ?_
          have eS : kS h585 23 = kS h4 23 := (kS23_F hF585 (by decide)).trans ((kS_ge fun a k h1 h2 => gi_a (by omega) _))
          have eP : PL h585 = (if 0 < VV.1 then pushC (PL h) (kS h 23) else PL h) := by rw [if_neg (by omega)]; exact (PL_F hF585 rfl).trans (((PL_eq (gi_a (by decide) _) (gi_a (by decide) _) fun z hz => kS_ge fun a k h1 h2 => gi_a (by omega) _)).trans (PL_F hF4 rfl))
          exact x_iret hK rfl ⟨Or.inr ⟨c9, by rw [show ((VV.1 : Nat) : Int) = c from f5], by rw [eS, f6]; exact hs, eP, t585, by rw [s585]; rw [f6, k2]; first | (exfalso; omega) | (rw [if_pos (by omega)]; done) | (rw [if_neg (by omega)]; done)⟩, hG585, (FRM_w ((hF4).mono rfl) (r := 1) rfl rfl).trans ((hF585).mono rfl), (FRM_gi hF585 (r := 1) rfl rfl).trans (gi_same (by omega))⟩
        · refine x_lconstE 142 1 hK rfl rfl rfl ?_
          refine x_goto 146 hK rfl rfl ?_
          refine x_aload_n 147 hK rfl rfl l0 ?_
          refine x_getR 150 hK rfl rfl (sp_0 (h := h4) hG4) (rf_0_10 (h := h4) hG4) ?_
          refine x_getE 153 hK rfl (Or.inl rfl) rfl (sp_23 (h := h4) hG4) (e := (x.2.2.1)) ((gi_a (by decide) _).trans (jx.2.2.1)) ?_
          refine x_aload_n 154 hK rfl rfl l0 ?_
          refine x_getR 157 hK rfl rfl (sp_0 (h := h4) hG4) (rf_0_11 (h := h4) hG4) ?_
          have g586 := gi_r h 23 2
          refine x_getE 160 hK rfl (Or.inl rfl) rfl (sp_28 (h := h4) hG4) (e := (gi h 23 2)) ((gi_a (by decide) _).trans (e28)) ?_
          refine x_isub 161 hK rfl rfl ?_
          refine x_i2l 162 hK rfl rfl (by omega) ?_
          have hGp587 : GD gE gRL sh (wI h4 1 1 0) := GD_w1 (hG4) (r := 1) rfl (by omega) rfl (by omega) (by omega)
          refine x_callV 165 hK hmono rfl rfl [.ref 3, .long (J 1), .long (J ((x.2.2.1) - (gi h 23 2)))] [] rfl rfl (Nat.le_of_ble_eq_true rfl) (Nat.le_of_ble_eq_true rfl) rfl (sp_3 (h := h4) hG4) (CLd_le (Nat.le_of_ble_eq_true rfl) (ctX3_tellTwo hSP hGp587 (by omega) (by omega))) ?_
          rintro v588 h588 ⟨rfl, hG588, hF588, t588, s588⟩
          refine x_iload_n 166 hK rfl rfl l2 ?_
          have eS : kS h588 23 = kS h4 23 := (kS23_F hF588 (by decide)).trans ((kS_ge fun a k h1 h2 => gi_a (by omega) _))
          have eP : PL h588 = (if 0 < VV.1 then pushC (PL h) (kS h 23) else PL h) := by rw [if_neg (by omega)]; exact (PL_F hF588 rfl).trans (((PL_eq (gi_a (by decide) _) (gi_a (by decide) _) fun z hz => kS_ge fun a k h1 h2 => gi_a (by omega) _)).trans (PL_F hF4 rfl))
          exact x_iret hK rfl ⟨Or.inr ⟨c9, by rw [show ((VV.1 : Nat) : Int) = c from f5], by rw [eS, f6]; exact hs, eP, t588, by rw [s588]; rw [f6, k2]; first | (exfalso; omega) | (rw [if_pos (by omega)]; done) | (rw [if_neg (by omega)]; done)⟩, hG588, (FRM_w ((hF4).mono rfl) (r := 1) rfl rfl).trans ((hF588).mono rfl), (FRM_gi hF588 (r := 1) rfl rfl).trans (gi_same (by omega))⟩
      · refine x_aload_n 123 hK rfl rfl l0 ?_
        refine x_getR 126 hK rfl rfl (sp_0 (h := h4) hG4) (rf_0_12 (h := h4) hG4) ?_
        refine x_aload_n 127 hK rfl rfl l0 ?_
        refine x_getR 130 hK rfl rfl (sp_0 (h := h4) hG4) (rf_0_11 (h := h4) hG4) ?_
        have hGp590 : GD gE gRL sh (wI h4 1 1 0) := GD_w1 (hG4) (r := 1) rfl (by omega) rfl (by omega) (by omega)
        have pl0 : PL (wI h4 1 1 0) = PL h := (PL_eq (gi_a (by decide) _) (gi_a (by decide) _) fun z hz => kS_ge fun a k h1 h2 => gi_a (by omega) _).trans (PL_F hF4 rfl)
        have s280 : kS (wI h4 1 1 0) 28 = kS h 23 := (kS_ge fun a k h1 h2 => gi_a (by omega) _).trans s28
        refine x_callV 133 hK hmono rfl rfl [.ref 33, .ref 28] [] rfl rfl (Nat.le_of_ble_eq_true rfl) (Nat.le_of_ble_eq_true rfl) rfl (sp_33 (h := h4) hG4) (CLd_le (Nat.le_of_ble_eq_true rfl) (ctX1_remember_28 hSP hGp590 (show PT h4 from (PT_F hF4 (by decide) hP)))) ?_
        rw [pl0, s280]
        rintro v589 h589 ⟨rfl, hG589, hF589, pl589⟩
        refine x_aload_n 134 hK rfl rfl l0 ?_
        refine x_getR 137 hK rfl rfl (sp_0 (h := h589) hG589) (rf_0_1 (h := h589) hG589) ?_
        refine x_iload_n 138 hK rfl rfl l3 ?_
        refine x_if_eq 145 141 hK rfl rfl rfl (by omega) (fun c48 => ?_) (fun c48 => ?_)
        · refine x_lconstE 146 0 hK rfl rfl rfl ?_
          refine x_aload_n 147 hK rfl rfl l0 ?_
          refine x_getR 150 hK rfl rfl (sp_0 (h := h589) hG589) (rf_0_10 (h := h589) hG589) ?_
          refine x_getE 153 hK rfl (Or.inl rfl) rfl (sp_23 (h := h589) hG589) (e := (x.2.2.1)) ((FRM_gi hF589 (r := 17) rfl rfl).trans ((gi_a (by decide) _).trans (jx.2.2.1))) ?_
          refine x_aload_n 154 hK rfl rfl l0 ?_
          refine x_getR 157 hK rfl rfl (sp_0 (h := h589) hG589) (rf_0_11 (h := h589) hG589) ?_
          have g591 := gi_r h 23 2
          refine x_getE 160 hK rfl (Or.inl rfl) rfl (sp_28 (h := h589) hG589) (e := (gi h 23 2)) ((FRM_gi hF589 (r := 22) rfl rfl).trans ((gi_a (by decide) _).trans (e28))) ?_
          refine x_isub 161 hK rfl rfl ?_
          refine x_i2l 162 hK rfl rfl (by omega) ?_
          refine x_callV 165 hK hmono rfl rfl [.ref 3, .long (J 0), .long (J ((x.2.2.1) - (gi h 23 2)))] [] rfl rfl (Nat.le_of_ble_eq_true rfl) (Nat.le_of_ble_eq_true rfl) rfl (sp_3 (h := h589) hG589) (CLd_le (Nat.le_of_ble_eq_true rfl) (ctX3_tellTwo hSP hG589 (by omega) (by omega))) ?_
          rintro v592 h592 ⟨rfl, hG592, hF592, t592, s592⟩
          refine x_iload_n 166 hK rfl rfl l2 ?_
          have eS : kS h592 23 = kS h4 23 := (kS23_F hF592 (by decide)).trans ((kS23_F hF589 (by decide)).trans ((kS_ge fun a k h1 h2 => gi_a (by omega) _)))
          have eP : PL h592 = (if 0 < VV.1 then pushC (PL h) (kS h 23) else PL h) := by rw [if_pos (by omega)]; exact (PL_F hF592 rfl).trans (pl589)
          exact x_iret hK rfl ⟨Or.inr ⟨c9, by rw [show ((VV.1 : Nat) : Int) = c from f5], by rw [eS, f6]; exact hs, eP, t592, by rw [s592]; rw [f6, k2]; first | (exfalso; omega) | (rw [if_pos (by omega)]; done) | (rw [if_neg (by omega)]; done)⟩, hG592, ((FRM_w ((hF4).mono rfl) (r := 1) rfl rfl).trans ((hF589).mono rfl)).trans ((hF592).mono rfl), (FRM_gi hF592 (r := 1) rfl rfl).trans ((FRM_gi hF589 (r := 1) rfl rfl).trans (gi_same (by omega)))⟩
        · refine x_lconstE 142 1 hK rfl rfl rfl ?_
          refine x_goto 146 hK rfl rfl ?_
          refine x_aload_n 147 hK rfl rfl l0 ?_
          refine x_getR 150 hK rfl rfl (sp_0 (h := h589) hG589) (rf_0_10 (h := h589) hG589) ?_
          refine x_getE 153 hK rfl (Or.inl rfl) rfl (sp_23 (h := h589) hG589) (e := (x.2.2.1)) ((FRM_gi hF589 (r := 17) rfl rfl).trans ((gi_a (by decide) _).trans (jx.2.2.1))) ?_
          refine x_aload_n 154 hK rfl rfl l0 ?_
          refine x_getR 157 hK rfl rfl (sp_0 (h := h589) hG589) (rf_0_11 (h := h589) hG589) ?_
          have g593 := gi_r h 23 2
          refine x_getE 160 hK rfl (Or.inl rfl) rfl (sp_28 (h := h589) hG589) (e := (gi h 23 2)) ((FRM_gi hF589 (r := 22) rfl rfl).trans ((gi_a (by decide) _).trans (e28))) ?_
          refine x_isub 161 hK rfl rfl ?_
          refine x_i2l 162 hK rfl rfl (by omega) ?_
          refine x_callV 165 hK hmono rfl rfl [.ref 3, .long (J 1), .long (J ((x.2.2.1) - (gi h 23 2)))] [] rfl rfl (Nat.le_of_ble_eq_true rfl) (Nat.le_of_ble_eq_true rfl) rfl (sp_3 (h := h589) hG589) (CLd_le (Nat.le_of_ble_eq_true rfl) (ctX3_tellTwo hSP hG589 (by omega) (by omega))) ?_
          rintro v594 h594 ⟨rfl, hG594, hF594, t594, s594⟩
          refine x_iload_n 166 hK rfl rfl l2 ?_
          have eS : kS h594 23 = kS h4 23 := (kS23_F hF594 (by decide)).trans ((kS23_F hF589 (by decide)).trans ((kS_ge fun a k h1 h2 => gi_a (by omega) _)))
          have eP : PL h594 = (if 0 < VV.1 then pushC (PL h) (kS h 23) else PL h) := by rw [if_pos (by omega)]; exact (PL_F hF594 rfl).trans (pl589)
          exact x_iret hK rfl ⟨Or.inr ⟨c9, by rw [show ((VV.1 : Nat) : Int) = c from f5], by rw [eS, f6]; exact hs, eP, t594, by rw [s594]; rw [f6, k2]; first | (exfalso; omega) | (rw [if_pos (by omega)]; done) | (rw [if_neg (by omega)]; done)⟩, hG594, ((FRM_w ((hF4).mono rfl) (r := 1) rfl rfl).trans ((hF589).mono rfl)).trans ((hF594).mono rfl), (FRM_gi hF594 (r := 1) rfl rfl).trans ((FRM_gi hF589 (r := 1) rfl rfl).trans (gi_same (by omega)))⟩
    · refine x_iload_n 66 hK rfl rfl l3 ?_
      refine x_if_ne 110 69 hK rfl rfl rfl (by omega) (fun c75 => ?_) (fun c75 => ?_)
      · have fx9 : (VV.1 : Int) = c ∧ VV.2.1 = x ∧ (r = 1 ↔ VV.1 < RR.2.length) := by
          rcases r0.1 with z | z
          · obtain ⟨q0, q1, q2, q3, q4, q5, q6⟩ := hr0 z
            have le : (rdAs T (min n 60) (60 - i).toNat p).2 = [] := by
              by_cases y : (60 - i).toNat = 0
              · rw [y]; rfl
              · obtain ⟨k, hk⟩ : ∃ k : Nat, (60 - i).toNat = k + 1 := ⟨(60 - i).toNat - 1, by omega⟩
                rw [hk, rdAs_s, if_pos (by omega)]
            rw [le] at q4 q5 q6
            have q5 : (VV.1 : Int) = i + ((0 : Nat) : Int) := q5
            have q4 : (RR.2.length : Int) = i + ((0 : Nat) : Int) := q4
            exact ⟨by omega, q6, by omega⟩
          · obtain ⟨q5, q6, q7⟩ := hr1 z
            exact ⟨q5, q6, fun _ => q7, fun _ => z⟩
        obtain ⟨f5, f6, f7⟩ := fx9
        have jx := STR_to hG4 hs
        have wx2 := wx.2.2.1
        have e28 : gi h4 28 2 = gi h 23 2 := congrArg (fun z : CWS => z.2.2.1) s28
        refine x_aload_n 111 hK rfl rfl l0 ?_
        refine x_getR 114 hK rfl rfl (sp_0 (h := h4) hG4) (rf_0_0 (h := h4) hG4) ?_
        refine x_iconst 115 hK rfl rfl ?_
        refine x_putI 118 hK rfl rfl (sp_1 (h := h4) hG4) ?_
        refine x_iload_n 119 hK rfl rfl l2 ?_
        refine x_if_le 133 122 hK rfl rfl rfl (by omega) (fun c82 => ?_) (fun c82 => ?_)
        · refine x_aload_n 134 hK rfl rfl l0 ?_
          refine x_getR 137 hK rfl rfl (sp_0 (h := h4) hG4) (rf_0_1 (h := h4) hG4) ?_
          refine x_iload_n 138 hK rfl rfl l3 ?_
          refine x_if_eq 145 141 hK rfl rfl rfl (by omega) (fun c => by omega) (fun _ => ?_)
          refine x_lconstE 142 1 hK rfl rfl rfl ?_
          refine x_goto 146 hK rfl rfl ?_
          refine x_aload_n 147 hK rfl rfl l0 ?_
          refine x_getR 150 hK rfl rfl (sp_0 (h := h4) hG4) (rf_0_10 (h := h4) hG4) ?_
          refine x_getE 153 hK rfl (Or.inl rfl) rfl (sp_23 (h := h4) hG4) (e := (x.2.2.1)) ((gi_a (by decide) _).trans (jx.2.2.1)) ?_
          refine x_aload_n 154 hK rfl rfl l0 ?_
          refine x_getR 157 hK rfl rfl (sp_0 (h := h4) hG4) (rf_0_11 (h := h4) hG4) ?_
          have g595 := gi_r h 23 2
          refine x_getE 160 hK rfl (Or.inl rfl) rfl (sp_28 (h := h4) hG4) (e := (gi h 23 2)) ((gi_a (by decide) _).trans (e28)) ?_
          refine x_isub 161 hK rfl rfl ?_
          refine x_i2l 162 hK rfl rfl (by omega) ?_
          have hGp596 : GD gE gRL sh (wI h4 1 1 0) := GD_w1 (hG4) (r := 1) rfl (by omega) rfl (by omega) (by omega)
          refine x_callV 165 hK hmono rfl rfl [.ref 3, .long (J 1), .long (J ((x.2.2.1) - (gi h 23 2)))] [] rfl rfl (Nat.le_of_ble_eq_true rfl) (Nat.le_of_ble_eq_true rfl) rfl (sp_3 (h := h4) hG4) (CLd_le (Nat.le_of_ble_eq_true rfl) (ctX3_tellTwo hSP hGp596 (by omega) (by omega))) ?_
          rintro v597 h597 ⟨rfl, hG597, hF597, t597, s597⟩
          refine x_iload_n 166 hK rfl rfl l2 ?_
          have eS : kS h597 23 = kS h4 23 := (kS23_F hF597 (by decide)).trans ((kS_ge fun a k h1 h2 => gi_a (by omega) _))
          have eP : PL h597 = (if 0 < VV.1 then pushC (PL h) (kS h 23) else PL h) := by rw [if_neg (by omega)]; exact (PL_F hF597 rfl).trans (((PL_eq (gi_a (by decide) _) (gi_a (by decide) _) fun z hz => kS_ge fun a k h1 h2 => gi_a (by omega) _)).trans (PL_F hF4 rfl))
          exact x_iret hK rfl ⟨Or.inr ⟨c9, by rw [show ((VV.1 : Nat) : Int) = c from f5], by rw [eS, f6]; exact hs, eP, t597, by rw [s597]; rw [f6, k2]; first | (exfalso; omega) | (rw [if_pos (by omega)]; done) | (rw [if_neg (by omega)]; done)⟩, hG597, (FRM_w ((hF4).mono rfl) (r := 1) rfl rfl).trans ((hF597).mono rfl), (FRM_gi hF597 (r := 1) rfl rfl).trans (gi_same (by omega))⟩
        · refine x_aload_n 123 hK rfl rfl l0 ?_
          refine x_getR 126 hK rfl rfl (sp_0 (h := h4) hG4) (rf_0_12 (h := h4) hG4) ?_
          refine x_aload_n 127 hK rfl rfl l0 ?_
          refine x_getR 130 hK rfl rfl (sp_0 (h := h4) hG4) (rf_0_11 (h := h4) hG4) ?_
          have hGp599 : GD gE gRL sh (wI h4 1 1 0) := GD_w1 (hG4) (r := 1) rfl (by omega) rfl (by omega) (by omega)
          have pl0 : PL (wI h4 1 1 0) = PL h := (PL_eq (gi_a (by decide) _) (gi_a (by decide) _) fun z hz => kS_ge fun a k h1 h2 => gi_a (by omega) _).trans (PL_F hF4 rfl)
          have s280 : kS (wI h4 1 1 0) 28 = kS h 23 := (kS_ge fun a k h1 h2 => gi_a (by omega) _).trans s28
          refine x_callV 133 hK hmono rfl rfl [.ref 33, .ref 28] [] rfl rfl (Nat.le_of_ble_eq_true rfl) (Nat.le_of_ble_eq_true rfl) rfl (sp_33 (h := h4) hG4) (CLd_le (Nat.le_of_ble_eq_true rfl) (ctX1_remember_28 hSP hGp599 (show PT h4 from (PT_F hF4 (by decide) hP)))) ?_
          rw [pl0, s280]
          rintro v598 h598 ⟨rfl, hG598, hF598, pl598⟩
          refine x_aload_n 134 hK rfl rfl l0 ?_
          refine x_getR 137 hK rfl rfl (sp_0 (h := h598) hG598) (rf_0_1 (h := h598) hG598) ?_
          refine x_iload_n 138 hK rfl rfl l3 ?_
          refine x_if_eq 145 141 hK rfl rfl rfl (by omega) (fun c => by omega) (fun _ => ?_)
          refine x_lconstE 142 1 hK rfl rfl rfl ?_
          refine x_goto 146 hK rfl rfl ?_
          refine x_aload_n 147 hK rfl rfl l0 ?_
          refine x_getR 150 hK rfl rfl (sp_0 (h := h598) hG598) (rf_0_10 (h := h598) hG598) ?_
          refine x_getE 153 hK rfl (Or.inl rfl) rfl (sp_23 (h := h598) hG598) (e := (x.2.2.1)) ((FRM_gi hF598 (r := 17) rfl rfl).trans ((gi_a (by decide) _).trans (jx.2.2.1))) ?_
          refine x_aload_n 154 hK rfl rfl l0 ?_
          refine x_getR 157 hK rfl rfl (sp_0 (h := h598) hG598) (rf_0_11 (h := h598) hG598) ?_
          have g600 := gi_r h 23 2
          refine x_getE 160 hK rfl (Or.inl rfl) rfl (sp_28 (h := h598) hG598) (e := (gi h 23 2)) ((FRM_gi hF598 (r := 22) rfl rfl).trans ((gi_a (by decide) _).trans (e28))) ?_
          refine x_isub 161 hK rfl rfl ?_
          refine x_i2l 162 hK rfl rfl (by omega) ?_
          refine x_callV 165 hK hmono rfl rfl [.ref 3, .long (J 1), .long (J ((x.2.2.1) - (gi h 23 2)))] [] rfl rfl (Nat.le_of_ble_eq_true rfl) (Nat.le_of_ble_eq_true rfl) rfl (sp_3 (h := h598) hG598) (CLd_le (Nat.le_of_ble_eq_true rfl) (ctX3_tellTwo hSP hG598 (by omega) (by omega))) ?_
          rintro v601 h601 ⟨rfl, hG601, hF601, t601, s601⟩
          refine x_iload_n 166 hK rfl rfl l2 ?_
          have eS : kS h601 23 = kS h4 23 := (kS23_F hF601 (by decide)).trans ((kS23_F hF598 (by decide)).trans ((kS_ge fun a k h1 h2 => gi_a (by omega) _)))
          have eP : PL h601 = (if 0 < VV.1 then pushC (PL h) (kS h 23) else PL h) := by rw [if_pos (by omega)]; exact (PL_F hF601 rfl).trans (pl598)
          exact x_iret hK rfl ⟨Or.inr ⟨c9, by rw [show ((VV.1 : Nat) : Int) = c from f5], by rw [eS, f6]; exact hs, eP, t601, by rw [s601]; rw [f6, k2]; first | (exfalso; omega) | (rw [if_pos (by omega)]; done) | (rw [if_neg (by omega)]; done)⟩, hG601, ((FRM_w ((hF4).mono rfl) (r := 1) rfl rfl).trans ((hF598).mono rfl)).trans ((hF601).mono rfl), (FRM_gi hF601 (r := 1) rfl rfl).trans ((FRM_gi hF598 (r := 1) rfl rfl).trans (gi_same (by omega)))⟩
      · refine x_aload_n 70 hK rfl rfl l0 ?_
        refine x_getR 73 hK rfl rfl (sp_0 (h := h4) hG4) (rf_0_0 (h := h4) hG4) ?_
        obtain ⟨q0, q1, q2, q3, q4, q5, q6⟩ := hr0 (by omega)
        refine x_callV 76 hK hmono rfl rfl [.ref 1] [] rfl rfl (Nat.le_of_ble_eq_true rfl) (Nat.le_of_ble_eq_true rfl) rfl (sp_1 (h := h4) hG4) (CLd_le (Nat.le_of_ble_eq_true rfl) (ctX9_ended hSP hG4)) ?_
        rw [q1, s3]
        rintro v9 h9 ⟨e9, ⟨rfl, en⟩ | ⟨rfl, en⟩⟩ <;> rw [e9] <;> clear e9
        · refine x_if_ne 110 79 hK rfl rfl rfl (by omega) (fun _ => ?_) (fun c => by omega)
          have fx9 : (VV.1 : Int) = c ∧ VV.2.1 = x ∧ (r = 1 ↔ VV.1 < RR.2.length) := by
            rcases r0.1 with z | z
            · obtain ⟨q0, q1, q2, q3, q4, q5, q6⟩ := hr0 z
              have le : (rdAs T (min n 60) (60 - i).toNat p).2 = [] := by
                by_cases y : (60 - i).toNat = 0
                · rw [y]; rfl
                · obtain ⟨k, hk⟩ : ∃ k : Nat, (60 - i).toNat = k + 1 := ⟨(60 - i).toNat - 1, by omega⟩
                  rw [hk, rdAs_s, if_pos (by omega)]
              rw [le] at q4 q5 q6
              have q5 : (VV.1 : Int) = i + ((0 : Nat) : Int) := q5
              have q4 : (RR.2.length : Int) = i + ((0 : Nat) : Int) := q4
              exact ⟨by omega, q6, by omega⟩
            · obtain ⟨q5, q6, q7⟩ := hr1 z
              exact ⟨q5, q6, fun _ => q7, fun _ => z⟩
          obtain ⟨f5, f6, f7⟩ := fx9
          have jx := STR_to hG4 hs
          have wx2 := wx.2.2.1
          have e28 : gi h4 28 2 = gi h 23 2 := congrArg (fun z : CWS => z.2.2.1) s28
          refine x_aload_n 111 hK rfl rfl l0 ?_
          refine x_getR 114 hK rfl rfl (sp_0 (h := h4) hG4) (rf_0_0 (h := h4) hG4) ?_
          refine x_iconst 115 hK rfl rfl ?_
          refine x_putI 118 hK rfl rfl (sp_1 (h := h4) hG4) ?_
          refine x_iload_n 119 hK rfl rfl l2 ?_
          refine x_if_le 133 122 hK rfl rfl rfl (by omega) (fun c132 => ?_) (fun c132 => ?_)
          · refine x_aload_n 134 hK rfl rfl l0 ?_
            refine x_getR 137 hK rfl rfl (sp_0 (h := h4) hG4) (rf_0_1 (h := h4) hG4) ?_
            refine x_iload_n 138 hK rfl rfl l3 ?_
            refine x_if_eq 145 141 hK rfl rfl rfl (by omega) (fun _ => ?_) (fun c => by omega)
            refine x_lconstE 146 0 hK rfl rfl rfl ?_
            refine x_aload_n 147 hK rfl rfl l0 ?_
            refine x_getR 150 hK rfl rfl (sp_0 (h := h4) hG4) (rf_0_10 (h := h4) hG4) ?_
            refine x_getE 153 hK rfl (Or.inl rfl) rfl (sp_23 (h := h4) hG4) (e := (x.2.2.1)) ((gi_a (by decide) _).trans (jx.2.2.1)) ?_
            refine x_aload_n 154 hK rfl rfl l0 ?_
            refine x_getR 157 hK rfl rfl (sp_0 (h := h4) hG4) (rf_0_11 (h := h4) hG4) ?_
            have g602 := gi_r h 23 2
            refine x_getE 160 hK rfl (Or.inl rfl) rfl (sp_28 (h := h4) hG4) (e := (gi h 23 2)) ((gi_a (by decide) _).trans (e28)) ?_
            refine x_isub 161 hK rfl rfl ?_
            refine x_i2l 162 hK rfl rfl (by omega) ?_
            have hGp603 : GD gE gRL sh (wI h4 1 1 0) := GD_w1 (hG4) (r := 1) rfl (by omega) rfl (by omega) (by omega)
            refine x_callV 165 hK hmono rfl rfl [.ref 3, .long (J 0), .long (J ((x.2.2.1) - (gi h 23 2)))] [] rfl rfl (Nat.le_of_ble_eq_true rfl) (Nat.le_of_ble_eq_true rfl) rfl (sp_3 (h := h4) hG4) (CLd_le (Nat.le_of_ble_eq_true rfl) (ctX3_tellTwo hSP hGp603 (by omega) (by omega))) ?_
            rintro v604 h604 ⟨rfl, hG604, hF604, t604, s604⟩
            refine x_iload_n 166 hK rfl rfl l2 ?_
            have eS : kS h604 23 = kS h4 23 := (kS23_F hF604 (by decide)).trans ((kS_ge fun a k h1 h2 => gi_a (by omega) _))
            have eP : PL h604 = (if 0 < VV.1 then pushC (PL h) (kS h 23) else PL h) := by rw [if_neg (by omega)]; exact (PL_F hF604 rfl).trans (((PL_eq (gi_a (by decide) _) (gi_a (by decide) _) fun z hz => kS_ge fun a k h1 h2 => gi_a (by omega) _)).trans (PL_F hF4 rfl))
            exact x_iret hK rfl ⟨Or.inr ⟨c9, by rw [show ((VV.1 : Nat) : Int) = c from f5], by rw [eS, f6]; exact hs, eP, t604, by rw [s604]; rw [f6, k2]; first | (exfalso; omega) | (rw [if_pos (by omega)]; done) | (rw [if_neg (by omega)]; done)⟩, hG604, (FRM_w ((hF4).mono rfl) (r := 1) rfl rfl).trans ((hF604).mono rfl), (FRM_gi hF604 (r := 1) rfl rfl).trans (gi_same (by omega))⟩
          · refine x_aload_n 123 hK rfl rfl l0 ?_
            refine x_getR 126 hK rfl rfl (sp_0 (h := h4) hG4) (rf_0_12 (h := h4) hG4) ?_
            refine x_aload_n 127 hK rfl rfl l0 ?_
            refine x_getR 130 hK rfl rfl (sp_0 (h := h4) hG4) (rf_0_11 (h := h4) hG4) ?_
            have hGp606 : GD gE gRL sh (wI h4 1 1 0) := GD_w1 (hG4) (r := 1) rfl (by omega) rfl (by omega) (by omega)
            have pl0 : PL (wI h4 1 1 0) = PL h := (PL_eq (gi_a (by decide) _) (gi_a (by decide) _) fun z hz => kS_ge fun a k h1 h2 => gi_a (by omega) _).trans (PL_F hF4 rfl)
            have s280 : kS (wI h4 1 1 0) 28 = kS h 23 := (kS_ge fun a k h1 h2 => gi_a (by omega) _).trans s28
            refine x_callV 133 hK hmono rfl rfl [.ref 33, .ref 28] [] rfl rfl (Nat.le_of_ble_eq_true rfl) (Nat.le_of_ble_eq_true rfl) rfl (sp_33 (h := h4) hG4) (CLd_le (Nat.le_of_ble_eq_true rfl) (ctX1_remember_28 hSP hGp606 (show PT h4 from (PT_F hF4 (by decide) hP)))) ?_
            rw [pl0, s280]
            rintro v605 h605 ⟨rfl, hG605, hF605, pl605⟩
            refine x_aload_n 134 hK rfl rfl l0 ?_
            refine x_getR 137 hK rfl rfl (sp_0 (h := h605) hG605) (rf_0_1 (h := h605) hG605) ?_
            refine x_iload_n 138 hK rfl rfl l3 ?_
            refine x_if_eq 145 141 hK rfl rfl rfl (by omega) (fun _ => ?_) (fun c => by omega)
            refine x_lconstE 146 0 hK rfl rfl rfl ?_
            refine x_aload_n 147 hK rfl rfl l0 ?_
            refine x_getR 150 hK rfl rfl (sp_0 (h := h605) hG605) (rf_0_10 (h := h605) hG605) ?_
            refine x_getE 153 hK rfl (Or.inl rfl) rfl (sp_23 (h := h605) hG605) (e := (x.2.2.1)) ((FRM_gi hF605 (r := 17) rfl rfl).trans ((gi_a (by decide) _).trans (jx.2.2.1))) ?_
            refine x_aload_n 154 hK rfl rfl l0 ?_
            refine x_getR 157 hK rfl rfl (sp_0 (h := h605) hG605) (rf_0_11 (h := h605) hG605) ?_
            have g607 := gi_r h 23 2
            refine x_getE 160 hK rfl (Or.inl rfl) rfl (sp_28 (h := h605) hG605) (e := (gi h 23 2)) ((FRM_gi hF605 (r := 22) rfl rfl).trans ((gi_a (by decide) _).trans (e28))) ?_
            refine x_isub 161 hK rfl rfl ?_
            refine x_i2l 162 hK rfl rfl (by omega) ?_
            refine x_callV 165 hK hmono rfl rfl [.ref 3, .long (J 0), .long (J ((x.2.2.1) - (gi h 23 2)))] [] rfl rfl (Nat.le_of_ble_eq_true rfl) (Nat.le_of_ble_eq_true rfl) rfl (sp_3 (h := h605) hG605) (CLd_le (Nat.le_of_ble_eq_true rfl) (ctX3_tellTwo hSP hG605 (by omega) (by omega))) ?_
            rintro v608 h608 ⟨rfl, hG608, hF608, t608, s608⟩
            refine x_iload_n 166 hK rfl rfl l2 ?_
            have eS : kS h608 23 = kS h4 23 := (kS23_F hF608 (by decide)).trans ((kS23_F hF605 (by decide)).trans ((kS_ge fun a k h1 h2 => gi_a (by omega) _)))
            have eP : PL h608 = (if 0 < VV.1 then pushC (PL h) (kS h 23) else PL h) := by rw [if_pos (by omega)]; exact (PL_F hF608 rfl).trans (pl605)
            exact x_iret hK rfl ⟨Or.inr ⟨c9, by rw [show ((VV.1 : Nat) : Int) = c from f5], by rw [eS, f6]; exact hs, eP, t608, by rw [s608]; rw [f6, k2]; first | (exfalso; omega) | (rw [if_pos (by omega)]; done) | (rw [if_neg (by omega)]; done)⟩, hG608, ((FRM_w ((hF4).mono rfl) (r := 1) rfl rfl).trans ((hF605).mono rfl)).trans ((hF608).mono rfl), (FRM_gi hF608 (r := 1) rfl rfl).trans ((FRM_gi hF605 (r := 1) rfl rfl).trans (gi_same (by omega)))⟩
        · refine x_if_ne 110 79 hK rfl rfl rfl (by omega) (fun c => by omega) (fun _ => ?_)
          refine x_aload_n 80 hK rfl rfl l0 ?_
          obtain ⟨k, hk⟩ : ∃ k : Nat, (60 - i).toNat = k + 1 := ⟨(60 - i).toNat - 1, by omega⟩
          have hk1 : (60 - (i + 1)).toNat = k := by omega
          rw [hk, rdAs_s, if_neg (show ¬ min n 60 ≤ p by omega)] at q3 q4 q5 q6
          have ok : (rdAct T p).1.1 = true := by
            by_cases z : (rdAct T p).1.1 = true
            · exact z
            · rw [if_neg z] at q3
              exact Bool.noConfusion (congrArg Prod.fst q3)
          rw [if_pos ok] at q3 q4 q5 q6
          have ap := rdAct_p (f := T) fe0 (show p < min n 60 by omega)
          refine x_callV 83 hK hmono rfl rfl [.ref 0] [] rfl rfl (Nat.le_of_ble_eq_true rfl) (Nat.le_of_ble_eq_true rfl) rfl (sp_0 (h := h4) hG4) (CLd_le (Nat.le_of_ble_eq_true rfl) (ctX10_doVoyageSignF hSP hG4 (show PT h4 from PT_F hF4 (by decide) hP) (show XI h4 from (xOk_ok rfl _ h4 hF4 hX)) hD4 (b := b + 9 * i) (w := x) (ml := ml) (ln := ln) (ea := ea) (by rw [n94]; exact hs) wx (by omega) (fun j hj => by rw [n19] at hj; rw [FRM_gi hF4 (a := 20) (r := 14) rfl rfl, FRM_gi hF4 (a := 21) (r := 15) rfl rfl]; exact hml j hj) (fun m hm => by rw [n94] at hm; rw [FRM_gi hF4 (a := 22) (r := 16) rfl rfl]; exact hea m hm) (n := n) (p := p) q1 s3 s4 gn (by omega) (by rw [sF]; exact ok))) ?_
          rw [sF, n94, n19, dl4, l54]
          rintro v609 h609 ⟨⟨dr, rfl, hS609, p609⟩ | ⟨dr, rfl, hS609⟩, hG609, hF609⟩
          · refine x_if_ne 90 86 hK rfl rfl rfl (by omega) (fun _ => ?_) (fun c => by omega)
            refine x_iconst 91 hK rfl rfl ?_
            refine x_istore_n 92 hK rfl rfl _ rfl ?_
            refine x_iload_n 93 hK rfl rfl (lk1_n l2 (by decide) (Or.inl rfl)) ?_
            refine x_iload_n 94 hK rfl rfl lk1_s ?_
            refine x_if_eq 101 97 hK rfl rfl rfl (by omega) (fun _ => ?_) (fun c => by omega)
            refine x_iconst 102 hK rfl rfl ?_
            refine x_iadd 103 hK rfl rfl ?_
            refine x_istore_n 104 hK rfl rfl _ rfl ?_
            refine x_iinc 107 hK rfl rfl (lk1_n (lk1_n l4 (by decide) (Or.inl rfl)) (by decide) (Or.inl rfl)) _ rfl ?_
            refine x_goto 58 hK rfl rfl ?_
            have vs : (vyI (dlA h) (gi h 171 5) ml ln (gi h 19 0).toNat (gi h 0 9) ea ((rdAct T p).2 :: (rdAs T (min n 60) k (rdAct T p).1.2).2) x) = ((vyI (dlA h) (gi h 171 5) ml ln (gi h 19 0).toNat (gi h 0 9) ea (rdAs T (min n 60) k (rdAct T p).1.2).2 (doW (dlA h) (gi h 171 5) ml ln (gi h 19 0).toNat (gi h 0 9) ea (rdAct T p).2 x)).1 + 1, (vyI (dlA h) (gi h 171 5) ml ln (gi h 19 0).toNat (gi h 0 9) ea (rdAs T (min n 60) k (rdAct T p).1.2).2 (doW (dlA h) (gi h 171 5) ml ln (gi h 19 0).toNat (gi h 0 9) ea (rdAct T p).2 x)).2.1, doH ml ln (gi h 19 0).toNat (gi h 0 9) ea (rdAct T p).2 x + (vyI (dlA h) (gi h 171 5) ml ln (gi h 19 0).toNat (gi h 0 9) ea (rdAs T (min n 60) k (rdAct T p).1.2).2 (doW (dlA h) (gi h 171 5) ml ln (gi h 19 0).toNat (gi h 0 9) ea (rdAct T p).2 x)).2.2) := if_pos dr
            have q3 : (rdAs T (min n 60) k (rdAct T p).1.2).1 = (true, min n 60) := q3
            have q4 : (RR.2.length : Int) = i + (((rdAs T (min n 60) k (rdAct T p).1.2).2.length + 1 : Nat) : Int) := q4
            rw [vs] at q5 q6
            have q5 : (VV.1 : Int) = i + (((vyI (dlA h) (gi h 171 5) ml ln (gi h 19 0).toNat (gi h 0 9) ea (rdAs T (min n 60) k (rdAct T p).1.2).2 (doW (dlA h) (gi h 171 5) ml ln (gi h 19 0).toNat (gi h 0 9) ea (rdAct T p).2 x)).1 + 1 : Nat) : Int) := q5
            have q6 : VV.2.1 = (vyI (dlA h) (gi h 171 5) ml ln (gi h 19 0).toNat (gi h 0 9) ea (rdAs T (min n 60) k (rdAct T p).1.2).2 (doW (dlA h) (gi h 171 5) ml ln (gi h 19 0).toNat (gi h 0 9) ea (rdAct T p).2 x)).2.1 := q6
            have wd := WW_do (dl := dlA h) (l := gi h 171 5) (ml := ml) (ln := ln) (ea := ea) (nr := (gi h 19 0).toNat) (ms := (gi h 0 9)) (q := (rdAct T p).2) (by omega) g9.2 (fun m hm => (hea m hm).2) (ap.2.2.2 ok) act_k dr wx
            exact ih _ (by omega) (c + 1) 0 (i + 1) _ _ rfl (c9) (by omega) (⟨by omega, by omega⟩) (⟨(rdAct T p).1.2, (doW (dlA h) (gi h 171 5) ml ln (gi h 19 0).toNat (gi h 0 9) ea (rdAct T p).2 x), hS609, wd.mono (by omega), fun _ => ⟨by omega, p609, ⟨by have := ap.2.2.1 ok; omega, ap.2.1⟩, by rw [hk1]; exact q3, by rw [hk1]; omega, by rw [hk1]; omega, by rw [hk1]; exact q6⟩, fun z => absurd z (by omega)⟩) ((kS28_F hF609 (by decide)).trans s28) (((FRM_gi hF609 (r := 1) rfl rfl).trans (s3))) (((FRM_gi hF609 (r := 1) rfl rfl).trans (s4))) (lk1_n (lk1_n (lk1_n l0 (by decide) (Or.inl rfl)) (by decide) (Or.inl rfl)) (by decide) (Or.inl rfl)) (lk1_n lk1_s (by decide) (Or.inl rfl)) (lk1_n (lk1_n lk1_s (by decide) (Or.inl rfl)) (by decide) (Or.inl rfl)) lk1_s (hG609) ((hF4).trans ((hF609).mono rfl))
          · refine x_if_ne 90 86 hK rfl rfl rfl (by omega) (fun c => by omega) (fun _ => ?_)
            refine x_iconst 87 hK rfl rfl ?_
            refine x_goto 91 hK rfl rfl ?_
            refine x_istore_n 92 hK rfl rfl _ rfl ?_
            refine x_iload_n 93 hK rfl rfl (lk1_n l2 (by decide) (Or.inl rfl)) ?_
            refine x_iload_n 94 hK rfl rfl lk1_s ?_
            refine x_if_eq 101 97 hK rfl rfl rfl (by omega) (fun c => by omega) (fun _ => ?_)
            refine x_iconst 98 hK rfl rfl ?_
            refine x_goto 102 hK rfl rfl ?_
            refine x_iadd 103 hK rfl rfl ?_
            refine x_istore_n 104 hK rfl rfl _ rfl ?_
            refine x_iinc 107 hK rfl rfl (lk1_n (lk1_n l4 (by decide) (Or.inl rfl)) (by decide) (Or.inl rfl)) _ rfl ?_
            refine x_goto 58 hK rfl rfl ?_
            have vs : (vyI (dlA h) (gi h 171 5) ml ln (gi h 19 0).toNat (gi h 0 9) ea ((rdAct T p).2 :: (rdAs T (min n 60) k (rdAct T p).1.2).2) x) = (0, x, 0) := if_neg (by rw [dr]; decide)
            have q4 : (RR.2.length : Int) = i + (((rdAs T (min n 60) k (rdAct T p).1.2).2.length + 1 : Nat) : Int) := q4
            rw [vs] at q5 q6
            have q5 : (VV.1 : Int) = i + ((0 : Nat) : Int) := q5
            have q6 : VV.2.1 = x := q6
            exact ih _ (by omega) (c + 0) 1 (i + 1) _ _ rfl (c9) (by omega) (⟨by omega, by omega⟩) (⟨p, x, hS609, wx.mono (by omega), fun z => absurd z (by omega), fun _ => ⟨by omega, q6, by omega⟩⟩) ((kS28_F hF609 (by decide)).trans s28) (((FRM_gi hF609 (r := 1) rfl rfl).trans (s3))) (((FRM_gi hF609 (r := 1) rfl rfl).trans (s4))) (lk1_n (lk1_n (lk1_n l0 (by decide) (Or.inl rfl)) (by decide) (Or.inl rfl)) (by decide) (Or.inl rfl)) (lk1_n lk1_s (by decide) (Or.inl rfl)) (lk1_n (lk1_n lk1_s (by decide) (Or.inl rfl)) (by decide) (Or.inl rfl)) lk1_s (hG609) ((hF4).trans ((hF609).mono rfl))
  refine x_aload_n 1 hK rfl rfl rfl ?_
  refine x_getR 4 hK rfl rfl (sp_0 (h := h) hG) (rf_0_0 (h := h) hG) ?_
  refine x_bipush 6 hK rfl rfl rfl ?_
  have on610 : gi h 1 1 = n := (rfl).trans hn
  refine x_callV 9 hK hmono rfl rfl [.ref 1, .int (I 60)] [] rfl rfl (Nat.le_of_ble_eq_true rfl) (Nat.le_of_ble_eq_true rfl) rfl (sp_1 (h := h) hG) (CLd_le (Nat.le_of_ble_eq_true rfl) (ctX9_open hSP hG (n := 60) (by omega))) ?_
  rw [on610]
  rintro v610 h610 ⟨rfl, hG610, hF610, y2610, y3610, y4610, y5610⟩
  refine x_aload_n 10 hK rfl rfl rfl ?_
  have sF : fx h610 = T := by rw [fx_tx, y3610, ← hT, show gi h610 2 = gi h 2 from funext fun k => FRM_gi hF610 (r := 2) rfl rfl]
  refine x_callV 13 hK hmono rfl rfl [.ref 0] [] rfl rfl (Nat.le_of_ble_eq_true rfl) (Nat.le_of_ble_eq_true rfl) rfl (sp_0 (h := h610) hG610) (CLd_le (Nat.le_of_ble_eq_true rfl) (ctX10_voyageFaultF hSP hG610 (n := n) y2610 y3610 y4610 gn)) ?_
  rw [sF, hRR]
  rintro v611 h611 ⟨rfl, hG611, hF611⟩
  have cb : -1 ≤ cfl n 60 RR.1 ∧ cfl n 60 RR.1 ≤ 60 := by unfold cfl; (repeat' split) <;> omega
  refine x_istore_n 14 hK rfl rfl [(1, .int (I (cfl n 60 RR.1))), (0, .ref 0)] rfl ?_
  refine x_iload_n 15 hK rfl rfl rfl ?_
  refine x_iconst 16 hK rfl rfl ?_
  refine x_if_icmp_eq 31 19 hK rfl rfl rfl (by omega) (by omega) (fun c10 => ?_) (fun c10 => ?_)
  · refine x_aload_n 32 hK rfl rfl rfl ?_
    refine x_getR 35 hK rfl rfl (sp_0 (h := h611) hG611) (rf_0_11 (h := h611) hG611) ?_
    refine x_aload_n 36 hK rfl rfl rfl ?_
    refine x_getR 39 hK rfl rfl (sp_0 (h := h611) hG611) (rf_0_10 (h := h611) hG611) ?_
    have hFc : FRM gRL [(0, 1, 2, 5)] h h611 := ((hF610).mono rfl).trans ((hF611).mono rfl)
    have e23 : kS h611 23 = kS h 23 := kS23_F hFc (by decide)
    refine x_callV 42 hK hmono rfl rfl [.ref 28, .ref 23] [] rfl rfl (Nat.le_of_ble_eq_true rfl) (Nat.le_of_ble_eq_true rfl) rfl (sp_28 (h := h611) hG611) (CLd_le (Nat.le_of_ble_eq_true rfl) (ctX8_copyFrom_28_23 hSP hG611 (show PT h611 from (PT_F hF611 (by decide) (PT_F hF610 (by decide) hP))))) ?_
    rw [e23]
    rintro v612 h612 ⟨rfl, hG612, hF612, eS612, ot612⟩
    refine x_aload_n 43 hK rfl rfl rfl ?_
    refine x_getR 46 hK rfl rfl (sp_0 (h := h612) hG612) (rf_0_0 (h := h612) hG612) ?_
    refine x_bipush 48 hK rfl rfl rfl ?_
    have on613 : gi h612 1 1 = n := ((FRM_gi hF612 (r := 1) rfl rfl).trans ((FRM_gi hF611 (r := 1) rfl rfl).trans (FRM_gi hF610 (r := 1) rfl rfl))).trans hn
    refine x_callV 51 hK hmono rfl rfl [.ref 1, .int (I 60)] [] rfl rfl (Nat.le_of_ble_eq_true rfl) (Nat.le_of_ble_eq_true rfl) rfl (sp_1 (h := h612) hG612) (CLd_le (Nat.le_of_ble_eq_true rfl) (ctX9_open hSP hG612 (n := 60) (by omega))) ?_
    rw [on613]
    rintro v613 h613 ⟨rfl, hG613, hF613, y2613, y3613, y4613, y5613⟩
    refine x_iconst 52 hK rfl rfl ?_
    refine x_istore_n 53 hK rfl rfl [(2, .int (I 0)), (1, .int (I (cfl n 60 RR.1))), (0, .ref 0)] rfl ?_
    refine x_iconst 54 hK rfl rfl ?_
    refine x_istore_n 55 hK rfl rfl [(3, .int (I 0)), (2, .int (I 0)), (1, .int (I (cfl n 60 RR.1))), (0, .ref 0)] rfl ?_
    refine x_iconst 56 hK rfl rfl ?_
    refine x_istore 58 hK rfl rfl [(4, .int (I 0)), (3, .int (I 0)), (2, .int (I 0)), (1, .int (I (cfl n 60 RR.1))), (0, .ref 0)] rfl ?_
    have c9 : cfl n 60 RR.1 = -1 := by omega
    have cr : RR.1 = (true, min n 60) := by
      unfold cfl at c9
      by_cases z : RR.1.1 = true ∧ RR.1.2 = min n 60
      · exact Prod.ext z.1 z.2
      · rw [if_neg z] at c9; omega
    have hFe : FRM gRL [(0, 1, 2, 5), (0, 22, 0, 4), (0, 23, 0, 11), (0, 24, 0, 11), (0, 25, 0, 7), (0, 26, 0, 7)] h h613 := ((((hF610).mono rfl).trans ((hF611).mono rfl)).trans ((hF612).mono rfl)).trans ((hF613).mono rfl)
    have eE : kS h613 23 = kS h 23 := kS23_F hFe (by decide)
    exact loop _ 0 0 0 _ _ rfl (c9) (by omega) (⟨by omega, by omega⟩) (⟨0, w, by rw [eE]; exact hS, hw.mono (by omega), fun _ => ⟨rfl, y2613, ⟨by omega, by omega⟩, by rw [← cr, ← hRR]; rfl, by rw [← hRR]; exact (Int.zero_add _).symm, by rw [← hVV, ← hRR]; exact (Int.zero_add _).symm, by rw [← hVV, ← hRR]; rfl⟩, fun z => absurd z (by omega)⟩) ((kS28_F hF613 (by decide)).trans eS612) (y3613) (y4613) rfl rfl rfl rfl (hG613) (((((hF610).mono rfl).trans ((hF611).mono rfl)).trans ((hF612).mono rfl)).trans ((hF613).mono rfl))
  · refine x_aload_n 20 hK rfl rfl rfl ?_
    refine x_getR 23 hK rfl rfl (sp_0 (h := h611) hG611) (rf_0_0 (h := h611) hG611) ?_
    refine x_iconst 24 hK rfl rfl ?_
    refine x_putI 27 hK rfl rfl (sp_1 (h := h611) hG611) ?_
    refine x_iconst 28 hK rfl rfl ?_
    refine x_iload_n 29 hK rfl rfl rfl ?_
    refine x_isub 30 hK rfl rfl ?_
    have hFe : FRM gRL [(0, 1, 1, 5)] h (wI h611 1 1 0) := FRM_w (((hF610).mono rfl).trans ((hF611).mono rfl)) (r := 1) rfl rfl
    exact x_iret hK rfl ⟨Or.inl ⟨by omega, rfl, by rw [kS23_F hFe (by decide)]; exact hS, PL_F hFe rfl, crow_F hFe rfl rfl⟩, GD_w1 (hG611) (r := 1) rfl (by omega) rfl (by omega) (by omega), FRM_w (((hF610).mono rfl).trans ((hF611).mono rfl)) (r := 1) rfl rfl, gi_same (by omega)⟩
end
