section
/-! LONGS OF THE HEAP, BITS: as whole numbers -/
noncomputable def gj (h : aH) (a k : Nat) : Int := (aJ h a k).toInt
theorem gj_r (h : aH) (a k : Nat) : r64 (gj h a k) := r_J _
theorem gj_same {h : aH} {a k : Nat} {e : Int} (hr : r64 e) : gj (sJ h a k (J e)) a k = e := by
  show (aJ (sJ h a k (J e)) a k).toInt = e
  have : aJ (sJ h a k (J e)) a k = J e := by simp [aJ, sJ, up_s, vp_updL]
  rw [this, J_t hr]
theorem gj_k {h : aH} {a k j : Nat} {v : Int64} (hj : j ≠ k) (b : Nat) : gj (sJ h a k v) b j = gj h b j := by
  have : aJ (sJ h a k v) b j = aJ h b j := by
    by_cases hb : b = a
    · subst hb; simp [aJ, sJ, up_s, vp_updL, hj]
    · simp [aJ, sJ, up_n hb]
  show (aJ (sJ h a k v) b j).toInt = _
  rw [this]; rfl
theorem gj_a {h : aH} {a b k : Nat} {v : Int64} (hb : b ≠ a) (j : Nat) : gj (sJ h a k v) b j = gj h b j := by
  have : aJ (sJ h a k v) b j = aJ h b j := by simp [aJ, sJ, up_n hb]
  show (aJ (sJ h a k v) b j).toInt = _
  rw [this]; rfl
theorem FRM_gj {h : aH} {M : MD} {h0 : aH} {a r k : Nat} (hF : FRM gRL M h0 h) (hr : gRL[a]? = some r) (hm : mHas M 1 r k = false) : gj h a k = gj h0 a k := by
  show (aJ h a k).toInt = (aJ h0 a k).toInt
  rw [hF.2.1 a k fun r' hr' => by rw [hr] at hr'; cases hr'; exact hm]
theorem FRM_aR {h : aH} {M : MD} {h0 : aH} {a r k : Nat} (hF : FRM gRL M h0 h) (hr : gRL[a]? = some r) (hm : mHas M 2 r k = false) : aR h a k = aR h0 a k :=
  hF.2.2 a k fun r' hr' => by rw [hr] at hr'; cases hr'; exact hm
noncomputable def bAnd (a b : Int) : Int := (I a &&& I b).toInt
noncomputable def bOr (a b : Int) : Int := (I a ||| I b).toInt
noncomputable def bXor (a b : Int) : Int := (I a ^^^ I b).toInt
noncomputable def bShl (a b : Int) : Int := (I a <<< (I b &&& 31)).toInt
noncomputable def bShr (a b : Int) : Int := (I a >>> (I b &&& 31)).toInt
noncomputable def bUsh (a b : Int) : Int := ((I a).toUInt32 >>> ((I b).toUInt32 &&& Int32.toUInt32 31)).toInt32.toInt
theorem bAnd_r (a b : Int) : r32 (bAnd a b) := r_I _
theorem bOr_r (a b : Int) : r32 (bOr a b) := r_I _
theorem bXor_r (a b : Int) : r32 (bXor a b) := r_I _
theorem bShl_r (a b : Int) : r32 (bShl a b) := r_I _
theorem bShr_r (a b : Int) : r32 (bShr a b) := r_I _
theorem bUsh_r (a b : Int) : r32 (bUsh a b) := r_I _
theorem chr_ok {v : Int} (hv : 0 ≤ v ∧ v ≤ 65535) : vp_nar .char (I v) = I v := by
  have e : ((I v).toUInt32 % 65536).toInt32 = I v := by
    apply Int32.toInt.inj
    rw [I_t ⟨by omega, by omega⟩]
    have h1 : (I v).toUInt32.toNat = v.toNat := by
      show (Int32.ofInt v).toUInt32.toNat = v.toNat
      obtain ⟨n, rfl⟩ : ∃ n : Nat, v = n := ⟨v.toNat, by omega⟩
      rw [show (Int32.ofInt (n : Int)) = (UInt32.ofNat n).toInt32 from rfl]
      show (UInt32.ofNat n).toNat = _
      rw [UInt32.toNat_ofNat']
      omega
    have h2 : ((I v).toUInt32 % 65536).toNat = v.toNat := by
      rw [UInt32.toNat_mod, h1]
      show v.toNat % 65536 = v.toNat
      omega
    have h3 : ((I v).toUInt32 % 65536) = UInt32.ofNat v.toNat := by
      apply UInt32.toNat.inj
      rw [h2, UInt32.toNat_ofNat']
      omega
    rw [h3]
    show (Int32.ofInt (v.toNat : Int)).toInt = v
    have h4 : (v.toNat : Int) = v := by omega
    rw [h4]
    exact I_t ⟨by omega, by omega⟩
  exact e
section SY
variable {CL : CT} {ac : AC} {ret : Option FieldType} {Q : QT} {K : KT}
variable {i : Instr} {r1 r2 : Nat} {r3 : Int} {pc : Nat} {ls : List (Nat × Value)} {st : List Value} {h : aH} {bc bs : Nat}
theorem x_getJE (p : Nat) {n a : Nat} (hK : CLO CL ac ret Q K) (hf : fr ac pc = some (.getfield n, r1, r2, 1)) (hp : pc + 3 = p) (hs : h.1[a]? = some (100 + r1, nf r1)) {e : Int} (he : gj h a r2 = e) (hk : K p ls (.long (J e) :: st) h bc bs) : K pc ls (.ref a :: st) h bc bs := by
  subst he; exact x_getJ p hK hf hp hs hk
theorem x_laloadE (p : Nat) {a n : Nat} {e : Int} (hK : CLO CL ac ret Q K) (hf : fr ac pc = some (.laload, r1, r2, r3)) (hp : pc + 1 = p) (hs : h.1[a]? = some (1, n)) (h0 : 0 ≤ e) (h1 : e < n) (h2 : e ≤ 2147483647) {e' : Int} (he : gj h a e.toNat = e') (hk : K p ls (.long (J e') :: st) h bc bs) : K pc ls (.int (I e) :: .ref a :: st) h bc bs := by
  subst he; exact x_laload p hK hf hp hs h0 h1 h2 hk
theorem x_iandF (p : Nat) {a b : Int} (hK : CLO CL ac ret Q K) (hf : fr ac pc = some (.iand, r1, r2, r3)) (hp : pc + 1 = p) (hk : K p ls (.int (I (bAnd a b)) :: st) h bc bs) : K pc ls (.int (I b) :: .int (I a) :: st) h bc bs := x_iand p hK hf hp (t_I _).symm hk
theorem x_iorF (p : Nat) {a b : Int} (hK : CLO CL ac ret Q K) (hf : fr ac pc = some (.ior, r1, r2, r3)) (hp : pc + 1 = p) (hk : K p ls (.int (I (bOr a b)) :: st) h bc bs) : K pc ls (.int (I b) :: .int (I a) :: st) h bc bs := x_ior p hK hf hp (t_I _).symm hk
theorem x_ixorF (p : Nat) {a b : Int} (hK : CLO CL ac ret Q K) (hf : fr ac pc = some (.ixor, r1, r2, r3)) (hp : pc + 1 = p) (hk : K p ls (.int (I (bXor a b)) :: st) h bc bs) : K pc ls (.int (I b) :: .int (I a) :: st) h bc bs := x_ixor p hK hf hp (t_I _).symm hk
theorem x_ishlF (p : Nat) {a b : Int} (hK : CLO CL ac ret Q K) (hf : fr ac pc = some (.ishl, r1, r2, r3)) (hp : pc + 1 = p) (hk : K p ls (.int (I (bShl a b)) :: st) h bc bs) : K pc ls (.int (I b) :: .int (I a) :: st) h bc bs := x_ishl p hK hf hp (t_I _).symm hk
theorem x_ishrF (p : Nat) {a b : Int} (hK : CLO CL ac ret Q K) (hf : fr ac pc = some (.ishr, r1, r2, r3)) (hp : pc + 1 = p) (hk : K p ls (.int (I (bShr a b)) :: st) h bc bs) : K pc ls (.int (I b) :: .int (I a) :: st) h bc bs := x_ishr p hK hf hp (t_I _).symm hk
theorem x_iushrF (p : Nat) {a b : Int} (hK : CLO CL ac ret Q K) (hf : fr ac pc = some (.iushr, r1, r2, r3)) (hp : pc + 1 = p) (hk : K p ls (.int (I (bUsh a b)) :: st) h bc bs) : K pc ls (.int (I b) :: .int (I a) :: st) h bc bs := x_iushr p hK hf hp (t_I _).symm hk
end SY
end
section
/-! WORDS, RELAYS, MUTINIES, WHAT CAN BE CLEARED (the reference) -/
noncomputable def tenN : Nat → Int
  | 0 => 1
  | n + 1 => tenN n * 10
noncomputable def btB (k : Int) : Nat → Int
  | 0 => 1
  | i + 1 => btB k i * (k - i) / (i + 1)
noncomputable def btP (k p : Int) (j : Nat) : Nat → Int
  | 0 => btB k j
  | i + 1 => btP k p j i * (if (i : Int) < j then p else 10 - p)
/-- in parts of 10 to the k: how likely fewer than half of k rows turn a word round -/
noncomputable def btS (k p : Int) : Nat → Int
  | 0 => 0
  | j + 1 => btS k p j + btP k p j k.toNat
theorem tn_s {i : Int} (h : 0 ≤ i) : (i + 1).toNat = i.toNat + 1 := by omega
theorem tn_c {i : Int} (h : 0 ≤ i) : (i.toNat : Int) = i := by omega
theorem tenN_s {i : Int} (h : 0 ≤ i) : tenN (i + 1).toNat = tenN i.toNat * 10 := by rw [tn_s h]; rfl
theorem btB_s {k i : Int} (h : 0 ≤ i) : btB k (i + 1).toNat = btB k i.toNat * (k - i) / (i + 1) := by
  rw [tn_s h]
  show btB k i.toNat * (k - (i.toNat : Int)) / ((i.toNat : Int) + 1) = _
  rw [tn_c h]
theorem btP_s {k p i j : Int} (h : 0 ≤ i) (hj : 0 ≤ j) : btP k p j.toNat (i + 1).toNat = btP k p j.toNat i.toNat * (if i < j then p else 10 - p) := by
  rw [tn_s h]
  show btP k p j.toNat i.toNat * (if (i.toNat : Int) < (j.toNat : Int) then p else 10 - p) = _
  rw [tn_c h, tn_c hj]
theorem btS_s {k p j : Int} (h : 0 ≤ j) : btS k p (j + 1).toNat = btS k p j.toNat + btP k p j.toNat k.toNat := by rw [tn_s h]; rfl
theorem tenN_b : ((List.range 17).all fun n => decide (1 ≤ tenN n ∧ tenN n ≤ 10000000000000000)) = true := by decide +kernel
theorem bt_b1 : ((List.range 16).all fun k => (List.range 9).all fun i => decide (0 ≤ btB k i ∧ btB k i ≤ 100000 ∧ (0 ≤ btB k i * ((k : Int) - i) ∨ k < i) ∧ btB k i * ((k : Int) - i) ≤ 1000000)) = true := by decide +kernel
theorem bt_b2 : ((List.range 16).all fun k => (List.range 11).all fun p => (List.range 9).all fun j => decide (0 ≤ btS k p j ∧ btS k p j ≤ 1000000000000000000)) = true := by decide +kernel
theorem all_r {n : Nat} {f : Nat → Bool} (h : (List.range n).all f = true) {i : Nat} (hi : i < n) : f i = true := List.all_eq_true.mp h i (List.mem_range.mpr hi)
theorem tenN_bd {i : Int} (h : 0 ≤ i) (h2 : i ≤ 16) : 1 ≤ tenN i.toNat ∧ tenN i.toNat ≤ 10000000000000000 := of_decide_eq_true (all_r tenN_b (by omega))
theorem btB_bd {k i : Int} (hk : 0 ≤ k) (hk2 : k ≤ 15) (h : 0 ≤ i) (h2 : i ≤ 8) (h3 : i ≤ k) : 0 ≤ btB k i.toNat ∧ btB k i.toNat ≤ 100000 ∧ 0 ≤ btB k i.toNat * (k - i) ∧ btB k i.toNat * (k - i) ≤ 1000000 := by
  have z := of_decide_eq_true (all_r (all_r bt_b1 (i := k.toNat) (by omega)) (i := i.toNat) (by omega))
  rw [tn_c hk, tn_c h] at z
  obtain ⟨z1, z2, z3, z4⟩ := z
  refine ⟨z1, z2, ?_, z4⟩
  rcases z3 with z3 | z3
  · exact z3
  · omega
theorem btS_bd {k p j : Int} (hk : 0 ≤ k) (hk2 : k ≤ 15) (hp : 0 ≤ p) (hp2 : p ≤ 10) (h : 0 ≤ j) (h2 : j ≤ 8) : 0 ≤ btS k p j.toNat ∧ btS k p j.toNat ≤ 1000000000000000000 := by
  have z := of_decide_eq_true (all_r (all_r (all_r bt_b2 (i := k.toNat) (by omega)) (i := p.toNat) (by omega)) (i := j.toNat) (by omega))
  rw [tn_c hk, tn_c hp] at z
  exact z
set_option maxRecDepth 4000 in
theorem ctX11_bets {SP : CT} (hSP : MONO SP) {sh : List (Nat × Nat)} {h : aH} (hG : GD gE gRL sh h) {k p : Int} (hk : 0 ≤ k ∧ k ≤ 15) (hp : 0 ≤ p ∧ p ≤ 10) : CLd SP 2 mX11_bets [.ref 171, .int (I k), .int (I p)] h 0 0 (fun rv h' => rv = none ∧ GD gE gRL sh h' ∧ FRM gRL [(1, 54, 39, 39), (1, 54, 40, 40)] h h' ∧ gj h' 171 39 = btS k p ((k + 1) / 2).toNat ∧ gj h' 171 40 = tenN k.toNat) := by
  refine x_met _ rfl (Nat.le_of_ble_eq_true rfl) (fun K hK => ?_)
  have hmono := MONO_CLd hSP 1
  have loop2 : ∀ (mz : Nat) (j : Int) (h5 : aH) (ls : List (Nat × Value)), ((16 - j).toNat = mz) → (0 ≤ j) → (2 * j ≤ k + 1) → (gj h5 171 39 = btS k p j.toNat) → (gj h5 171 40 = tenN k.toNat) → lk ls 0 = some (.ref 171) → lk ls 1 = some (.int (I k)) → lk ls 2 = some (.int (I p)) → lk ls 3 = some (.int (I j)) → GD gE gRL sh h5 → FRM gRL [(1, 54, 39, 39), (1, 54, 40, 40)] h h5 → K 37 ls [] h5 0 0 := by
    intro mz
    induction mz using Nat.strongRecOn with
    | ind mz ih =>
    intro j h5 ls hm j0 j1 e39 e40 l0 l1 l2 l3 hG5 hF5
    have s1 := btS_bd (k := k) (p := p) hk.1 hk.2 hp.1 hp.2 j0 (by omega)
    have ih5 := ih
    have in2 : ∀ (js : 2 * j < k), ∀ (mz : Nat) (its i : Int) (ls : List (Nat × Value)), ((k - i).toNat = mz) → (0 ≤ i) → (i ≤ k) → (its = btP k p j.toNat i.toNat) → lk ls 0 = some (.ref 171) → lk ls 1 = some (.int (I k)) → lk ls 2 = some (.int (I p)) → lk ls 3 = some (.int (I j)) → lk ls 4 = some (.long (J its)) → lk ls 6 = some (.int (I i)) → K 81 ls [] h5 0 0 := by
      intro js
      intro mz
      induction mz using Nat.strongRecOn with
      | ind mz ih =>
      intro its i ls hm i0 i1 ib l0 l1 l2 l3 l4 l6
      refine x_iload 83 hK rfl rfl l6 ?_
      refine x_iload_n 84 hK rfl rfl l1 ?_
      refine x_if_icmp_ge 114 87 hK rfl rfl rfl (by omega) (by omega) (fun c3 => ?_) (fun c3 => ?_)
      · have s2 := btS_bd (k := k) (p := p) (j := j + 1) hk.1 hk.2 hp.1 hp.2 (by omega) (by omega)
        rw [btS_s j0] at s2
        obtain rfl : k = i := by omega
        rw [← ib] at s2
        refine x_aload_n 115 hK rfl rfl l0 ?_
        refine x_dup 116 hK rfl rfl rfl ?_
        refine x_getJE 119 hK rfl rfl (sp_171 (h := h5) hG5) (e := (btS k p j.toNat)) (e39) ?_
        refine x_lload 121 hK rfl rfl l4 ?_
        refine x_ladd 122 hK rfl rfl ?_
        refine x_putJ 125 hK rfl rfl (sp_171 (h := h5) hG5) ?_
        refine x_iinc 128 hK rfl rfl l3 _ rfl ?_
        refine x_goto 37 hK rfl rfl ?_
        have e39n : gj (sJ h5 171 39 (J ((btS k p j.toNat) + its))) 171 39 = btS k p (j + 1).toNat := (gj_same (by omega)).trans (by rw [btS_s j0, ← ib])
        have e40n : gj (sJ h5 171 39 (J ((btS k p j.toNat) + its))) 171 40 = tenN k.toNat := (gj_k (by decide) _).trans (e40)
        exact ih5 _ (by omega) (j + 1) _ _ rfl (by omega) (by omega) e39n e40n (lk1_n l0 (by decide) (Or.inl rfl)) (lk1_n l1 (by decide) (Or.inl rfl)) (lk1_n l2 (by decide) (Or.inl rfl)) lk1_s (GD_J (hG5)) (FRM_J (hF5) (r := 54) rfl rfl)
      · refine x_lload 89 hK rfl rfl l4 ?_
        refine x_iload 91 hK rfl rfl l6 ?_
        refine x_iload_n 92 hK rfl rfl l3 ?_
        refine x_if_icmp_ge 100 95 hK rfl rfl rfl (by omega) (by omega) (fun c17 => ?_) (fun c17 => ?_)
        · refine x_bipush 102 hK rfl rfl rfl ?_
          refine x_iload_n 103 hK rfl rfl l2 ?_
          refine x_isub 104 hK rfl rfl ?_
          refine x_i2l 105 hK rfl rfl (by omega) ?_
          refine x_lmul 106 hK rfl rfl ?_
          refine x_lstore 108 hK rfl rfl _ rfl ?_
          refine x_iinc 111 hK rfl rfl (lk2_n l6 (by decide) (by decide) (Or.inl rfl)) _ rfl ?_
          refine x_goto 81 hK rfl rfl ?_
          have cc : ¬ i < j := by omega
          exact ih _ (by omega) (its * (10 - p)) (i + 1) _ rfl (by omega) (by omega) (by rw [btP_s i0 j0, if_neg cc, ← ib]) (lk1_n (lk2_n l0 (by decide) (by decide) (Or.inl rfl)) (by decide) (Or.inl rfl)) (lk1_n (lk2_n l1 (by decide) (by decide) (Or.inl rfl)) (by decide) (Or.inl rfl)) (lk1_n (lk2_n l2 (by decide) (by decide) (Or.inl rfl)) (by decide) (Or.inl rfl)) (lk1_n (lk2_n l3 (by decide) (by decide) (Or.inl rfl)) (by decide) (Or.inl rfl)) (lk1_n lk2_s (by decide) (Or.inr (by decide))) lk1_s
        · refine x_iload_n 96 hK rfl rfl l2 ?_
          refine x_i2l 97 hK rfl rfl (by omega) ?_
          refine x_goto 105 hK rfl rfl ?_
          refine x_lmul 106 hK rfl rfl ?_
          refine x_lstore 108 hK rfl rfl _ rfl ?_
          refine x_iinc 111 hK rfl rfl (lk2_n l6 (by decide) (by decide) (Or.inl rfl)) _ rfl ?_
          refine x_goto 81 hK rfl rfl ?_
          have cc : i < j := by omega
          exact ih _ (by omega) (its * p) (i + 1) _ rfl (by omega) (by omega) (by rw [btP_s i0 j0, if_pos cc, ← ib]) (lk1_n (lk2_n l0 (by decide) (by decide) (Or.inl rfl)) (by decide) (Or.inl rfl)) (lk1_n (lk2_n l1 (by decide) (by decide) (Or.inl rfl)) (by decide) (Or.inl rfl)) (lk1_n (lk2_n l2 (by decide) (by decide) (Or.inl rfl)) (by decide) (Or.inl rfl)) (lk1_n (lk2_n l3 (by decide) (by decide) (Or.inl rfl)) (by decide) (Or.inl rfl)) (lk1_n lk2_s (by decide) (Or.inr (by decide))) lk1_s
    have in1 : ∀ (js : 2 * j < k), ∀ (mz : Nat) (its i : Int) (ls : List (Nat × Value)), ((j - i).toNat = mz) → (0 ≤ i) → (i ≤ j) → (its = btB k i.toNat) → lk ls 0 = some (.ref 171) → lk ls 1 = some (.int (I k)) → lk ls 2 = some (.int (I p)) → lk ls 3 = some (.int (I j)) → lk ls 4 = some (.long (J its)) → lk ls 6 = some (.int (I i)) → K 50 ls [] h5 0 0 := by
      intro js
      intro mz
      induction mz using Nat.strongRecOn with
      | ind mz ih =>
      intro its i ls hm i0 i1 ib l0 l1 l2 l3 l4 l6
      have bb := btB_bd (k := k) hk.1 hk.2 i0 (by omega) (by omega)
      rw [← ib] at bb
      refine x_iload 52 hK rfl rfl l6 ?_
      refine x_iload_n 53 hK rfl rfl l3 ?_
      refine x_if_icmp_ge 78 56 hK rfl rfl rfl (by omega) (by omega) (fun c3 => ?_) (fun c3 => ?_)
      · refine x_iconst 79 hK rfl rfl ?_
        refine x_istore 81 hK rfl rfl _ rfl ?_
        exact in2 js _ its 0 _ rfl (by omega) (by omega) ((by rw [ib, show i = j by omega]; rfl)) (lk1_n l0 (by decide) (Or.inl rfl)) (lk1_n l1 (by decide) (Or.inl rfl)) (lk1_n l2 (by decide) (Or.inl rfl)) (lk1_n l3 (by decide) (Or.inl rfl)) (lk1_n l4 (by decide) (Or.inr (by decide))) lk1_s
      · refine x_lload 58 hK rfl rfl l4 ?_
        refine x_iload_n 59 hK rfl rfl l1 ?_
        refine x_iload 61 hK rfl rfl l6 ?_
        refine x_isub 62 hK rfl rfl ?_
        refine x_i2l 63 hK rfl rfl (by omega) ?_
        refine x_lmul 64 hK rfl rfl ?_
        refine x_iload 66 hK rfl rfl l6 ?_
        refine x_iconst 67 hK rfl rfl ?_
        refine x_iadd 68 hK rfl rfl ?_
        refine x_i2l 69 hK rfl rfl (by omega) ?_
        refine x_ldivp 70 hK rfl rfl (by omega) (by omega) (by omega) (by omega) ?_
        refine x_lstore 72 hK rfl rfl _ rfl ?_
        refine x_iinc 75 hK rfl rfl (lk2_n l6 (by decide) (by decide) (Or.inl rfl)) _ rfl ?_
        refine x_goto 50 hK rfl rfl ?_
        exact ih _ (by omega) ((its * (k - i)) / (i + 1)) (i + 1) _ rfl (by omega) (by omega) ((btB_s i0).symm ▸ ib ▸ rfl) (lk1_n (lk2_n l0 (by decide) (by decide) (Or.inl rfl)) (by decide) (Or.inl rfl)) (lk1_n (lk2_n l1 (by decide) (by decide) (Or.inl rfl)) (by decide) (Or.inl rfl)) (lk1_n (lk2_n l2 (by decide) (by decide) (Or.inl rfl)) (by decide) (Or.inl rfl)) (lk1_n (lk2_n l3 (by decide) (by decide) (Or.inl rfl)) (by decide) (Or.inl rfl)) (lk1_n lk2_s (by decide) (Or.inr (by decide))) lk1_s
    refine x_iconst 38 hK rfl rfl ?_
    refine x_iload_n 39 hK rfl rfl l3 ?_
    refine x_imul 40 hK rfl rfl ?_
    refine x_iload_n 41 hK rfl rfl l1 ?_
    refine x_if_icmp_ge 131 44 hK rfl rfl rfl (by omega) (by omega) (fun c5 => ?_) (fun c5 => ?_)
    · exact x_vret hK rfl ⟨rfl, hG5, hF5, by rw [e39, show (k + 1) / 2 = j by omega], e40⟩
    · refine x_lconstE 45 1 hK rfl rfl rfl ?_
      refine x_lstore 47 hK rfl rfl _ rfl ?_
      refine x_iconst 48 hK rfl rfl ?_
      refine x_istore 50 hK rfl rfl _ rfl ?_
      exact in1 (by omega) _ 1 0 _ rfl (by omega) (by omega) (rfl) (lk1_n (lk2_n l0 (by decide) (by decide) (Or.inl rfl)) (by decide) (Or.inl rfl)) (lk1_n (lk2_n l1 (by decide) (by decide) (Or.inl rfl)) (by decide) (Or.inl rfl)) (lk1_n (lk2_n l2 (by decide) (by decide) (Or.inl rfl)) (by decide) (Or.inl rfl)) (lk1_n (lk2_n l3 (by decide) (by decide) (Or.inl rfl)) (by decide) (Or.inl rfl)) (lk1_n lk2_s (by decide) (Or.inr (by decide))) lk1_s
  have loop1 : ∀ (mz : Nat) (i : Int) (h4 : aH) (ls : List (Nat × Value)), ((k - i).toNat = mz) → (0 ≤ i) → (i ≤ k) → (gj h4 171 39 = 0) → (gj h4 171 40 = tenN i.toNat) → lk ls 0 = some (.ref 171) → lk ls 1 = some (.int (I k)) → lk ls 2 = some (.int (I p)) → lk ls 3 = some (.int (I i)) → GD gE gRL sh h4 → FRM gRL [(1, 54, 39, 39), (1, 54, 40, 40)] h h4 → K 12 ls [] h4 0 0 := by
    intro mz
    induction mz using Nat.strongRecOn with
    | ind mz ih =>
    intro i h4 ls hm i0 i1 e39 e40 l0 l1 l2 l3 hG4 hF4
    have tb := tenN_bd i0 (by omega)
    have tb2 := tenN_bd (i := i + 1) (by omega) (by omega)
    rw [tenN_s i0] at tb2
    refine x_iload_n 13 hK rfl rfl l3 ?_
    refine x_iload_n 14 hK rfl rfl l1 ?_
    refine x_if_icmp_ge 35 17 hK rfl rfl rfl (by omega) (by omega) (fun c3 => ?_) (fun c3 => ?_)
    · refine x_iconst 36 hK rfl rfl ?_
      refine x_istore_n 37 hK rfl rfl _ rfl ?_
      exact loop2 _ 0 _ _ rfl (by omega) (by omega) (e39) ((by rw [e40, show i = k by omega])) (lk1_n l0 (by decide) (Or.inl rfl)) (lk1_n l1 (by decide) (Or.inl rfl)) (lk1_n l2 (by decide) (Or.inl rfl)) lk1_s (hG4) (hF4)
    · refine x_aload_n 18 hK rfl rfl l0 ?_
      refine x_dup 19 hK rfl rfl rfl ?_
      refine x_getJE 22 hK rfl rfl (sp_171 (h := h4) hG4) (e := (tenN i.toNat)) (e40) ?_
      refine x_ldc2_w 25 hK rfl rfl ?_
      refine x_lmul 26 hK rfl rfl ?_
      refine x_putJ 29 hK rfl rfl (sp_171 (h := h4) hG4) ?_
      refine x_iinc 32 hK rfl rfl l3 _ rfl ?_
      refine x_goto 12 hK rfl rfl ?_
      exact ih _ (by omega) (i + 1) _ _ rfl (by omega) (by omega) ((gj_k (by decide) _).trans (e39)) ((gj_same (by omega)).trans (tenN_s i0).symm) (lk1_n l0 (by decide) (Or.inl rfl)) (lk1_n l1 (by decide) (Or.inl rfl)) (lk1_n l2 (by decide) (Or.inl rfl)) lk1_s (GD_J (hG4)) (FRM_J (hF4) (r := 54) rfl rfl)
  refine x_aload_n 1 hK rfl rfl rfl ?_
  refine x_lconstE 2 0 hK rfl rfl rfl ?_
  refine x_putJ 5 hK rfl rfl (sp_171 (h := h) hG) ?_
  refine x_aload_n 6 hK rfl rfl rfl ?_
  refine x_lconstE 7 1 hK rfl rfl rfl ?_
  refine x_putJ 10 hK rfl rfl (sp_171 (h := h) hG) ?_
  refine x_iconst 11 hK rfl rfl ?_
  refine x_istore_n 12 hK rfl rfl [(3, .int (I 0)), (0, .ref 171), (1, .int (I k)), (2, .int (I p))] rfl ?_
  exact loop1 _ 0 _ _ rfl (by omega) (by omega) ((gj_k (by decide) _).trans (gj_same (by omega))) (gj_same (by omega)) rfl rfl rfl rfl (GD_J (GD_J (hG))) (FRM_J (FRM_J ((FRM.rf : FRM gRL [(1, 54, 39, 39), (1, 54, 40, 40)] h h)) (r := 54) rfl rfl) (r := 54) rfl rfl)
end
section
/-! ROWS AS LISTS; RELAYS, MUTINIES, WHAT CAN BE CLEARED (the reference) -/
theorem mHas_non {M : MD} {w r : Nat} (h : (M.all fun q => !(Nat.beq q.1 w && Nat.beq q.2.1 r)) = true) (k : Nat) : mHas M w r k = false := by
  cases hc : mHas M w r k with
  | false => rfl
  | true =>
    obtain ⟨q, hq, h2⟩ := List.any_eq_true.mp hc
    have := List.all_eq_true.mp h q hq
    simp only [Bool.and_eq_true] at h2
    rw [h2.1.1.1, h2.1.1.2] at this
    cases this
noncomputable def mrow (h : aH) : List Int := (List.range (gi h 171 1).toNat).map fun i => gj h 172 i
theorem mrow_0 {h : aH} (e : gi h 171 1 = 0) : mrow h = [] := by unfold mrow; rw [e]; rfl
theorem mrow_eq {h h' : aH} (e : gi h' 171 1 = gi h 171 1) (f : ∀ k, gj h' 172 k = gj h 172 k) : mrow h' = mrow h := by
  unfold mrow
  rw [e]
  exact List.map_congr_left fun i _ => f i
theorem mrow_k {h : aH} {k : Nat} {e : Int} (hk : 1 ≠ k) : mrow (wI h 171 k e) = mrow h := mrow_eq (gi_k hk _) fun _ => rfl
theorem mrow_a {h : aH} {a k : Nat} {e : Int} (ha : 171 ≠ a) : mrow (wI h a k e) = mrow h := mrow_eq (gi_a ha _) fun _ => rfl
theorem mrow_J {h : aH} {a k : Nat} {v : Int64} (ha : 172 ≠ a) : mrow (sJ h a k v) = mrow h := mrow_eq rfl fun j => gj_a ha j
theorem mrow_F {M : MD} {h h' : aH} (hF : FRM gRL M h h') (h1 : mHas M 0 54 1 = false) (h2 : (M.all fun q => !(Nat.beq q.1 1 && Nat.beq q.2.1 55)) = true) : mrow h' = mrow h := mrow_eq (FRM_gi hF (r := 54) rfl h1) fun k => FRM_gj hF (r := 55) rfl (mHas_non h2 k)
theorem mrow_snoc {h h' : aH} {v : Int} (h0 : 0 ≤ gi h 171 1) (e : gi h' 171 1 = gi h 171 1 + 1) (f : gj h' 172 (gi h 171 1).toNat = v) (g : ∀ j, j ≠ (gi h 171 1).toNat → gj h' 172 j = gj h 172 j) : mrow h' = mrow h ++ [v] := by
  unfold mrow
  rw [e, show (gi h 171 1 + 1).toNat = (gi h 171 1).toNat + 1 by omega, List.range_succ, List.map_append, List.map_cons, List.map_nil, f]
  congr 1
  refine List.map_congr_left fun i hi => g i ?_
  have := List.mem_range.mp hi
  omega
noncomputable def crow (h : aH) : List Int := (List.range (gi h 3 1).toNat).map fun i => gj h 4 i
theorem crow_0 {h : aH} (e : gi h 3 1 = 0) : crow h = [] := by unfold crow; rw [e]; rfl
theorem crow_eq {h h' : aH} (e : gi h' 3 1 = gi h 3 1) (f : ∀ k, gj h' 4 k = gj h 4 k) : crow h' = crow h := by
  unfold crow
  rw [e]
  exact List.map_congr_left fun i _ => f i
theorem crow_J {h : aH} {a k : Nat} {v : Int64} (ha : 4 ≠ a) : crow (sJ h a k v) = crow h := crow_eq rfl fun j => gj_a ha j
theorem crow_F {M : MD} {h h' : aH} (hF : FRM gRL M h h') (h1 : mHas M 0 3 1 = false) (h2 : (M.all fun q => !(Nat.beq q.1 1 && Nat.beq q.2.1 4)) = true) : crow h' = crow h := crow_eq (FRM_gi hF (r := 3) rfl h1) fun k => FRM_gj hF (r := 4) rfl (mHas_non h2 k)
theorem crow_snoc {h h' : aH} {v : Int} (h0 : 0 ≤ gi h 3 1) (e : gi h' 3 1 = gi h 3 1 + 1) (f : gj h' 4 (gi h 3 1).toNat = v) (g : ∀ j, j ≠ (gi h 3 1).toNat → gj h' 4 j = gj h 4 j) : crow h' = crow h ++ [v] := by
  unfold crow
  rw [e, show (gi h 3 1 + 1).toNat = (gi h 3 1).toNat + 1 by omega, List.range_succ, List.map_append, List.map_cons, List.map_nil, f]
  congr 1
  refine List.map_congr_left fun i hi => g i ?_
  have := List.mem_range.mp hi
  omega
set_option maxRecDepth 4000 in
theorem ctX11_entersF {SP : CT} (hSP : MONO SP) {sh : List (Nat × Nat)} {h : aH} (hG : GD gE gRL sh h) {v : Int} (hr : 0 ≤ gi h 171 1 ∧ gi h 171 1 ≤ 39) (hv : r64 v) : CLd SP 1 mX11_enters [.ref 171, .long (J v)] h 0 0 (fun rv h' => rv = none ∧ GD gE gRL sh h' ∧ FRM gRL [(0, 54, 1, 1), (1, 55, 0, 39)] h h' ∧ gi h' 171 1 = gi h 171 1 + 1 ∧ mrow h' = mrow h ++ [v]) := by
  refine x_met _ rfl (Nat.le_of_ble_eq_true rfl) (fun K hK => ?_)
  have hmono := MONO_CLd hSP 0
  refine x_aload_n 1 hK rfl rfl rfl ?_
  refine x_getR 4 hK rfl rfl (sp_171 (h := h) hG) (rf_171_2 (h := h) hG) ?_
  refine x_aload_n 5 hK rfl rfl rfl ?_
  have g8 := gri (0) (40) hG (a := 171) (r := 54) (k := 1) rfl rfl
  refine x_getE 8 hK rfl (Or.inl rfl) rfl (sp_171 (h := h) hG) (e := (gi h 171 1)) (rfl) ?_
  refine x_lload_n 9 hK rfl rfl rfl ?_
  refine x_lastore 10 hK rfl rfl (sp_172 (h := h) hG) (by omega) (by omega) (by omega) ?_
  refine x_aload_n 11 hK rfl rfl rfl ?_
  refine x_dup 12 hK rfl rfl rfl ?_
  refine x_getE 15 hK rfl (Or.inl rfl) rfl (sp_171 (h := h) hG) (e := (gi h 171 1)) (rfl) ?_
  refine x_iconst 16 hK rfl rfl ?_
  refine x_iadd 17 hK rfl rfl ?_
  refine x_putI 20 hK rfl rfl (sp_171 (h := h) hG) ?_
  have e1 : gi (wI (sJ h 172 (gi h 171 1).toNat (J v)) 171 1 ((gi h 171 1) + 1)) 171 1 = gi h 171 1 + 1 := gi_same (by omega)
  exact x_vret hK rfl ⟨rfl, GD_w1 (GD_J (hG)) (r := 54) rfl (by omega) rfl (by omega) (by omega), FRM_w (FRM_Jn 0 39 ((FRM.rf : FRM gRL [(0, 54, 1, 1), (1, 55, 0, 39)] h h)) (r := 55) rfl rfl rfl (by omega) (by omega)) (r := 54) rfl rfl, e1, mrow_snoc hr.1 e1 (gj_same hv) fun j hj => gj_k hj _⟩
/-- c CELLS, s of them behind the bow, k POSTS: the greatest gap -/
theorem relayG {s g k : Int} (hg : 0 < g) (hk : 0 ≤ k) : (s + g - 1) / g - 1 ≤ k ↔ (s + k) / (k + 1) ≤ g := by
  have h1 : (s + g - 1) / g - 1 ≤ k ↔ s + g - 1 < (k + 2) * g := by
    rw [← Int.ediv_lt_iff_lt_mul hg]; omega
  have h2 : (s + k) / (k + 1) ≤ g ↔ s + k < (g + 1) * (k + 1) := by
    rw [← Int.ediv_lt_iff_lt_mul (show 0 < k + 1 by omega)]; omega
  rw [h1, h2]
  have e1 : (k + 2) * g = k * g + 2 * g := by rw [Int.add_mul]
  have e2 : (g + 1) * (k + 1) = k * g + g + k + 1 := by rw [Int.add_mul, Int.mul_add, Int.mul_comm g k]; omega
  omega
theorem relayB {s k : Int} (hs : 1 ≤ s) (hk : 0 ≤ k) : 1 ≤ (s + k) / (k + 1) ∧ (s + k) / (k + 1) ≤ s := by
  constructor
  · rw [Int.le_ediv_iff_mul_le (by omega)]; omega
  · have : (s + k) / (k + 1) < s + 1 := by
      rw [Int.ediv_lt_iff_lt_mul (by omega)]
      have : 0 ≤ s * k := Int.mul_nonneg (by omega) hk
      have e : (s + 1) * (k + 1) = s * k + s + k + 1 := by rw [Int.add_mul, Int.mul_add]; omega
      omega
    omega
/-- the CELLS of POSTS that are g apart at most, the foremost ones -/
noncomputable def rlC (s g k : Int) : Nat → Int
  | 0 => 0
  | i + 1 => max (rlC s g k i + 1) (s - g * (k - i))
theorem rlC_s {s g k i : Int} (h : 1 ≤ i) : max (rlC s g k (i - 1).toNat + 1) (s - g * (k - i + 1)) = rlC s g k i.toNat := by
  obtain ⟨n, rfl⟩ : ∃ n : Nat, i = n + 1 := ⟨(i - 1).toNat, by omega⟩
  rw [show ((n : Int) + 1).toNat = n + 1 by omega, show ((n : Int) + 1 - 1).toNat = n by omega]
  show _ = max (rlC s g k n + 1) (s - g * (k - n))
  rw [show k - ((n : Int) + 1) + 1 = k - n by omega]
theorem rlC_b {s g k : Int} (hs : 0 ≤ s) (hg : 0 ≤ g) (hk : 0 ≤ k) : ∀ i : Nat, (i : Int) ≤ k → 0 ≤ rlC s g k i ∧ rlC s g k i ≤ s + i
  | 0, _ => ⟨Int.le_refl _, by show (0 : Int) ≤ _; omega⟩
  | i + 1, h => by
    have ⟨h1, h2⟩ := rlC_b hs hg hk i (by omega)
    have : 0 ≤ g * (k - i) := Int.mul_nonneg hg (by omega)
    show 0 ≤ max (rlC s g k i + 1) (s - g * (k - i)) ∧ max (rlC s g k i + 1) (s - g * (k - i)) ≤ _
    omega
/-- the first n entries of a row that f tells -/
noncomputable def rowF (f : Nat → Int) (n : Nat) : List Int := (List.range n).map f
theorem rowF_s (f : Nat → Int) (n : Nat) : rowF f (n + 1) = rowF f n ++ [f n] := by unfold rowF; rw [List.range_succ, List.map_append]; rfl
theorem relayD {s g : Int} (hs : 1 ≤ s) (hg : 1 ≤ g) : 0 ≤ (s + g - 1) / g ∧ (s + g - 1) / g ≤ s := by
  constructor
  · exact Int.ediv_nonneg (by omega) (by omega)
  · have : (s + g - 1) / g < s + 1 := by
      rw [Int.ediv_lt_iff_lt_mul (by omega)]
      have : 0 ≤ s * (g - 1) := Int.mul_nonneg (by omega) (by omega)
      have e : (s + 1) * g = s * (g - 1) + s + g := by rw [Int.add_mul, Int.mul_sub]; omega
      omega
    omega
set_option maxRecDepth 4000 in
theorem ctX11_postsFor {SP : CT} (hSP : MONO SP) {sh : List (Nat × Nat)} {h : aH} (hG : GD gE gRL sh h) {v : Int} (hv : 1 ≤ v ∧ v ≤ 1000) : CLd SP 1 mX11_postsFor [.ref 171, .int (I v)] h 0 0 (fun rv h' => h' = h ∧ rv = some (.int (I ((gi h 171 3 - 1 + v - 1) / v - 1)))) := by
  refine x_met _ rfl (Nat.le_of_ble_eq_true rfl) (fun K hK => ?_)
  have hmono := MONO_CLd hSP 0
  refine x_aload_n 1 hK rfl rfl rfl ?_
  have g9 := gri (2) (40) hG (a := 171) (r := 54) (k := 3) rfl rfl
  refine x_getE 4 hK rfl (Or.inl rfl) rfl (sp_171 (h := h) hG) (e := (gi h 171 3)) (rfl) ?_
  refine x_iconst 5 hK rfl rfl ?_
  refine x_isub 6 hK rfl rfl ?_
  refine x_iload_n 7 hK rfl rfl rfl ?_
  refine x_iadd 8 hK rfl rfl ?_
  refine x_iconst 9 hK rfl rfl ?_
  refine x_isub 10 hK rfl rfl ?_
  refine x_iload_n 11 hK rfl rfl rfl ?_
  refine x_idivp 12 hK rfl rfl (by omega) (by omega) (by omega) (by omega) ?_
  refine x_iconst 13 hK rfl rfl ?_
  refine x_isub 14 hK rfl rfl ?_
  exact x_iret hK rfl ⟨rfl, rfl⟩
set_option maxRecDepth 4000 in
theorem ctX11_relay {SP : CT} (hSP : MONO SP) {sh : List (Nat × Nat)} {h : aH} (hG : GD gE gRL sh h) {k : Int} (rk : r32 k) : CLd SP 5 mX11_relay [.ref 171, .int (I k)] h 0 0 (fun rv h' => ((¬ (0 ≤ k ∧ k ≤ 10) ∧ rv = some (.int (I (-1))) ∧ mrow h' = mrow h) ∨ ((0 ≤ k ∧ k ≤ 10) ∧ gi h 171 3 - 2 < k ∧ rv = some (.int (I (-2))) ∧ mrow h' = mrow h) ∨ ((0 ≤ k ∧ k ≤ 10) ∧ k ≤ gi h 171 3 - 2 ∧ rv = some (.int (I (((gi h 171 3 - 1) + k) / (k + 1)))) ∧ mrow h' = rowF (fun n => rlC (gi h 171 3 - 1) (((gi h 171 3 - 1) + k) / (k + 1)) k (n + 1)) k.toNat)) ∧ GD gE gRL sh h' ∧ FRM gRL [(0, 54, 0, 0), (0, 54, 1, 1), (1, 55, 0, 39)] h h' ∧ gi h' 171 0 = 0) := by
  refine x_met _ rfl (Nat.le_of_ble_eq_true rfl) (fun K hK => ?_)
  have hmono := MONO_CLd hSP 4
  have gc := gri 2 40 hG (a := 171) (r := 54) (k := 3) rfl rfl
  have loopF : ∀ (mz : Nat) (g last i : Int) (h4 : aH) (ls : List (Nat × Value)), ((k + 1 - i).toNat = mz) → (g = (((gi h 171 3 - 1) + k) / (k + 1))) → (0 ≤ k ∧ k ≤ 10 ∧ k ≤ gi h 171 3 - 2) → (1 ≤ i ∧ i ≤ k + 1) → (last = rlC (gi h 171 3 - 1) g k (i - 1).toNat) → (gi h4 171 0 = 0) → (gi h4 171 1 = i - 1) → (mrow h4 = rowF (fun n => rlC (gi h 171 3 - 1) g k (n + 1)) (i - 1).toNat) → lk ls 0 = some (.ref 171) → lk ls 1 = some (.int (I k)) → lk ls 2 = some (.int (I g)) → lk ls 3 = some (.int (I last)) → lk ls 4 = some (.int (I i)) → GD gE gRL sh h4 → FRM gRL [(0, 54, 0, 0), (0, 54, 1, 1), (1, 55, 0, 39)] h h4 → K 59 ls [] h4 0 0 := by
    intro mz
    induction mz using Nat.strongRecOn with
    | ind mz ih =>
    intro g last i h4 ls hm gg k0 i0 la t4 r4 e4 l0 l1 l2 l3 l4 hG4 hF4
    have gb := relayB (s := gi h 171 3 - 1) (k := k) (by omega) (by omega)
    have lb1 := rlC_b (s := (gi h 171 3 - 1)) (g := g) (k := k) (by omega) (by omega) (by omega) (i - 1).toNat (by omega)
    rw [← la] at lb1
    have lb2 := fun z : i ≤ k => rlC_b (s := (gi h 171 3 - 1)) (g := g) (k := k) (by omega) (by omega) (by omega) i.toNat (by omega)
    have ls1 := rlC_s (s := gi h 171 3 - 1) (g := g) (k := k) i0.1
    rw [← la] at ls1
    have gm : 0 ≤ g * (k - i + 1) ∧ g * (k - i + 1) ≤ 40 * 10 := ⟨Int.mul_nonneg (by omega) (by omega), Int.mul_le_mul (by omega) (by omega) (by omega) (by omega)⟩
    refine x_iload 61 hK rfl rfl l4 ?_
    refine x_iload_n 62 hK rfl rfl l1 ?_
    refine x_if_icmp_gt 99 65 hK rfl rfl rfl (by omega) (by omega) (fun c3 => ?_) (fun c3 => ?_)
    · refine x_iload_n 100 hK rfl rfl l2 ?_
      obtain rfl : i = k + 1 := by omega
      rw [show k + 1 - 1 = k by omega] at e4
      subst gg
      exact x_iret hK rfl ⟨Or.inr (Or.inr ⟨by omega, by omega, rfl, e4⟩), hG4, hF4, t4⟩
    · refine x_iload_n 66 hK rfl rfl l3 ?_
      refine x_iconst 67 hK rfl rfl ?_
      refine x_iadd 68 hK rfl rfl ?_
      refine x_aload_n 69 hK rfl rfl l0 ?_
      have g10 := gri (2) (40) hG (a := 171) (r := 54) (k := 3) rfl rfl
      refine x_getE 72 hK rfl (Or.inl rfl) rfl (sp_171 (h := h4) hG4) (e := (gi h 171 3)) (FRM_gi hF4 (r := 54) rfl rfl) ?_
      refine x_iconst 73 hK rfl rfl ?_
      refine x_isub 74 hK rfl rfl ?_
      refine x_iload_n 75 hK rfl rfl l2 ?_
      refine x_iload_n 76 hK rfl rfl l1 ?_
      refine x_iload 78 hK rfl rfl l4 ?_
      refine x_isub 79 hK rfl rfl ?_
      refine x_iconst 80 hK rfl rfl ?_
      refine x_iadd 81 hK rfl rfl ?_
      refine x_imul 82 hK rfl rfl ?_
      refine x_isub 83 hK rfl rfl ?_
      refine x_max 86 hK rfl rfl (Nat.le_of_ble_eq_true rfl) (by omega) (by omega) ?_
      refine x_istore_n 87 hK rfl rfl _ rfl ?_
      refine x_aload_n 88 hK rfl rfl (lk1_n l0 (by decide) (Or.inl rfl)) ?_
      refine x_iload_n 89 hK rfl rfl lk1_s ?_
      refine x_i2l 90 hK rfl rfl (by omega) ?_
      have z12 : gi h4 171 1 = (i - 1) := r4
      have z12r : mrow h4 = (mrow h4) := rfl
      refine x_callV 93 hK hmono rfl rfl [.ref 171, .long (J (max (last + 1) (((gi h 171 3) - 1) - (g * ((k - i) + 1)))))] [] rfl rfl (Nat.le_of_ble_eq_true rfl) (Nat.le_of_ble_eq_true rfl) rfl (sp_171 (h := h4) hG4) (CLd_le (Nat.le_of_ble_eq_true rfl) (ctX11_entersF hSP hG4 (by omega) (by omega))) ?_
      rintro v11 h11 ⟨rfl, hG11, hF11, t11, s11⟩
      rw [z12] at t11
      rw [z12r] at s11
      refine x_iinc 96 hK rfl rfl (lk1_n l4 (by decide) (Or.inl rfl)) _ rfl ?_
      refine x_goto 59 hK rfl rfl ?_
      exact ih _ (by omega) g (max (last + 1) (((gi h 171 3) - 1) - (g * ((k - i) + 1)))) (i + 1) _ _ rfl (by omega) (by omega) (by omega) (by rw [show i + 1 - 1 = i by omega]; exact ls1) ((FRM_gi hF11 (r := 54) rfl rfl).trans (t4)) ((t11).trans (by omega)) (by rw [s11, e4, ls1, show (i + 1 - 1).toNat = (i - 1).toNat + 1 by omega, rowF_s, show (i - 1).toNat + 1 = i.toNat by omega]) (lk1_n (lk1_n l0 (by decide) (Or.inl rfl)) (by decide) (Or.inl rfl)) (lk1_n (lk1_n l1 (by decide) (Or.inl rfl)) (by decide) (Or.inl rfl)) (lk1_n (lk1_n l2 (by decide) (Or.inl rfl)) (by decide) (Or.inl rfl)) (lk1_n lk1_s (by decide) (Or.inl rfl)) lk1_s (hG11) ((hF4).trans ((hF11).mono rfl))
  have loopE : ∀ (mz : Nat) (g : Int) (ls : List (Nat × Value)), (((((gi h 171 3 - 1) + k) / (k + 1)) - g).toNat = mz) → (0 ≤ k ∧ k ≤ 10 ∧ k ≤ gi h 171 3 - 2) → (1 ≤ g ∧ g ≤ (((gi h 171 3 - 1) + k) / (k + 1))) → lk ls 0 = some (.ref 171) → lk ls 1 = some (.int (I k)) → lk ls 2 = some (.int (I g)) → K 34 ls [] (wI h 171 0 0) 0 0 := by
    intro mz
    induction mz using Nat.strongRecOn with
    | ind mz ih =>
    intro g ls hm k0 g0 l0 l1 l2
    have gb := relayB (s := gi h 171 3 - 1) (k := k) (by omega) (by omega)
    have gq := relayG (s := gi h 171 3 - 1) (g := g) (k := k) (by omega) (by omega)
    refine x_aload_n 35 hK rfl rfl l0 ?_
    refine x_iload_n 36 hK rfl rfl l2 ?_
    have g13 := gri (2) (40) hG (a := 171) (r := 54) (k := 3) rfl rfl
    have hGp14 : GD gE gRL sh (wI h 171 0 0) := GD_w1 (hG) (r := 54) rfl (by omega) rfl (by omega) (by omega)
    have z15 : gi (wI h 171 0 0) 171 3 = (gi h 171 3) := gi_k (by decide) _
    refine x_callV 39 hK hmono rfl rfl [.ref 171, .int (I g)] [] rfl rfl (Nat.le_of_ble_eq_true rfl) (Nat.le_of_ble_eq_true rfl) rfl (sp_171 (h := h) hG) (CLd_le (Nat.le_of_ble_eq_true rfl) (ctX11_postsFor hSP hGp14 (by omega))) ?_
    rintro v9 h9 ⟨e9, rfl⟩
    rw [e9, z15]
    clear e9
    have pf16 := relayD (s := (gi h 171 3) - 1) (g := g) (by omega) (by omega)
    refine x_iload_n 40 hK rfl rfl l1 ?_
    refine x_if_icmp_le 49 43 hK rfl rfl rfl (by omega) (by omega) (fun c5 => ?_) (fun c5 => ?_)
    · refine x_aload_n 50 hK rfl rfl l0 ?_
      refine x_iconst 51 hK rfl rfl ?_
      refine x_putI 54 hK rfl rfl (sp_171 (h := h) hG) ?_
      refine x_iconst 55 hK rfl rfl ?_
      refine x_istore_n 56 hK rfl rfl _ rfl ?_
      refine x_iconst 57 hK rfl rfl ?_
      refine x_istore 59 hK rfl rfl _ rfl ?_
      exact loopF _ g 0 1 _ _ rfl (by omega) (by omega) (by omega) (rfl) ((gi_k (by decide) _).trans (gi_same (by omega))) (gi_same (by omega)) (mrow_0 (gi_same (by omega))) (lk1_n (lk1_n l0 (by decide) (Or.inl rfl)) (by decide) (Or.inl rfl)) (lk1_n (lk1_n l1 (by decide) (Or.inl rfl)) (by decide) (Or.inl rfl)) (lk1_n (lk1_n l2 (by decide) (Or.inl rfl)) (by decide) (Or.inl rfl)) (lk1_n lk1_s (by decide) (Or.inl rfl)) lk1_s (GD_w1 (GD_w1 (hG) (r := 54) rfl (by omega) rfl (by omega) (by omega)) (r := 54) rfl (by omega) rfl (by omega) (by omega)) (FRM_w (FRM_w ((FRM.rf : FRM gRL [(0, 54, 0, 0), (0, 54, 1, 1), (1, 55, 0, 39)] h h)) (r := 54) rfl rfl) (r := 54) rfl rfl)
    · refine x_iinc 46 hK rfl rfl l2 _ rfl ?_
      refine x_goto 34 hK rfl rfl ?_
      exact ih _ (by omega) (g + 1) _ rfl (by omega) (by omega) (lk1_n l0 (by decide) (Or.inl rfl)) (lk1_n l1 (by decide) (Or.inl rfl)) lk1_s
  refine x_aload_n 1 hK rfl rfl rfl ?_
  refine x_iconst 2 hK rfl rfl ?_
  refine x_putI 5 hK rfl rfl (sp_171 (h := h) hG) ?_
  refine x_iload_n 6 hK rfl rfl rfl ?_
  refine x_i2l 7 hK rfl rfl (by omega) ?_
  refine x_lconstE 8 0 hK rfl rfl rfl ?_
  refine x_ldc2_w 11 hK rfl rfl ?_
  have hGp17 : GD gE gRL sh (wI h 171 0 0) := GD_w1 (hG) (r := 54) rfl (by omega) rfl (by omega) (by omega)
  refine x_callS 14 hK hmono rfl (Or.inl rfl) rfl [.long (J k), .long (J 0), .long (J 10)] [] rfl rfl (Nat.le_of_ble_eq_true rfl) (Nat.le_of_ble_eq_true rfl) (CLd_le (Nat.le_of_ble_eq_true rfl) (ctX11_in (by omega) (by omega) (by omega))) ?_
  rintro v9 h9 ⟨e9, ⟨rfl, i118, i218⟩ | ⟨rfl, i118⟩⟩ <;> rw [e9] <;> clear e9
  · refine x_if_ne 19 17 hK rfl rfl rfl (by omega) (fun _ => ?_) (fun c => by omega)
    refine x_iload_n 20 hK rfl rfl rfl ?_
    refine x_aload_n 21 hK rfl rfl rfl ?_
    have g19 := gri (2) (40) hG (a := 171) (r := 54) (k := 3) rfl rfl
    refine x_getE 24 hK rfl (Or.inl rfl) rfl (sp_171 (h := h) hG) (e := (gi h 171 3)) (gi_k (by decide) _) ?_
    refine x_iconst 25 hK rfl rfl ?_
    refine x_isub 26 hK rfl rfl ?_
    refine x_if_icmp_le 32 29 hK rfl rfl rfl (by omega) (by omega) (fun c15 => ?_) (fun c15 => ?_)
    · refine x_iconst 33 hK rfl rfl ?_
      refine x_istore_n 34 hK rfl rfl [(2, .int (I 1)), (0, .ref 171), (1, .int (I k))] rfl ?_
      have gb := relayB (s := gi h 171 3 - 1) (k := k) (by omega) (by omega)
      exact loopE _ 1 _ rfl (by omega) (by omega) rfl rfl rfl
    · refine x_bipush 31 hK rfl rfl rfl ?_
      exact x_iret hK rfl ⟨Or.inr (Or.inl ⟨by omega, by omega, rfl, mrow_k (by decide)⟩), GD_w1 (hG) (r := 54) rfl (by omega) rfl (by omega) (by omega), FRM_w ((FRM.rf : FRM gRL [(0, 54, 0, 0), (0, 54, 1, 1), (1, 55, 0, 39)] h h)) (r := 54) rfl rfl, gi_same (by omega)⟩
  · refine x_if_ne 19 17 hK rfl rfl rfl (by omega) (fun c => by omega) (fun _ => ?_)
    refine x_iconst 18 hK rfl rfl ?_
    exact x_iret hK rfl ⟨Or.inl ⟨by omega, rfl, mrow_k (by decide)⟩, GD_w1 (hG) (r := 54) rfl (by omega) rfl (by omega) (by omega), FRM_w ((FRM.rf : FRM gRL [(0, 54, 0, 0), (0, 54, 1, 1), (1, 55, 0, 39)] h h)) (r := 54) rfl rfl, gi_same (by omega)⟩
noncomputable def kps (a x y v : Int) : Int := if v ≤ x + y then a - x else a / 2
/-- nothing else that is bid gives more -/
noncomputable def rstB (a x y v : Int) : Nat → Bool
  | 0 => true
  | i + 1 => rstB a x y v i && decide (kps a i y v ≤ kps a x y v)
theorem rstB_s {a x y v i : Int} (h : 0 ≤ i) : rstB a x y v (i + 1).toNat = (rstB a x y v i.toNat && decide (kps a i y v ≤ kps a x y v)) := by
  rw [tn_s h]
  show (rstB a x y v i.toNat && decide (kps a (i.toNat : Int) y v ≤ _)) = _
  rw [tn_c h]
noncomputable def b2i (b : Bool) : Int := if b then 1 else 0
theorem b2i_r (b : Bool) : b2i b = 0 ∨ b2i b = 1 := by cases b <;> simp [b2i]
noncomputable def rst (a x y v : Int) : Bool := rstB a x y v (min 9 a + 1).toNat
noncomputable def mtOk (a b v : Int) (x y : Nat) : Bool := rst a x y v && rst b y x v
/-- the pairs in which neither would have more, by rows -/
noncomputable def mtY (a b v : Int) (x : Nat) : Nat → List (Int × Int)
  | 0 => []
  | y + 1 => mtY a b v x y ++ if mtOk a b v x y then [((x : Int), (y : Int))] else []
noncomputable def mtX (a b v : Int) : Nat → List (Int × Int)
  | 0 => []
  | x + 1 => mtX a b v x ++ mtY a b v x (min 9 b + 1).toNat
noncomputable def mtR (l : List (Int × Int)) : List Int := match l with
  | [] => []
  | q :: _ => [q.1, q.2]
theorem mtR_a {l r : List (Int × Int)} (h : l ≠ []) : mtR (l ++ r) = mtR l := by cases l with
  | nil => exact absurd rfl h
  | cons q t => rfl
theorem mtY_l (a b v : Int) (x : Nat) : ∀ y, (mtY a b v x y).length ≤ y
  | 0 => Nat.le_refl _
  | y + 1 => by
    have := mtY_l a b v x y
    show (mtY a b v x y ++ _).length ≤ _
    rw [List.length_append]
    split <;> simp <;> omega
theorem mtX_l (a b v : Int) : ∀ x, (mtX a b v x).length ≤ 10 * x
  | 0 => Nat.le_refl _
  | x + 1 => by
    have := mtX_l a b v x
    have := mtY_l a b v x (min 9 b + 1).toNat
    show (mtX a b v x ++ _).length ≤ _
    rw [List.length_append]
    omega
theorem len0 {l : List (Int × Int)} : l.length = 0 ↔ l = [] := List.length_eq_zero_iff
theorem kps_b (a x y v : Int) (ha : 0 ≤ a ∧ a ≤ 100) (hx : 0 ≤ x ∧ x ≤ 100) : r32 (kps a x y v) := by
  unfold kps
  split <;> omega
set_option maxRecDepth 4000 in
theorem ctX11_keeps {SP : CT} (hSP : MONO SP) {h : aH} {a x y v : Int} (ha : 0 ≤ a ∧ a ≤ 100) (hx : 0 ≤ x ∧ x ≤ 100) (hy : 0 ≤ y ∧ y ≤ 100) (hv : 0 ≤ v ∧ v ≤ 100) : CLd SP 1 mX11_keeps [.int (I a), .int (I x), .int (I y), .int (I v)] h 0 0 (fun rv h' => h' = h ∧ rv = some (.int (I (kps a x y v)))) := by
  refine x_met _ rfl (Nat.le_of_ble_eq_true rfl) (fun K hK => ?_)
  have hmono := MONO_CLd hSP 0
  refine x_iload_n 1 hK rfl rfl rfl ?_
  refine x_iload_n 2 hK rfl rfl rfl ?_
  refine x_iadd 3 hK rfl rfl ?_
  refine x_iload_n 4 hK rfl rfl rfl ?_
  refine x_if_icmp_lt 13 7 hK rfl rfl rfl (by omega) (by omega) (fun c5 => ?_) (fun c5 => ?_)
  · refine x_iload_n 14 hK rfl rfl rfl ?_
    refine x_iconst 15 hK rfl rfl ?_
    refine x_idivp 16 hK rfl rfl (by omega) (by omega) (by omega) (by omega) ?_
    exact x_iret hK rfl ⟨rfl, by rw [show kps a x y v = (a / 2) from if_neg (by omega)]⟩
  · refine x_iload_n 8 hK rfl rfl rfl ?_
    refine x_iload_n 9 hK rfl rfl rfl ?_
    refine x_isub 10 hK rfl rfl ?_
    refine x_goto 16 hK rfl rfl ?_
    exact x_iret hK rfl ⟨rfl, by rw [show kps a x y v = (a - x) from if_pos (by omega)]⟩
theorem rst_step {e n : Int} {b : Bool} {p : Prop} {dp : Decidable p} (h : e = b2i b) (hn : n = if e = 0 then 0 else if p then 1 else 0) : n = b2i (b && decide p) := by
  subst h hn
  cases b
  · simp [b2i]
  · by_cases hp : p <;> simp [b2i, hp]
set_option maxRecDepth 4000 in
theorem ctX11_isRest {SP : CT} (hSP : MONO SP) {h : aH} {a x y v : Int} (ha : 0 ≤ a ∧ a ≤ 100) (hx : 0 ≤ x ∧ x ≤ 100) (hy : 0 ≤ y ∧ y ≤ 100) (hv : 0 ≤ v ∧ v ≤ 100) : CLd SP 2 mX11_isRest [.int (I a), .int (I x), .int (I y), .int (I v)] h 0 0 (fun rv h' => h' = h ∧ rv = some (.int (I (b2i (rst a x y v))))) := by
  refine x_met _ rfl (Nat.le_of_ble_eq_true rfl) (fun K hK => ?_)
  have hmono := MONO_CLd hSP 1
  have loop : ∀ (mz : Nat) (e i : Int) (ls : List (Nat × Value)), ((min 9 a + 1 - i).toNat = mz) → (0 ≤ i ∧ i ≤ min 9 a + 1) → (e = b2i (rstB a x y v i.toNat)) → lk ls 0 = some (.int (I a)) → lk ls 1 = some (.int (I x)) → lk ls 2 = some (.int (I y)) → lk ls 3 = some (.int (I v)) → lk ls 4 = some (.int (I e)) → lk ls 5 = some (.int (I i)) → K 6 ls [] h 0 0 := by
    intro mz
    induction mz using Nat.strongRecOn with
    | ind mz ih =>
    intro e i ls hm i0 ee l0 l1 l2 l3 l4 l5
    have e01 := b2i_r (rstB a x y v i.toNat)
    rw [← ee] at e01
    have rs := rstB_s (a := a) (x := x) (y := y) (v := v) i0.1
    refine x_iload 8 hK rfl rfl l5 ?_
    refine x_bipush 10 hK rfl rfl rfl ?_
    refine x_iload_n 11 hK rfl rfl l0 ?_
    refine x_min 14 hK rfl rfl (Nat.le_of_ble_eq_true rfl) (by omega) (by omega) ?_
    refine x_if_icmp_gt 53 17 hK rfl rfl rfl (by omega) (by omega) (fun c5 => ?_) (fun c5 => ?_)
    · refine x_iload 55 hK rfl rfl l4 ?_
      exact x_zret hK rfl (by omega) ⟨rfl, by rw [ee, show i = min 9 a + 1 by omega]; rfl⟩
    · refine x_iload 19 hK rfl rfl l4 ?_
      refine x_if_eq 44 22 hK rfl rfl rfl (by omega) (fun c9 => ?_) (fun c9 => ?_)
      · refine x_iconst 45 hK rfl rfl ?_
        refine x_istore 47 hK rfl rfl _ rfl ?_
        refine x_iinc 50 hK rfl rfl (lk1_n l5 (by decide) (Or.inl rfl)) _ rfl ?_
        refine x_goto 6 hK rfl rfl ?_
        exact ih _ (by omega) 0 (i + 1) _ rfl (by omega) (by rw [rs]; exact rst_step ee (by first | rw [if_pos (by omega)] | rw [if_neg (by omega), if_pos (by omega)] | rw [if_neg (by omega), if_neg (by omega)])) (lk1_n (lk1_n l0 (by decide) (Or.inl rfl)) (by decide) (Or.inl rfl)) (lk1_n (lk1_n l1 (by decide) (Or.inl rfl)) (by decide) (Or.inl rfl)) (lk1_n (lk1_n l2 (by decide) (Or.inl rfl)) (by decide) (Or.inl rfl)) (lk1_n (lk1_n l3 (by decide) (Or.inl rfl)) (by decide) (Or.inl rfl)) (lk1_n lk1_s (by decide) (Or.inl rfl)) lk1_s
      · refine x_iload_n 23 hK rfl rfl l0 ?_
        refine x_iload 25 hK rfl rfl l5 ?_
        refine x_iload_n 26 hK rfl rfl l2 ?_
        refine x_iload_n 27 hK rfl rfl l3 ?_
        refine x_callS 30 hK hmono rfl (Or.inl rfl) rfl [.int (I a), .int (I i), .int (I y), .int (I v)] [] rfl rfl (Nat.le_of_ble_eq_true rfl) (Nat.le_of_ble_eq_true rfl) (CLd_le (Nat.le_of_ble_eq_true rfl) (ctX11_keeps hSP (by omega) (by omega) (by omega) (by omega))) ?_
        rintro v9 h9 ⟨e9, rfl⟩
        rw [e9]
        clear e9
        have kb20 := kps_b a i y v (by omega) (by omega)
        refine x_iload_n 31 hK rfl rfl l0 ?_
        refine x_iload_n 32 hK rfl rfl l1 ?_
        refine x_iload_n 33 hK rfl rfl l2 ?_
        refine x_iload_n 34 hK rfl rfl l3 ?_
        refine x_callS 37 hK hmono rfl (Or.inl rfl) rfl [.int (I a), .int (I x), .int (I y), .int (I v)] [.int (I (kps a i y v))] rfl rfl (Nat.le_of_ble_eq_true rfl) (Nat.le_of_ble_eq_true rfl) (CLd_le (Nat.le_of_ble_eq_true rfl) (ctX11_keeps hSP (by omega) (by omega) (by omega) (by omega))) ?_
        rintro v9 h9 ⟨e9, rfl⟩
        rw [e9]
        clear e9
        have kb21 := kps_b a x y v (by omega) (by omega)
        refine x_if_icmp_gt 44 40 hK rfl rfl rfl (by omega) (by omega) (fun c25 => ?_) (fun c25 => ?_)
        · refine x_iconst 45 hK rfl rfl ?_
          refine x_istore 47 hK rfl rfl _ rfl ?_
          refine x_iinc 50 hK rfl rfl (lk1_n l5 (by decide) (Or.inl rfl)) _ rfl ?_
          refine x_goto 6 hK rfl rfl ?_
          exact ih _ (by omega) 0 (i + 1) _ rfl (by omega) (by rw [rs]; exact rst_step ee (by first | rw [if_pos (by omega)] | rw [if_neg (by omega), if_pos (by omega)] | rw [if_neg (by omega), if_neg (by omega)])) (lk1_n (lk1_n l0 (by decide) (Or.inl rfl)) (by decide) (Or.inl rfl)) (lk1_n (lk1_n l1 (by decide) (Or.inl rfl)) (by decide) (Or.inl rfl)) (lk1_n (lk1_n l2 (by decide) (Or.inl rfl)) (by decide) (Or.inl rfl)) (lk1_n (lk1_n l3 (by decide) (Or.inl rfl)) (by decide) (Or.inl rfl)) (lk1_n lk1_s (by decide) (Or.inl rfl)) lk1_s
        · refine x_iconst 41 hK rfl rfl ?_
          refine x_goto 45 hK rfl rfl ?_
          refine x_istore 47 hK rfl rfl _ rfl ?_
          refine x_iinc 50 hK rfl rfl (lk1_n l5 (by decide) (Or.inl rfl)) _ rfl ?_
          refine x_goto 6 hK rfl rfl ?_
          exact ih _ (by omega) 1 (i + 1) _ rfl (by omega) (by rw [rs]; exact rst_step ee (by first | rw [if_pos (by omega)] | rw [if_neg (by omega), if_pos (by omega)] | rw [if_neg (by omega), if_neg (by omega)])) (lk1_n (lk1_n l0 (by decide) (Or.inl rfl)) (by decide) (Or.inl rfl)) (lk1_n (lk1_n l1 (by decide) (Or.inl rfl)) (by decide) (Or.inl rfl)) (lk1_n (lk1_n l2 (by decide) (Or.inl rfl)) (by decide) (Or.inl rfl)) (lk1_n (lk1_n l3 (by decide) (Or.inl rfl)) (by decide) (Or.inl rfl)) (lk1_n lk1_s (by decide) (Or.inl rfl)) lk1_s
  refine x_iconst 1 hK rfl rfl ?_
  refine x_istore 3 hK rfl rfl [(4, .int (I 1)), (0, .int (I a)), (1, .int (I x)), (2, .int (I y)), (3, .int (I v))] rfl ?_
  refine x_iconst 4 hK rfl rfl ?_
  refine x_istore 6 hK rfl rfl [(5, .int (I 0)), (4, .int (I 1)), (0, .int (I a)), (1, .int (I x)), (2, .int (I y)), (3, .int (I v))] rfl ?_
  exact loop _ 1 0 _ rfl (by omega) (rfl) rfl rfl rfl rfl rfl rfl
theorem and_no {p q : Bool} (h : b2i p = 0 ∨ b2i q = 0) : (p && q) = false := by cases p <;> cases q <;> simp_all [b2i]
theorem and_ye {p q : Bool} (h : ¬ b2i p = 0) (h' : ¬ b2i q = 0) : (p && q) = true := by cases p <;> cases q <;> simp_all [b2i]
set_option maxRecDepth 4000 in
theorem ctX11_mutiny {SP : CT} (hSP : MONO SP) {sh : List (Nat × Nat)} {h : aH} (hG : GD gE gRL sh h) {a b v : Int} (ra : r32 a) (rb : r32 b) (rv : r32 v) : CLd SP 5 mX11_mutiny [.ref 171, .int (I a), .int (I b), .int (I v)] h 0 0 (fun rv h' => ((((1 ≤ a ∧ a ≤ 20) ∧ (1 ≤ b ∧ b ≤ 20) ∧ 1 ≤ v ∧ v ≤ 18) ∧ rv = some (.int (I ((mtX a b v (min 9 a + 1).toNat).length : Nat))) ∧ mrow h' = mtR (mtX a b v (min 9 a + 1).toNat)) ∨ (¬ ((1 ≤ a ∧ a ≤ 20) ∧ (1 ≤ b ∧ b ≤ 20) ∧ 1 ≤ v ∧ v ≤ 18) ∧ rv = some (.int (I (-1))) ∧ mrow h' = mrow h)) ∧ GD gE gRL sh h' ∧ FRM gRL [(0, 54, 0, 0), (0, 54, 1, 1), (1, 55, 0, 39)] h h' ∧ gi h' 171 0 = 0) := by
  refine x_met _ rfl (Nat.le_of_ble_eq_true rfl) (fun K hK => ?_)
  have hmono := MONO_CLd hSP 4
  have loopX : ∀ (mz : Nat) (f x : Int) (h3 : aH) (ls : List (Nat × Value)), ((min 9 a + 1 - x).toNat = mz) → ((1 ≤ a ∧ a ≤ 20) ∧ (1 ≤ b ∧ b ≤ 20) ∧ 1 ≤ v ∧ v ≤ 18) → (0 ≤ x ∧ x ≤ min 9 a + 1) → (f = ((mtX a b v x.toNat).length : Nat)) → (gi h3 171 0 = 0) → (gi h3 171 1 ≤ 2 ∧ (f = 0 → gi h3 171 1 = 0)) → (mrow h3 = mtR (mtX a b v x.toNat)) → lk ls 0 = some (.ref 171) → lk ls 1 = some (.int (I a)) → lk ls 2 = some (.int (I b)) → lk ls 3 = some (.int (I v)) → lk ls 4 = some (.int (I f)) → lk ls 5 = some (.int (I x)) → GD gE gRL sh h3 → FRM gRL [(0, 54, 0, 0), (0, 54, 1, 1), (1, 55, 0, 39)] h h3 → K 54 ls [] h3 0 0 := by
    intro mz
    induction mz using Nat.strongRecOn with
    | ind mz ih =>
    intro f x h3 ls hm q0 x0 fe t3 r3 e3 l0 l1 l2 l3 l4 l5 hG3 hF3
    have ihX := ih
    have lx := mtX_l a b v x.toNat
    have g31 := gri 0 40 hG3 (a := 171) (r := 54) (k := 1) rfl rfl
    have loopY : ∀ (mz : Nat) (f y : Int) (h4 : aH) (ls : List (Nat × Value)), ((min 9 b + 1 - y).toNat = mz) → (x ≤ min 9 a) → (0 ≤ y ∧ y ≤ min 9 b + 1) → (f = ((mtX a b v x.toNat ++ mtY a b v x.toNat y.toNat).length : Nat)) → (gi h4 171 0 = 0) → (gi h4 171 1 ≤ 2 ∧ (f = 0 → gi h4 171 1 = 0)) → (mrow h4 = mtR (mtX a b v x.toNat ++ mtY a b v x.toNat y.toNat)) → lk ls 0 = some (.ref 171) → lk ls 1 = some (.int (I a)) → lk ls 2 = some (.int (I b)) → lk ls 3 = some (.int (I v)) → lk ls 4 = some (.int (I f)) → lk ls 5 = some (.int (I x)) → lk ls 6 = some (.int (I y)) → GD gE gRL sh h4 → FRM gRL [(0, 54, 0, 0), (0, 54, 1, 1), (1, 55, 0, 39)] h h4 → K 68 ls [] h4 0 0 := by
      intro mz
      induction mz using Nat.strongRecOn with
      | ind mz ih =>
      intro f y h4 ls hm x1 y0 fe t4 r4 e4 l0 l1 l2 l3 l4 l5 l6 hG4 hF4
      have ly := mtY_l a b v x.toNat y.toNat
      have fl : (mtX a b v x.toNat ++ mtY a b v x.toNat y.toNat).length ≤ 110 := by rw [List.length_append]; omega
      have g41 := gri 0 40 hG4 (a := 171) (r := 54) (k := 1) rfl rfl
      have ys : ∀ c : Bool, mtOk a b v x.toNat y.toNat = c → (mtX a b v x.toNat ++ mtY a b v x.toNat (y + 1).toNat) = (mtX a b v x.toNat ++ mtY a b v x.toNat y.toNat) ++ if c then [(x, y)] else [] := by
        intro c hc
        rw [tn_s y0.1]
        show mtX a b v x.toNat ++ (mtY a b v x.toNat y.toNat ++ if mtOk a b v x.toNat y.toNat then [((x.toNat : Int), (y.toNat : Int))] else []) = _
        rw [hc, tn_c x0.1, tn_c y0.1, List.append_assoc]
      have ok : mtOk a b v x.toNat y.toNat = (rst a x y v && rst b y x v) := by show (rst a (x.toNat : Int) (y.toNat : Int) v && rst b (y.toNat : Int) (x.toNat : Int) v) = _; rw [tn_c x0.1, tn_c y0.1]
      refine x_iload 70 hK rfl rfl l6 ?_
      refine x_bipush 72 hK rfl rfl rfl ?_
      refine x_iload_n 73 hK rfl rfl l2 ?_
      refine x_min 76 hK rfl rfl (Nat.le_of_ble_eq_true rfl) (by omega) (by omega) ?_
      refine x_if_icmp_gt 131 79 hK rfl rfl rfl (by omega) (by omega) (fun c5 => ?_) (fun c5 => ?_)
      · obtain rfl : y = min 9 b + 1 := by omega
        refine x_iinc 134 hK rfl rfl l5 _ rfl ?_
        refine x_goto 54 hK rfl rfl ?_
        exact ihX _ (by omega) f (x + 1) _ _ rfl (q0) (by omega) (by rw [tn_s x0.1]; exact fe) (t4) (r4) (by rw [tn_s x0.1]; exact e4) (lk1_n l0 (by decide) (Or.inl rfl)) (lk1_n l1 (by decide) (Or.inl rfl)) (lk1_n l2 (by decide) (Or.inl rfl)) (lk1_n l3 (by decide) (Or.inl rfl)) (lk1_n l4 (by decide) (Or.inl rfl)) lk1_s (hG4) (hF4)
      · refine x_iload_n 80 hK rfl rfl l1 ?_
        refine x_iload 82 hK rfl rfl l5 ?_
        refine x_iload 84 hK rfl rfl l6 ?_
        refine x_iload_n 85 hK rfl rfl l3 ?_
        refine x_callS 88 hK hmono rfl (Or.inl rfl) rfl [.int (I a), .int (I x), .int (I y), .int (I v)] [] rfl rfl (Nat.le_of_ble_eq_true rfl) (Nat.le_of_ble_eq_true rfl) (CLd_le (Nat.le_of_ble_eq_true rfl) (ctX11_isRest hSP (by omega) (by omega) (by omega) (by omega))) ?_
        rintro v9 h9 ⟨e9, rfl⟩
        rw [e9]
        clear e9
        have rb22 := b2i_r (rst a x y v)
        refine x_if_eq 125 91 hK rfl rfl rfl (by omega) (fun c15 => ?_) (fun c15 => ?_)
        · refine x_iinc 128 hK rfl rfl l6 _ rfl ?_
          refine x_goto 68 hK rfl rfl ?_
          have ys0 := ys false (by rw [ok]; exact and_no (by first | exact Or.inl (by omega) | exact Or.inr (by omega)))
          rw [show (if false = true then [(x, y)] else []) = ([] : List (Int × Int)) from rfl, List.append_nil] at ys0
          exact ih _ (by omega) f (y + 1) _ _ rfl (by omega) (by omega) (by rw [ys0]; exact fe) (t4) (r4) (by rw [ys0]; exact e4) (lk1_n l0 (by decide) (Or.inl rfl)) (lk1_n l1 (by decide) (Or.inl rfl)) (lk1_n l2 (by decide) (Or.inl rfl)) (lk1_n l3 (by decide) (Or.inl rfl)) (lk1_n l4 (by decide) (Or.inl rfl)) (lk1_n l5 (by decide) (Or.inl rfl)) lk1_s (hG4) (hF4)
        · refine x_iload_n 92 hK rfl rfl l2 ?_
          refine x_iload 94 hK rfl rfl l6 ?_
          refine x_iload 96 hK rfl rfl l5 ?_
          refine x_iload_n 97 hK rfl rfl l3 ?_
          refine x_callS 100 hK hmono rfl (Or.inl rfl) rfl [.int (I b), .int (I y), .int (I x), .int (I v)] [] rfl rfl (Nat.le_of_ble_eq_true rfl) (Nat.le_of_ble_eq_true rfl) (CLd_le (Nat.le_of_ble_eq_true rfl) (ctX11_isRest hSP (by omega) (by omega) (by omega) (by omega))) ?_
          rintro v9 h9 ⟨e9, rfl⟩
          rw [e9]
          clear e9
          have rb23 := b2i_r (rst b y x v)
          refine x_if_eq 125 103 hK rfl rfl rfl (by omega) (fun c24 => ?_) (fun c24 => ?_)
          · refine x_iinc 128 hK rfl rfl l6 _ rfl ?_
            refine x_goto 68 hK rfl rfl ?_
            have ys0 := ys false (by rw [ok]; exact and_no (by first | exact Or.inl (by omega) | exact Or.inr (by omega)))
            rw [show (if false = true then [(x, y)] else []) = ([] : List (Int × Int)) from rfl, List.append_nil] at ys0
            exact ih _ (by omega) f (y + 1) _ _ rfl (by omega) (by omega) (by rw [ys0]; exact fe) (t4) (r4) (by rw [ys0]; exact e4) (lk1_n l0 (by decide) (Or.inl rfl)) (lk1_n l1 (by decide) (Or.inl rfl)) (lk1_n l2 (by decide) (Or.inl rfl)) (lk1_n l3 (by decide) (Or.inl rfl)) (lk1_n l4 (by decide) (Or.inl rfl)) (lk1_n l5 (by decide) (Or.inl rfl)) lk1_s (hG4) (hF4)
          · by_cases fz : f = 0
            · have lz : (mtX a b v x.toNat ++ mtY a b v x.toNat y.toNat) = [] := len0.mp (by omega)
              have ez : mrow h4 = [] := by rw [e4, lz]; rfl
              refine x_iload 105 hK rfl rfl l4 ?_
              refine x_if_ne 122 108 hK rfl rfl rfl (by omega) (fun c => by omega) (fun _ => ?_)
              refine x_aload_n 109 hK rfl rfl l0 ?_
              refine x_iload 111 hK rfl rfl l5 ?_
              refine x_i2l 112 hK rfl rfl (by omega) ?_
              have z25 : gi h4 171 1 = 0 := (r4.2 fz)
              have z25r : mrow h4 = [] := ez
              refine x_callV 115 hK hmono rfl rfl [.ref 171, .long (J x)] [] rfl rfl (Nat.le_of_ble_eq_true rfl) (Nat.le_of_ble_eq_true rfl) rfl (sp_171 (h := h4) hG4) (CLd_le (Nat.le_of_ble_eq_true rfl) (ctX11_entersF hSP hG4 (by omega) (by omega))) ?_
              rintro v24 h24 ⟨rfl, hG24, hF24, t24, s24⟩
              rw [z25] at t24
              rw [z25r] at s24
              replace t24 : gi h24 171 1 = 1 := t24
              change mrow h24 = [x] at s24
              refine x_aload_n 116 hK rfl rfl l0 ?_
              refine x_iload 118 hK rfl rfl l6 ?_
              refine x_i2l 119 hK rfl rfl (by omega) ?_
              have z27 : gi h24 171 1 = 1 := t24
              have z27r : mrow h24 = [x] := s24
              refine x_callV 122 hK hmono rfl rfl [.ref 171, .long (J y)] [] rfl rfl (Nat.le_of_ble_eq_true rfl) (Nat.le_of_ble_eq_true rfl) rfl (sp_171 (h := h24) hG24) (CLd_le (Nat.le_of_ble_eq_true rfl) (ctX11_entersF hSP hG24 (by omega) (by omega))) ?_
              rintro v26 h26 ⟨rfl, hG26, hF26, t26, s26⟩
              rw [z27] at t26
              rw [z27r] at s26
              replace t26 : gi h26 171 1 = 2 := t26
              change mrow h26 = [x, y] at s26
              refine x_iinc 125 hK rfl rfl l4 _ rfl ?_
              refine x_iinc 128 hK rfl rfl (lk1_n l6 (by decide) (Or.inl rfl)) _ rfl ?_
              refine x_goto 68 hK rfl rfl ?_
              have ys1 := ys true (by rw [ok]; exact and_ye (by omega) (by omega))
              rw [if_pos rfl] at ys1
              have ne : (mtX a b v x.toNat ++ mtY a b v x.toNat y.toNat) = [] := len0.mp (by omega)
              rw [ne, List.nil_append] at ys1
              exact ih _ (by omega) (f + 1) (y + 1) _ _ rfl (by omega) (by omega) (by rw [ys1, fz]; rfl) ((FRM_gi hF26 (r := 54) rfl rfl).trans ((FRM_gi hF24 (r := 54) rfl rfl).trans (t4))) (by rw [show gi h26 171 1 = _ from t26]; exact ⟨by omega, fun z => by omega⟩) (by rw [ys1]; exact s26) (lk1_n (lk1_n l0 (by decide) (Or.inl rfl)) (by decide) (Or.inl rfl)) (lk1_n (lk1_n l1 (by decide) (Or.inl rfl)) (by decide) (Or.inl rfl)) (lk1_n (lk1_n l2 (by decide) (Or.inl rfl)) (by decide) (Or.inl rfl)) (lk1_n (lk1_n l3 (by decide) (Or.inl rfl)) (by decide) (Or.inl rfl)) (lk1_n lk1_s (by decide) (Or.inl rfl)) (lk1_n (lk1_n l5 (by decide) (Or.inl rfl)) (by decide) (Or.inl rfl)) lk1_s (hG26) (((hF4).trans ((hF24).mono rfl)).trans ((hF26).mono rfl))
            · refine x_iload 105 hK rfl rfl l4 ?_
              refine x_if_ne 122 108 hK rfl rfl rfl (by omega) (fun _ => ?_) (fun c => by omega)
              refine x_iinc 125 hK rfl rfl l4 _ rfl ?_
              refine x_iinc 128 hK rfl rfl (lk1_n l6 (by decide) (Or.inl rfl)) _ rfl ?_
              refine x_goto 68 hK rfl rfl ?_
              have ys1 := ys true (by rw [ok]; exact and_ye (by omega) (by omega))
              rw [if_pos rfl] at ys1
              have ne : (mtX a b v x.toNat ++ mtY a b v x.toNat y.toNat) ≠ [] := fun z => by rw [z] at fe; exact absurd fe (by simpa using fz)
              exact ih _ (by omega) (f + 1) (y + 1) _ _ rfl (by omega) (by omega) (by rw [ys1, List.length_append, fe]; simp) (t4) (⟨r4.1, fun z => by omega⟩) (by rw [ys1, mtR_a ne]; exact e4) (lk1_n (lk1_n l0 (by decide) (Or.inl rfl)) (by decide) (Or.inl rfl)) (lk1_n (lk1_n l1 (by decide) (Or.inl rfl)) (by decide) (Or.inl rfl)) (lk1_n (lk1_n l2 (by decide) (Or.inl rfl)) (by decide) (Or.inl rfl)) (lk1_n (lk1_n l3 (by decide) (Or.inl rfl)) (by decide) (Or.inl rfl)) (lk1_n lk1_s (by decide) (Or.inl rfl)) (lk1_n (lk1_n l5 (by decide) (Or.inl rfl)) (by decide) (Or.inl rfl)) lk1_s (hG4) (hF4)
    refine x_iload 56 hK rfl rfl l5 ?_
    refine x_bipush 58 hK rfl rfl rfl ?_
    refine x_iload_n 59 hK rfl rfl l1 ?_
    refine x_min 62 hK rfl rfl (Nat.le_of_ble_eq_true rfl) (by omega) (by omega) ?_
    refine x_if_icmp_gt 137 65 hK rfl rfl rfl (by omega) (by omega) (fun c5 => ?_) (fun c5 => ?_)
    · refine x_iload 139 hK rfl rfl l4 ?_
      obtain rfl : x = min 9 a + 1 := by omega
      exact x_iret hK rfl ⟨Or.inl ⟨q0, by rw [fe], e3⟩, hG3, hF3, t3⟩
    · refine x_iconst 66 hK rfl rfl ?_
      refine x_istore 68 hK rfl rfl _ rfl ?_
      exact loopY _ f 0 _ _ rfl (by omega) (by omega) (by rw [fe]; simp [mtY]) (t3) (r3) (by rw [e3]; simp [mtY]) (lk1_n l0 (by decide) (Or.inl rfl)) (lk1_n l1 (by decide) (Or.inl rfl)) (lk1_n l2 (by decide) (Or.inl rfl)) (lk1_n l3 (by decide) (Or.inl rfl)) (lk1_n l4 (by decide) (Or.inl rfl)) (lk1_n l5 (by decide) (Or.inl rfl)) lk1_s (hG3) (hF3)
  refine x_aload_n 1 hK rfl rfl rfl ?_
  refine x_iconst 2 hK rfl rfl ?_
  refine x_putI 5 hK rfl rfl (sp_171 (h := h) hG) ?_
  refine x_iload_n 6 hK rfl rfl rfl ?_
  refine x_i2l 7 hK rfl rfl (by omega) ?_
  refine x_lconstE 8 1 hK rfl rfl rfl ?_
  refine x_ldc2_w 11 hK rfl rfl ?_
  have hGp28 : GD gE gRL sh (wI h 171 0 0) := GD_w1 (hG) (r := 54) rfl (by omega) rfl (by omega) (by omega)
  refine x_callS 14 hK hmono rfl (Or.inl rfl) rfl [.long (J a), .long (J 1), .long (J 20)] [] rfl rfl (Nat.le_of_ble_eq_true rfl) (Nat.le_of_ble_eq_true rfl) (CLd_le (Nat.le_of_ble_eq_true rfl) (ctX11_in (by omega) (by omega) (by omega))) ?_
  rintro v9 h9 ⟨e9, ⟨rfl, i129, i229⟩ | ⟨rfl, i129⟩⟩ <;> rw [e9] <;> clear e9
  · refine x_if_eq 41 17 hK rfl rfl rfl (by omega) (fun c => by omega) (fun _ => ?_)
    refine x_iload_n 18 hK rfl rfl rfl ?_
    refine x_i2l 19 hK rfl rfl (by omega) ?_
    refine x_lconstE 20 1 hK rfl rfl rfl ?_
    refine x_ldc2_w 23 hK rfl rfl ?_
    have hGp30 : GD gE gRL sh (wI h 171 0 0) := GD_w1 (hG) (r := 54) rfl (by omega) rfl (by omega) (by omega)
    refine x_callS 26 hK hmono rfl (Or.inl rfl) rfl [.long (J b), .long (J 1), .long (J 20)] [] rfl rfl (Nat.le_of_ble_eq_true rfl) (Nat.le_of_ble_eq_true rfl) (CLd_le (Nat.le_of_ble_eq_true rfl) (ctX11_in (by omega) (by omega) (by omega))) ?_
    rintro v9 h9 ⟨e9, ⟨rfl, i131, i231⟩ | ⟨rfl, i131⟩⟩ <;> rw [e9] <;> clear e9
    · refine x_if_eq 41 29 hK rfl rfl rfl (by omega) (fun c => by omega) (fun _ => ?_)
      refine x_iload_n 30 hK rfl rfl rfl ?_
      refine x_i2l 31 hK rfl rfl (by omega) ?_
      refine x_lconstE 32 1 hK rfl rfl rfl ?_
      refine x_ldc2_w 35 hK rfl rfl ?_
      have hGp32 : GD gE gRL sh (wI h 171 0 0) := GD_w1 (hG) (r := 54) rfl (by omega) rfl (by omega) (by omega)
      refine x_callS 38 hK hmono rfl (Or.inl rfl) rfl [.long (J v), .long (J 1), .long (J 18)] [] rfl rfl (Nat.le_of_ble_eq_true rfl) (Nat.le_of_ble_eq_true rfl) (CLd_le (Nat.le_of_ble_eq_true rfl) (ctX11_in (by omega) (by omega) (by omega))) ?_
      rintro v9 h9 ⟨e9, ⟨rfl, i133, i233⟩ | ⟨rfl, i133⟩⟩ <;> rw [e9] <;> clear e9
      · refine x_if_ne 43 41 hK rfl rfl rfl (by omega) (fun _ => ?_) (fun c => by omega)
        refine x_iconst 44 hK rfl rfl ?_
        refine x_istore 46 hK rfl rfl [(4, .int (I 0)), (0, .ref 171), (1, .int (I a)), (2, .int (I b)), (3, .int (I v))] rfl ?_
        refine x_aload_n 47 hK rfl rfl rfl ?_
        refine x_iconst 48 hK rfl rfl ?_
        refine x_putI 51 hK rfl rfl (sp_171 (h := h) hG) ?_
        refine x_iconst 52 hK rfl rfl ?_
        refine x_istore 54 hK rfl rfl [(5, .int (I 0)), (4, .int (I 0)), (0, .ref 171), (1, .int (I a)), (2, .int (I b)), (3, .int (I v))] rfl ?_
        exact loopX _ 0 0 _ _ rfl (by omega) (by omega) (rfl) ((gi_k (by decide) _).trans (gi_same (by omega))) (by rw [show gi (wI (wI h 171 0 0) 171 1 0) 171 1 = _ from gi_same (by omega)]; exact ⟨by omega, fun _ => rfl⟩) (mrow_0 (gi_same (by omega))) rfl rfl rfl rfl rfl rfl (GD_w1 (GD_w1 (hG) (r := 54) rfl (by omega) rfl (by omega) (by omega)) (r := 54) rfl (by omega) rfl (by omega) (by omega)) (FRM_w (FRM_w ((FRM.rf : FRM gRL [(0, 54, 0, 0), (0, 54, 1, 1), (1, 55, 0, 39)] h h)) (r := 54) rfl rfl) (r := 54) rfl rfl)
      · refine x_if_ne 43 41 hK rfl rfl rfl (by omega) (fun c => by omega) (fun _ => ?_)
        refine x_iconst 42 hK rfl rfl ?_
        exact x_iret hK rfl ⟨Or.inr ⟨by omega, rfl, mrow_k (by decide)⟩, GD_w1 (hG) (r := 54) rfl (by omega) rfl (by omega) (by omega), FRM_w ((FRM.rf : FRM gRL [(0, 54, 0, 0), (0, 54, 1, 1), (1, 55, 0, 39)] h h)) (r := 54) rfl rfl, gi_same (by omega)⟩
    · refine x_if_eq 41 29 hK rfl rfl rfl (by omega) (fun _ => ?_) (fun c => by omega)
      refine x_iconst 42 hK rfl rfl ?_
      exact x_iret hK rfl ⟨Or.inr ⟨by omega, rfl, mrow_k (by decide)⟩, GD_w1 (hG) (r := 54) rfl (by omega) rfl (by omega) (by omega), FRM_w ((FRM.rf : FRM gRL [(0, 54, 0, 0), (0, 54, 1, 1), (1, 55, 0, 39)] h h)) (r := 54) rfl rfl, gi_same (by omega)⟩
  · refine x_if_eq 41 17 hK rfl rfl rfl (by omega) (fun _ => ?_) (fun c => by omega)
    refine x_iconst 42 hK rfl rfl ?_
    exact x_iret hK rfl ⟨Or.inr ⟨by omega, rfl, mrow_k (by decide)⟩, GD_w1 (hG) (r := 54) rfl (by omega) rfl (by omega) (by omega), FRM_w ((FRM.rf : FRM gRL [(0, 54, 0, 0), (0, 54, 1, 1), (1, 55, 0, 39)] h h)) (r := 54) rfl rfl, gi_same (by omega)⟩
end
section
/-! WHAT WAS SEEN (the reference) -/
/-- the LANE in which she was seen in STEP k, of n that are told; else -1 -/
noncomputable def snF (st la : Nat → Int) (k : Int) : Nat → Int
  | 0 => -1
  | i + 1 => if st i = k then la i else snF st la k i
theorem snF_s {st la : Nat → Int} {k i : Int} (h : 0 ≤ i) : snF st la k (i + 1).toNat = if st i.toNat = k then la i.toNat else snF st la k i.toNat := by rw [tn_s h]; rfl
theorem snF_b {st la : Nat → Int} {k : Int} : ∀ n : Nat, (∀ i, i < n → 0 ≤ la i ∧ la i ≤ 8) → -1 ≤ snF st la k n ∧ snF st la k n ≤ 8
  | 0, _ => ⟨Int.le_refl _, by show (-1 : Int) ≤ 8; omega⟩
  | n + 1, h => by
    have := snF_b (st := st) (k := k) n (fun i hi => h i (by omega))
    have := h n (by omega)
    show -1 ≤ (if st n = k then la n else snF st la k n) ∧ (if st n = k then la n else snF st la k n) ≤ 8
    split <;> omega
noncomputable def lsF (st : Nat → Int) : Nat → Int
  | 0 => -1
  | i + 1 => max (lsF st i) (st i)
theorem lsF_s {st : Nat → Int} {i : Int} (h : 0 ≤ i) : lsF st (i + 1).toNat = max (lsF st i.toNat) (st i.toNat) := by rw [tn_s h]; rfl
theorem lsF_b {st : Nat → Int} : ∀ n : Nat, (∀ i, i < n → 0 ≤ st i ∧ st i ≤ 24) → -1 ≤ lsF st n ∧ lsF st n ≤ 24 ∧ (0 < n → 0 ≤ lsF st n)
  | 0, _ => ⟨Int.le_refl _, by show (-1 : Int) ≤ 24; omega, fun h => absurd h (by omega)⟩
  | n + 1, h => by
    obtain ⟨h1, h2, h3⟩ := lsF_b n (fun i hi => h i (by omega))
    have := h n (by omega)
    show -1 ≤ max (lsF st n) (st n) ∧ max (lsF st n) (st n) ≤ 24 ∧ _
    refine ⟨by omega, by omega, fun _ => ?_⟩
    show 0 ≤ max (lsF st n) (st n)
    omega
noncomputable def snFine (f : Int → Int) (k l : Int) : Bool := (decide (f k < 0) || decide (f k = l)) && (decide (0 < k) || decide (l = 4))
noncomputable def s3 (g : Int → Int) (l v : Int) : Int := (if -1 < v then g (max 0 (min 8 (l + -1))) else 0) + (if 0 < v then g (max 0 (min 8 (l + 0))) else 0) + (if 1 < v then g (max 0 (min 8 (l + 1))) else 0)
/-- how many rows go on from a LANE, d STEPS ahead of the last that was seen; at most 1000000 -/
noncomputable def sMn (f : Int → Int) (last : Int) : Nat → Int → Int
  | 0, l => if snFine f last l then 1 else 0
  | d + 1, l => if snFine f (last - (d + 1)) l then min 1000000 (s3 (sMn f last d) l 2) else 0
theorem s3_b {g : Int → Int} (hg : ∀ q, 0 ≤ g q ∧ g q ≤ 1000000) (l v : Int) : 0 ≤ s3 g l v ∧ s3 g l v ≤ 3000000 := by
  have a := hg (max 0 (min 8 (l + -1)))
  have b := hg (max 0 (min 8 (l + 0)))
  have c := hg (max 0 (min 8 (l + 1)))
  unfold s3
  split <;> split <;> split <;> omega
theorem sMn_b (f : Int → Int) (last : Int) : ∀ (d : Nat) (l : Int), 0 ≤ sMn f last d l ∧ sMn f last d l ≤ 1000000
  | 0, l => by
    show 0 ≤ (if snFine f last l then (1 : Int) else 0) ∧ (if snFine f last l then (1 : Int) else 0) ≤ 1000000
    split <;> omega
  | d + 1, l => by
    have := s3_b (sMn_b f last d) l 2
    show 0 ≤ (if snFine f (last - (d + 1)) l then min 1000000 (s3 (sMn f last d) l 2) else 0) ∧ (if snFine f (last - (d + 1)) l then min 1000000 (s3 (sMn f last d) l 2) else 0) ≤ 1000000
    split <;> omega
theorem sMn_s {f : Int → Int} {last k l : Int} (h : k < last) : sMn f last (last - k).toNat l = if snFine f k l then min 1000000 (s3 (sMn f last (last - (k + 1)).toNat) l 2) else 0 := by
  obtain ⟨n, hn⟩ : ∃ n : Nat, last - (k + 1) = n := ⟨(last - (k + 1)).toNat, by omega⟩
  rw [show (last - k).toNat = n + 1 by omega, show (last - (k + 1)).toNat = n by omega]
  show (if snFine f (last - (n + 1)) l then _ else (0 : Int)) = _
  rw [show last - ((n : Int) + 1) = k by omega]
/-- the least order that goes on -/
noncomputable def nxV (g : Int → Int) (l : Int) : Int := if 0 < g (max 0 (min 8 (l + -1))) then -1 else if 0 < g (max 0 (min 8 (l + 0))) then 0 else 1
theorem nxV_b (g : Int → Int) (l : Int) : -1 ≤ nxV g l ∧ nxV g l ≤ 1 := by unfold nxV; split <;> (try split) <;> omega
theorem nxV_ok {g : Int → Int} {l : Int} (hg : ∀ q, 0 ≤ g q ∧ g q ≤ 1000000) (h : 0 < s3 g l 2) : 0 < g (max 0 (min 8 (l + nxV g l))) := by
  have a := hg (max 0 (min 8 (l + -1)))
  have b := hg (max 0 (min 8 (l + 0)))
  have c := hg (max 0 (min 8 (l + 1)))
  unfold s3 at h
  rw [if_pos (by omega), if_pos (by omega), if_pos (by omega)] at h
  unfold nxV
  by_cases h1 : 0 < g (max 0 (min 8 (l + -1)))
  · rw [if_pos h1]; exact h1
  · rw [if_neg h1]
    by_cases h2 : 0 < g (max 0 (min 8 (l + 0)))
    · rw [if_pos h2]; exact h2
    · rw [if_neg h2]; omega
noncomputable def sRow (f : Int → Int) (last : Int) : Nat → Int → List Int
  | 0, _ => []
  | d + 1, l => nxV (sMn f last d) l :: sRow f last d (max 0 (min 8 (l + nxV (sMn f last d) l)))
/-- the table is filled so far -/
noncomputable def TBL (f : Int → Int) (last : Int) (h : aH) (k l : Int) : Prop := ∀ k' l' : Int, 0 ≤ k' → 0 ≤ l' → l' ≤ 8 → k' ≤ last → (k < k' ∨ (k' = k ∧ l' < l)) → gi h 195 (9 * k' + l').toNat = sMn f last (last - k').toNat l' ∧ gi h 196 (9 * k' + l').toNat = if 0 < sMn f last (last - k').toNat l' then 1 else 0
theorem TBL_w {f : Int → Int} {last : Int} {h h' : aH} {k l : Int} (t : TBL f last h k l) (hk : 0 ≤ k) (hl : 0 ≤ l ∧ l ≤ 8) (h1 : ∀ j, j ≠ (9 * k + l).toNat → gi h' 195 j = gi h 195 j ∧ gi h' 196 j = gi h 196 j) : TBL f last h' k l := by
  intro k' l' a b c d e
  have z := h1 (9 * k' + l').toNat (by omega)
  rw [z.1, z.2]
  exact t k' l' a b c d e
set_option maxRecDepth 4000 in
theorem ctX11_seenIn {SP : CT} (hSP : MONO SP) {sh : List (Nat × Nat)} {h : aH} (hG : GD gE gRL sh h) {k : Int} (rk : r32 k) : CLd SP 1 mX11_seenIn [.ref 171, .int (I k)] h 0 0 (fun rv h' => h' = h ∧ rv = some (.int (I (snF (gi h 193) (gi h 194) k (gi h 171 42).toNat)))) := by
  refine x_met _ rfl (Nat.le_of_ble_eq_true rfl) (fun K hK => ?_)
  have hmono := MONO_CLd hSP 0
  have loop : ∀ (mz : Nat) (e i : Int) (ls : List (Nat × Value)), ((gi h 171 42 - i).toNat = mz) → (0 ≤ i ∧ i ≤ gi h 171 42) → (e = snF (gi h 193) (gi h 194) k i.toNat) → lk ls 0 = some (.ref 171) → lk ls 1 = some (.int (I k)) → lk ls 2 = some (.int (I e)) → lk ls 3 = some (.int (I i)) → K 4 ls [] h 0 0 := by
    intro mz
    induction mz using Nat.strongRecOn with
    | ind mz ih =>
    intro e i ls hm i0 ee l0 l1 l2 l3
    have gs := gri 0 12 hG (a := 171) (r := 54) (k := 42) rfl rfl
    refine x_iload_n 5 hK rfl rfl l3 ?_
    refine x_aload_n 6 hK rfl rfl l0 ?_
    have g49 := gri (0) (12) hG (a := 171) (r := 54) (k := 42) rfl rfl
    refine x_getE 9 hK rfl (Or.inl rfl) rfl (sp_171 (h := h) hG) (e := (gi h 171 42)) (rfl) ?_
    refine x_if_icmp_ge 39 12 hK rfl rfl rfl (by omega) (by omega) (fun c4 => ?_) (fun c4 => ?_)
    · refine x_iload_n 40 hK rfl rfl l2 ?_
      exact x_iret hK rfl ⟨rfl, by rw [ee, show i = gi h 171 42 by omega]⟩
    · refine x_aload_n 13 hK rfl rfl l0 ?_
      refine x_getR 16 hK rfl rfl (sp_171 (h := h) hG) (rf_171_43 (h := h) hG) ?_
      refine x_iload_n 17 hK rfl rfl l3 ?_
      have g50 := grn (0) (24) hG (a := 193) (r := 76) (k := i.toNat) rfl rfl (by omega)
      refine x_ialoadE 18 hK rfl rfl (sp_193 (h := h) hG) (by omega) (by omega) (by omega) (e' := (gi h 193 i.toNat)) (rfl) ?_
      refine x_iload_n 19 hK rfl rfl l1 ?_
      refine x_if_icmp_ne 31 22 hK rfl rfl rfl (by omega) (by omega) (fun c12 => ?_) (fun c12 => ?_)
      · refine x_iload_n 32 hK rfl rfl l2 ?_
        refine x_istore_n 33 hK rfl rfl _ rfl ?_
        refine x_iinc 36 hK rfl rfl (lk1_n l3 (by decide) (Or.inl rfl)) _ rfl ?_
        refine x_goto 4 hK rfl rfl ?_
        exact ih _ (by omega) e (i + 1) _ rfl (by omega) (by rw [snF_s i0.1]; first | rw [if_pos (by omega)] | (rw [if_neg (by omega)]; exact ee)) (lk1_n (lk1_n l0 (by decide) (Or.inl rfl)) (by decide) (Or.inl rfl)) (lk1_n (lk1_n l1 (by decide) (Or.inl rfl)) (by decide) (Or.inl rfl)) (lk1_n lk1_s (by decide) (Or.inl rfl)) lk1_s
      · refine x_aload_n 23 hK rfl rfl l0 ?_
        refine x_getR 26 hK rfl rfl (sp_171 (h := h) hG) (rf_171_44 (h := h) hG) ?_
        refine x_iload_n 27 hK rfl rfl l3 ?_
        have g51 := grn (0) (8) hG (a := 194) (r := 77) (k := i.toNat) rfl rfl (by omega)
        refine x_ialoadE 28 hK rfl rfl (sp_194 (h := h) hG) (by omega) (by omega) (by omega) (e' := (gi h 194 i.toNat)) (rfl) ?_
        refine x_goto 32 hK rfl rfl ?_
        refine x_istore_n 33 hK rfl rfl _ rfl ?_
        refine x_iinc 36 hK rfl rfl (lk1_n l3 (by decide) (Or.inl rfl)) _ rfl ?_
        refine x_goto 4 hK rfl rfl ?_
        exact ih _ (by omega) (gi h 194 i.toNat) (i + 1) _ rfl (by omega) (by rw [snF_s i0.1]; first | rw [if_pos (by omega)] | (rw [if_neg (by omega)]; exact ee)) (lk1_n (lk1_n l0 (by decide) (Or.inl rfl)) (by decide) (Or.inl rfl)) (lk1_n (lk1_n l1 (by decide) (Or.inl rfl)) (by decide) (Or.inl rfl)) (lk1_n lk1_s (by decide) (Or.inl rfl)) lk1_s
  refine x_iconst 1 hK rfl rfl ?_
  refine x_istore_n 2 hK rfl rfl [(2, .int (I (-1))), (0, .ref 171), (1, .int (I k))] rfl ?_
  refine x_iconst 3 hK rfl rfl ?_
  refine x_istore_n 4 hK rfl rfl [(3, .int (I 0)), (2, .int (I (-1))), (0, .ref 171), (1, .int (I k))] rfl ?_
  have gs := gri 0 12 hG (a := 171) (r := 54) (k := 42) rfl rfl
  exact loop _ (-1) 0 _ rfl (by omega) (rfl) rfl rfl rfl rfl
theorem seen_b {sh : List (Nat × Nat)} {h : aH} (hG : GD gE gRL sh h) (k : Int) : -1 ≤ snF (gi h 193) (gi h 194) k (gi h 171 42).toNat ∧ snF (gi h 193) (gi h 194) k (gi h 171 42).toNat ≤ 8 := by
  have gs := gri 0 12 hG (a := 171) (r := 54) (k := 42) rfl rfl
  exact snF_b _ fun i hi => grn 0 8 hG (a := 194) (r := 77) rfl rfl (by omega)
theorem last_b {sh : List (Nat × Nat)} {h : aH} (hG : GD gE gRL sh h) : -1 ≤ lsF (gi h 193) (gi h 171 42).toNat ∧ lsF (gi h 193) (gi h 171 42).toNat ≤ 24 ∧ (0 < gi h 171 42 → 0 ≤ lsF (gi h 193) (gi h 171 42).toNat) ∧ (gi h 171 42 = 0 → lsF (gi h 193) (gi h 171 42).toNat = -1) := by
  have gs := gri 0 12 hG (a := 171) (r := 54) (k := 42) rfl rfl
  obtain ⟨h1, h2, h3⟩ := lsF_b (st := gi h 193) (gi h 171 42).toNat fun i hi => grn 0 24 hG (a := 193) (r := 76) rfl rfl (by omega)
  exact ⟨h1, h2, fun z => h3 (by omega), fun z => by rw [z]; rfl⟩
set_option maxRecDepth 4000 in
theorem ctX11_lastSeen {SP : CT} (hSP : MONO SP) {sh : List (Nat × Nat)} {h : aH} (hG : GD gE gRL sh h) : CLd SP 1 mX11_lastSeen [.ref 171] h 0 0 (fun rv h' => h' = h ∧ rv = some (.int (I (lsF (gi h 193) (gi h 171 42).toNat)))) := by
  refine x_met _ rfl (Nat.le_of_ble_eq_true rfl) (fun K hK => ?_)
  have hmono := MONO_CLd hSP 0
  have loop : ∀ (mz : Nat) (e i : Int) (ls : List (Nat × Value)), ((gi h 171 42 - i).toNat = mz) → (0 ≤ i ∧ i ≤ gi h 171 42) → (-1 ≤ e ∧ e ≤ 24) → (e = lsF (gi h 193) i.toNat) → lk ls 0 = some (.ref 171) → lk ls 1 = some (.int (I e)) → lk ls 2 = some (.int (I i)) → K 4 ls [] h 0 0 := by
    intro mz
    induction mz using Nat.strongRecOn with
    | ind mz ih =>
    intro e i ls hm i0 eb ee l0 l1 l2
    have gs := gri 0 12 hG (a := 171) (r := 54) (k := 42) rfl rfl
    refine x_iload_n 5 hK rfl rfl l2 ?_
    refine x_aload_n 6 hK rfl rfl l0 ?_
    have g52 := gri (0) (12) hG (a := 171) (r := 54) (k := 42) rfl rfl
    refine x_getE 9 hK rfl (Or.inl rfl) rfl (sp_171 (h := h) hG) (e := (gi h 171 42)) (rfl) ?_
    refine x_if_icmp_ge 29 12 hK rfl rfl rfl (by omega) (by omega) (fun c4 => ?_) (fun c4 => ?_)
    · refine x_iload_n 30 hK rfl rfl l1 ?_
      exact x_iret hK rfl ⟨rfl, by rw [ee, show i = gi h 171 42 by omega]⟩
    · refine x_iload_n 13 hK rfl rfl l1 ?_
      refine x_aload_n 14 hK rfl rfl l0 ?_
      refine x_getR 17 hK rfl rfl (sp_171 (h := h) hG) (rf_171_43 (h := h) hG) ?_
      refine x_iload_n 18 hK rfl rfl l2 ?_
      have g53 := grn (0) (24) hG (a := 193) (r := 76) (k := i.toNat) rfl rfl (by omega)
      refine x_ialoadE 19 hK rfl rfl (sp_193 (h := h) hG) (by omega) (by omega) (by omega) (e' := (gi h 193 i.toNat)) (rfl) ?_
      refine x_max 22 hK rfl rfl (Nat.le_of_ble_eq_true rfl) (by omega) (by omega) ?_
      refine x_istore_n 23 hK rfl rfl _ rfl ?_
      refine x_iinc 26 hK rfl rfl (lk1_n l2 (by decide) (Or.inl rfl)) _ rfl ?_
      refine x_goto 4 hK rfl rfl ?_
      exact ih _ (by omega) (max e (gi h 193 i.toNat)) (i + 1) _ rfl (by omega) (by omega) (by rw [lsF_s i0.1, ee]) (lk1_n (lk1_n l0 (by decide) (Or.inl rfl)) (by decide) (Or.inl rfl)) (lk1_n lk1_s (by decide) (Or.inl rfl)) lk1_s
  refine x_iconst 1 hK rfl rfl ?_
  refine x_istore_n 2 hK rfl rfl [(1, .int (I (-1))), (0, .ref 171)] rfl ?_
  refine x_iconst 3 hK rfl rfl ?_
  refine x_istore_n 4 hK rfl rfl [(2, .int (I 0)), (1, .int (I (-1))), (0, .ref 171)] rfl ?_
  have gs := gri 0 12 hG (a := 171) (r := 54) (k := 42) rfl rfl
  exact loop _ (-1) 0 _ rfl (by omega) (by omega) (rfl) rfl rfl rfl
theorem fine_1 {f : Int → Int} {k l : Int} (h : (f k < 0 ∨ f k = l) ∧ (0 < k ∨ l = 4)) : b2i (snFine f k l) = 1 := by
  unfold snFine b2i
  obtain ⟨h1, h2⟩ := h
  rw [if_pos]
  rw [Bool.and_eq_true, Bool.or_eq_true, Bool.or_eq_true, decide_eq_true_eq, decide_eq_true_eq, decide_eq_true_eq, decide_eq_true_eq]
  exact ⟨h1, h2⟩
theorem fine_0 {f : Int → Int} {k l : Int} (h : ¬ ((f k < 0 ∨ f k = l) ∧ (0 < k ∨ l = 4))) : b2i (snFine f k l) = 0 := by
  unfold snFine b2i
  rw [if_neg]
  rw [Bool.and_eq_true, Bool.or_eq_true, Bool.or_eq_true, decide_eq_true_eq, decide_eq_true_eq, decide_eq_true_eq, decide_eq_true_eq]
  exact h
set_option maxRecDepth 4000 in
theorem ctX11_isFine {SP : CT} (hSP : MONO SP) {sh : List (Nat × Nat)} {h : aH} (hG : GD gE gRL sh h) {k l : Int} (rk : r32 k) (rl : r32 l) : CLd SP 2 mX11_isFine [.ref 171, .int (I k), .int (I l)] h 0 0 (fun rv h' => h' = h ∧ rv = some (.int (I (b2i (snFine (fun k => snF (gi h 193) (gi h 194) k (gi h 171 42).toNat) k l))))) := by
  refine x_met _ rfl (Nat.le_of_ble_eq_true rfl) (fun K hK => ?_)
  have hmono := MONO_CLd hSP 1
  have sb := seen_b hG k
  refine x_aload_n 1 hK rfl rfl rfl ?_
  refine x_iload_n 2 hK rfl rfl rfl ?_
  refine x_callV 5 hK hmono rfl rfl [.ref 171, .int (I k)] [] rfl rfl (Nat.le_of_ble_eq_true rfl) (Nat.le_of_ble_eq_true rfl) rfl (sp_171 (h := h) hG) (CLd_le (Nat.le_of_ble_eq_true rfl) (ctX11_seenIn hSP hG (by omega))) ?_
  rintro v9 h9 ⟨e9, rfl⟩
  rw [e9]
  clear e9
  have sb54 := seen_b hG k
  refine x_if_lt 17 8 hK rfl rfl rfl (by omega) (fun c4 => ?_) (fun c4 => ?_)
  · refine x_iload_n 18 hK rfl rfl rfl ?_
    refine x_if_gt 26 21 hK rfl rfl rfl (by omega) (fun c6 => ?_) (fun c6 => ?_)
    · refine x_iconst 27 hK rfl rfl ?_
      refine x_goto 31 hK rfl rfl ?_
      exact x_zret hK rfl (by omega) ⟨rfl, by rw [show b2i (snFine (fun k => snF (gi h 193) (gi h 194) k (gi h 171 42).toNat) k l) = 1 from fine_1 (by omega)]⟩
    · refine x_iload_n 22 hK rfl rfl rfl ?_
      refine x_iconst 23 hK rfl rfl ?_
      refine x_if_icmp_ne 30 26 hK rfl rfl rfl (by omega) (by omega) (fun c12 => ?_) (fun c12 => ?_)
      · refine x_iconst 31 hK rfl rfl ?_
        exact x_zret hK rfl (by omega) ⟨rfl, by rw [show b2i (snFine (fun k => snF (gi h 193) (gi h 194) k (gi h 171 42).toNat) k l) = 0 from fine_0 (by omega)]⟩
      · refine x_iconst 27 hK rfl rfl ?_
        refine x_goto 31 hK rfl rfl ?_
        exact x_zret hK rfl (by omega) ⟨rfl, by rw [show b2i (snFine (fun k => snF (gi h 193) (gi h 194) k (gi h 171 42).toNat) k l) = 1 from fine_1 (by omega)]⟩
  · refine x_aload_n 9 hK rfl rfl rfl ?_
    refine x_iload_n 10 hK rfl rfl rfl ?_
    refine x_callV 13 hK hmono rfl rfl [.ref 171, .int (I k)] [] rfl rfl (Nat.le_of_ble_eq_true rfl) (Nat.le_of_ble_eq_true rfl) rfl (sp_171 (h := h) hG) (CLd_le (Nat.le_of_ble_eq_true rfl) (ctX11_seenIn hSP hG (by omega))) ?_
    rintro v9 h9 ⟨e9, rfl⟩
    rw [e9]
    clear e9
    have sb55 := seen_b hG k
    refine x_iload_n 14 hK rfl rfl rfl ?_
    refine x_if_icmp_ne 30 17 hK rfl rfl rfl (by omega) (by omega) (fun c22 => ?_) (fun c22 => ?_)
    · refine x_iconst 31 hK rfl rfl ?_
      exact x_zret hK rfl (by omega) ⟨rfl, by rw [show b2i (snFine (fun k => snF (gi h 193) (gi h 194) k (gi h 171 42).toNat) k l) = 0 from fine_0 (by omega)]⟩
    · refine x_iload_n 18 hK rfl rfl rfl ?_
      refine x_if_gt 26 21 hK rfl rfl rfl (by omega) (fun c26 => ?_) (fun c26 => ?_)
      · refine x_iconst 27 hK rfl rfl ?_
        refine x_goto 31 hK rfl rfl ?_
        exact x_zret hK rfl (by omega) ⟨rfl, by rw [show b2i (snFine (fun k => snF (gi h 193) (gi h 194) k (gi h 171 42).toNat) k l) = 1 from fine_1 (by omega)]⟩
      · refine x_iload_n 22 hK rfl rfl rfl ?_
        refine x_iconst 23 hK rfl rfl ?_
        refine x_if_icmp_ne 30 26 hK rfl rfl rfl (by omega) (by omega) (fun c32 => ?_) (fun c32 => ?_)
        · refine x_iconst 31 hK rfl rfl ?_
          exact x_zret hK rfl (by omega) ⟨rfl, by rw [show b2i (snFine (fun k => snF (gi h 193) (gi h 194) k (gi h 171 42).toNat) k l) = 0 from fine_0 (by omega)]⟩
        · refine x_iconst 27 hK rfl rfl ?_
          refine x_goto 31 hK rfl rfl ?_
          exact x_zret hK rfl (by omega) ⟨rfl, by rw [show b2i (snFine (fun k => snF (gi h 193) (gi h 194) k (gi h 171 42).toNat) k l) = 1 from fine_1 (by omega)]⟩
theorem s3_n {g : Int → Int} {l v : Int} (h0 : -1 ≤ v) (h1 : v ≤ 1) : s3 g l (v + 1) = s3 g l v + g (max 0 (min 8 (l + v))) := by
  unfold s3
  rcases (show v = -1 ∨ v = 0 ∨ v = 1 by omega) with rfl | rfl | rfl
  · rw [if_pos (by omega), if_neg (by omega), if_neg (by omega), if_neg (by omega), if_neg (by omega), if_neg (by omega)]; omega
  · rw [if_pos (by omega), if_pos (by omega), if_neg (by omega), if_pos (by omega), if_neg (by omega), if_neg (by omega)]; omega
  · rw [if_pos (by omega), if_pos (by omega), if_pos (by omega), if_pos (by omega), if_pos (by omega), if_neg (by omega)]; omega
theorem b2i_1 {b : Bool} (h : ¬ b2i b = 0) : b = true := by cases b <;> simp_all [b2i]
theorem b2i_0 {b : Bool} (h : b2i b = 0) : b = false := by cases b <;> simp_all [b2i]
set_option maxRecDepth 4000 in
theorem ctX11_laysSeen {SP : CT} (hSP : MONO SP) {sh : List (Nat × Nat)} {h : aH} (hG : GD gE gRL sh h) {last : Int} (hl : 0 ≤ last ∧ last ≤ 24) : CLd SP 3 mX11_laysSeen [.ref 171, .int (I last)] h 0 0 (fun rv h' => rv = none ∧ GD gE gRL sh h' ∧ FRM gRL [(0, 78, 0, 224), (0, 79, 0, 224)] h h' ∧ TBL (fun k => snF (gi h 193) (gi h 194) k (gi h 171 42).toNat) last h' (-1) 0) := by
  refine x_met _ rfl (Nat.le_of_ble_eq_true rfl) (fun K hK => ?_)
  have hmono := MONO_CLd hSP 2
  have loopK : ∀ (mz : Nat) (k : Int) (h3 : aH) (ls : List (Nat × Value)), ((k + 1).toNat = mz) → (-1 ≤ k ∧ k ≤ last) → (TBL (fun k => snF (gi h 193) (gi h 194) k (gi h 171 42).toNat) last h3 k 0) → lk ls 0 = some (.ref 171) → lk ls 1 = some (.int (I last)) → lk ls 2 = some (.int (I k)) → GD gE gRL sh h3 → FRM gRL [(0, 78, 0, 224), (0, 79, 0, 224)] h h3 → K 2 ls [] h3 0 0 := by
    intro mz
    induction mz using Nat.strongRecOn with
    | ind mz ih =>
    intro k h3 ls hm k0 t3 l0 l1 l2 hG3 hF3
    have ihK := ih
    have loopL : ∀ (mz : Nat) (l : Int) (h4 : aH) (ls : List (Nat × Value)), ((9 - l).toNat = mz) → (0 ≤ l ∧ l ≤ 9) → (0 ≤ k) → (TBL (fun k => snF (gi h 193) (gi h 194) k (gi h 171 42).toNat) last h4 k l) → lk ls 0 = some (.ref 171) → lk ls 1 = some (.int (I last)) → lk ls 2 = some (.int (I k)) → lk ls 3 = some (.int (I l)) → GD gE gRL sh h4 → FRM gRL [(0, 78, 0, 224), (0, 79, 0, 224)] h h4 → K 8 ls [] h4 0 0 := by
      intro mz
      induction mz using Nat.strongRecOn with
      | ind mz ih =>
      intro l h4 ls hm l0 k1 t4 l0 l1 l2 l3 hG4 hF4
      have ihL := ih
      have loopV : ∀ (mz : Nat) (e v : Int) (h5 : aH) (ls : List (Nat × Value)), ((2 - v).toNat = mz) → (l ≤ 8) → (e = 9 * k + l) → (-1 ≤ v ∧ v ≤ 2) → (TBL (fun k => snF (gi h 193) (gi h 194) k (gi h 171 42).toNat) last h5 k l) → (gi h5 195 e.toNat = if k = last then 1 else s3 (sMn (fun k => snF (gi h 193) (gi h 194) k (gi h 171 42).toNat) last (last - (k + 1)).toNat) l v) → (gi h5 196 e.toNat = if 0 < gi h5 195 e.toNat then 1 else 0) → lk ls 0 = some (.ref 171) → lk ls 1 = some (.int (I last)) → lk ls 2 = some (.int (I k)) → lk ls 3 = some (.int (I l)) → lk ls 4 = some (.int (I e)) → lk ls 5 = some (.int (I v)) → GD gE gRL sh h5 → FRM gRL [(0, 78, 0, 224), (0, 79, 0, 224)] h h5 → K 59 ls [] h5 0 0 := by
        intro mz
        induction mz using Nat.strongRecOn with
        | ind mz ih =>
        intro e v h5 ls hm l1 ei v0 t5 m5 a5 l0 l1 l2 l3 l4 l5 hG5 hF5
        have gb := sMn_b (fun k => snF (gi h 193) (gi h 194) k (gi h 171 42).toNat) last (last - (k + 1)).toNat
        have sb3 := s3_b gb l v
        have m5b : 0 ≤ gi h5 195 e.toNat ∧ gi h5 195 e.toNat ≤ 3000000 := by rw [m5]; split <;> omega
        have a5b : gi h5 196 e.toNat = 0 ∨ gi h5 196 e.toNat = 1 := by rw [a5]; split <;> omega
        have tz : k < last → v ≤ 1 → gi h5 195 ((9 * (k + 1)) + (max 0 (min 8 (l + v)))).toNat = (sMn (fun k => snF (gi h 193) (gi h 194) k (gi h 171 42).toNat) last (last - (k + 1)).toNat) (max 0 (min 8 (l + v))) ∧ gi h5 196 ((9 * (k + 1)) + (max 0 (min 8 (l + v)))).toNat = if 0 < (sMn (fun k => snF (gi h 193) (gi h 194) k (gi h 171 42).toNat) last (last - (k + 1)).toNat) (max 0 (min 8 (l + v))) then 1 else 0 := fun z1 z2 => t5 (k + 1) (max 0 (min 8 (l + v))) (by omega) (by omega) (by omega) (by omega) (Or.inl (by omega))
        have gv := gb (max 0 (min 8 (l + v)))
        have s3n : v ≤ 1 → s3 (sMn (fun k => snF (gi h 193) (gi h 194) k (gi h 171 42).toNat) last (last - (k + 1)).toNat) l (v + 1) = s3 (sMn (fun k => snF (gi h 193) (gi h 194) k (gi h 171 42).toNat) last (last - (k + 1)).toNat) l v + (sMn (fun k => snF (gi h 193) (gi h 194) k (gi h 171 42).toNat) last (last - (k + 1)).toNat) (max 0 (min 8 (l + v))) := fun z => s3_n (by omega) z
        refine x_iload 61 hK rfl rfl l5 ?_
        refine x_iconst 62 hK rfl rfl ?_
        refine x_if_icmp_gt 149 65 hK rfl rfl rfl (by omega) (by omega) (fun c3 => ?_) (fun c3 => ?_)
        · have mE : gi h5 195 e.toNat = if k = last then 1 else s3 (sMn (fun k => snF (gi h 193) (gi h 194) k (gi h 171 42).toNat) last (last - (k + 1)).toNat) l 2 := by
            rw [m5]
            by_cases c : k = last
            · rw [if_pos c, if_pos c]
            · rw [if_neg c, if_neg c, show v = 2 by omega]
          refine x_aload_n 150 hK rfl rfl l0 ?_
          refine x_getR 153 hK rfl rfl (sp_171 (h := h5) hG5) (rf_171_45 (h := h5) hG5) ?_
          refine x_iload 155 hK rfl rfl l4 ?_
          refine x_aload_n 156 hK rfl rfl l0 ?_
          refine x_iload_n 157 hK rfl rfl l2 ?_
          refine x_iload_n 158 hK rfl rfl l3 ?_
          refine x_callV 161 hK hmono rfl rfl [.ref 171, .int (I k), .int (I l)] [.int (I e), .ref 195] rfl rfl (Nat.le_of_ble_eq_true rfl) (Nat.le_of_ble_eq_true rfl) rfl (sp_171 (h := h5) hG5) (CLd_le (Nat.le_of_ble_eq_true rfl) (ctX11_isFine hSP hG5 (by omega) (by omega))) ?_
          rintro v9 h9 ⟨e9, rfl⟩
          rw [e9]
          clear e9
          rw [show (fun k => snF (gi h5 193) (gi h5 194) k (gi h5 171 42).toNat) = (fun k => snF (gi h 193) (gi h 194) k (gi h 171 42).toNat) from by rw [show gi h5 171 42 = gi h 171 42 from FRM_gi hF5 (r := 54) rfl rfl, show gi h5 193 = gi h 193 from funext fun j => FRM_gi hF5 (r := 76) rfl rfl, show gi h5 194 = gi h 194 from funext fun j => FRM_gi hF5 (r := 77) rfl rfl]]
          have fb56 := b2i_r (snFine (fun k => snF (gi h 193) (gi h 194) k (gi h 171 42).toNat) k l)
          refine x_if_eq 180 164 hK rfl rfl rfl (by omega) (fun c12 => ?_) (fun c12 => ?_)
          · refine x_iconst 181 hK rfl rfl ?_
            refine x_iastore 182 hK rfl rfl (sp_195 (h := h5) hG5) (by omega) (by omega) (by omega) ?_
            refine x_aload_n 183 hK rfl rfl l0 ?_
            refine x_getR 186 hK rfl rfl (sp_171 (h := h5) hG5) (rf_171_46 (h := h5) hG5) ?_
            refine x_iload 188 hK rfl rfl l4 ?_
            refine x_aload_n 189 hK rfl rfl l0 ?_
            refine x_getR 192 hK rfl rfl (sp_171 (h := h5) hG5) (rf_171_46 (h := h5) hG5) ?_
            refine x_iload 194 hK rfl rfl l4 ?_
            have g57 := grn (0) (1) hG5 (a := 196) (r := 79) (k := e.toNat) rfl rfl (by omega)
            refine x_baloadE 195 hK rfl rfl (sp_196 (h := h5) hG5) (by omega) (by omega) (by omega) (e' := (gi h5 196 e.toNat)) (gi_a (by decide) _) ?_
            refine x_if_eq 211 198 hK rfl rfl rfl (by omega) (fun c22 => ?_) (fun c22 => ?_)
            · refine x_iconst 212 hK rfl rfl ?_
              refine x_bastore 213 hK rfl rfl (sp_196 (h := h5) hG5) (by omega) (by omega) (by omega) (by omega) ?_
              refine x_iinc 216 hK rfl rfl l3 _ rfl ?_
              refine x_goto 8 hK rfl rfl ?_
              have mn : gi (wI (wI h5 195 e.toNat 0) 196 e.toNat 0) 195 e.toNat = 0 := (gi_a (by decide) _).trans (gi_same (by omega))
              have an : gi (wI (wI h5 195 e.toNat 0) 196 e.toNat 0) 196 e.toNat = 0 := gi_same (by omega)
              have fn : snFine (fun k => snF (gi h 193) (gi h 194) k (gi h 171 42).toNat) k l = false := b2i_0 (by omega)
              have me : (0 : Int) = sMn (fun k => snF (gi h 193) (gi h 194) k (gi h 171 42).toNat) last (last - k).toNat l := by
                by_cases c : k = last
                · rw [if_pos c] at mE
                  rw [c, show (last - last).toNat = 0 by omega]
                  rw [c] at fn
                  unfold sMn
                  rw [fn]
                  rfl
                · rw [if_neg c] at mE
                  rw [sMn_s (by omega), fn]
                  rfl
              have ae : (0 : Int) = if 0 < sMn (fun k => snF (gi h 193) (gi h 194) k (gi h 171 42).toNat) last (last - k).toNat l then 1 else 0 := by
                first | omega | (rw [← me]; first | rw [if_pos (by omega)] | rw [if_neg (by omega)])
              have tn : TBL (fun k => snF (gi h 193) (gi h 194) k (gi h 171 42).toNat) last (wI (wI h5 195 e.toNat 0) 196 e.toNat 0) k (l + 1) := by
                intro k' l' y1 y2 y3 y4 y5
                by_cases c : k' = k ∧ l' = l
                · obtain ⟨rfl, rfl⟩ := c
                  rw [← ei]
                  exact ⟨mn.trans me, an.trans ae⟩
                · exact (TBL_w t5 (by omega) (by omega) fun j hj => ⟨(gi_a (by decide) _).trans (gi_k (by omega) _), (gi_k (by omega) _).trans (gi_a (by decide) _)⟩) k' l' y1 y2 y3 y4 (by omega)
              exact ihL _ (by omega) (l + 1) _ _ rfl (by omega) (by omega) (tn) (lk1_n l0 (by decide) (Or.inl rfl)) (lk1_n l1 (by decide) (Or.inl rfl)) (lk1_n l2 (by decide) (Or.inl rfl)) lk1_s (GD_wu (GD_wn (hG5) (r := 78) rfl rfl) (r := 79) rfl (by omega) rfl (by omega) (by omega)) (FRM_wn 0 224 (FRM_wn 0 224 (hF5) (r := 78) rfl rfl rfl (by omega) (by omega)) (r := 79) rfl rfl rfl (by omega) (by omega))
            · refine x_aload_n 199 hK rfl rfl l0 ?_
              refine x_iload_n 200 hK rfl rfl l2 ?_
              refine x_iload_n 201 hK rfl rfl l3 ?_
              have hGp59 : GD gE gRL sh (wI h5 195 e.toNat 0) := GD_wn (hG5) (r := 78) rfl rfl
              refine x_callV 204 hK hmono rfl rfl [.ref 171, .int (I k), .int (I l)] [.int (I e), .ref 196] rfl rfl (Nat.le_of_ble_eq_true rfl) (Nat.le_of_ble_eq_true rfl) rfl (sp_171 (h := h5) hG5) (CLd_le (Nat.le_of_ble_eq_true rfl) (ctX11_isFine hSP hGp59 (by omega) (by omega))) ?_
              rintro v9 h9 ⟨e9, rfl⟩
              rw [e9]
              clear e9
              rw [show (fun k => snF (gi (wI h5 195 e.toNat 0) 193) (gi (wI h5 195 e.toNat 0) 194) k (gi (wI h5 195 e.toNat 0) 171 42).toNat) = (fun k => snF (gi h 193) (gi h 194) k (gi h 171 42).toNat) from by rw [show gi (wI h5 195 e.toNat 0) 171 42 = gi h 171 42 from (gi_a (by decide) _).trans (FRM_gi hF5 (r := 54) rfl rfl), show gi (wI h5 195 e.toNat 0) 193 = gi h 193 from funext fun j => (gi_a (by decide) _).trans (FRM_gi hF5 (r := 76) rfl rfl), show gi (wI h5 195 e.toNat 0) 194 = gi h 194 from funext fun j => (gi_a (by decide) _).trans (FRM_gi hF5 (r := 77) rfl rfl)]]
              have fb58 := b2i_r (snFine (fun k => snF (gi h 193) (gi h 194) k (gi h 171 42).toNat) k l)
              refine x_if_eq 211 207 hK rfl rfl rfl (by omega) (fun _ => ?_) (fun c => by omega)
              refine x_iconst 212 hK rfl rfl ?_
              refine x_bastore 213 hK rfl rfl (sp_196 (h := h5) hG5) (by omega) (by omega) (by omega) (by omega) ?_
              refine x_iinc 216 hK rfl rfl l3 _ rfl ?_
              refine x_goto 8 hK rfl rfl ?_
              have mn : gi (wI (wI h5 195 e.toNat 0) 196 e.toNat 0) 195 e.toNat = 0 := (gi_a (by decide) _).trans (gi_same (by omega))
              have an : gi (wI (wI h5 195 e.toNat 0) 196 e.toNat 0) 196 e.toNat = 0 := gi_same (by omega)
              have fn : snFine (fun k => snF (gi h 193) (gi h 194) k (gi h 171 42).toNat) k l = false := b2i_0 (by omega)
              have me : (0 : Int) = sMn (fun k => snF (gi h 193) (gi h 194) k (gi h 171 42).toNat) last (last - k).toNat l := by
                by_cases c : k = last
                · rw [if_pos c] at mE
                  rw [c, show (last - last).toNat = 0 by omega]
                  rw [c] at fn
                  unfold sMn
                  rw [fn]
                  rfl
                · rw [if_neg c] at mE
                  rw [sMn_s (by omega), fn]
                  rfl
              have ae : (0 : Int) = if 0 < sMn (fun k => snF (gi h 193) (gi h 194) k (gi h 171 42).toNat) last (last - k).toNat l then 1 else 0 := by
                first | omega | (rw [← me]; first | rw [if_pos (by omega)] | rw [if_neg (by omega)])
              have tn : TBL (fun k => snF (gi h 193) (gi h 194) k (gi h 171 42).toNat) last (wI (wI h5 195 e.toNat 0) 196 e.toNat 0) k (l + 1) := by
                intro k' l' y1 y2 y3 y4 y5
                by_cases c : k' = k ∧ l' = l
                · obtain ⟨rfl, rfl⟩ := c
                  rw [← ei]
                  exact ⟨mn.trans me, an.trans ae⟩
                · exact (TBL_w t5 (by omega) (by omega) fun j hj => ⟨(gi_a (by decide) _).trans (gi_k (by omega) _), (gi_k (by omega) _).trans (gi_a (by decide) _)⟩) k' l' y1 y2 y3 y4 (by omega)
              exact ihL _ (by omega) (l + 1) _ _ rfl (by omega) (by omega) (tn) (lk1_n l0 (by decide) (Or.inl rfl)) (lk1_n l1 (by decide) (Or.inl rfl)) (lk1_n l2 (by decide) (Or.inl rfl)) lk1_s (GD_wu (GD_wn (hG5) (r := 78) rfl rfl) (r := 79) rfl (by omega) rfl (by omega) (by omega)) (FRM_wn 0 224 (FRM_wn 0 224 (hF5) (r := 78) rfl rfl rfl (by omega) (by omega)) (r := 79) rfl rfl rfl (by omega) (by omega))
          · refine x_ldc_w 167 hK rfl rfl ?_
            refine x_aload_n 168 hK rfl rfl l0 ?_
            refine x_getR 171 hK rfl rfl (sp_171 (h := h5) hG5) (rf_171_45 (h := h5) hG5) ?_
            refine x_iload 173 hK rfl rfl l4 ?_
            have g60 := gi_r h5 195 e.toNat
            refine x_ialoadE 174 hK rfl rfl (sp_195 (h := h5) hG5) (by omega) (by omega) (by omega) (e' := (gi h5 195 e.toNat)) (rfl) ?_
            refine x_min 177 hK rfl rfl (Nat.le_of_ble_eq_true rfl) (by omega) (by omega) ?_
            refine x_goto 181 hK rfl rfl ?_
            refine x_iastore 182 hK rfl rfl (sp_195 (h := h5) hG5) (by omega) (by omega) (by omega) ?_
            refine x_aload_n 183 hK rfl rfl l0 ?_
            refine x_getR 186 hK rfl rfl (sp_171 (h := h5) hG5) (rf_171_46 (h := h5) hG5) ?_
            refine x_iload 188 hK rfl rfl l4 ?_
            refine x_aload_n 189 hK rfl rfl l0 ?_
            refine x_getR 192 hK rfl rfl (sp_171 (h := h5) hG5) (rf_171_46 (h := h5) hG5) ?_
            refine x_iload 194 hK rfl rfl l4 ?_
            have g61 := grn (0) (1) hG5 (a := 196) (r := 79) (k := e.toNat) rfl rfl (by omega)
            refine x_baloadE 195 hK rfl rfl (sp_196 (h := h5) hG5) (by omega) (by omega) (by omega) (e' := (gi h5 196 e.toNat)) (gi_a (by decide) _) ?_
            refine x_if_eq 211 198 hK rfl rfl rfl (by omega) (fun c53 => ?_) (fun c53 => ?_)
            · refine x_iconst 212 hK rfl rfl ?_
              refine x_bastore 213 hK rfl rfl (sp_196 (h := h5) hG5) (by omega) (by omega) (by omega) (by omega) ?_
              refine x_iinc 216 hK rfl rfl l3 _ rfl ?_
              refine x_goto 8 hK rfl rfl ?_
              have mn : gi (wI (wI h5 195 e.toNat (min 1000000 (gi h5 195 e.toNat))) 196 e.toNat 0) 195 e.toNat = (min 1000000 (gi h5 195 e.toNat)) := (gi_a (by decide) _).trans (gi_same (by omega))
              have an : gi (wI (wI h5 195 e.toNat (min 1000000 (gi h5 195 e.toNat))) 196 e.toNat 0) 196 e.toNat = 0 := gi_same (by omega)
              have fn : snFine (fun k => snF (gi h 193) (gi h 194) k (gi h 171 42).toNat) k l = true := b2i_1 (by omega)
              have me : ((min 1000000 (gi h5 195 e.toNat)) : Int) = sMn (fun k => snF (gi h 193) (gi h 194) k (gi h 171 42).toNat) last (last - k).toNat l := by
                by_cases c : k = last
                · rw [if_pos c] at mE
                  rw [c, show (last - last).toNat = 0 by omega]
                  rw [c] at fn
                  unfold sMn
                  rw [fn]
                  rw [mE]; rfl
                · rw [if_neg c] at mE
                  rw [sMn_s (by omega), fn]
                  rw [mE]; rfl
              have ae : (0 : Int) = if 0 < sMn (fun k => snF (gi h 193) (gi h 194) k (gi h 171 42).toNat) last (last - k).toNat l then 1 else 0 := by
                first | omega | (rw [← me]; first | rw [if_pos (by omega)] | rw [if_neg (by omega)])
              have tn : TBL (fun k => snF (gi h 193) (gi h 194) k (gi h 171 42).toNat) last (wI (wI h5 195 e.toNat (min 1000000 (gi h5 195 e.toNat))) 196 e.toNat 0) k (l + 1) := by
                intro k' l' y1 y2 y3 y4 y5
                by_cases c : k' = k ∧ l' = l
                · obtain ⟨rfl, rfl⟩ := c
                  rw [← ei]
                  exact ⟨mn.trans me, an.trans ae⟩
                · exact (TBL_w t5 (by omega) (by omega) fun j hj => ⟨(gi_a (by decide) _).trans (gi_k (by omega) _), (gi_k (by omega) _).trans (gi_a (by decide) _)⟩) k' l' y1 y2 y3 y4 (by omega)
              exact ihL _ (by omega) (l + 1) _ _ rfl (by omega) (by omega) (tn) (lk1_n l0 (by decide) (Or.inl rfl)) (lk1_n l1 (by decide) (Or.inl rfl)) (lk1_n l2 (by decide) (Or.inl rfl)) lk1_s (GD_wu (GD_wn (hG5) (r := 78) rfl rfl) (r := 79) rfl (by omega) rfl (by omega) (by omega)) (FRM_wn 0 224 (FRM_wn 0 224 (hF5) (r := 78) rfl rfl rfl (by omega) (by omega)) (r := 79) rfl rfl rfl (by omega) (by omega))
            · refine x_aload_n 199 hK rfl rfl l0 ?_
              refine x_iload_n 200 hK rfl rfl l2 ?_
              refine x_iload_n 201 hK rfl rfl l3 ?_
              have hGp63 : GD gE gRL sh (wI h5 195 e.toNat (min 1000000 (gi h5 195 e.toNat))) := GD_wn (hG5) (r := 78) rfl rfl
              refine x_callV 204 hK hmono rfl rfl [.ref 171, .int (I k), .int (I l)] [.int (I e), .ref 196] rfl rfl (Nat.le_of_ble_eq_true rfl) (Nat.le_of_ble_eq_true rfl) rfl (sp_171 (h := h5) hG5) (CLd_le (Nat.le_of_ble_eq_true rfl) (ctX11_isFine hSP hGp63 (by omega) (by omega))) ?_
              rintro v9 h9 ⟨e9, rfl⟩
              rw [e9]
              clear e9
              rw [show (fun k => snF (gi (wI h5 195 e.toNat (min 1000000 (gi h5 195 e.toNat))) 193) (gi (wI h5 195 e.toNat (min 1000000 (gi h5 195 e.toNat))) 194) k (gi (wI h5 195 e.toNat (min 1000000 (gi h5 195 e.toNat))) 171 42).toNat) = (fun k => snF (gi h 193) (gi h 194) k (gi h 171 42).toNat) from by rw [show gi (wI h5 195 e.toNat (min 1000000 (gi h5 195 e.toNat))) 171 42 = gi h 171 42 from (gi_a (by decide) _).trans (FRM_gi hF5 (r := 54) rfl rfl), show gi (wI h5 195 e.toNat (min 1000000 (gi h5 195 e.toNat))) 193 = gi h 193 from funext fun j => (gi_a (by decide) _).trans (FRM_gi hF5 (r := 76) rfl rfl), show gi (wI h5 195 e.toNat (min 1000000 (gi h5 195 e.toNat))) 194 = gi h 194 from funext fun j => (gi_a (by decide) _).trans (FRM_gi hF5 (r := 77) rfl rfl)]]
              have fb62 := b2i_r (snFine (fun k => snF (gi h 193) (gi h 194) k (gi h 171 42).toNat) k l)
              refine x_if_eq 211 207 hK rfl rfl rfl (by omega) (fun c => by omega) (fun _ => ?_)
              refine x_iconst 208 hK rfl rfl ?_
              refine x_goto 212 hK rfl rfl ?_
              refine x_bastore 213 hK rfl rfl (sp_196 (h := h5) hG5) (by omega) (by omega) (by omega) (by omega) ?_
              refine x_iinc 216 hK rfl rfl l3 _ rfl ?_
              refine x_goto 8 hK rfl rfl ?_
              have mn : gi (wI (wI h5 195 e.toNat (min 1000000 (gi h5 195 e.toNat))) 196 e.toNat 1) 195 e.toNat = (min 1000000 (gi h5 195 e.toNat)) := (gi_a (by decide) _).trans (gi_same (by omega))
              have an : gi (wI (wI h5 195 e.toNat (min 1000000 (gi h5 195 e.toNat))) 196 e.toNat 1) 196 e.toNat = 1 := gi_same (by omega)
              have fn : snFine (fun k => snF (gi h 193) (gi h 194) k (gi h 171 42).toNat) k l = true := b2i_1 (by omega)
              have me : ((min 1000000 (gi h5 195 e.toNat)) : Int) = sMn (fun k => snF (gi h 193) (gi h 194) k (gi h 171 42).toNat) last (last - k).toNat l := by
                by_cases c : k = last
                · rw [if_pos c] at mE
                  rw [c, show (last - last).toNat = 0 by omega]
                  rw [c] at fn
                  unfold sMn
                  rw [fn]
                  rw [mE]; rfl
                · rw [if_neg c] at mE
                  rw [sMn_s (by omega), fn]
                  rw [mE]; rfl
              have ae : (1 : Int) = if 0 < sMn (fun k => snF (gi h 193) (gi h 194) k (gi h 171 42).toNat) last (last - k).toNat l then 1 else 0 := by
                first | omega | (rw [← me]; first | rw [if_pos (by omega)] | rw [if_neg (by omega)])
              have tn : TBL (fun k => snF (gi h 193) (gi h 194) k (gi h 171 42).toNat) last (wI (wI h5 195 e.toNat (min 1000000 (gi h5 195 e.toNat))) 196 e.toNat 1) k (l + 1) := by
                intro k' l' y1 y2 y3 y4 y5
                by_cases c : k' = k ∧ l' = l
                · obtain ⟨rfl, rfl⟩ := c
                  rw [← ei]
                  exact ⟨mn.trans me, an.trans ae⟩
                · exact (TBL_w t5 (by omega) (by omega) fun j hj => ⟨(gi_a (by decide) _).trans (gi_k (by omega) _), (gi_k (by omega) _).trans (gi_a (by decide) _)⟩) k' l' y1 y2 y3 y4 (by omega)
              exact ihL _ (by omega) (l + 1) _ _ rfl (by omega) (by omega) (tn) (lk1_n l0 (by decide) (Or.inl rfl)) (lk1_n l1 (by decide) (Or.inl rfl)) (lk1_n l2 (by decide) (Or.inl rfl)) lk1_s (GD_wu (GD_wn (hG5) (r := 78) rfl rfl) (r := 79) rfl (by omega) rfl (by omega) (by omega)) (FRM_wn 0 224 (FRM_wn 0 224 (hF5) (r := 78) rfl rfl rfl (by omega) (by omega)) (r := 79) rfl rfl rfl (by omega) (by omega))
        · refine x_iload_n 66 hK rfl rfl l2 ?_
          refine x_iload_n 67 hK rfl rfl l1 ?_
          refine x_if_icmp_ge 149 70 hK rfl rfl rfl (by omega) (by omega) (fun c72 => ?_) (fun c72 => ?_)
          · have mE : gi h5 195 e.toNat = if k = last then 1 else s3 (sMn (fun k => snF (gi h 193) (gi h 194) k (gi h 171 42).toNat) last (last - (k + 1)).toNat) l 2 := by
              rw [m5]
              by_cases c : k = last
              · rw [if_pos c, if_pos c]
              · rw [if_neg c, if_neg c, show v = 2 by omega]
            refine x_aload_n 150 hK rfl rfl l0 ?_
            refine x_getR 153 hK rfl rfl (sp_171 (h := h5) hG5) (rf_171_45 (h := h5) hG5) ?_
            refine x_iload 155 hK rfl rfl l4 ?_
            refine x_aload_n 156 hK rfl rfl l0 ?_
            refine x_iload_n 157 hK rfl rfl l2 ?_
            refine x_iload_n 158 hK rfl rfl l3 ?_
            refine x_callV 161 hK hmono rfl rfl [.ref 171, .int (I k), .int (I l)] [.int (I e), .ref 195] rfl rfl (Nat.le_of_ble_eq_true rfl) (Nat.le_of_ble_eq_true rfl) rfl (sp_171 (h := h5) hG5) (CLd_le (Nat.le_of_ble_eq_true rfl) (ctX11_isFine hSP hG5 (by omega) (by omega))) ?_
            rintro v9 h9 ⟨e9, rfl⟩
            rw [e9]
            clear e9
            rw [show (fun k => snF (gi h5 193) (gi h5 194) k (gi h5 171 42).toNat) = (fun k => snF (gi h 193) (gi h 194) k (gi h 171 42).toNat) from by rw [show gi h5 171 42 = gi h 171 42 from FRM_gi hF5 (r := 54) rfl rfl, show gi h5 193 = gi h 193 from funext fun j => FRM_gi hF5 (r := 76) rfl rfl, show gi h5 194 = gi h 194 from funext fun j => FRM_gi hF5 (r := 77) rfl rfl]]
            have fb64 := b2i_r (snFine (fun k => snF (gi h 193) (gi h 194) k (gi h 171 42).toNat) k l)
            refine x_if_eq 180 164 hK rfl rfl rfl (by omega) (fun c81 => ?_) (fun c81 => ?_)
            · refine x_iconst 181 hK rfl rfl ?_
              refine x_iastore 182 hK rfl rfl (sp_195 (h := h5) hG5) (by omega) (by omega) (by omega) ?_
              refine x_aload_n 183 hK rfl rfl l0 ?_
              refine x_getR 186 hK rfl rfl (sp_171 (h := h5) hG5) (rf_171_46 (h := h5) hG5) ?_
              refine x_iload 188 hK rfl rfl l4 ?_
              refine x_aload_n 189 hK rfl rfl l0 ?_
              refine x_getR 192 hK rfl rfl (sp_171 (h := h5) hG5) (rf_171_46 (h := h5) hG5) ?_
              refine x_iload 194 hK rfl rfl l4 ?_
              have g65 := grn (0) (1) hG5 (a := 196) (r := 79) (k := e.toNat) rfl rfl (by omega)
              refine x_baloadE 195 hK rfl rfl (sp_196 (h := h5) hG5) (by omega) (by omega) (by omega) (e' := (gi h5 196 e.toNat)) (gi_a (by decide) _) ?_
              refine x_if_eq 211 198 hK rfl rfl rfl (by omega) (fun c91 => ?_) (fun c91 => ?_)
              · refine x_iconst 212 hK rfl rfl ?_
                refine x_bastore 213 hK rfl rfl (sp_196 (h := h5) hG5) (by omega) (by omega) (by omega) (by omega) ?_
                refine x_iinc 216 hK rfl rfl l3 _ rfl ?_
                refine x_goto 8 hK rfl rfl ?_
                have mn : gi (wI (wI h5 195 e.toNat 0) 196 e.toNat 0) 195 e.toNat = 0 := (gi_a (by decide) _).trans (gi_same (by omega))
                have an : gi (wI (wI h5 195 e.toNat 0) 196 e.toNat 0) 196 e.toNat = 0 := gi_same (by omega)
                have fn : snFine (fun k => snF (gi h 193) (gi h 194) k (gi h 171 42).toNat) k l = false := b2i_0 (by omega)
                have me : (0 : Int) = sMn (fun k => snF (gi h 193) (gi h 194) k (gi h 171 42).toNat) last (last - k).toNat l := by
                  by_cases c : k = last
                  · rw [if_pos c] at mE
                    rw [c, show (last - last).toNat = 0 by omega]
                    rw [c] at fn
                    unfold sMn
                    rw [fn]
                    rfl
                  · rw [if_neg c] at mE
                    rw [sMn_s (by omega), fn]
                    rfl
                have ae : (0 : Int) = if 0 < sMn (fun k => snF (gi h 193) (gi h 194) k (gi h 171 42).toNat) last (last - k).toNat l then 1 else 0 := by
                  first | omega | (rw [← me]; first | rw [if_pos (by omega)] | rw [if_neg (by omega)])
                have tn : TBL (fun k => snF (gi h 193) (gi h 194) k (gi h 171 42).toNat) last (wI (wI h5 195 e.toNat 0) 196 e.toNat 0) k (l + 1) := by
                  intro k' l' y1 y2 y3 y4 y5
                  by_cases c : k' = k ∧ l' = l
                  · obtain ⟨rfl, rfl⟩ := c
                    rw [← ei]
                    exact ⟨mn.trans me, an.trans ae⟩
                  · exact (TBL_w t5 (by omega) (by omega) fun j hj => ⟨(gi_a (by decide) _).trans (gi_k (by omega) _), (gi_k (by omega) _).trans (gi_a (by decide) _)⟩) k' l' y1 y2 y3 y4 (by omega)
                exact ihL _ (by omega) (l + 1) _ _ rfl (by omega) (by omega) (tn) (lk1_n l0 (by decide) (Or.inl rfl)) (lk1_n l1 (by decide) (Or.inl rfl)) (lk1_n l2 (by decide) (Or.inl rfl)) lk1_s (GD_wu (GD_wn (hG5) (r := 78) rfl rfl) (r := 79) rfl (by omega) rfl (by omega) (by omega)) (FRM_wn 0 224 (FRM_wn 0 224 (hF5) (r := 78) rfl rfl rfl (by omega) (by omega)) (r := 79) rfl rfl rfl (by omega) (by omega))
              · refine x_aload_n 199 hK rfl rfl l0 ?_
                refine x_iload_n 200 hK rfl rfl l2 ?_
                refine x_iload_n 201 hK rfl rfl l3 ?_
                have hGp67 : GD gE gRL sh (wI h5 195 e.toNat 0) := GD_wn (hG5) (r := 78) rfl rfl
                refine x_callV 204 hK hmono rfl rfl [.ref 171, .int (I k), .int (I l)] [.int (I e), .ref 196] rfl rfl (Nat.le_of_ble_eq_true rfl) (Nat.le_of_ble_eq_true rfl) rfl (sp_171 (h := h5) hG5) (CLd_le (Nat.le_of_ble_eq_true rfl) (ctX11_isFine hSP hGp67 (by omega) (by omega))) ?_
                rintro v9 h9 ⟨e9, rfl⟩
                rw [e9]
                clear e9
                rw [show (fun k => snF (gi (wI h5 195 e.toNat 0) 193) (gi (wI h5 195 e.toNat 0) 194) k (gi (wI h5 195 e.toNat 0) 171 42).toNat) = (fun k => snF (gi h 193) (gi h 194) k (gi h 171 42).toNat) from by rw [show gi (wI h5 195 e.toNat 0) 171 42 = gi h 171 42 from (gi_a (by decide) _).trans (FRM_gi hF5 (r := 54) rfl rfl), show gi (wI h5 195 e.toNat 0) 193 = gi h 193 from funext fun j => (gi_a (by decide) _).trans (FRM_gi hF5 (r := 76) rfl rfl), show gi (wI h5 195 e.toNat 0) 194 = gi h 194 from funext fun j => (gi_a (by decide) _).trans (FRM_gi hF5 (r := 77) rfl rfl)]]
                have fb66 := b2i_r (snFine (fun k => snF (gi h 193) (gi h 194) k (gi h 171 42).toNat) k l)
                refine x_if_eq 211 207 hK rfl rfl rfl (by omega) (fun _ => ?_) (fun c => by omega)
                refine x_iconst 212 hK rfl rfl ?_
                refine x_bastore 213 hK rfl rfl (sp_196 (h := h5) hG5) (by omega) (by omega) (by omega) (by omega) ?_
                refine x_iinc 216 hK rfl rfl l3 _ rfl ?_
                refine x_goto 8 hK rfl rfl ?_
                have mn : gi (wI (wI h5 195 e.toNat 0) 196 e.toNat 0) 195 e.toNat = 0 := (gi_a (by decide) _).trans (gi_same (by omega))
                have an : gi (wI (wI h5 195 e.toNat 0) 196 e.toNat 0) 196 e.toNat = 0 := gi_same (by omega)
                have fn : snFine (fun k => snF (gi h 193) (gi h 194) k (gi h 171 42).toNat) k l = false := b2i_0 (by omega)
                have me : (0 : Int) = sMn (fun k => snF (gi h 193) (gi h 194) k (gi h 171 42).toNat) last (last - k).toNat l := by
                  by_cases c : k = last
                  · rw [if_pos c] at mE
                    rw [c, show (last - last).toNat = 0 by omega]
                    rw [c] at fn
                    unfold sMn
                    rw [fn]
                    rfl
                  · rw [if_neg c] at mE
                    rw [sMn_s (by omega), fn]
                    rfl
                have ae : (0 : Int) = if 0 < sMn (fun k => snF (gi h 193) (gi h 194) k (gi h 171 42).toNat) last (last - k).toNat l then 1 else 0 := by
                  first | omega | (rw [← me]; first | rw [if_pos (by omega)] | rw [if_neg (by omega)])
                have tn : TBL (fun k => snF (gi h 193) (gi h 194) k (gi h 171 42).toNat) last (wI (wI h5 195 e.toNat 0) 196 e.toNat 0) k (l + 1) := by
                  intro k' l' y1 y2 y3 y4 y5
                  by_cases c : k' = k ∧ l' = l
                  · obtain ⟨rfl, rfl⟩ := c
                    rw [← ei]
                    exact ⟨mn.trans me, an.trans ae⟩
                  · exact (TBL_w t5 (by omega) (by omega) fun j hj => ⟨(gi_a (by decide) _).trans (gi_k (by omega) _), (gi_k (by omega) _).trans (gi_a (by decide) _)⟩) k' l' y1 y2 y3 y4 (by omega)
                exact ihL _ (by omega) (l + 1) _ _ rfl (by omega) (by omega) (tn) (lk1_n l0 (by decide) (Or.inl rfl)) (lk1_n l1 (by decide) (Or.inl rfl)) (lk1_n l2 (by decide) (Or.inl rfl)) lk1_s (GD_wu (GD_wn (hG5) (r := 78) rfl rfl) (r := 79) rfl (by omega) rfl (by omega) (by omega)) (FRM_wn 0 224 (FRM_wn 0 224 (hF5) (r := 78) rfl rfl rfl (by omega) (by omega)) (r := 79) rfl rfl rfl (by omega) (by omega))
            · refine x_ldc_w 167 hK rfl rfl ?_
              refine x_aload_n 168 hK rfl rfl l0 ?_
              refine x_getR 171 hK rfl rfl (sp_171 (h := h5) hG5) (rf_171_45 (h := h5) hG5) ?_
              refine x_iload 173 hK rfl rfl l4 ?_
              have g68 := gi_r h5 195 e.toNat
              refine x_ialoadE 174 hK rfl rfl (sp_195 (h := h5) hG5) (by omega) (by omega) (by omega) (e' := (gi h5 195 e.toNat)) (rfl) ?_
              refine x_min 177 hK rfl rfl (Nat.le_of_ble_eq_true rfl) (by omega) (by omega) ?_
              refine x_goto 181 hK rfl rfl ?_
              refine x_iastore 182 hK rfl rfl (sp_195 (h := h5) hG5) (by omega) (by omega) (by omega) ?_
              refine x_aload_n 183 hK rfl rfl l0 ?_
              refine x_getR 186 hK rfl rfl (sp_171 (h := h5) hG5) (rf_171_46 (h := h5) hG5) ?_
              refine x_iload 188 hK rfl rfl l4 ?_
              refine x_aload_n 189 hK rfl rfl l0 ?_
              refine x_getR 192 hK rfl rfl (sp_171 (h := h5) hG5) (rf_171_46 (h := h5) hG5) ?_
              refine x_iload 194 hK rfl rfl l4 ?_
              have g69 := grn (0) (1) hG5 (a := 196) (r := 79) (k := e.toNat) rfl rfl (by omega)
              refine x_baloadE 195 hK rfl rfl (sp_196 (h := h5) hG5) (by omega) (by omega) (by omega) (e' := (gi h5 196 e.toNat)) (gi_a (by decide) _) ?_
              refine x_if_eq 211 198 hK rfl rfl rfl (by omega) (fun c122 => ?_) (fun c122 => ?_)
              · refine x_iconst 212 hK rfl rfl ?_
                refine x_bastore 213 hK rfl rfl (sp_196 (h := h5) hG5) (by omega) (by omega) (by omega) (by omega) ?_
                refine x_iinc 216 hK rfl rfl l3 _ rfl ?_
                refine x_goto 8 hK rfl rfl ?_
                have mn : gi (wI (wI h5 195 e.toNat (min 1000000 (gi h5 195 e.toNat))) 196 e.toNat 0) 195 e.toNat = (min 1000000 (gi h5 195 e.toNat)) := (gi_a (by decide) _).trans (gi_same (by omega))
                have an : gi (wI (wI h5 195 e.toNat (min 1000000 (gi h5 195 e.toNat))) 196 e.toNat 0) 196 e.toNat = 0 := gi_same (by omega)
                have fn : snFine (fun k => snF (gi h 193) (gi h 194) k (gi h 171 42).toNat) k l = true := b2i_1 (by omega)
                have me : ((min 1000000 (gi h5 195 e.toNat)) : Int) = sMn (fun k => snF (gi h 193) (gi h 194) k (gi h 171 42).toNat) last (last - k).toNat l := by
                  by_cases c : k = last
                  · rw [if_pos c] at mE
                    rw [c, show (last - last).toNat = 0 by omega]
                    rw [c] at fn
                    unfold sMn
                    rw [fn]
                    rw [mE]; rfl
                  · rw [if_neg c] at mE
                    rw [sMn_s (by omega), fn]
                    rw [mE]; rfl
                have ae : (0 : Int) = if 0 < sMn (fun k => snF (gi h 193) (gi h 194) k (gi h 171 42).toNat) last (last - k).toNat l then 1 else 0 := by
                  first | omega | (rw [← me]; first | rw [if_pos (by omega)] | rw [if_neg (by omega)])
                have tn : TBL (fun k => snF (gi h 193) (gi h 194) k (gi h 171 42).toNat) last (wI (wI h5 195 e.toNat (min 1000000 (gi h5 195 e.toNat))) 196 e.toNat 0) k (l + 1) := by
                  intro k' l' y1 y2 y3 y4 y5
                  by_cases c : k' = k ∧ l' = l
                  · obtain ⟨rfl, rfl⟩ := c
                    rw [← ei]
                    exact ⟨mn.trans me, an.trans ae⟩
                  · exact (TBL_w t5 (by omega) (by omega) fun j hj => ⟨(gi_a (by decide) _).trans (gi_k (by omega) _), (gi_k (by omega) _).trans (gi_a (by decide) _)⟩) k' l' y1 y2 y3 y4 (by omega)
                exact ihL _ (by omega) (l + 1) _ _ rfl (by omega) (by omega) (tn) (lk1_n l0 (by decide) (Or.inl rfl)) (lk1_n l1 (by decide) (Or.inl rfl)) (lk1_n l2 (by decide) (Or.inl rfl)) lk1_s (GD_wu (GD_wn (hG5) (r := 78) rfl rfl) (r := 79) rfl (by omega) rfl (by omega) (by omega)) (FRM_wn 0 224 (FRM_wn 0 224 (hF5) (r := 78) rfl rfl rfl (by omega) (by omega)) (r := 79) rfl rfl rfl (by omega) (by omega))
              · refine x_aload_n 199 hK rfl rfl l0 ?_
                refine x_iload_n 200 hK rfl rfl l2 ?_
                refine x_iload_n 201 hK rfl rfl l3 ?_
                have hGp71 : GD gE gRL sh (wI h5 195 e.toNat (min 1000000 (gi h5 195 e.toNat))) := GD_wn (hG5) (r := 78) rfl rfl
                refine x_callV 204 hK hmono rfl rfl [.ref 171, .int (I k), .int (I l)] [.int (I e), .ref 196] rfl rfl (Nat.le_of_ble_eq_true rfl) (Nat.le_of_ble_eq_true rfl) rfl (sp_171 (h := h5) hG5) (CLd_le (Nat.le_of_ble_eq_true rfl) (ctX11_isFine hSP hGp71 (by omega) (by omega))) ?_
                rintro v9 h9 ⟨e9, rfl⟩
                rw [e9]
                clear e9
                rw [show (fun k => snF (gi (wI h5 195 e.toNat (min 1000000 (gi h5 195 e.toNat))) 193) (gi (wI h5 195 e.toNat (min 1000000 (gi h5 195 e.toNat))) 194) k (gi (wI h5 195 e.toNat (min 1000000 (gi h5 195 e.toNat))) 171 42).toNat) = (fun k => snF (gi h 193) (gi h 194) k (gi h 171 42).toNat) from by rw [show gi (wI h5 195 e.toNat (min 1000000 (gi h5 195 e.toNat))) 171 42 = gi h 171 42 from (gi_a (by decide) _).trans (FRM_gi hF5 (r := 54) rfl rfl), show gi (wI h5 195 e.toNat (min 1000000 (gi h5 195 e.toNat))) 193 = gi h 193 from funext fun j => (gi_a (by decide) _).trans (FRM_gi hF5 (r := 76) rfl rfl), show gi (wI h5 195 e.toNat (min 1000000 (gi h5 195 e.toNat))) 194 = gi h 194 from funext fun j => (gi_a (by decide) _).trans (FRM_gi hF5 (r := 77) rfl rfl)]]
                have fb70 := b2i_r (snFine (fun k => snF (gi h 193) (gi h 194) k (gi h 171 42).toNat) k l)
                refine x_if_eq 211 207 hK rfl rfl rfl (by omega) (fun c => by omega) (fun _ => ?_)
                refine x_iconst 208 hK rfl rfl ?_
                refine x_goto 212 hK rfl rfl ?_
                refine x_bastore 213 hK rfl rfl (sp_196 (h := h5) hG5) (by omega) (by omega) (by omega) (by omega) ?_
                refine x_iinc 216 hK rfl rfl l3 _ rfl ?_
                refine x_goto 8 hK rfl rfl ?_
                have mn : gi (wI (wI h5 195 e.toNat (min 1000000 (gi h5 195 e.toNat))) 196 e.toNat 1) 195 e.toNat = (min 1000000 (gi h5 195 e.toNat)) := (gi_a (by decide) _).trans (gi_same (by omega))
                have an : gi (wI (wI h5 195 e.toNat (min 1000000 (gi h5 195 e.toNat))) 196 e.toNat 1) 196 e.toNat = 1 := gi_same (by omega)
                have fn : snFine (fun k => snF (gi h 193) (gi h 194) k (gi h 171 42).toNat) k l = true := b2i_1 (by omega)
                have me : ((min 1000000 (gi h5 195 e.toNat)) : Int) = sMn (fun k => snF (gi h 193) (gi h 194) k (gi h 171 42).toNat) last (last - k).toNat l := by
                  by_cases c : k = last
                  · rw [if_pos c] at mE
                    rw [c, show (last - last).toNat = 0 by omega]
                    rw [c] at fn
                    unfold sMn
                    rw [fn]
                    rw [mE]; rfl
                  · rw [if_neg c] at mE
                    rw [sMn_s (by omega), fn]
                    rw [mE]; rfl
                have ae : (1 : Int) = if 0 < sMn (fun k => snF (gi h 193) (gi h 194) k (gi h 171 42).toNat) last (last - k).toNat l then 1 else 0 := by
                  first | omega | (rw [← me]; first | rw [if_pos (by omega)] | rw [if_neg (by omega)])
                have tn : TBL (fun k => snF (gi h 193) (gi h 194) k (gi h 171 42).toNat) last (wI (wI h5 195 e.toNat (min 1000000 (gi h5 195 e.toNat))) 196 e.toNat 1) k (l + 1) := by
                  intro k' l' y1 y2 y3 y4 y5
                  by_cases c : k' = k ∧ l' = l
                  · obtain ⟨rfl, rfl⟩ := c
                    rw [← ei]
                    exact ⟨mn.trans me, an.trans ae⟩
                  · exact (TBL_w t5 (by omega) (by omega) fun j hj => ⟨(gi_a (by decide) _).trans (gi_k (by omega) _), (gi_k (by omega) _).trans (gi_a (by decide) _)⟩) k' l' y1 y2 y3 y4 (by omega)
                exact ihL _ (by omega) (l + 1) _ _ rfl (by omega) (by omega) (tn) (lk1_n l0 (by decide) (Or.inl rfl)) (lk1_n l1 (by decide) (Or.inl rfl)) (lk1_n l2 (by decide) (Or.inl rfl)) lk1_s (GD_wu (GD_wn (hG5) (r := 78) rfl rfl) (r := 79) rfl (by omega) rfl (by omega) (by omega)) (FRM_wn 0 224 (FRM_wn 0 224 (hF5) (r := 78) rfl rfl rfl (by omega) (by omega)) (r := 79) rfl rfl rfl (by omega) (by omega))
          · refine x_aload_n 71 hK rfl rfl l0 ?_
            refine x_getR 74 hK rfl rfl (sp_171 (h := h5) hG5) (rf_171_45 (h := h5) hG5) ?_
            refine x_iload 76 hK rfl rfl l4 ?_
            refine x_dup2 77 hK rfl rfl rfl rfl ?_
            have g72 := gi_r h5 195 e.toNat
            refine x_ialoadE 78 hK rfl rfl (sp_195 (h := h5) hG5) (by omega) (by omega) (by omega) (e' := (gi h5 195 e.toNat)) (rfl) ?_
            refine x_aload_n 79 hK rfl rfl l0 ?_
            refine x_getR 82 hK rfl rfl (sp_171 (h := h5) hG5) (rf_171_45 (h := h5) hG5) ?_
            refine x_bipush 84 hK rfl rfl rfl ?_
            refine x_iload_n 85 hK rfl rfl l2 ?_
            refine x_iconst 86 hK rfl rfl ?_
            refine x_iadd 87 hK rfl rfl ?_
            refine x_imul 88 hK rfl rfl ?_
            refine x_iload_n 89 hK rfl rfl l3 ?_
            refine x_iload 91 hK rfl rfl l5 ?_
            refine x_iadd 92 hK rfl rfl ?_
            refine x_callS 95 hK hmono rfl (Or.inl rfl) rfl [.int (I (l + v))] [.int (I (9 * (k + 1))), .ref 195, .int (I (gi h5 195 e.toNat)), .int (I e), .ref 195] rfl rfl (Nat.le_of_ble_eq_true rfl) (Nat.le_of_ble_eq_true rfl) (CLd_le (Nat.le_of_ble_eq_true rfl) (ctX11_put hSP (by omega))) ?_
            rintro v9 h9 ⟨e9, rfl⟩
            rw [e9]
            clear e9
            refine x_iadd 96 hK rfl rfl ?_
            refine x_ialoadE 97 hK rfl rfl (sp_195 (h := h5) hG5) (by omega) (by omega) (by omega) (e' := ((sMn (fun k => snF (gi h 193) (gi h 194) k (gi h 171 42).toNat) last (last - (k + 1)).toNat) (max 0 (min 8 (l + v))))) ((tz (by omega) (by omega)).1) ?_
            refine x_iadd 98 hK rfl rfl ?_
            refine x_iastore 99 hK rfl rfl (sp_195 (h := h5) hG5) (by omega) (by omega) (by omega) ?_
            refine x_aload_n 100 hK rfl rfl l0 ?_
            refine x_getR 103 hK rfl rfl (sp_171 (h := h5) hG5) (rf_171_46 (h := h5) hG5) ?_
            refine x_iload 105 hK rfl rfl l4 ?_
            refine x_aload_n 106 hK rfl rfl l0 ?_
            refine x_getR 109 hK rfl rfl (sp_171 (h := h5) hG5) (rf_171_46 (h := h5) hG5) ?_
            refine x_iload 111 hK rfl rfl l4 ?_
            have g74 := grn (0) (1) hG5 (a := 196) (r := 79) (k := e.toNat) rfl rfl (by omega)
            refine x_baloadE 112 hK rfl rfl (sp_196 (h := h5) hG5) (by omega) (by omega) (by omega) (e' := (gi h5 196 e.toNat)) (gi_a (by decide) _) ?_
            refine x_if_ne 137 115 hK rfl rfl rfl (by omega) (fun c166 => ?_) (fun c166 => ?_)
            · refine x_iconst 138 hK rfl rfl ?_
              refine x_goto 142 hK rfl rfl ?_
              refine x_bastore 143 hK rfl rfl (sp_196 (h := h5) hG5) (by omega) (by omega) (by omega) (by omega) ?_
              refine x_iinc 146 hK rfl rfl l5 _ rfl ?_
              refine x_goto 59 hK rfl rfl ?_
              have mn : gi (wI (wI h5 195 e.toNat ((gi h5 195 e.toNat) + ((sMn (fun k => snF (gi h 193) (gi h 194) k (gi h 171 42).toNat) last (last - (k + 1)).toNat) (max 0 (min 8 (l + v)))))) 196 e.toNat 1) 195 e.toNat = ((gi h5 195 e.toNat) + ((sMn (fun k => snF (gi h 193) (gi h 194) k (gi h 171 42).toNat) last (last - (k + 1)).toNat) (max 0 (min 8 (l + v))))) := (gi_a (by decide) _).trans (gi_same (by omega))
              have an : gi (wI (wI h5 195 e.toNat ((gi h5 195 e.toNat) + ((sMn (fun k => snF (gi h 193) (gi h 194) k (gi h 171 42).toNat) last (last - (k + 1)).toNat) (max 0 (min 8 (l + v)))))) 196 e.toNat 1) 196 e.toNat = 1 := gi_same (by omega)
              exact ih _ (by omega) e (v + 1) _ _ rfl (by omega) (ei) (by omega) ((TBL_w t5 (by omega) (by omega) fun j hj => ⟨(gi_a (by decide) _).trans (gi_k (by omega) _), (gi_k (by omega) _).trans (gi_a (by decide) _)⟩)) ((mn.trans (by rw [m5, if_neg (by omega), if_neg (by omega), s3n (by omega)]))) ((an.trans (by rw [mn]; first | rw [if_pos (by omega)] | rw [if_neg (by omega)]))) (lk1_n l0 (by decide) (Or.inl rfl)) (lk1_n l1 (by decide) (Or.inl rfl)) (lk1_n l2 (by decide) (Or.inl rfl)) (lk1_n l3 (by decide) (Or.inl rfl)) (lk1_n l4 (by decide) (Or.inl rfl)) lk1_s (GD_wu (GD_wn (hG5) (r := 78) rfl rfl) (r := 79) rfl (by omega) rfl (by omega) (by omega)) (FRM_wn 0 224 (FRM_wn 0 224 (hF5) (r := 78) rfl rfl rfl (by omega) (by omega)) (r := 79) rfl rfl rfl (by omega) (by omega))
            · refine x_aload_n 116 hK rfl rfl l0 ?_
              refine x_getR 119 hK rfl rfl (sp_171 (h := h5) hG5) (rf_171_46 (h := h5) hG5) ?_
              refine x_bipush 121 hK rfl rfl rfl ?_
              refine x_iload_n 122 hK rfl rfl l2 ?_
              refine x_iconst 123 hK rfl rfl ?_
              refine x_iadd 124 hK rfl rfl ?_
              refine x_imul 125 hK rfl rfl ?_
              refine x_iload_n 126 hK rfl rfl l3 ?_
              refine x_iload 128 hK rfl rfl l5 ?_
              refine x_iadd 129 hK rfl rfl ?_
              have hGp75 : GD gE gRL sh (wI h5 195 e.toNat ((gi h5 195 e.toNat) + ((sMn (fun k => snF (gi h 193) (gi h 194) k (gi h 171 42).toNat) last (last - (k + 1)).toNat) (max 0 (min 8 (l + v)))))) := GD_wn (hG5) (r := 78) rfl rfl
              refine x_callS 132 hK hmono rfl (Or.inl rfl) rfl [.int (I (l + v))] [.int (I (9 * (k + 1))), .ref 196, .int (I e), .ref 196] rfl rfl (Nat.le_of_ble_eq_true rfl) (Nat.le_of_ble_eq_true rfl) (CLd_le (Nat.le_of_ble_eq_true rfl) (ctX11_put hSP (by omega))) ?_
              rintro v9 h9 ⟨e9, rfl⟩
              rw [e9]
              clear e9
              refine x_iadd 133 hK rfl rfl ?_
              refine x_baloadE 134 hK rfl rfl (sp_196 (h := h5) hG5) (by omega) (by omega) (by omega) (e' := (if 0 < (sMn (fun k => snF (gi h 193) (gi h 194) k (gi h 171 42).toNat) last (last - (k + 1)).toNat) (max 0 (min 8 (l + v))) then 1 else 0)) ((gi_a (by decide) _).trans ((tz (by omega) (by omega)).2)) ?_
              refine x_if_eq 141 137 hK rfl rfl rfl (by omega) (fun c186 => ?_) (fun c186 => ?_)
              · refine x_iconst 142 hK rfl rfl ?_
                refine x_bastore 143 hK rfl rfl (sp_196 (h := h5) hG5) (by omega) (by omega) (by omega) (by omega) ?_
                refine x_iinc 146 hK rfl rfl l5 _ rfl ?_
                refine x_goto 59 hK rfl rfl ?_
                have mn : gi (wI (wI h5 195 e.toNat ((gi h5 195 e.toNat) + ((sMn (fun k => snF (gi h 193) (gi h 194) k (gi h 171 42).toNat) last (last - (k + 1)).toNat) (max 0 (min 8 (l + v)))))) 196 e.toNat 0) 195 e.toNat = ((gi h5 195 e.toNat) + ((sMn (fun k => snF (gi h 193) (gi h 194) k (gi h 171 42).toNat) last (last - (k + 1)).toNat) (max 0 (min 8 (l + v))))) := (gi_a (by decide) _).trans (gi_same (by omega))
                have an : gi (wI (wI h5 195 e.toNat ((gi h5 195 e.toNat) + ((sMn (fun k => snF (gi h 193) (gi h 194) k (gi h 171 42).toNat) last (last - (k + 1)).toNat) (max 0 (min 8 (l + v)))))) 196 e.toNat 0) 196 e.toNat = 0 := gi_same (by omega)
                exact ih _ (by omega) e (v + 1) _ _ rfl (by omega) (ei) (by omega) ((TBL_w t5 (by omega) (by omega) fun j hj => ⟨(gi_a (by decide) _).trans (gi_k (by omega) _), (gi_k (by omega) _).trans (gi_a (by decide) _)⟩)) ((mn.trans (by rw [m5, if_neg (by omega), if_neg (by omega), s3n (by omega)]))) ((an.trans (by rw [mn]; first | rw [if_pos (by omega)] | rw [if_neg (by omega)]))) (lk1_n l0 (by decide) (Or.inl rfl)) (lk1_n l1 (by decide) (Or.inl rfl)) (lk1_n l2 (by decide) (Or.inl rfl)) (lk1_n l3 (by decide) (Or.inl rfl)) (lk1_n l4 (by decide) (Or.inl rfl)) lk1_s (GD_wu (GD_wn (hG5) (r := 78) rfl rfl) (r := 79) rfl (by omega) rfl (by omega) (by omega)) (FRM_wn 0 224 (FRM_wn 0 224 (hF5) (r := 78) rfl rfl rfl (by omega) (by omega)) (r := 79) rfl rfl rfl (by omega) (by omega))
              · refine x_iconst 138 hK rfl rfl ?_
                refine x_goto 142 hK rfl rfl ?_
                refine x_bastore 143 hK rfl rfl (sp_196 (h := h5) hG5) (by omega) (by omega) (by omega) (by omega) ?_
                refine x_iinc 146 hK rfl rfl l5 _ rfl ?_
                refine x_goto 59 hK rfl rfl ?_
                have mn : gi (wI (wI h5 195 e.toNat ((gi h5 195 e.toNat) + ((sMn (fun k => snF (gi h 193) (gi h 194) k (gi h 171 42).toNat) last (last - (k + 1)).toNat) (max 0 (min 8 (l + v)))))) 196 e.toNat 1) 195 e.toNat = ((gi h5 195 e.toNat) + ((sMn (fun k => snF (gi h 193) (gi h 194) k (gi h 171 42).toNat) last (last - (k + 1)).toNat) (max 0 (min 8 (l + v))))) := (gi_a (by decide) _).trans (gi_same (by omega))
                have an : gi (wI (wI h5 195 e.toNat ((gi h5 195 e.toNat) + ((sMn (fun k => snF (gi h 193) (gi h 194) k (gi h 171 42).toNat) last (last - (k + 1)).toNat) (max 0 (min 8 (l + v)))))) 196 e.toNat 1) 196 e.toNat = 1 := gi_same (by omega)
                exact ih _ (by omega) e (v + 1) _ _ rfl (by omega) (ei) (by omega) ((TBL_w t5 (by omega) (by omega) fun j hj => ⟨(gi_a (by decide) _).trans (gi_k (by omega) _), (gi_k (by omega) _).trans (gi_a (by decide) _)⟩)) ((mn.trans (by rw [m5, if_neg (by omega), if_neg (by omega), s3n (by omega)]))) ((an.trans (by rw [mn]; first | rw [if_pos (by omega)] | rw [if_neg (by omega)]))) (lk1_n l0 (by decide) (Or.inl rfl)) (lk1_n l1 (by decide) (Or.inl rfl)) (lk1_n l2 (by decide) (Or.inl rfl)) (lk1_n l3 (by decide) (Or.inl rfl)) (lk1_n l4 (by decide) (Or.inl rfl)) lk1_s (GD_wu (GD_wn (hG5) (r := 78) rfl rfl) (r := 79) rfl (by omega) rfl (by omega) (by omega)) (FRM_wn 0 224 (FRM_wn 0 224 (hF5) (r := 78) rfl rfl rfl (by omega) (by omega)) (r := 79) rfl rfl rfl (by omega) (by omega))
      refine x_iload_n 9 hK rfl rfl l3 ?_
      refine x_bipush 11 hK rfl rfl rfl ?_
      refine x_if_icmp_ge 219 14 hK rfl rfl rfl (by omega) (by omega) (fun c3 => ?_) (fun c3 => ?_)
      · refine x_iinc 222 hK rfl rfl l2 _ rfl ?_
        refine x_goto 2 hK rfl rfl ?_
        exact ihK _ (by omega) (k + (-1)) _ _ rfl (by omega) ((fun k' l' y1 y2 y3 y4 y5 => t4 k' l' y1 y2 y3 y4 (by omega))) (lk1_n l0 (by decide) (Or.inl rfl)) (lk1_n l1 (by decide) (Or.inl rfl)) lk1_s (hG4) (hF4)
      · refine x_bipush 16 hK rfl rfl rfl ?_
        refine x_iload_n 17 hK rfl rfl l2 ?_
        refine x_imul 18 hK rfl rfl ?_
        refine x_iload_n 19 hK rfl rfl l3 ?_
        refine x_iadd 20 hK rfl rfl ?_
        refine x_istore 22 hK rfl rfl _ rfl ?_
        refine x_aload_n 23 hK rfl rfl (lk1_n l0 (by decide) (Or.inl rfl)) ?_
        refine x_getR 26 hK rfl rfl (sp_171 (h := h4) hG4) (rf_171_45 (h := h4) hG4) ?_
        refine x_iload 28 hK rfl rfl lk1_s ?_
        refine x_iload_n 29 hK rfl rfl (lk1_n l2 (by decide) (Or.inl rfl)) ?_
        refine x_iload_n 30 hK rfl rfl (lk1_n l1 (by decide) (Or.inl rfl)) ?_
        refine x_if_icmp_ne 37 33 hK rfl rfl rfl (by omega) (by omega) (fun c18 => ?_) (fun c18 => ?_)
        · refine x_iconst 38 hK rfl rfl ?_
          refine x_iastore 39 hK rfl rfl (sp_195 (h := h4) hG4) (by omega) (by omega) (by omega) ?_
          refine x_aload_n 40 hK rfl rfl (lk1_n l0 (by decide) (Or.inl rfl)) ?_
          refine x_getR 43 hK rfl rfl (sp_171 (h := h4) hG4) (rf_171_46 (h := h4) hG4) ?_
          refine x_iload 45 hK rfl rfl lk1_s ?_
          refine x_iload_n 46 hK rfl rfl (lk1_n l2 (by decide) (Or.inl rfl)) ?_
          refine x_iload_n 47 hK rfl rfl (lk1_n l1 (by decide) (Or.inl rfl)) ?_
          refine x_if_icmp_ne 54 50 hK rfl rfl rfl (by omega) (by omega) (fun _ => ?_) (fun c => by omega)
          refine x_iconst 55 hK rfl rfl ?_
          refine x_bastore 56 hK rfl rfl (sp_196 (h := h4) hG4) (by omega) (by omega) (by omega) (by omega) ?_
          refine x_iconst 57 hK rfl rfl ?_
          refine x_istore 59 hK rfl rfl _ rfl ?_
          exact loopV _ ((9 * k) + l) (-1) _ _ rfl (by omega) (rfl) (by omega) ((TBL_w t4 (by omega) (by omega) fun j hj => ⟨(gi_a (by decide) _).trans (gi_k (by omega) _), (gi_k (by omega) _).trans (gi_a (by decide) _)⟩)) ((((gi_a (by decide) _).trans (gi_same (by omega))).trans (by first | rw [if_pos (by omega)] | (rw [if_neg (by omega)]; rfl)))) (((gi_same (by omega)).trans (by rw [show gi (wI (wI h4 195 ((9 * k) + l).toNat 0) 196 ((9 * k) + l).toNat 0) 195 ((9 * k) + l).toNat = 0 from (gi_a (by decide) _).trans (gi_same (by omega))]; rfl))) (lk1_n (lk1_n l0 (by decide) (Or.inl rfl)) (by decide) (Or.inl rfl)) (lk1_n (lk1_n l1 (by decide) (Or.inl rfl)) (by decide) (Or.inl rfl)) (lk1_n (lk1_n l2 (by decide) (Or.inl rfl)) (by decide) (Or.inl rfl)) (lk1_n (lk1_n l3 (by decide) (Or.inl rfl)) (by decide) (Or.inl rfl)) (lk1_n lk1_s (by decide) (Or.inl rfl)) lk1_s (GD_wu (GD_wn (hG4) (r := 78) rfl rfl) (r := 79) rfl (by omega) rfl (by omega) (by omega)) (FRM_wn 0 224 (FRM_wn 0 224 (hF4) (r := 78) rfl rfl rfl (by omega) (by omega)) (r := 79) rfl rfl rfl (by omega) (by omega))
        · refine x_iconst 34 hK rfl rfl ?_
          refine x_goto 38 hK rfl rfl ?_
          refine x_iastore 39 hK rfl rfl (sp_195 (h := h4) hG4) (by omega) (by omega) (by omega) ?_
          refine x_aload_n 40 hK rfl rfl (lk1_n l0 (by decide) (Or.inl rfl)) ?_
          refine x_getR 43 hK rfl rfl (sp_171 (h := h4) hG4) (rf_171_46 (h := h4) hG4) ?_
          refine x_iload 45 hK rfl rfl lk1_s ?_
          refine x_iload_n 46 hK rfl rfl (lk1_n l2 (by decide) (Or.inl rfl)) ?_
          refine x_iload_n 47 hK rfl rfl (lk1_n l1 (by decide) (Or.inl rfl)) ?_
          refine x_if_icmp_ne 54 50 hK rfl rfl rfl (by omega) (by omega) (fun c => by omega) (fun _ => ?_)
          refine x_iconst 51 hK rfl rfl ?_
          refine x_goto 55 hK rfl rfl ?_
          refine x_bastore 56 hK rfl rfl (sp_196 (h := h4) hG4) (by omega) (by omega) (by omega) (by omega) ?_
          refine x_iconst 57 hK rfl rfl ?_
          refine x_istore 59 hK rfl rfl _ rfl ?_
          exact loopV _ ((9 * k) + l) (-1) _ _ rfl (by omega) (rfl) (by omega) ((TBL_w t4 (by omega) (by omega) fun j hj => ⟨(gi_a (by decide) _).trans (gi_k (by omega) _), (gi_k (by omega) _).trans (gi_a (by decide) _)⟩)) ((((gi_a (by decide) _).trans (gi_same (by omega))).trans (by first | rw [if_pos (by omega)] | (rw [if_neg (by omega)]; rfl)))) (((gi_same (by omega)).trans (by rw [show gi (wI (wI h4 195 ((9 * k) + l).toNat 1) 196 ((9 * k) + l).toNat 1) 195 ((9 * k) + l).toNat = 1 from (gi_a (by decide) _).trans (gi_same (by omega))]; rfl))) (lk1_n (lk1_n l0 (by decide) (Or.inl rfl)) (by decide) (Or.inl rfl)) (lk1_n (lk1_n l1 (by decide) (Or.inl rfl)) (by decide) (Or.inl rfl)) (lk1_n (lk1_n l2 (by decide) (Or.inl rfl)) (by decide) (Or.inl rfl)) (lk1_n (lk1_n l3 (by decide) (Or.inl rfl)) (by decide) (Or.inl rfl)) (lk1_n lk1_s (by decide) (Or.inl rfl)) lk1_s (GD_wu (GD_wn (hG4) (r := 78) rfl rfl) (r := 79) rfl (by omega) rfl (by omega) (by omega)) (FRM_wn 0 224 (FRM_wn 0 224 (hF4) (r := 78) rfl rfl rfl (by omega) (by omega)) (r := 79) rfl rfl rfl (by omega) (by omega))
    refine x_iload_n 3 hK rfl rfl l2 ?_
    refine x_if_lt 225 6 hK rfl rfl rfl (by omega) (fun c2 => ?_) (fun c2 => ?_)
    · obtain rfl : k = -1 := by omega
      exact x_vret hK rfl ⟨rfl, hG3, hF3, t3⟩
    · refine x_iconst 7 hK rfl rfl ?_
      refine x_istore_n 8 hK rfl rfl _ rfl ?_
      exact loopL _ 0 _ _ rfl (by omega) (by omega) (t3) (lk1_n l0 (by decide) (Or.inl rfl)) (lk1_n l1 (by decide) (Or.inl rfl)) (lk1_n l2 (by decide) (Or.inl rfl)) lk1_s (hG3) (hF3)
  refine x_iload_n 1 hK rfl rfl rfl ?_
  refine x_istore_n 2 hK rfl rfl [(2, .int (I last)), (0, .ref 171), (1, .int (I last))] rfl ?_
  exact loopK _ last _ _ rfl (by omega) ((fun k' l' y1 y2 y3 y4 y5 => absurd y5 (by omega))) rfl rfl rfl (hG) ((FRM.rf : FRM gRL [(0, 78, 0, 224), (0, 79, 0, 224)] h h))
set_option maxRecDepth 4000 in
theorem ctX11_ordered {SP : CT} (hSP : MONO SP) {sh : List (Nat × Nat)} {h : aH} (hG : GD gE gRL sh h) : CLd SP 5 mX11_ordered [.ref 171] h 0 0 (fun rv h' => ((gi h 171 42 = 0 ∧ rv = some (.int (I (-1))) ∧ mrow h' = mrow h) ∨ (0 < gi h 171 42 ∧ rv = some (.int (I (sMn (fun k => snF (gi h 193) (gi h 194) k (gi h 171 42).toNat) (lsF (gi h 193) (gi h 171 42).toNat) (lsF (gi h 193) (gi h 171 42).toNat).toNat 4))) ∧ mrow h' = if 0 < sMn (fun k => snF (gi h 193) (gi h 194) k (gi h 171 42).toNat) (lsF (gi h 193) (gi h 171 42).toNat) (lsF (gi h 193) (gi h 171 42).toNat).toNat 4 then sRow (fun k => snF (gi h 193) (gi h 194) k (gi h 171 42).toNat) (lsF (gi h 193) (gi h 171 42).toNat) (lsF (gi h 193) (gi h 171 42).toNat).toNat 4 else [])) ∧ GD gE gRL sh h' ∧ FRM gRL [(0, 54, 0, 0), (0, 54, 1, 1), (0, 78, 0, 224), (0, 79, 0, 224), (1, 55, 0, 39)] h h' ∧ gi h' 171 0 = 0) := by
  refine x_met _ rfl (Nat.le_of_ble_eq_true rfl) (fun K hK => ?_)
  have hmono := MONO_CLd hSP 4
  have g42 := gri 0 12 hG (a := 171) (r := 54) (k := 42) rfl rfl
  have lb := last_b hG
  have mb := sMn_b (fun k => snF (gi h 193) (gi h 194) k (gi h 171 42).toNat) (lsF (gi h 193) (gi h 171 42).toNat)
  have loop : ∀ (mz : Nat) (l k : Int) (h4 : aH) (ls : List (Nat × Value)), (((lsF (gi h 193) (gi h 171 42).toNat) + 1 - k).toNat = mz) → (0 < gi h 171 42) → (1 ≤ k ∧ k ≤ (lsF (gi h 193) (gi h 171 42).toNat) + 1) → (0 ≤ l ∧ l ≤ 8) → (TBL (fun k => snF (gi h 193) (gi h 194) k (gi h 171 42).toNat) (lsF (gi h 193) (gi h 171 42).toNat) h4 (-1) 0) → (gi h4 171 0 = 0) → (gi h4 171 1 = k - 1) → (0 < sMn (fun k => snF (gi h 193) (gi h 194) k (gi h 171 42).toNat) (lsF (gi h 193) (gi h 171 42).toNat) (lsF (gi h 193) (gi h 171 42).toNat).toNat 4 → 0 < sMn (fun k => snF (gi h 193) (gi h 194) k (gi h 171 42).toNat) (lsF (gi h 193) (gi h 171 42).toNat) ((lsF (gi h 193) (gi h 171 42).toNat) - (k - 1)).toNat l) → (¬ 0 < sMn (fun k => snF (gi h 193) (gi h 194) k (gi h 171 42).toNat) (lsF (gi h 193) (gi h 171 42).toNat) (lsF (gi h 193) (gi h 171 42).toNat).toNat 4 → k = 1) → (0 < sMn (fun k => snF (gi h 193) (gi h 194) k (gi h 171 42).toNat) (lsF (gi h 193) (gi h 171 42).toNat) (lsF (gi h 193) (gi h 171 42).toNat).toNat 4 → mrow h4 ++ sRow (fun k => snF (gi h 193) (gi h 194) k (gi h 171 42).toNat) (lsF (gi h 193) (gi h 171 42).toNat) ((lsF (gi h 193) (gi h 171 42).toNat) - (k - 1)).toNat l = sRow (fun k => snF (gi h 193) (gi h 194) k (gi h 171 42).toNat) (lsF (gi h 193) (gi h 171 42).toNat) (lsF (gi h 193) (gi h 171 42).toNat).toNat 4) → lk ls 0 = some (.ref 171) → lk ls 1 = some (.int (I (lsF (gi h 193) (gi h 171 42).toNat))) → lk ls 2 = some (.int (I l)) → lk ls 3 = some (.int (I k)) → GD gE gRL sh h4 → FRM gRL [(0, 54, 0, 0), (0, 54, 1, 1), (0, 78, 0, 224), (0, 79, 0, 224), (1, 55, 0, 39)] h h4 → K 30 ls [] h4 0 0 := by
    intro mz
    induction mz using Nat.strongRecOn with
    | ind mz ih =>
    intro l k h4 ls hm s1 k0 l0 tb t4 r4 w4 k9 e4 l0 l1 l2 l3 hG4 hF4
    have a4 : gi h4 196 4 = if 0 < sMn (fun k => snF (gi h 193) (gi h 194) k (gi h 171 42).toNat) (lsF (gi h 193) (gi h 171 42).toNat) (lsF (gi h 193) (gi h 171 42).toNat).toNat 4 then 1 else 0 := by have z := (tb 0 4 (by omega) (by omega) (by omega) (by omega) (Or.inl (by omega))).2; rw [show (lsF (gi h 193) (gi h 171 42).toNat) - 0 = (lsF (gi h 193) (gi h 171 42).toNat) by omega] at z; exact z
    have a4b : gi h4 196 4 = 0 ∨ gi h4 196 4 = 1 := by rw [a4]; split <;> omega
    have tz : ∀ p : Int, 0 ≤ p → p ≤ 8 → k ≤ (lsF (gi h 193) (gi h 171 42).toNat) → gi h4 196 ((9 * k) + p).toNat = if 0 < (sMn (fun k => snF (gi h 193) (gi h 194) k (gi h 171 42).toNat) (lsF (gi h 193) (gi h 171 42).toNat) ((lsF (gi h 193) (gi h 171 42).toNat) - k).toNat) p then 1 else 0 := fun p z1 z2 z3 => (tb k p (by omega) z1 z2 z3 (Or.inl (by omega))).2
    refine x_iload_n 31 hK rfl rfl l3 ?_
    refine x_iload_n 32 hK rfl rfl l1 ?_
    refine x_if_icmp_gt 94 35 hK rfl rfl rfl (by omega) (by omega) (fun c3 => ?_) (fun c3 => ?_)
    · refine x_aload_n 95 hK rfl rfl l0 ?_
      refine x_getR 98 hK rfl rfl (sp_171 (h := h4) hG4) (rf_171_45 (h := h4) hG4) ?_
      refine x_iconst 99 hK rfl rfl ?_
      have g77 := gi_r h4 195 4
      refine x_ialoadE 100 hK rfl rfl (sp_195 (h := h4) hG4) (by omega) (by omega) (by omega) (e' := (gi h4 195 4)) (rfl) ?_
      have m4 : gi h4 195 4 = sMn (fun k => snF (gi h 193) (gi h 194) k (gi h 171 42).toNat) (lsF (gi h 193) (gi h 171 42).toNat) (lsF (gi h 193) (gi h 171 42).toNat).toNat 4 := by have z := (tb 0 4 (by omega) (by omega) (by omega) (by omega) (Or.inl (by omega))).1; rw [show (lsF (gi h 193) (gi h 171 42).toNat) - 0 = (lsF (gi h 193) (gi h 171 42).toNat) by omega] at z; exact z
      have rw4 : mrow h4 = if 0 < sMn (fun k => snF (gi h 193) (gi h 194) k (gi h 171 42).toNat) (lsF (gi h 193) (gi h 171 42).toNat) (lsF (gi h 193) (gi h 171 42).toNat).toNat 4 then sRow (fun k => snF (gi h 193) (gi h 194) k (gi h 171 42).toNat) (lsF (gi h 193) (gi h 171 42).toNat) (lsF (gi h 193) (gi h 171 42).toNat).toNat 4 else [] := by
        by_cases c : 0 < sMn (fun k => snF (gi h 193) (gi h 194) k (gi h 171 42).toNat) (lsF (gi h 193) (gi h 171 42).toNat) (lsF (gi h 193) (gi h 171 42).toNat).toNat 4
        · rw [if_pos c]
          rw [if_pos c] at a4
          have z := e4 c
          rw [show ((lsF (gi h 193) (gi h 171 42).toNat) - (k - 1)).toNat = 0 by omega] at z
          rw [← z]; show mrow h4 = mrow h4 ++ []; rw [List.append_nil]
        · rw [if_neg c]
          exact mrow_0 (by rw [r4, k9 c]; rfl)
      exact x_iret hK rfl ⟨Or.inr ⟨s1, by rw [m4], rw4⟩, hG4, hF4, t4⟩
    · refine x_aload_n 36 hK rfl rfl l0 ?_
      refine x_getR 39 hK rfl rfl (sp_171 (h := h4) hG4) (rf_171_46 (h := h4) hG4) ?_
      refine x_iconst 40 hK rfl rfl ?_
      have g78 := gri (0) (1) hG4 (a := 196) (r := 79) (k := 4) rfl rfl
      refine x_baloadE 41 hK rfl rfl (sp_196 (h := h4) hG4) (by omega) (by omega) (by omega) (e' := (gi h4 196 4)) (rfl) ?_
      refine x_if_eq 94 44 hK rfl rfl rfl (by omega) (fun c13 => ?_) (fun c13 => ?_)
      · refine x_aload_n 95 hK rfl rfl l0 ?_
        refine x_getR 98 hK rfl rfl (sp_171 (h := h4) hG4) (rf_171_45 (h := h4) hG4) ?_
        refine x_iconst 99 hK rfl rfl ?_
        have g79 := gi_r h4 195 4
        refine x_ialoadE 100 hK rfl rfl (sp_195 (h := h4) hG4) (by omega) (by omega) (by omega) (e' := (gi h4 195 4)) (rfl) ?_
        have m4 : gi h4 195 4 = sMn (fun k => snF (gi h 193) (gi h 194) k (gi h 171 42).toNat) (lsF (gi h 193) (gi h 171 42).toNat) (lsF (gi h 193) (gi h 171 42).toNat).toNat 4 := by have z := (tb 0 4 (by omega) (by omega) (by omega) (by omega) (Or.inl (by omega))).1; rw [show (lsF (gi h 193) (gi h 171 42).toNat) - 0 = (lsF (gi h 193) (gi h 171 42).toNat) by omega] at z; exact z
        have rw4 : mrow h4 = if 0 < sMn (fun k => snF (gi h 193) (gi h 194) k (gi h 171 42).toNat) (lsF (gi h 193) (gi h 171 42).toNat) (lsF (gi h 193) (gi h 171 42).toNat).toNat 4 then sRow (fun k => snF (gi h 193) (gi h 194) k (gi h 171 42).toNat) (lsF (gi h 193) (gi h 171 42).toNat) (lsF (gi h 193) (gi h 171 42).toNat).toNat 4 else [] := by
          by_cases c : 0 < sMn (fun k => snF (gi h 193) (gi h 194) k (gi h 171 42).toNat) (lsF (gi h 193) (gi h 171 42).toNat) (lsF (gi h 193) (gi h 171 42).toNat).toNat 4
          · rw [if_pos c]
            rw [if_pos c] at a4
            have z := e4 c
            rw [show ((lsF (gi h 193) (gi h 171 42).toNat) - (k - 1)).toNat = 0 by omega] at z
            rw [← z]; show mrow h4 = mrow h4 ++ []; rw [List.append_nil]
          · rw [if_neg c]
            exact mrow_0 (by rw [r4, k9 c]; rfl)
        exact x_iret hK rfl ⟨Or.inr ⟨s1, by rw [m4], rw4⟩, hG4, hF4, t4⟩
      · have fp : 0 < sMn (fun k => snF (gi h 193) (gi h 194) k (gi h 171 42).toNat) (lsF (gi h 193) (gi h 171 42).toNat) (lsF (gi h 193) (gi h 171 42).toNat).toNat 4 := by
          by_cases c : 0 < sMn (fun k => snF (gi h 193) (gi h 194) k (gi h 171 42).toNat) (lsF (gi h 193) (gi h 171 42).toNat) (lsF (gi h 193) (gi h 171 42).toNat).toNat 4
          · exact c
          · rw [if_neg c] at a4; omega
        have wk := w4 fp
        rw [show (lsF (gi h 193) (gi h 171 42).toNat) - (k - 1) = (lsF (gi h 193) (gi h 171 42).toNat) - (k - 1) from rfl, sMn_s (k := k - 1) (by omega), show k - 1 + 1 = k by omega] at wk
        have w3 : 0 < s3 (sMn (fun k => snF (gi h 193) (gi h 194) k (gi h 171 42).toNat) (lsF (gi h 193) (gi h 171 42).toNat) ((lsF (gi h 193) (gi h 171 42).toNat) - k).toNat) l 2 := by
          by_cases c : snFine (fun k => snF (gi h 193) (gi h 194) k (gi h 171 42).toNat) (k - 1) l = true
          · rw [if_pos c] at wk; omega
          · rw [if_neg c] at wk; omega
        have nv := nxV_ok (mb _) w3
        have nb := nxV_b (sMn (fun k => snF (gi h 193) (gi h 194) k (gi h 171 42).toNat) (lsF (gi h 193) (gi h 171 42).toNat) ((lsF (gi h 193) (gi h 171 42).toNat) - k).toNat) l
        have nd : nxV (sMn (fun k => snF (gi h 193) (gi h 194) k (gi h 171 42).toNat) (lsF (gi h 193) (gi h 171 42).toNat) ((lsF (gi h 193) (gi h 171 42).toNat) - k).toNat) l = if 0 < (sMn (fun k => snF (gi h 193) (gi h 194) k (gi h 171 42).toNat) (lsF (gi h 193) (gi h 171 42).toNat) ((lsF (gi h 193) (gi h 171 42).toNat) - k).toNat) (max 0 (min 8 (l + -1))) then -1 else if 0 < (sMn (fun k => snF (gi h 193) (gi h 194) k (gi h 171 42).toNat) (lsF (gi h 193) (gi h 171 42).toNat) ((lsF (gi h 193) (gi h 171 42).toNat) - k).toNat) (max 0 (min 8 (l + 0))) then 0 else 1 := rfl
        refine x_iconst 45 hK rfl rfl ?_
        refine x_istore 47 hK rfl rfl _ rfl ?_
        refine x_aload_n 48 hK rfl rfl (lk1_n l0 (by decide) (Or.inl rfl)) ?_
        refine x_getR 51 hK rfl rfl (sp_171 (h := h4) hG4) (rf_171_46 (h := h4) hG4) ?_
        refine x_bipush 53 hK rfl rfl rfl ?_
        refine x_iload_n 54 hK rfl rfl (lk1_n l3 (by decide) (Or.inl rfl)) ?_
        refine x_imul 55 hK rfl rfl ?_
        refine x_iload_n 56 hK rfl rfl (lk1_n l2 (by decide) (Or.inl rfl)) ?_
        refine x_iload 58 hK rfl rfl lk1_s ?_
        refine x_iadd 59 hK rfl rfl ?_
        refine x_callS 62 hK hmono rfl (Or.inl rfl) rfl [.int (I (l + (-1)))] [.int (I (9 * k)), .ref 196] rfl rfl (Nat.le_of_ble_eq_true rfl) (Nat.le_of_ble_eq_true rfl) (CLd_le (Nat.le_of_ble_eq_true rfl) (ctX11_put hSP (by omega))) ?_
        rintro v9 h9 ⟨e9, rfl⟩
        rw [e9]
        clear e9
        refine x_iadd 63 hK rfl rfl ?_
        refine x_baloadE 64 hK rfl rfl (sp_196 (h := h4) hG4) (by omega) (by omega) (by omega) (e' := (if 0 < (sMn (fun k => snF (gi h 193) (gi h 194) k (gi h 171 42).toNat) (lsF (gi h 193) (gi h 171 42).toNat) ((lsF (gi h 193) (gi h 171 42).toNat) - k).toNat) (max 0 (min 8 (l + (-1)))) then 1 else 0)) (tz _ (by omega) (by omega) (by omega)) ?_
        refine x_if_ne 73 67 hK rfl rfl rfl (by omega) (fun c33 => ?_) (fun c33 => ?_)
        · have ve : nxV (sMn (fun k => snF (gi h 193) (gi h 194) k (gi h 171 42).toNat) (lsF (gi h 193) (gi h 171 42).toNat) ((lsF (gi h 193) (gi h 171 42).toNat) - k).toNat) l = (-1) := by rw [nd, if_pos (by omega)]
          rw [ve] at nv
          refine x_aload_n 74 hK rfl rfl (lk1_n l0 (by decide) (Or.inl rfl)) ?_
          refine x_iload 76 hK rfl rfl lk1_s ?_
          refine x_i2l 77 hK rfl rfl (by omega) ?_
          have z82 : gi h4 171 1 = (k - 1) := r4
          have z82r : mrow h4 = (mrow h4) := rfl
          refine x_callV 80 hK hmono rfl rfl [.ref 171, .long (J (-1))] [] rfl rfl (Nat.le_of_ble_eq_true rfl) (Nat.le_of_ble_eq_true rfl) rfl (sp_171 (h := h4) hG4) (CLd_le (Nat.le_of_ble_eq_true rfl) (ctX11_entersF hSP hG4 (by omega) (by omega))) ?_
          rintro v81 h81 ⟨rfl, hG81, hF81, t81, s81⟩
          rw [z82] at t81
          rw [z82r] at s81
          refine x_iload_n 81 hK rfl rfl (lk1_n l2 (by decide) (Or.inl rfl)) ?_
          refine x_iload 83 hK rfl rfl lk1_s ?_
          refine x_iadd 84 hK rfl rfl ?_
          refine x_callS 87 hK hmono rfl (Or.inl rfl) rfl [.int (I (l + (-1)))] [] rfl rfl (Nat.le_of_ble_eq_true rfl) (Nat.le_of_ble_eq_true rfl) (CLd_le (Nat.le_of_ble_eq_true rfl) (ctX11_put hSP (by omega))) ?_
          rintro v9 h9 ⟨e9, rfl⟩
          rw [e9]
          clear e9
          refine x_istore_n 88 hK rfl rfl _ rfl ?_
          refine x_iinc 91 hK rfl rfl (lk1_n (lk1_n l3 (by decide) (Or.inl rfl)) (by decide) (Or.inl rfl)) _ rfl ?_
          refine x_goto 30 hK rfl rfl ?_
          exact ih _ (by omega) (max 0 (min 8 (l + (-1)))) (k + 1) _ _ rfl (s1) (by omega) (by omega) ((fun k' l' y1 y2 y3 y4 y5 => by rw [show gi h81 195 _ = gi h4 195 _ from FRM_gi hF81 (r := 78) rfl rfl, show gi h81 196 _ = gi h4 196 _ from FRM_gi hF81 (r := 79) rfl rfl]; exact tb k' l' y1 y2 y3 y4 y5)) ((FRM_gi hF81 (r := 54) rfl rfl).trans (t4)) ((t81).trans (by omega)) ((fun _ => by rw [show (lsF (gi h 193) (gi h 171 42).toNat) - (k + 1 - 1) = (lsF (gi h 193) (gi h 171 42).toNat) - k by omega]; exact nv)) ((fun z => absurd fp z)) ((fun _ => by rw [s81, ← e4 fp, show ((lsF (gi h 193) (gi h 171 42).toNat) - (k - 1)).toNat = ((lsF (gi h 193) (gi h 171 42).toNat) - k).toNat + 1 by omega, show (lsF (gi h 193) (gi h 171 42).toNat) - (k + 1 - 1) = (lsF (gi h 193) (gi h 171 42).toNat) - k by omega, List.append_assoc]; show mrow h4 ++ ([_] ++ _) = mrow h4 ++ (nxV (sMn (fun k => snF (gi h 193) (gi h 194) k (gi h 171 42).toNat) (lsF (gi h 193) (gi h 171 42).toNat) ((lsF (gi h 193) (gi h 171 42).toNat) - k).toNat) l :: sRow _ _ _ (max 0 (min 8 (l + nxV (sMn (fun k => snF (gi h 193) (gi h 194) k (gi h 171 42).toNat) (lsF (gi h 193) (gi h 171 42).toNat) ((lsF (gi h 193) (gi h 171 42).toNat) - k).toNat) l)))); rw [ve]; rfl)) (lk1_n (lk1_n (lk1_n l0 (by decide) (Or.inl rfl)) (by decide) (Or.inl rfl)) (by decide) (Or.inl rfl)) (lk1_n (lk1_n (lk1_n l1 (by decide) (Or.inl rfl)) (by decide) (Or.inl rfl)) (by decide) (Or.inl rfl)) (lk1_n lk1_s (by decide) (Or.inl rfl)) lk1_s (hG81) ((hF4).trans ((hF81).mono rfl))
        · refine x_iinc 70 hK rfl rfl lk1_s _ rfl ?_
          refine x_goto 47 hK rfl rfl ?_
          refine x_aload_n 48 hK rfl rfl (lk1_n (lk1_n l0 (by decide) (Or.inl rfl)) (by decide) (Or.inl rfl)) ?_
          refine x_getR 51 hK rfl rfl (sp_171 (h := h4) hG4) (rf_171_46 (h := h4) hG4) ?_
          refine x_bipush 53 hK rfl rfl rfl ?_
          refine x_iload_n 54 hK rfl rfl (lk1_n (lk1_n l3 (by decide) (Or.inl rfl)) (by decide) (Or.inl rfl)) ?_
          refine x_imul 55 hK rfl rfl ?_
          refine x_iload_n 56 hK rfl rfl (lk1_n (lk1_n l2 (by decide) (Or.inl rfl)) (by decide) (Or.inl rfl)) ?_
          refine x_iload 58 hK rfl rfl lk1_s ?_
          refine x_iadd 59 hK rfl rfl ?_
          refine x_callS 62 hK hmono rfl (Or.inl rfl) rfl [.int (I (l + 0))] [.int (I (9 * k)), .ref 196] rfl rfl (Nat.le_of_ble_eq_true rfl) (Nat.le_of_ble_eq_true rfl) (CLd_le (Nat.le_of_ble_eq_true rfl) (ctX11_put hSP (by omega))) ?_
          rintro v9 h9 ⟨e9, rfl⟩
          rw [e9]
          clear e9
          refine x_iadd 63 hK rfl rfl ?_
          refine x_baloadE 64 hK rfl rfl (sp_196 (h := h4) hG4) (by omega) (by omega) (by omega) (e' := (if 0 < (sMn (fun k => snF (gi h 193) (gi h 194) k (gi h 171 42).toNat) (lsF (gi h 193) (gi h 171 42).toNat) ((lsF (gi h 193) (gi h 171 42).toNat) - k).toNat) (max 0 (min 8 (l + 0))) then 1 else 0)) (tz _ (by omega) (by omega) (by omega)) ?_
          refine x_if_ne 73 67 hK rfl rfl rfl (by omega) (fun c60 => ?_) (fun c60 => ?_)
          · have ve : nxV (sMn (fun k => snF (gi h 193) (gi h 194) k (gi h 171 42).toNat) (lsF (gi h 193) (gi h 171 42).toNat) ((lsF (gi h 193) (gi h 171 42).toNat) - k).toNat) l = 0 := by rw [nd, if_neg (by omega), if_pos (by omega)]
            rw [ve] at nv
            refine x_aload_n 74 hK rfl rfl (lk1_n (lk1_n l0 (by decide) (Or.inl rfl)) (by decide) (Or.inl rfl)) ?_
            refine x_iload 76 hK rfl rfl lk1_s ?_
            refine x_i2l 77 hK rfl rfl (by omega) ?_
            have z86 : gi h4 171 1 = (k - 1) := r4
            have z86r : mrow h4 = (mrow h4) := rfl
            refine x_callV 80 hK hmono rfl rfl [.ref 171, .long (J 0)] [] rfl rfl (Nat.le_of_ble_eq_true rfl) (Nat.le_of_ble_eq_true rfl) rfl (sp_171 (h := h4) hG4) (CLd_le (Nat.le_of_ble_eq_true rfl) (ctX11_entersF hSP hG4 (by omega) (by omega))) ?_
            rintro v85 h85 ⟨rfl, hG85, hF85, t85, s85⟩
            rw [z86] at t85
            rw [z86r] at s85
            refine x_iload_n 81 hK rfl rfl (lk1_n (lk1_n l2 (by decide) (Or.inl rfl)) (by decide) (Or.inl rfl)) ?_
            refine x_iload 83 hK rfl rfl lk1_s ?_
            refine x_iadd 84 hK rfl rfl ?_
            refine x_callS 87 hK hmono rfl (Or.inl rfl) rfl [.int (I (l + 0))] [] rfl rfl (Nat.le_of_ble_eq_true rfl) (Nat.le_of_ble_eq_true rfl) (CLd_le (Nat.le_of_ble_eq_true rfl) (ctX11_put hSP (by omega))) ?_
            rintro v9 h9 ⟨e9, rfl⟩
            rw [e9]
            clear e9
            refine x_istore_n 88 hK rfl rfl _ rfl ?_
            refine x_iinc 91 hK rfl rfl (lk1_n (lk1_n (lk1_n l3 (by decide) (Or.inl rfl)) (by decide) (Or.inl rfl)) (by decide) (Or.inl rfl)) _ rfl ?_
            refine x_goto 30 hK rfl rfl ?_
            exact ih _ (by omega) (max 0 (min 8 (l + 0))) (k + 1) _ _ rfl (s1) (by omega) (by omega) ((fun k' l' y1 y2 y3 y4 y5 => by rw [show gi h85 195 _ = gi h4 195 _ from FRM_gi hF85 (r := 78) rfl rfl, show gi h85 196 _ = gi h4 196 _ from FRM_gi hF85 (r := 79) rfl rfl]; exact tb k' l' y1 y2 y3 y4 y5)) ((FRM_gi hF85 (r := 54) rfl rfl).trans (t4)) ((t85).trans (by omega)) ((fun _ => by rw [show (lsF (gi h 193) (gi h 171 42).toNat) - (k + 1 - 1) = (lsF (gi h 193) (gi h 171 42).toNat) - k by omega]; exact nv)) ((fun z => absurd fp z)) ((fun _ => by rw [s85, ← e4 fp, show ((lsF (gi h 193) (gi h 171 42).toNat) - (k - 1)).toNat = ((lsF (gi h 193) (gi h 171 42).toNat) - k).toNat + 1 by omega, show (lsF (gi h 193) (gi h 171 42).toNat) - (k + 1 - 1) = (lsF (gi h 193) (gi h 171 42).toNat) - k by omega, List.append_assoc]; show mrow h4 ++ ([_] ++ _) = mrow h4 ++ (nxV (sMn (fun k => snF (gi h 193) (gi h 194) k (gi h 171 42).toNat) (lsF (gi h 193) (gi h 171 42).toNat) ((lsF (gi h 193) (gi h 171 42).toNat) - k).toNat) l :: sRow _ _ _ (max 0 (min 8 (l + nxV (sMn (fun k => snF (gi h 193) (gi h 194) k (gi h 171 42).toNat) (lsF (gi h 193) (gi h 171 42).toNat) ((lsF (gi h 193) (gi h 171 42).toNat) - k).toNat) l)))); rw [ve]; rfl)) (lk1_n (lk1_n (lk1_n (lk1_n l0 (by decide) (Or.inl rfl)) (by decide) (Or.inl rfl)) (by decide) (Or.inl rfl)) (by decide) (Or.inl rfl)) (lk1_n (lk1_n (lk1_n (lk1_n l1 (by decide) (Or.inl rfl)) (by decide) (Or.inl rfl)) (by decide) (Or.inl rfl)) (by decide) (Or.inl rfl)) (lk1_n lk1_s (by decide) (Or.inl rfl)) lk1_s (hG85) ((hF4).trans ((hF85).mono rfl))
          · refine x_iinc 70 hK rfl rfl lk1_s _ rfl ?_
            refine x_goto 47 hK rfl rfl ?_
            refine x_aload_n 48 hK rfl rfl (lk1_n (lk1_n (lk1_n l0 (by decide) (Or.inl rfl)) (by decide) (Or.inl rfl)) (by decide) (Or.inl rfl)) ?_
            refine x_getR 51 hK rfl rfl (sp_171 (h := h4) hG4) (rf_171_46 (h := h4) hG4) ?_
            refine x_bipush 53 hK rfl rfl rfl ?_
            refine x_iload_n 54 hK rfl rfl (lk1_n (lk1_n (lk1_n l3 (by decide) (Or.inl rfl)) (by decide) (Or.inl rfl)) (by decide) (Or.inl rfl)) ?_
            refine x_imul 55 hK rfl rfl ?_
            refine x_iload_n 56 hK rfl rfl (lk1_n (lk1_n (lk1_n l2 (by decide) (Or.inl rfl)) (by decide) (Or.inl rfl)) (by decide) (Or.inl rfl)) ?_
            refine x_iload 58 hK rfl rfl lk1_s ?_
            refine x_iadd 59 hK rfl rfl ?_
            refine x_callS 62 hK hmono rfl (Or.inl rfl) rfl [.int (I (l + 1))] [.int (I (9 * k)), .ref 196] rfl rfl (Nat.le_of_ble_eq_true rfl) (Nat.le_of_ble_eq_true rfl) (CLd_le (Nat.le_of_ble_eq_true rfl) (ctX11_put hSP (by omega))) ?_
            rintro v9 h9 ⟨e9, rfl⟩
            rw [e9]
            clear e9
            refine x_iadd 63 hK rfl rfl ?_
            refine x_baloadE 64 hK rfl rfl (sp_196 (h := h4) hG4) (by omega) (by omega) (by omega) (e' := (if 0 < (sMn (fun k => snF (gi h 193) (gi h 194) k (gi h 171 42).toNat) (lsF (gi h 193) (gi h 171 42).toNat) ((lsF (gi h 193) (gi h 171 42).toNat) - k).toNat) (max 0 (min 8 (l + 1))) then 1 else 0)) (tz _ (by omega) (by omega) (by omega)) ?_
            refine x_if_ne 73 67 hK rfl rfl rfl (by omega) (fun c87 => ?_) (fun c87 => ?_)
            · have ve : nxV (sMn (fun k => snF (gi h 193) (gi h 194) k (gi h 171 42).toNat) (lsF (gi h 193) (gi h 171 42).toNat) ((lsF (gi h 193) (gi h 171 42).toNat) - k).toNat) l = 1 := by rw [nd, if_neg (by omega), if_neg (by omega)]
              rw [ve] at nv
              refine x_aload_n 74 hK rfl rfl (lk1_n (lk1_n (lk1_n l0 (by decide) (Or.inl rfl)) (by decide) (Or.inl rfl)) (by decide) (Or.inl rfl)) ?_
              refine x_iload 76 hK rfl rfl lk1_s ?_
              refine x_i2l 77 hK rfl rfl (by omega) ?_
              have z90 : gi h4 171 1 = (k - 1) := r4
              have z90r : mrow h4 = (mrow h4) := rfl
              refine x_callV 80 hK hmono rfl rfl [.ref 171, .long (J 1)] [] rfl rfl (Nat.le_of_ble_eq_true rfl) (Nat.le_of_ble_eq_true rfl) rfl (sp_171 (h := h4) hG4) (CLd_le (Nat.le_of_ble_eq_true rfl) (ctX11_entersF hSP hG4 (by omega) (by omega))) ?_
              rintro v89 h89 ⟨rfl, hG89, hF89, t89, s89⟩
              rw [z90] at t89
              rw [z90r] at s89
              refine x_iload_n 81 hK rfl rfl (lk1_n (lk1_n (lk1_n l2 (by decide) (Or.inl rfl)) (by decide) (Or.inl rfl)) (by decide) (Or.inl rfl)) ?_
              refine x_iload 83 hK rfl rfl lk1_s ?_
              refine x_iadd 84 hK rfl rfl ?_
              refine x_callS 87 hK hmono rfl (Or.inl rfl) rfl [.int (I (l + 1))] [] rfl rfl (Nat.le_of_ble_eq_true rfl) (Nat.le_of_ble_eq_true rfl) (CLd_le (Nat.le_of_ble_eq_true rfl) (ctX11_put hSP (by omega))) ?_
              rintro v9 h9 ⟨e9, rfl⟩
              rw [e9]
              clear e9
              refine x_istore_n 88 hK rfl rfl _ rfl ?_
              refine x_iinc 91 hK rfl rfl (lk1_n (lk1_n (lk1_n (lk1_n l3 (by decide) (Or.inl rfl)) (by decide) (Or.inl rfl)) (by decide) (Or.inl rfl)) (by decide) (Or.inl rfl)) _ rfl ?_
              refine x_goto 30 hK rfl rfl ?_
              exact ih _ (by omega) (max 0 (min 8 (l + 1))) (k + 1) _ _ rfl (s1) (by omega) (by omega) ((fun k' l' y1 y2 y3 y4 y5 => by rw [show gi h89 195 _ = gi h4 195 _ from FRM_gi hF89 (r := 78) rfl rfl, show gi h89 196 _ = gi h4 196 _ from FRM_gi hF89 (r := 79) rfl rfl]; exact tb k' l' y1 y2 y3 y4 y5)) ((FRM_gi hF89 (r := 54) rfl rfl).trans (t4)) ((t89).trans (by omega)) ((fun _ => by rw [show (lsF (gi h 193) (gi h 171 42).toNat) - (k + 1 - 1) = (lsF (gi h 193) (gi h 171 42).toNat) - k by omega]; exact nv)) ((fun z => absurd fp z)) ((fun _ => by rw [s89, ← e4 fp, show ((lsF (gi h 193) (gi h 171 42).toNat) - (k - 1)).toNat = ((lsF (gi h 193) (gi h 171 42).toNat) - k).toNat + 1 by omega, show (lsF (gi h 193) (gi h 171 42).toNat) - (k + 1 - 1) = (lsF (gi h 193) (gi h 171 42).toNat) - k by omega, List.append_assoc]; show mrow h4 ++ ([_] ++ _) = mrow h4 ++ (nxV (sMn (fun k => snF (gi h 193) (gi h 194) k (gi h 171 42).toNat) (lsF (gi h 193) (gi h 171 42).toNat) ((lsF (gi h 193) (gi h 171 42).toNat) - k).toNat) l :: sRow _ _ _ (max 0 (min 8 (l + nxV (sMn (fun k => snF (gi h 193) (gi h 194) k (gi h 171 42).toNat) (lsF (gi h 193) (gi h 171 42).toNat) ((lsF (gi h 193) (gi h 171 42).toNat) - k).toNat) l)))); rw [ve]; rfl)) (lk1_n (lk1_n (lk1_n (lk1_n (lk1_n l0 (by decide) (Or.inl rfl)) (by decide) (Or.inl rfl)) (by decide) (Or.inl rfl)) (by decide) (Or.inl rfl)) (by decide) (Or.inl rfl)) (lk1_n (lk1_n (lk1_n (lk1_n (lk1_n l1 (by decide) (Or.inl rfl)) (by decide) (Or.inl rfl)) (by decide) (Or.inl rfl)) (by decide) (Or.inl rfl)) (by decide) (Or.inl rfl)) (lk1_n lk1_s (by decide) (Or.inl rfl)) lk1_s (hG89) ((hF4).trans ((hF89).mono rfl))
            · have ve : nxV (sMn (fun k => snF (gi h 193) (gi h 194) k (gi h 171 42).toNat) (lsF (gi h 193) (gi h 171 42).toNat) ((lsF (gi h 193) (gi h 171 42).toNat) - k).toNat) l = 1 := by rw [nd, if_neg (by omega), if_neg (by omega)]
              rw [ve] at nv
              exfalso
              omega
  refine x_aload_n 1 hK rfl rfl rfl ?_
  refine x_iconst 2 hK rfl rfl ?_
  refine x_putI 5 hK rfl rfl (sp_171 (h := h) hG) ?_
  refine x_aload_n 6 hK rfl rfl rfl ?_
  have hGp93 : GD gE gRL sh (wI h 171 0 0) := GD_w1 (hG) (r := 54) rfl (by omega) rfl (by omega) (by omega)
  refine x_callV 9 hK hmono rfl rfl [.ref 171] [] rfl rfl (Nat.le_of_ble_eq_true rfl) (Nat.le_of_ble_eq_true rfl) rfl (sp_171 (h := h) hG) (CLd_le (Nat.le_of_ble_eq_true rfl) (ctX11_lastSeen hSP hGp93)) ?_
  rintro v9 h9 ⟨e9, rfl⟩
  rw [e9]
  clear e9
  rw [show lsF (gi (wI h 171 0 0) 193) (gi (wI h 171 0 0) 171 42).toNat = lsF (gi h 193) (gi h 171 42).toNat from by rw [show gi (wI h 171 0 0) 171 42 = gi h 171 42 from gi_k (by decide) _, show gi (wI h 171 0 0) 193 = gi h 193 from funext fun j => gi_a (by decide) _]]
  have lb92 := last_b hG
  refine x_istore_n 10 hK rfl rfl [(1, .int (I (lsF (gi h 193) (gi h 171 42).toNat))), (0, .ref 171)] rfl ?_
  refine x_iload_n 11 hK rfl rfl rfl ?_
  refine x_if_ge 16 14 hK rfl rfl rfl (by omega) (fun c8 => ?_) (fun c8 => ?_)
  · refine x_aload_n 17 hK rfl rfl rfl ?_
    refine x_iload_n 18 hK rfl rfl rfl ?_
    have hGp94 : GD gE gRL sh (wI h 171 0 0) := GD_w1 (hG) (r := 54) rfl (by omega) rfl (by omega) (by omega)
    refine x_callV 21 hK hmono rfl rfl [.ref 171, .int (I (lsF (gi h 193) (gi h 171 42).toNat))] [] rfl rfl (Nat.le_of_ble_eq_true rfl) (Nat.le_of_ble_eq_true rfl) rfl (sp_171 (h := h) hG) (CLd_le (Nat.le_of_ble_eq_true rfl) (ctX11_laysSeen hSP hGp94 (by omega))) ?_
    rintro v2 h2 ⟨rfl, hG2, hF2, tb2⟩
    rw [show (fun k => snF (gi (wI h 171 0 0) 193) (gi (wI h 171 0 0) 194) k (gi (wI h 171 0 0) 171 42).toNat) = (fun k => snF (gi h 193) (gi h 194) k (gi h 171 42).toNat) from rfl] at tb2
    refine x_aload_n 22 hK rfl rfl rfl ?_
    refine x_iconst 23 hK rfl rfl ?_
    refine x_putI 26 hK rfl rfl (sp_171 (h := h2) hG2) ?_
    refine x_iconst 27 hK rfl rfl ?_
    refine x_istore_n 28 hK rfl rfl [(2, .int (I 4)), (1, .int (I (lsF (gi h 193) (gi h 171 42).toNat))), (0, .ref 171)] rfl ?_
    refine x_iconst 29 hK rfl rfl ?_
    refine x_istore_n 30 hK rfl rfl [(3, .int (I 1)), (2, .int (I 4)), (1, .int (I (lsF (gi h 193) (gi h 171 42).toNat))), (0, .ref 171)] rfl ?_
    exact loop _ 4 1 _ _ rfl (by omega) (by omega) (by omega) ((fun k' l' y1 y2 y3 y4 y5 => by rw [show gi (wI h2 171 1 0) 195 _ = gi h2 195 _ from gi_a (by decide) _, show gi (wI h2 171 1 0) 196 _ = gi h2 196 _ from gi_a (by decide) _]; exact tb2 k' l' y1 y2 y3 y4 y5)) ((gi_k (by decide) _).trans ((FRM_gi hF2 (r := 54) rfl rfl).trans (gi_same (by omega)))) (gi_same (by omega)) ((fun z => by rw [show (lsF (gi h 193) (gi h 171 42).toNat) - (1 - 1) = (lsF (gi h 193) (gi h 171 42).toNat) by omega]; exact z)) ((fun _ => rfl)) ((fun _ => by rw [mrow_0 (gi_same (by omega)), show (lsF (gi h 193) (gi h 171 42).toNat) - (1 - 1) = (lsF (gi h 193) (gi h 171 42).toNat) by omega]; rfl)) rfl rfl rfl rfl (GD_w1 (hG2) (r := 54) rfl (by omega) rfl (by omega) (by omega)) (FRM_w ((FRM_w ((FRM.rf : FRM gRL [(0, 54, 0, 0), (0, 54, 1, 1), (0, 78, 0, 224), (0, 79, 0, 224), (1, 55, 0, 39)] h h)) (r := 54) rfl rfl).trans ((hF2).mono rfl)) (r := 54) rfl rfl)
  · refine x_iconst 15 hK rfl rfl ?_
    exact x_iret hK rfl ⟨Or.inl ⟨by omega, rfl, mrow_k (by decide)⟩, GD_w1 (hG) (r := 54) rfl (by omega) rfl (by omega) (by omega), FRM_w ((FRM.rf : FRM gRL [(0, 54, 0, 0), (0, 54, 1, 1), (0, 78, 0, 224), (0, 79, 0, 224), (1, 55, 0, 39)] h h)) (r := 54) rfl rfl, gi_same (by omega)⟩
end
section
/-! THE STATE (the reference): put by, brought back, kept: as rows of 57 -/
/-- 57 ints behind one another -/
noncomputable def RC (h : aH) (a o : Nat) : Nat → Int := fun k => if k < 57 then gi h a (o + k) else 0
theorem RC_at {h : aH} {a o k : Nat} (hk : k < 57) : RC h a o k = gi h a (o + k) := if_pos hk
theorem RC_0 {h : aH} {a k : Nat} (hk : k < 57) : RC h a 0 k = gi h a k := by rw [RC_at hk, Nat.zero_add]
theorem RC_ext {h h' : aH} {a a' o o' : Nat} (e : ∀ k, k < 57 → gi h' a' (o' + k) = gi h a (o + k)) : RC h' a' o' = RC h a o := by
  funext k
  unfold RC
  by_cases hk : k < 57
  · rw [if_pos hk, if_pos hk, e k hk]
  · rw [if_neg hk, if_neg hk]
theorem RC_F {M : MD} {h h' : aH} {a r : Nat} (hF : FRM gRL M h h') (hr : gRL[a]? = some r) (hm : (M.all fun q => !(Nat.beq q.1 0 && Nat.beq q.2.1 r)) = true) (o : Nat) : RC h' a o = RC h a o :=
  RC_ext fun k _ => FRM_gi hF hr (mHas_non hm _)
theorem RC_w {h : aH} {a b k o : Nat} {e : Int} (hb : b ≠ a) : RC (wI h a k e) b o = RC h b o := RC_ext fun _ _ => gi_a hb _
/-- bounds of a state, b STEPS from the beginning -/
noncomputable def WB (b : Int) (s : Nat → Int) : Prop := (0 ≤ s 0 ∧ s 0 ≤ b) ∧ (0 ≤ s 1 ∧ s 1 ≤ 8) ∧ (0 ≤ s 2 ∧ s 2 ≤ 16 * b) ∧ (0 ≤ s 3 ∧ s 3 ≤ 12) ∧ (-1 ≤ s 4 ∧ s 4 ≤ b) ∧ ∀ m, m < 8 → (0 ≤ s (41 + m) ∧ s (41 + m) ≤ 99) ∧ 0 ≤ s (49 + m) ∧ s (49 + m) ≤ b
theorem WB.mono {b c : Int} {s : Nat → Int} (w : WB b s) (hb : b ≤ c) : WB c s := by
  obtain ⟨w0, w1, w2, w3, w4, w5⟩ := w
  exact ⟨by omega, w1, by omega, w3, by omega, fun m hm => ⟨(w5 m hm).1, (w5 m hm).2.1, by have := (w5 m hm).2.2; omega⟩⟩
/-- of all states that are held -/
noncomputable def AW (b : Int) (h : aH) : Prop := WB b (RC h 178 0) ∧ (∀ u, u < 16 → WB b (RC h 186 (57 * u))) ∧ ∀ u, u < 3 → WB b (RC h 200 (57 * u))
theorem AW.mono {b c : Int} {h : aH} (w : AW b h) (hb : b ≤ c) : AW c h := ⟨w.1.mono hb, fun u hu => (w.2.1 u hu).mono hb, fun u hu => (w.2.2 u hu).mono hb⟩
theorem AW_eq {b : Int} {h h' : aH} (w : AW b h) (e1 : RC h' 178 0 = RC h 178 0) (e2 : ∀ u, u < 16 → RC h' 186 (57 * u) = RC h 186 (57 * u)) (e3 : ∀ u, u < 3 → RC h' 200 (57 * u) = RC h 200 (57 * u)) : AW b h' :=
  ⟨by rw [e1]; exact w.1, fun u hu => by rw [e2 u hu]; exact w.2.1 u hu, fun u hu => by rw [e3 u hu]; exact w.2.2 u hu⟩
noncomputable def awOk (M : MD) : Bool := (M.all fun q => !(Nat.beq q.1 0 && Nat.beq q.2.1 61)) && (M.all fun q => !(Nat.beq q.1 0 && Nat.beq q.2.1 69)) && (M.all fun q => !(Nat.beq q.1 0 && Nat.beq q.2.1 83))
theorem AW_F {M : MD} {b : Int} {h h' : aH} (hF : FRM gRL M h h') (hm : awOk M = true) (w : AW b h) : AW b h' := by
  simp only [awOk, Bool.and_eq_true] at hm
  exact AW_eq w (RC_F hF (r := 61) rfl hm.1.1 0) (fun u _ => RC_F hF (r := 69) rfl hm.1.2 _) (fun u _ => RC_F hF (r := 83) rfl hm.2 _)
theorem AW.w {b : Int} {h : aH} {a k : Nat} {e : Int} (w : AW b h) (ha : a ≠ 178 ∧ a ≠ 186 ∧ a ≠ 200) : AW b (wI h a k e) :=
  AW_eq w (RC_w fun z => ha.1 z.symm) (fun _ _ => RC_w fun z => ha.2.1 z.symm) (fun _ _ => RC_w fun z => ha.2.2 z.symm)
theorem AW.NB {b : Int} {h : aH} (w : AW b h) : NB b h := by
  refine ⟨?_, fun u hu => ?_, fun u hu => ?_⟩
  · have := w.1.1; rw [RC_0 (by omega)] at this; exact this
  · have := (w.2.1 u hu).1; rw [RC_at (by omega)] at this; exact this
  · have := (w.2.2 u hu).1; rw [RC_at (by omega)] at this; exact this
theorem what_r {sh : List (Nat × Nat)} {h : aH} {a r : Nat} (hG : GD gE gRL sh h) (hr : gRL[a]? = some r) (h61 : eG gE r = eG gE 61) {j : Nat} (hj : j < 12) : -1 ≤ gi h a (6 + 3 * j) ∧ gi h a (6 + 3 * j) ≤ 1 :=
  hG.2.2.1 a r hr _ (by rw [h61]; exact in61 hj) (6 + 3 * j) (Nat.le_refl _) (Nat.le_refl _)
set_option maxRecDepth 4000 in
theorem ctX11_putsByF {SP : CT} (hSP : MONO SP) {sh : List (Nat × Nat)} {h : aH} (hG : GD gE gRL sh h) (hu : 0 ≤ gi h 171 29 ∧ gi h 171 29 ≤ 15) : CLd SP 2 mX11_putsBy [.ref 171] h 0 0 (fun rv h' => rv = none ∧ GD gE gRL sh h' ∧ FRM gRL [(0, 69, 0, 911)] h h' ∧ RC h' 186 (57 * (gi h 171 29).toNat) = RC h 178 0 ∧ ∀ v, v ≠ (gi h 171 29).toNat → RC h' 186 (57 * v) = RC h 186 (57 * v)) := by
  refine x_met _ rfl (Nat.le_of_ble_eq_true rfl) (fun K hK => ?_)
  have hmono := MONO_CLd hSP 1
  obtain ⟨u, hu1, hu2⟩ : ∃ u : Nat, gi h 171 29 = u ∧ u < 16 := ⟨(gi h 171 29).toNat, by omega, by omega⟩
  have loop : ∀ (mz : Nat) (k : Int) (h4 : aH) (ls : List (Nat × Value)), ((57 - k).toNat = mz) → (0 ≤ k ∧ k ≤ 57) → (∀ j : Nat, j < k → gi h4 186 (57 * u + j) = gi h 178 j) → (∀ j : Nat, j < 57 * u ∨ 57 * u + k ≤ j → gi h4 186 j = gi h 186 j) → lk ls 0 = some (.ref 171) → lk ls 1 = some (.int (I k)) → GD gE gRL sh h4 → FRM gRL [(0, 69, 0, 911)] h h4 → K 2 ls [] h4 0 0 := by
    intro mz
    induction mz using Nat.strongRecOn with
    | ind mz ih =>
    intro k h4 ls hm k0 cp ot l0 l1 hG4 hF4
    have ks : gi h4 178 k.toNat = gi h 178 k.toNat := FRM_gi hF4 (r := 61) rfl rfl
    refine x_iload_n 3 hK rfl rfl l1 ?_
    refine x_bipush 5 hK rfl rfl rfl ?_
    refine x_if_icmp_ge 34 8 hK rfl rfl rfl (by omega) (by omega) (fun c3 => ?_) (fun c3 => ?_)
    · exact x_vret hK rfl ⟨rfl, hG4, hF4, by rw [hu1, show ((u : Int)).toNat = u from rfl]; exact RC_ext fun j hj => by rw [Nat.zero_add]; exact cp j (by omega), fun v hv => RC_ext fun j hj => ot _ (by omega)⟩
    · refine x_aload_n 9 hK rfl rfl l0 ?_
      refine x_getR 12 hK rfl rfl (sp_171 (h := h4) hG4) (rf_171_30 (h := h4) hG4) ?_
      refine x_bipush 14 hK rfl rfl rfl ?_
      refine x_aload_n 15 hK rfl rfl l0 ?_
      refine x_getE 18 hK rfl (Or.inl rfl) rfl (sp_171 (h := h4) hG4) (e := (u : Int)) ((FRM_gi hF4 (r := 54) rfl rfl).trans hu1) ?_
      refine x_imul 19 hK rfl rfl ?_
      refine x_iload_n 20 hK rfl rfl l1 ?_
      refine x_iadd 21 hK rfl rfl ?_
      refine x_aload_n 22 hK rfl rfl l0 ?_
      refine x_getR 25 hK rfl rfl (sp_171 (h := h4) hG4) (rf_171_14 (h := h4) hG4) ?_
      refine x_iload_n 26 hK rfl rfl l1 ?_
      have g95 := gi_r h4 178 k.toNat
      refine x_ialoadE 27 hK rfl rfl (sp_178 (h := h4) hG4) (by omega) (by omega) (by omega) (e' := (gi h4 178 k.toNat)) (rfl) ?_
      refine x_iastore 28 hK rfl rfl (sp_186 (h := h4) hG4) (by omega) (by omega) (by omega) ?_
      refine x_iinc 31 hK rfl rfl l1 _ rfl ?_
      refine x_goto 2 hK rfl rfl ?_
      have e1 : ((57 * (u : Int)) + k).toNat = 57 * u + k.toNat := by omega
      rw [e1]
      exact ih _ (by omega) (k + 1) _ _ rfl (by omega) ((fun j hj => if c : j = k.toNat then (by subst c; exact (gi_same (gi_r _ _ _)).trans ks) else (gi_k (by omega) _).trans (cp j (by omega)))) ((fun j hj => (gi_k (by omega) _).trans (ot j (by omega)))) (lk1_n l0 (by decide) (Or.inl rfl)) lk1_s ((cp_in ro69 (r := 69) rfl hG4 u k.toNat hu2 (by omega))) (FRM_wn 0 911 (hF4) (r := 69) rfl rfl rfl (by omega) (by omega))
  refine x_iconst 1 hK rfl rfl ?_
  refine x_istore_n 2 hK rfl rfl [(1, .int (I 0)), (0, .ref 171)] rfl ?_
  exact loop _ 0 _ _ rfl (by omega) ((fun j hj => absurd hj (by omega))) ((fun _ _ => rfl)) rfl rfl (hG) ((FRM.rf : FRM gRL [(0, 69, 0, 911)] h h))
set_option maxRecDepth 4000 in
theorem ctX11_putsF {SP : CT} (hSP : MONO SP) {sh : List (Nat × Nat)} {h : aH} (hG : GD gE gRL sh h) : CLd SP 2 mX11_puts [.ref 171] h 0 0 (fun rv h' => rv = none ∧ GD gE gRL sh h' ∧ FRM gRL [(0, 62, 0, 56)] h h' ∧ RC h' 179 0 = RC h 178 0) := by
  refine x_met _ rfl (Nat.le_of_ble_eq_true rfl) (fun K hK => ?_)
  have hmono := MONO_CLd hSP 1
  have loop : ∀ (mz : Nat) (k : Int) (h4 : aH) (ls : List (Nat × Value)), ((57 - k).toNat = mz) → (0 ≤ k ∧ k ≤ 57) → (∀ j : Nat, j < k → gi h4 179 j = gi h 178 j) → lk ls 0 = some (.ref 171) → lk ls 1 = some (.int (I k)) → GD gE gRL sh h4 → FRM gRL [(0, 62, 0, 56)] h h4 → K 2 ls [] h4 0 0 := by
    intro mz
    induction mz using Nat.strongRecOn with
    | ind mz ih =>
    intro k h4 ls hm k0 cp l0 l1 hG4 hF4
    have ks : gi h4 178 k.toNat = gi h 178 k.toNat := FRM_gi hF4 (r := 61) rfl rfl
    refine x_iload_n 3 hK rfl rfl l1 ?_
    refine x_bipush 5 hK rfl rfl rfl ?_
    refine x_if_icmp_ge 26 8 hK rfl rfl rfl (by omega) (by omega) (fun c3 => ?_) (fun c3 => ?_)
    · exact x_vret hK rfl ⟨rfl, hG4, hF4, RC_ext fun j hj => by rw [Nat.zero_add]; exact cp j (by omega)⟩
    · refine x_aload_n 9 hK rfl rfl l0 ?_
      refine x_getR 12 hK rfl rfl (sp_171 (h := h4) hG4) (rf_171_15 (h := h4) hG4) ?_
      refine x_iload_n 13 hK rfl rfl l1 ?_
      refine x_aload_n 14 hK rfl rfl l0 ?_
      refine x_getR 17 hK rfl rfl (sp_171 (h := h4) hG4) (rf_171_14 (h := h4) hG4) ?_
      refine x_iload_n 18 hK rfl rfl l1 ?_
      have g96 := gi_r h4 178 k.toNat
      refine x_ialoadE 19 hK rfl rfl (sp_178 (h := h4) hG4) (by omega) (by omega) (by omega) (e' := (gi h4 178 k.toNat)) (rfl) ?_
      refine x_iastore 20 hK rfl rfl (sp_179 (h := h4) hG4) (by omega) (by omega) (by omega) ?_
      refine x_iinc 23 hK rfl rfl l1 _ rfl ?_
      refine x_goto 2 hK rfl rfl ?_
      exact ih _ (by omega) (k + 1) _ _ rfl (by omega) ((fun j hj => if c : j = k.toNat then (by subst c; exact (gi_same (gi_r _ _ _)).trans ks) else (gi_k (by omega) _).trans (cp j (by omega)))) (lk1_n l0 (by decide) (Or.inl rfl)) lk1_s ((cp_then hG4 k.toNat (by omega))) (FRM_wn 0 56 (hF4) (r := 62) rfl rfl rfl (by omega) (by omega))
  refine x_iconst 1 hK rfl rfl ?_
  refine x_istore_n 2 hK rfl rfl [(1, .int (I 0)), (0, .ref 171)] rfl ?_
  exact loop _ 0 _ _ rfl (by omega) ((fun j hj => absurd hj (by omega))) rfl rfl (hG) ((FRM.rf : FRM gRL [(0, 62, 0, 56)] h h))
set_option maxRecDepth 4000 in
theorem ctX11_addsF {SP : CT} (hSP : MONO SP) {sh : List (Nat × Nat)} {h : aH} (hG : GD gE gRL sh h) {n : Int} (hu : 0 ≤ gi h 171 29 ∧ gi h 171 29 ≤ 15) : CLd SP 2 mX11_adds [.ref 171, .int (I n)] h 0 0 (fun rv h' => rv = some (.int (I n)) ∧ GD gE gRL sh h' ∧ FRM gRL [(0, 54, 29, 29), (0, 69, 0, 911)] h h' ∧ gi h' 171 29 = min 15 (gi h 171 29 + 1) ∧ (gi h 171 29 < 15 → ∀ v, RC h' 186 (57 * v) = RC h 186 (57 * v)) ∧ (gi h 171 29 = 15 → (∀ v, v < 15 → RC h' 186 (57 * v) = RC h 186 (57 * (v + 1))) ∧ RC h' 186 (57 * 15) = RC h 186 (57 * 15))) := by
  refine x_met _ rfl (Nat.le_of_ble_eq_true rfl) (fun K hK => ?_)
  have hmono := MONO_CLd hSP 1
  have loop : ∀ (mz : Nat) (k : Int) (h4 : aH) (ls : List (Nat × Value)), ((855 - k).toNat = mz) → (0 ≤ k ∧ k ≤ 855) → (gi h 171 29 = 15) → (gi h4 171 29 = 16) → (∀ j : Nat, j < k → gi h4 186 j = gi h 186 (j + 57)) → (∀ j : Nat, k ≤ j → gi h4 186 j = gi h 186 j) → lk ls 0 = some (.ref 171) → lk ls 1 = some (.int (I n)) → lk ls 2 = some (.int (I k)) → GD gE gRL sh h4 → FRM gRL [(0, 54, 29, 29), (0, 69, 0, 911)] h h4 → K 21 ls [] h4 0 0 := by
    intro mz
    induction mz using Nat.strongRecOn with
    | ind mz ih =>
    intro k h4 ls hm k0 u15 u4 cp ot l0 l1 l2 hG4 hF4
    refine x_iload_n 22 hK rfl rfl l2 ?_
    refine x_sipush 25 hK rfl rfl rfl ?_
    refine x_if_icmp_ge 49 28 hK rfl rfl rfl (by omega) (by omega) (fun c3 => ?_) (fun c3 => ?_)
    · refine x_aload_n 50 hK rfl rfl l0 ?_
      refine x_dup 51 hK rfl rfl rfl ?_
      refine x_getE 54 hK rfl (Or.inl rfl) rfl (sp_171 (h := h4) hG4) (e := 16) (u4) ?_
      refine x_iconst 55 hK rfl rfl ?_
      refine x_isub 56 hK rfl rfl ?_
      refine x_putI 59 hK rfl rfl (sp_171 (h := h4) hG4) ?_
      refine x_iload_n 60 hK rfl rfl l1 ?_
      exact x_iret hK rfl ⟨rfl, GD_w1 (hG4) (r := 54) rfl (by omega) rfl (by omega) (by omega), FRM_w (hF4) (r := 54) rfl rfl, by rw [gi_same (by omega)]; omega, fun z => by omega, fun _ => ⟨fun v hv => (RC_w (by decide)).trans (RC_ext fun j hj => by rw [cp _ (by omega), show 57 * v + j + 57 = 57 * (v + 1) + j by omega]), (RC_w (by decide)).trans (RC_ext fun j hj => ot _ (by omega))⟩⟩
    · refine x_aload_n 29 hK rfl rfl l0 ?_
      refine x_getR 32 hK rfl rfl (sp_171 (h := h4) hG4) (rf_171_30 (h := h4) hG4) ?_
      refine x_iload_n 33 hK rfl rfl l2 ?_
      refine x_aload_n 34 hK rfl rfl l0 ?_
      refine x_getR 37 hK rfl rfl (sp_171 (h := h4) hG4) (rf_171_30 (h := h4) hG4) ?_
      refine x_iload_n 38 hK rfl rfl l2 ?_
      refine x_bipush 40 hK rfl rfl rfl ?_
      refine x_iadd 41 hK rfl rfl ?_
      refine x_ialoadE 42 hK rfl rfl (sp_186 (h := h4) hG4) (by omega) (by omega) (by omega) (e' := (gi h4 186 (k.toNat + 57))) ((gi_to (by omega))) ?_
      refine x_iastore 43 hK rfl rfl (sp_186 (h := h4) hG4) (by omega) (by omega) (by omega) ?_
      refine x_iinc 46 hK rfl rfl l2 _ rfl ?_
      refine x_goto 21 hK rfl rfl ?_
      exact ih _ (by omega) (k + 1) _ _ rfl (by omega) (u15) ((gi_a (by decide) _).trans u4) ((fun j hj => if c : j = k.toNat then (by subst c; exact (gi_same (gi_r _ _ _)).trans (ot _ (by omega))) else (gi_k (by omega) _).trans (cp j (by omega)))) ((fun j hj => (gi_k (by omega) _).trans (ot j (by omega)))) (lk1_n l0 (by decide) (Or.inl rfl)) (lk1_n l1 (by decide) (Or.inl rfl)) lk1_s ((cp_sh hG4 k.toNat (by omega))) (FRM_wn 0 911 (hF4) (r := 69) rfl rfl rfl (by omega) (by omega))
  refine x_aload_n 1 hK rfl rfl rfl ?_
  refine x_dup 2 hK rfl rfl rfl ?_
  have g97 := gri (0) (16) hG (a := 171) (r := 54) (k := 29) rfl rfl
  refine x_getE 5 hK rfl (Or.inl rfl) rfl (sp_171 (h := h) hG) (e := (gi h 171 29)) (rfl) ?_
  refine x_iconst 6 hK rfl rfl ?_
  refine x_iadd 7 hK rfl rfl ?_
  refine x_putI 10 hK rfl rfl (sp_171 (h := h) hG) ?_
  refine x_aload_n 11 hK rfl rfl rfl ?_
  refine x_getE 14 hK rfl (Or.inl rfl) rfl (sp_171 (h := h) hG) (e := ((gi h 171 29) + 1)) (gi_same (by omega)) ?_
  refine x_bipush 16 hK rfl rfl rfl ?_
  refine x_if_icmp_le 59 19 hK rfl rfl rfl (by omega) (by omega) (fun c10 => ?_) (fun c10 => ?_)
  · refine x_iload_n 60 hK rfl rfl rfl ?_
    exact x_iret hK rfl ⟨rfl, GD_w1 (hG) (r := 54) rfl (by omega) rfl (by omega) (by omega), FRM_w ((FRM.rf : FRM gRL [(0, 54, 29, 29), (0, 69, 0, 911)] h h)) (r := 54) rfl rfl, by rw [gi_same (by omega)]; omega, fun z v => RC_w (by decide), fun z => by omega⟩
  · refine x_iconst 20 hK rfl rfl ?_
    refine x_istore_n 21 hK rfl rfl [(2, .int (I 0)), (0, .ref 171), (1, .int (I n))] rfl ?_
    exact loop _ 0 _ _ rfl (by omega) (by omega) ((gi_same (by omega)).trans (by omega)) ((fun j hj => absurd hj (by omega))) ((fun _ _ => gi_a (by decide) _)) rfl rfl rfl (GD_w1 (hG) (r := 54) rfl (by omega) rfl (by omega) (by omega)) (FRM_w ((FRM.rf : FRM gRL [(0, 54, 29, 29), (0, 69, 0, 911)] h h)) (r := 54) rfl rfl)
set_option maxRecDepth 4000 in
theorem ctX11_undoF {SP : CT} (hSP : MONO SP) {sh : List (Nat × Nat)} {h : aH} (hG : GD gE gRL sh h) (hu : 0 ≤ gi h 171 29 ∧ gi h 171 29 ≤ 15) : CLd SP 2 mX11_undo [.ref 171] h 0 0 (fun rv h' => ((gi h 171 29 = 0 ∧ rv = some (.int (I (-1))) ∧ RC h' 178 0 = RC h 178 0 ∧ gi h' 171 29 = 0) ∨ (0 < gi h 171 29 ∧ rv = some (.int (I (gi h 171 29 - 1))) ∧ RC h' 178 0 = RC h 186 (57 * (gi h 171 29 - 1).toNat) ∧ gi h' 171 29 = gi h 171 29 - 1)) ∧ GD gE gRL sh h' ∧ FRM gRL [(0, 54, 0, 0), (0, 54, 29, 29), (0, 61, 0, 56)] h h' ∧ gi h' 171 0 = 0) := by
  refine x_met _ rfl (Nat.le_of_ble_eq_true rfl) (fun K hK => ?_)
  have hmono := MONO_CLd hSP 1
  have g29 := gi_r h 171 29
  have loop : ∀ (mz : Nat) (k : Int) (h4 : aH) (ls : List (Nat × Value)), ((57 - k).toNat = mz) → (0 ≤ k ∧ k ≤ 57) → (0 < gi h 171 29) → (gi h4 171 29 = gi h 171 29 - 1) → (gi h4 171 0 = 0) → (∀ j : Nat, j < k → gi h4 178 j = gi h 186 (57 * (gi h 171 29 - 1).toNat + j)) → lk ls 0 = some (.ref 171) → lk ls 1 = some (.int (I k)) → GD gE gRL sh h4 → FRM gRL [(0, 54, 0, 0), (0, 54, 29, 29), (0, 61, 0, 56)] h h4 → K 26 ls [] h4 0 0 := by
    intro mz
    induction mz using Nat.strongRecOn with
    | ind mz ih =>
    intro k h4 ls hm k0 u0 u4 t4 cp l0 l1 hG4 hF4
    obtain ⟨u, hu1, hu2⟩ : ∃ u : Nat, gi h 171 29 - 1 = u ∧ u < 16 := ⟨(gi h 171 29 - 1).toNat, by omega, by omega⟩
    rw [hu1, show ((u : Int)).toNat = u from rfl] at cp
    have ks : gi h4 186 (57 * u + k.toNat) = gi h 186 (57 * u + k.toNat) := FRM_gi hF4 (r := 69) rfl rfl
    refine x_iload_n 27 hK rfl rfl l1 ?_
    refine x_bipush 29 hK rfl rfl rfl ?_
    refine x_if_icmp_ge 58 32 hK rfl rfl rfl (by omega) (by omega) (fun c3 => ?_) (fun c3 => ?_)
    · refine x_aload_n 59 hK rfl rfl l0 ?_
      refine x_getE 62 hK rfl (Or.inl rfl) rfl (sp_171 (h := h4) hG4) (e := (u : Int)) (u4.trans hu1) ?_
      exact x_iret hK rfl ⟨Or.inr ⟨u0, by rw [hu1], by rw [hu1, show ((u : Int)).toNat = u from rfl]; exact RC_ext fun j hj => by rw [Nat.zero_add]; exact cp j (by omega), u4⟩, hG4, hF4, t4⟩
    · refine x_aload_n 33 hK rfl rfl l0 ?_
      refine x_getR 36 hK rfl rfl (sp_171 (h := h4) hG4) (rf_171_14 (h := h4) hG4) ?_
      refine x_iload_n 37 hK rfl rfl l1 ?_
      refine x_aload_n 38 hK rfl rfl l0 ?_
      refine x_getR 41 hK rfl rfl (sp_171 (h := h4) hG4) (rf_171_30 (h := h4) hG4) ?_
      refine x_bipush 43 hK rfl rfl rfl ?_
      refine x_aload_n 44 hK rfl rfl l0 ?_
      refine x_getE 47 hK rfl (Or.inl rfl) rfl (sp_171 (h := h4) hG4) (e := (u : Int)) (u4.trans hu1) ?_
      refine x_imul 48 hK rfl rfl ?_
      refine x_iload_n 49 hK rfl rfl l1 ?_
      refine x_iadd 50 hK rfl rfl ?_
      refine x_ialoadE 51 hK rfl rfl (sp_186 (h := h4) hG4) (by omega) (by omega) (by omega) (e' := (gi h4 186 (57 * u + k.toNat))) ((gi_to (by omega))) ?_
      refine x_iastore 52 hK rfl rfl (sp_178 (h := h4) hG4) (by omega) (by omega) (by omega) ?_
      refine x_iinc 55 hK rfl rfl l1 _ rfl ?_
      refine x_goto 26 hK rfl rfl ?_
      exact ih _ (by omega) (k + 1) _ _ rfl (by omega) (by omega) ((gi_a (by decide) _).trans u4) ((gi_a (by decide) _).trans t4) ((fun j hj => by rw [hu1, show ((u : Int)).toNat = u from rfl]; exact if c : j = k.toNat then (by subst c; exact (gi_same (gi_r _ _ _)).trans ks) else (gi_k (by omega) _).trans (cp j (by omega)))) (lk1_n l0 (by decide) (Or.inl rfl)) lk1_s ((cp_out ri69 (r := 69) rfl hG4 u k.toNat hu2 (by omega))) (FRM_wn 0 56 (hF4) (r := 61) rfl rfl rfl (by omega) (by omega))
  refine x_aload_n 1 hK rfl rfl rfl ?_
  refine x_iconst 2 hK rfl rfl ?_
  refine x_putI 5 hK rfl rfl (sp_171 (h := h) hG) ?_
  refine x_aload_n 6 hK rfl rfl rfl ?_
  have g98 := gri (0) (16) hG (a := 171) (r := 54) (k := 29) rfl rfl
  refine x_getE 9 hK rfl (Or.inl rfl) rfl (sp_171 (h := h) hG) (e := (gi h 171 29)) (gi_k (by decide) _) ?_
  refine x_if_ne 14 12 hK rfl rfl rfl (by omega) (fun c6 => ?_) (fun c6 => ?_)
  · refine x_aload_n 15 hK rfl rfl rfl ?_
    refine x_dup 16 hK rfl rfl rfl ?_
    refine x_getE 19 hK rfl (Or.inl rfl) rfl (sp_171 (h := h) hG) (e := (gi h 171 29)) (gi_k (by decide) _) ?_
    refine x_iconst 20 hK rfl rfl ?_
    refine x_isub 21 hK rfl rfl ?_
    refine x_putI 24 hK rfl rfl (sp_171 (h := h) hG) ?_
    refine x_iconst 25 hK rfl rfl ?_
    refine x_istore_n 26 hK rfl rfl [(1, .int (I 0)), (0, .ref 171)] rfl ?_
    exact loop _ 0 _ _ rfl (by omega) (by omega) (gi_same (by omega)) ((gi_k (by decide) _).trans (gi_same (by omega))) ((fun j hj => absurd hj (by omega))) rfl rfl (GD_w1 (GD_w1 (hG) (r := 54) rfl (by omega) rfl (by omega) (by omega)) (r := 54) rfl (by omega) rfl (by omega) (by omega)) (FRM_w (FRM_w ((FRM.rf : FRM gRL [(0, 54, 0, 0), (0, 54, 29, 29), (0, 61, 0, 56)] h h)) (r := 54) rfl rfl) (r := 54) rfl rfl)
  · refine x_iconst 13 hK rfl rfl ?_
    exact x_iret hK rfl ⟨Or.inl ⟨by omega, rfl, RC_w (by decide), (gi_k (by decide) _).trans (by omega)⟩, GD_w1 (hG) (r := 54) rfl (by omega) rfl (by omega) (by omega), FRM_w ((FRM.rf : FRM gRL [(0, 54, 0, 0), (0, 54, 29, 29), (0, 61, 0, 56)] h h)) (r := 54) rfl rfl, gi_same (by omega)⟩
set_option maxRecDepth 4000 in
theorem ctX11_keepF {SP : CT} (hSP : MONO SP) {sh : List (Nat × Nat)} {h : aH} (hG : GD gE gRL sh h) {n : Int} (hn : r32 n) : CLd SP 4 mX11_keep [.ref 171, .int (I n)] h 0 0 (fun rv h' => (((0 ≤ n ∧ n ≤ 2) ∧ rv = some (.int (I 1)) ∧ RC h' 200 (57 * n.toNat) = RC h 178 0 ∧ gi h' 198 n.toNat = 1 ∧ gi h' 199 n.toNat = gi h 171 8 ∧ ∀ v, v ≠ n.toNat → RC h' 200 (57 * v) = RC h 200 (57 * v) ∧ gi h' 198 v = gi h 198 v ∧ gi h' 199 v = gi h 199 v) ∨ (¬ (0 ≤ n ∧ n ≤ 2) ∧ rv = some (.int (I 0)) ∧ ∀ v, RC h' 200 (57 * v) = RC h 200 (57 * v) ∧ gi h' 198 v = gi h 198 v ∧ gi h' 199 v = gi h 199 v)) ∧ GD gE gRL sh h' ∧ FRM gRL [(0, 54, 0, 0), (0, 81, 0, 2), (0, 82, 0, 2), (0, 83, 0, 170)] h h' ∧ gi h' 171 0 = 0) := by
  refine x_met _ rfl (Nat.le_of_ble_eq_true rfl) (fun K hK => ?_)
  have hmono := MONO_CLd hSP 3
  have loop : ∀ (mz : Nat) (k : Int) (h4 : aH) (ls : List (Nat × Value)), ((57 - k).toNat = mz) → (0 ≤ k ∧ k ≤ 57) → (0 ≤ n ∧ n ≤ 2) → (gi h4 171 0 = 0) → (gi h4 198 n.toNat = 1) → (gi h4 199 n.toNat = gi h 171 8) → (∀ v, v ≠ n.toNat → gi h4 198 v = gi h 198 v ∧ gi h4 199 v = gi h 199 v) → (∀ j : Nat, j < k → gi h4 200 (57 * n.toNat + j) = gi h 178 j) → (∀ j : Nat, j < 57 * n.toNat ∨ 57 * n.toNat + k ≤ j → gi h4 200 j = gi h 200 j) → lk ls 0 = some (.ref 171) → lk ls 1 = some (.int (I n)) → lk ls 2 = some (.int (I k)) → GD gE gRL sh h4 → FRM gRL [(0, 54, 0, 0), (0, 81, 0, 2), (0, 82, 0, 2), (0, 83, 0, 170)] h h4 → K 38 ls [] h4 0 0 := by
    intro mz
    induction mz using Nat.strongRecOn with
    | ind mz ih =>
    intro k h4 ls hm k0 n0 t4 a4 b4 f4 cp ot l0 l1 l2 hG4 hF4
    have ks : gi h4 178 k.toNat = gi h 178 k.toNat := FRM_gi hF4 (r := 61) rfl rfl
    refine x_iload_n 39 hK rfl rfl l2 ?_
    refine x_bipush 41 hK rfl rfl rfl ?_
    refine x_if_icmp_ge 67 44 hK rfl rfl rfl (by omega) (by omega) (fun c3 => ?_) (fun c3 => ?_)
    · refine x_iconst 68 hK rfl rfl ?_
      exact x_zret hK rfl (by omega) ⟨Or.inl ⟨n0, rfl, RC_ext fun j hj => by rw [Nat.zero_add]; exact cp j (by omega), a4, b4, fun v hv => ⟨RC_ext fun j hj => ot _ (by omega), f4 v hv⟩⟩, hG4, hF4, t4⟩
    · refine x_aload_n 45 hK rfl rfl l0 ?_
      refine x_getR 48 hK rfl rfl (sp_171 (h := h4) hG4) (rf_171_52 (h := h4) hG4) ?_
      refine x_bipush 50 hK rfl rfl rfl ?_
      refine x_iload_n 51 hK rfl rfl l1 ?_
      refine x_imul 52 hK rfl rfl ?_
      refine x_iload_n 53 hK rfl rfl l2 ?_
      refine x_iadd 54 hK rfl rfl ?_
      refine x_aload_n 55 hK rfl rfl l0 ?_
      refine x_getR 58 hK rfl rfl (sp_171 (h := h4) hG4) (rf_171_14 (h := h4) hG4) ?_
      refine x_iload_n 59 hK rfl rfl l2 ?_
      have g99 := gi_r h4 178 k.toNat
      refine x_ialoadE 60 hK rfl rfl (sp_178 (h := h4) hG4) (by omega) (by omega) (by omega) (e' := (gi h4 178 k.toNat)) (rfl) ?_
      refine x_iastore 61 hK rfl rfl (sp_200 (h := h4) hG4) (by omega) (by omega) (by omega) ?_
      refine x_iinc 64 hK rfl rfl l2 _ rfl ?_
      refine x_goto 38 hK rfl rfl ?_
      have e1 : ((57 * n) + k).toNat = 57 * n.toNat + k.toNat := by omega
      rw [e1]
      exact ih _ (by omega) (k + 1) _ _ rfl (by omega) (by omega) ((gi_a (by decide) _).trans t4) ((gi_a (by decide) _).trans a4) ((gi_a (by decide) _).trans b4) ((fun v hv => ⟨(gi_a (by decide) _).trans (f4 v hv).1, (gi_a (by decide) _).trans (f4 v hv).2⟩)) ((fun j hj => if c : j = k.toNat then (by subst c; exact (gi_same (gi_r _ _ _)).trans ks) else (gi_k (by omega) _).trans (cp j (by omega)))) ((fun j hj => (gi_k (by omega) _).trans (ot j (by omega)))) (lk1_n l0 (by decide) (Or.inl rfl)) (lk1_n l1 (by decide) (Or.inl rfl)) lk1_s ((cp_in ro83 (r := 83) rfl hG4 n.toNat k.toNat (by omega) (by omega))) (FRM_wn 0 170 (hF4) (r := 83) rfl rfl rfl (by omega) (by omega))
  refine x_aload_n 1 hK rfl rfl rfl ?_
  refine x_iconst 2 hK rfl rfl ?_
  refine x_putI 5 hK rfl rfl (sp_171 (h := h) hG) ?_
  refine x_iload_n 6 hK rfl rfl rfl ?_
  refine x_i2l 7 hK rfl rfl (by omega) ?_
  refine x_lconstE 8 0 hK rfl rfl rfl ?_
  refine x_ldc2_w 11 hK rfl rfl ?_
  have hGp100 : GD gE gRL sh (wI h 171 0 0) := GD_w1 (hG) (r := 54) rfl (by omega) rfl (by omega) (by omega)
  refine x_callS 14 hK hmono rfl (Or.inl rfl) rfl [.long (J n), .long (J 0), .long (J 2)] [] rfl rfl (Nat.le_of_ble_eq_true rfl) (Nat.le_of_ble_eq_true rfl) (CLd_le (Nat.le_of_ble_eq_true rfl) (ctX11_in (by omega) (by omega) (by omega))) ?_
  rintro v9 h9 ⟨e9, ⟨rfl, i1101, i2101⟩ | ⟨rfl, i1101⟩⟩ <;> rw [e9] <;> clear e9
  · refine x_if_ne 19 17 hK rfl rfl rfl (by omega) (fun _ => ?_) (fun c => by omega)
    refine x_aload_n 20 hK rfl rfl rfl ?_
    refine x_getR 23 hK rfl rfl (sp_171 (h := h) hG) (rf_171_50 (h := h) hG) ?_
    refine x_iload_n 24 hK rfl rfl rfl ?_
    refine x_iconst 25 hK rfl rfl ?_
    refine x_bastore 26 hK rfl rfl (sp_198 (h := h) hG) (by omega) (by omega) (by omega) (by omega) ?_
    refine x_aload_n 27 hK rfl rfl rfl ?_
    refine x_getR 30 hK rfl rfl (sp_171 (h := h) hG) (rf_171_51 (h := h) hG) ?_
    refine x_iload_n 31 hK rfl rfl rfl ?_
    refine x_aload_n 32 hK rfl rfl rfl ?_
    have g102 := gi_r h 171 8
    refine x_getE 35 hK rfl (Or.inl rfl) rfl (sp_171 (h := h) hG) (e := (gi h 171 8)) ((gi_a (by decide) _).trans (gi_k (by decide) _)) ?_
    refine x_iastore 36 hK rfl rfl (sp_199 (h := h) hG) (by omega) (by omega) (by omega) ?_
    refine x_iconst 37 hK rfl rfl ?_
    refine x_istore_n 38 hK rfl rfl [(2, .int (I 0)), (0, .ref 171), (1, .int (I n))] rfl ?_
    exact loop _ 0 _ _ rfl (by omega) (by omega) ((gi_a (by decide) _).trans ((gi_a (by decide) _).trans (gi_same (by omega)))) ((gi_a (by decide) _).trans (gi_same (by omega))) (gi_same (by omega)) ((fun v hv => ⟨(gi_a (by decide) _).trans ((gi_k hv _).trans (gi_a (by decide) _)), (gi_k hv _).trans ((gi_a (by decide) _).trans (gi_a (by decide) _))⟩)) ((fun j hj => absurd hj (by omega))) ((fun j _ => (gi_a (by decide) _).trans ((gi_a (by decide) _).trans (gi_a (by decide) _)))) rfl rfl rfl (GD_wn (GD_wu (GD_w1 (hG) (r := 54) rfl (by omega) rfl (by omega) (by omega)) (r := 81) rfl (by omega) rfl (by omega) (by omega)) (r := 82) rfl rfl) (FRM_wn 0 2 (FRM_wn 0 2 (FRM_w ((FRM.rf : FRM gRL [(0, 54, 0, 0), (0, 81, 0, 2), (0, 82, 0, 2), (0, 83, 0, 170)] h h)) (r := 54) rfl rfl) (r := 81) rfl rfl rfl (by omega) (by omega)) (r := 82) rfl rfl rfl (by omega) (by omega))
  · refine x_if_ne 19 17 hK rfl rfl rfl (by omega) (fun c => by omega) (fun _ => ?_)
    refine x_iconst 18 hK rfl rfl ?_
    exact x_zret hK rfl (by omega) ⟨Or.inr ⟨by omega, rfl, fun v => ⟨RC_w (by decide), gi_a (by decide) _, gi_a (by decide) _⟩⟩, GD_w1 (hG) (r := 54) rfl (by omega) rfl (by omega) (by omega), FRM_w ((FRM.rf : FRM gRL [(0, 54, 0, 0), (0, 81, 0, 2), (0, 82, 0, 2), (0, 83, 0, 170)] h h)) (r := 54) rfl rfl, gi_same (by omega)⟩
set_option maxRecDepth 4000 in
theorem ctX11_againF {SP : CT} (hSP : MONO SP) {sh : List (Nat × Nat)} {h : aH} (hG : GD gE gRL sh h) {n : Int} (hn : r32 n) : CLd SP 4 mX11_again [.ref 171, .int (I n)] h 0 0 (fun rv h' => ((((0 ≤ n ∧ n ≤ 2) ∧ gi h 198 n.toNat = 1 ∧ gi h 199 n.toNat = gi h 171 8) ∧ rv = some (.int (I 1)) ∧ RC h' 178 0 = RC h 200 (57 * n.toNat) ∧ gi h' 171 29 = 0) ∨ (¬ ((0 ≤ n ∧ n ≤ 2) ∧ gi h 198 n.toNat = 1 ∧ gi h 199 n.toNat = gi h 171 8) ∧ rv = some (.int (I 0)) ∧ RC h' 178 0 = RC h 178 0 ∧ gi h' 171 29 = gi h 171 29)) ∧ GD gE gRL sh h' ∧ FRM gRL [(0, 54, 0, 0), (0, 54, 29, 29), (0, 61, 0, 56)] h h' ∧ gi h' 171 0 = 0) := by
  refine x_met _ rfl (Nat.le_of_ble_eq_true rfl) (fun K hK => ?_)
  have hmono := MONO_CLd hSP 3
  have loop : ∀ (mz : Nat) (k : Int) (h4 : aH) (ls : List (Nat × Value)), ((57 - k).toNat = mz) → (0 ≤ k ∧ k ≤ 57) → ((0 ≤ n ∧ n ≤ 2) ∧ gi h 198 n.toNat = 1 ∧ gi h 199 n.toNat = gi h 171 8) → (gi h4 171 0 = 0) → (∀ j : Nat, j < k → gi h4 178 j = gi h 200 (57 * n.toNat + j)) → lk ls 0 = some (.ref 171) → lk ls 1 = some (.int (I n)) → lk ls 2 = some (.int (I k)) → GD gE gRL sh h4 → FRM gRL [(0, 54, 0, 0), (0, 54, 29, 29), (0, 61, 0, 56)] h h4 → K 43 ls [] h4 0 0 := by
    intro mz
    induction mz using Nat.strongRecOn with
    | ind mz ih =>
    intro k h4 ls hm k0 ok t4 cp l0 l1 l2 hG4 hF4
    have n0 := ok.1
    have ks : gi h4 200 (57 * n.toNat + k.toNat) = gi h 200 (57 * n.toNat + k.toNat) := FRM_gi hF4 (r := 83) rfl rfl
    refine x_iload_n 44 hK rfl rfl l2 ?_
    refine x_bipush 46 hK rfl rfl rfl ?_
    refine x_if_icmp_ge 72 49 hK rfl rfl rfl (by omega) (by omega) (fun c3 => ?_) (fun c3 => ?_)
    · refine x_aload_n 73 hK rfl rfl l0 ?_
      refine x_iconst 74 hK rfl rfl ?_
      refine x_putI 77 hK rfl rfl (sp_171 (h := h4) hG4) ?_
      refine x_iconst 78 hK rfl rfl ?_
      exact x_zret hK rfl (by omega) ⟨Or.inl ⟨ok, rfl, (RC_w (by decide)).trans (RC_ext fun j hj => by rw [Nat.zero_add]; exact cp j (by omega)), gi_same (by omega)⟩, GD_w1 (hG4) (r := 54) rfl (by omega) rfl (by omega) (by omega), FRM_w (hF4) (r := 54) rfl rfl, (gi_k (by decide) _).trans t4⟩
    · refine x_aload_n 50 hK rfl rfl l0 ?_
      refine x_getR 53 hK rfl rfl (sp_171 (h := h4) hG4) (rf_171_14 (h := h4) hG4) ?_
      refine x_iload_n 54 hK rfl rfl l2 ?_
      refine x_aload_n 55 hK rfl rfl l0 ?_
      refine x_getR 58 hK rfl rfl (sp_171 (h := h4) hG4) (rf_171_52 (h := h4) hG4) ?_
      refine x_bipush 60 hK rfl rfl rfl ?_
      refine x_iload_n 61 hK rfl rfl l1 ?_
      refine x_imul 62 hK rfl rfl ?_
      refine x_iload_n 63 hK rfl rfl l2 ?_
      refine x_iadd 64 hK rfl rfl ?_
      refine x_ialoadE 65 hK rfl rfl (sp_200 (h := h4) hG4) (by omega) (by omega) (by omega) (e' := (gi h4 200 (57 * n.toNat + k.toNat))) ((gi_to (by omega))) ?_
      refine x_iastore 66 hK rfl rfl (sp_178 (h := h4) hG4) (by omega) (by omega) (by omega) ?_
      refine x_iinc 69 hK rfl rfl l2 _ rfl ?_
      refine x_goto 43 hK rfl rfl ?_
      exact ih _ (by omega) (k + 1) _ _ rfl (by omega) (ok) ((gi_a (by decide) _).trans t4) ((fun j hj => if c : j = k.toNat then (by subst c; exact (gi_same (gi_r _ _ _)).trans ks) else (gi_k (by omega) _).trans (cp j (by omega)))) (lk1_n l0 (by decide) (Or.inl rfl)) (lk1_n l1 (by decide) (Or.inl rfl)) lk1_s ((cp_out ri83 (r := 83) rfl hG4 n.toNat k.toNat (by omega) (by omega))) (FRM_wn 0 56 (hF4) (r := 61) rfl rfl rfl (by omega) (by omega))
  refine x_aload_n 1 hK rfl rfl rfl ?_
  refine x_iconst 2 hK rfl rfl ?_
  refine x_putI 5 hK rfl rfl (sp_171 (h := h) hG) ?_
  refine x_iload_n 6 hK rfl rfl rfl ?_
  refine x_i2l 7 hK rfl rfl (by omega) ?_
  refine x_lconstE 8 0 hK rfl rfl rfl ?_
  refine x_ldc2_w 11 hK rfl rfl ?_
  have hGp103 : GD gE gRL sh (wI h 171 0 0) := GD_w1 (hG) (r := 54) rfl (by omega) rfl (by omega) (by omega)
  refine x_callS 14 hK hmono rfl (Or.inl rfl) rfl [.long (J n), .long (J 0), .long (J 2)] [] rfl rfl (Nat.le_of_ble_eq_true rfl) (Nat.le_of_ble_eq_true rfl) (CLd_le (Nat.le_of_ble_eq_true rfl) (ctX11_in (by omega) (by omega) (by omega))) ?_
  rintro v9 h9 ⟨e9, ⟨rfl, i1104, i2104⟩ | ⟨rfl, i1104⟩⟩ <;> rw [e9] <;> clear e9
  · refine x_if_eq 39 17 hK rfl rfl rfl (by omega) (fun c => by omega) (fun _ => ?_)
    refine x_aload_n 18 hK rfl rfl rfl ?_
    refine x_getR 21 hK rfl rfl (sp_171 (h := h) hG) (rf_171_50 (h := h) hG) ?_
    refine x_iload_n 22 hK rfl rfl rfl ?_
    have g105 := grn (0) (1) hG (a := 198) (r := 81) (k := n.toNat) rfl rfl (by omega)
    refine x_baloadE 23 hK rfl rfl (sp_198 (h := h) hG) (by omega) (by omega) (by omega) (e' := (gi h 198 n.toNat)) (gi_a (by decide) _) ?_
    refine x_if_eq 39 26 hK rfl rfl rfl (by omega) (fun c14 => ?_) (fun c14 => ?_)
    · refine x_iconst 40 hK rfl rfl ?_
      exact x_zret hK rfl (by omega) ⟨Or.inr ⟨by omega, rfl, RC_w (by decide), gi_k (by decide) _⟩, GD_w1 (hG) (r := 54) rfl (by omega) rfl (by omega) (by omega), FRM_w ((FRM.rf : FRM gRL [(0, 54, 0, 0), (0, 54, 29, 29), (0, 61, 0, 56)] h h)) (r := 54) rfl rfl, gi_same (by omega)⟩
    · refine x_aload_n 27 hK rfl rfl rfl ?_
      refine x_getR 30 hK rfl rfl (sp_171 (h := h) hG) (rf_171_51 (h := h) hG) ?_
      refine x_iload_n 31 hK rfl rfl rfl ?_
      have g106 := gi_r h 199 n.toNat
      refine x_ialoadE 32 hK rfl rfl (sp_199 (h := h) hG) (by omega) (by omega) (by omega) (e' := (gi h 199 n.toNat)) (gi_a (by decide) _) ?_
      refine x_aload_n 33 hK rfl rfl rfl ?_
      have g107 := gi_r h 171 8
      refine x_getE 36 hK rfl (Or.inl rfl) rfl (sp_171 (h := h) hG) (e := (gi h 171 8)) (gi_k (by decide) _) ?_
      refine x_if_icmp_eq 41 39 hK rfl rfl rfl (by omega) (by omega) (fun c23 => ?_) (fun c23 => ?_)
      · refine x_iconst 42 hK rfl rfl ?_
        refine x_istore_n 43 hK rfl rfl [(2, .int (I 0)), (0, .ref 171), (1, .int (I n))] rfl ?_
        exact loop _ 0 _ _ rfl (by omega) (⟨by omega, by omega, by omega⟩) (gi_same (by omega)) ((fun j hj => absurd hj (by omega))) rfl rfl rfl (GD_w1 (hG) (r := 54) rfl (by omega) rfl (by omega) (by omega)) (FRM_w ((FRM.rf : FRM gRL [(0, 54, 0, 0), (0, 54, 29, 29), (0, 61, 0, 56)] h h)) (r := 54) rfl rfl)
      · refine x_iconst 40 hK rfl rfl ?_
        exact x_zret hK rfl (by omega) ⟨Or.inr ⟨by omega, rfl, RC_w (by decide), gi_k (by decide) _⟩, GD_w1 (hG) (r := 54) rfl (by omega) rfl (by omega) (by omega), FRM_w ((FRM.rf : FRM gRL [(0, 54, 0, 0), (0, 54, 29, 29), (0, 61, 0, 56)] h h)) (r := 54) rfl rfl, gi_same (by omega)⟩
  · refine x_if_eq 39 17 hK rfl rfl rfl (by omega) (fun _ => ?_) (fun c => by omega)
    refine x_iconst 40 hK rfl rfl ?_
    exact x_zret hK rfl (by omega) ⟨Or.inr ⟨by omega, rfl, RC_w (by decide), gi_k (by decide) _⟩, GD_w1 (hG) (r := 54) rfl (by omega) rfl (by omega) (by omega), FRM_w ((FRM.rf : FRM gRL [(0, 54, 0, 0), (0, 54, 29, 29), (0, 61, 0, 56)] h h)) (r := 54) rfl rfl, gi_same (by omega)⟩
end
section
/-! HOW LATE AN ORDER COMES (the reference), as a whole number -/
noncomputable def w32 (e : Int) : Int := (I e).toInt
theorem w32_r (e : Int) : r32 (w32 e) := r_I _
theorem w32_e {e : Int} (h : r32 e) : w32 e = e := I_t h
theorem gi_w {h : aH} {a k : Nat} {e : Int} : gi (wI h a k e) a k = w32 e := by
  show (aI (sI h a k (I e)) a k).toInt = _
  have : aI (sI h a k (I e)) a k = I e := by simp [aI, sI, up_s, upd]
  rw [this]; rfl
theorem I_w (e : Int) : I (w32 e) = I e := t_I _
noncomputable def swI (d lo : Int) (l : List Int) (a : Int) : Int := if a < lo then d else (l[(a - lo).toNat]?).getD d
theorem swI_d {d lo a : Int} {l : List Int} (h : a < lo ∨ lo + (l.length : Nat) ≤ a) : swI d lo l a = d := by
  unfold swI
  split
  · rfl
  · rw [List.getElem?_eq_none (by omega)]; rfl
section SZ
variable {CL : CT} {ac : AC} {ret : Option FieldType} {Q : QT} {K : KT}
variable {r1 r2 : Nat} {r3 : Int} {pc : Nat} {ls : List (Nat × Value)} {st : List Value} {h : aH} {bc bs : Nat}
theorem x_tsw {a d lo hi : Int} {ps : Array Int} (hK : CLO CL ac ret Q K) (hf : fr ac pc = some (.tableswitch d lo hi ps, r1, r2, r3)) (ha : r32 a) {l : List Int} (hl : ps.toList = l) (hk : K (tg pc (swI d lo l a)) ls st h bc bs) : K pc ls (.int (I a) :: st) h bc bs := by
  refine x_row hK hf ?_
  show K (tg pc (swo d lo ps.toList (I a))) ls st h bc bs
  unfold swo
  rw [I_t ha, hl]
  exact hk
end SZ
/-- two numbers by a sign of a rule -/
noncomputable def wkF (c x y : Int) : Int := if c = 0 then (if x < y then 1 else 0) else if c = 1 then (if y < x then 1 else 0) else if c = 2 then (if x = y then 1 else 0) else if c = 3 then w32 (x + y) else if c = 4 then w32 (x - y) else if c = 5 then w32 (x * y) else if y = 0 then 0 else w32 (x.tdiv y)
theorem wkF_r (c x y : Int) : r32 (wkF c x y) := by
  have := w32_r (x + y)
  have := w32_r (x - y)
  have := w32_r (x * y)
  have := w32_r (x.tdiv y)
  unfold wkF
  (repeat' split) <;> omega
noncomputable def ruStep (c : Int) (ak : Int → Int) (st : List Int) : List Int :=
  if c = 3000 then (match st with | x :: r => w32 (-x) :: r | [] => [])
  else if 2000 ≤ c then (match st with | y :: x :: r => wkF (c - 2000) x y :: r | r => r)
  else (if 1000 ≤ c then ak (c - 1000) else c) :: st
/-- what stands on the stack behind k places of the code, the last first -/
noncomputable def ruS (c : Nat → Int) (ak : Int → Int) : Nat → List Int
  | 0 => []
  | k + 1 => ruStep (c k) ak (ruS c ak k)
theorem ruS_l {c : Nat → Int} {ak : Int → Int} {n : Int} (hv : VCd c n) : ∀ k : Nat, (k : Int) ≤ n → ((ruS c ak k).length : Int) = hgt c k
  | 0, _ => rfl
  | k + 1, hk => by
    have ih := ruS_l (ak := ak) hv k (by omega)
    obtain ⟨v1, v2, v3, v4, v5, v6⟩ := VC_at hv (k := k) (by omega)
    show ((ruStep (c k) ak (ruS c ak k)).length : Int) = _
    unfold ruStep
    by_cases h1 : c k = 3000
    · rw [if_pos h1, (v3 h1).2, ← ih]
      cases hs : ruS c ak k with
      | nil => rfl
      | cons x r => rfl
    · rw [if_neg h1]
      by_cases h2 : 2000 ≤ c k
      · rw [if_pos h2, (v4 h1 h2).2, ← ih]
        have := (v4 h1 h2).1
        match hs : ruS c ak k with
        | [] => rw [hs] at ih; simp at ih; omega
        | [x] => rw [hs] at ih; simp at ih; omega
        | y :: x :: r => simp
      · rw [if_neg h2, v5 (by omega), ← ih]
        simp
/-- the stack as an array, from its lowest place -/
noncomputable def SK (h : aH) (st : List Int) : Prop := ∀ i, i < st.length → gi h 184 i = st.getD (st.length - 1 - i) 0
theorem SK_push {h : aH} {st : List Int} {v : Int} (s : SK h st) : SK (wI h 184 st.length v) (w32 v :: st) := by
  intro i hi
  simp only [List.length_cons] at hi ⊢
  by_cases c : i = st.length
  · subst c
    rw [gi_w, show st.length + 1 - 1 - st.length = 0 by omega]
    rfl
  · rw [gi_k (by omega), s i (by omega), show st.length + 1 - 1 - i = (st.length - 1 - i) + 1 by omega]
    rfl
theorem SK_top {h : aH} {x v : Int} {r : List Int} (s : SK h (x :: r)) : SK (wI h 184 r.length v) (w32 v :: r) := by
  intro i hi
  simp only [List.length_cons] at hi ⊢
  by_cases c : i = r.length
  · subst c
    rw [gi_w, show r.length + 1 - 1 - r.length = 0 by omega]
    rfl
  · have := s i (by simp; omega)
    simp only [List.length_cons] at this
    rw [gi_k (by omega), this]
    rw [show r.length + 1 - 1 - i = (r.length - 1 - i) + 1 by omega]
    rfl
theorem SK_tail {h : aH} {x : Int} {r : List Int} (s : SK h (x :: r)) : SK h r := by
  intro i hi
  have := s i (by simp; omega)
  simp only [List.length_cons] at this
  rw [this, show r.length + 1 - 1 - i = (r.length - 1 - i) + 1 by omega]
  rfl
theorem SK_hd {h : aH} {x : Int} {r : List Int} (s : SK h (x :: r)) : gi h 184 r.length = x := by
  have := s r.length (by simp)
  simp only [List.length_cons] at this
  rw [this, show r.length + 1 - 1 - r.length = 0 by omega]
  rfl
/-- how late: by a rule's code, LONG, and what is asked -/
noncomputable def dlF (c : Nat → Int) (n : Int) (ak : Int → Int) : Int := max 1 (min 12 (if n = 0 then ak 0 / 8 + 1 else (ruS c ak n.toNat).getD ((ruS c ak n.toNat).length - 1) 0))
theorem dlF_b (c : Nat → Int) (n : Int) (ak : Int → Int) : 1 ≤ dlF c n ak ∧ dlF c n ak ≤ 12 := by unfold dlF; omega
section SW
variable {CL : CT} {ac : AC} {ret : Option FieldType} {Q : QT} {K : KT}
variable {r1 r2 : Nat} {r3 : Int} {pc : Nat} {ls : List (Nat × Value)} {st : List Value} {h : aH} {bc bs : Nat}
theorem I_divA {a b : Int} (ha : r32 a) (hb : r32 b) : I a / I b = I (w32 (a.tdiv b)) := by
  rw [I_w]
  by_cases hm : b ≠ -1 ∨ a ≠ -2147483648
  · exact I_div ha hb hm
  · obtain ⟨rfl, rfl⟩ : b = -1 ∧ a = -2147483648 := by omega
    rfl
theorem x_idivA (p : Nat) {a b : Int} (hK : CLO CL ac ret Q K) (hf : fr ac pc = some (.idiv, r1, r2, r3)) (hp : pc + 1 = p) (ha : r32 a) (hb : r32 b) (h0 : b ≠ 0) (hk : K p ls (.int (I (w32 (a.tdiv b))) :: st) h bc bs) : K pc ls (.int (I b) :: .int (I a) :: st) h bc bs := by
  subst hp
  rw [← I_divA ha hb] at hk
  exact x_row hK hf ⟨I_ne0 hb h0, hk⟩
end SW
set_option maxRecDepth 4000 in
theorem ctX11_worked {SP : CT} (hSP : MONO SP) {h : aH} {c x y : Int} (rc : 0 ≤ c ∧ c ≤ 2147483647) (rx : r32 x) (ry : r32 y) : CLd SP 2 mX11_worked [.int (I c), .int (I x), .int (I y)] h 0 0 (fun rv h' => h' = h ∧ rv = some (.int (I (wkF c x y)))) := by
  refine x_met _ rfl (Nat.le_of_ble_eq_true rfl) (fun K hK => ?_)
  have hmono := MONO_CLd hSP 1
  refine x_iload_n 1 hK rfl rfl rfl ?_
  refine x_tsw hK rfl (by omega) (l := [39, 53, 67, 81, 85, 89]) rfl ?_
  by_cases e1_0 : c = 0
  · rw [show swI 93 0 [39, 53, 67, 81, 85, 89] c = 39 from by rw [e1_0]; rfl]
    show K 40 _ _ _ _ _
    refine x_iload_n 41 hK rfl rfl rfl ?_
    refine x_iload_n 42 hK rfl rfl rfl ?_
    refine x_if_icmp_ge 49 45 hK rfl rfl rfl (by omega) (by omega) (fun c6 => ?_) (fun c6 => ?_)
    · refine x_iconst 50 hK rfl rfl ?_
      refine x_callS 53 hK hmono rfl (Or.inl rfl) rfl [.int (I 0)] [] rfl rfl (Nat.le_of_ble_eq_true rfl) (Nat.le_of_ble_eq_true rfl) (CLd_le (Nat.le_of_ble_eq_true rfl) (ctX11_flag (by omega))) ?_
      rintro v9 h9 ⟨e9, rfl⟩
      rw [e9]
      clear e9
      have ew : wkF c x y = 0 := by
        unfold wkF
        rw [if_pos (by omega), if_neg (by omega)]
      exact x_iret hK rfl ⟨rfl, by rw [ew]⟩
    · refine x_iconst 46 hK rfl rfl ?_
      refine x_goto 50 hK rfl rfl ?_
      refine x_callS 53 hK hmono rfl (Or.inl rfl) rfl [.int (I 1)] [] rfl rfl (Nat.le_of_ble_eq_true rfl) (Nat.le_of_ble_eq_true rfl) (CLd_le (Nat.le_of_ble_eq_true rfl) (ctX11_flag (by omega))) ?_
      rintro v9 h9 ⟨e9, rfl⟩
      rw [e9]
      clear e9
      have ew : wkF c x y = 1 := by
        unfold wkF
        rw [if_pos (by omega), if_pos (by omega)]
      exact x_iret hK rfl ⟨rfl, by rw [ew]⟩
  by_cases e1_1 : c = 1
  · rw [show swI 93 0 [39, 53, 67, 81, 85, 89] c = 53 from by rw [e1_1]; rfl]
    show K 54 _ _ _ _ _
    refine x_iload_n 55 hK rfl rfl rfl ?_
    refine x_iload_n 56 hK rfl rfl rfl ?_
    refine x_if_icmp_le 63 59 hK rfl rfl rfl (by omega) (by omega) (fun c17 => ?_) (fun c17 => ?_)
    · refine x_iconst 64 hK rfl rfl ?_
      refine x_callS 67 hK hmono rfl (Or.inl rfl) rfl [.int (I 0)] [] rfl rfl (Nat.le_of_ble_eq_true rfl) (Nat.le_of_ble_eq_true rfl) (CLd_le (Nat.le_of_ble_eq_true rfl) (ctX11_flag (by omega))) ?_
      rintro v9 h9 ⟨e9, rfl⟩
      rw [e9]
      clear e9
      have ew : wkF c x y = 0 := by
        unfold wkF
        rw [if_neg (by omega), if_pos (by omega), if_neg (by omega)]
      exact x_iret hK rfl ⟨rfl, by rw [ew]⟩
    · refine x_iconst 60 hK rfl rfl ?_
      refine x_goto 64 hK rfl rfl ?_
      refine x_callS 67 hK hmono rfl (Or.inl rfl) rfl [.int (I 1)] [] rfl rfl (Nat.le_of_ble_eq_true rfl) (Nat.le_of_ble_eq_true rfl) (CLd_le (Nat.le_of_ble_eq_true rfl) (ctX11_flag (by omega))) ?_
      rintro v9 h9 ⟨e9, rfl⟩
      rw [e9]
      clear e9
      have ew : wkF c x y = 1 := by
        unfold wkF
        rw [if_neg (by omega), if_pos (by omega), if_pos (by omega)]
      exact x_iret hK rfl ⟨rfl, by rw [ew]⟩
  by_cases e1_2 : c = 2
  · rw [show swI 93 0 [39, 53, 67, 81, 85, 89] c = 67 from by rw [e1_2]; rfl]
    show K 68 _ _ _ _ _
    refine x_iload_n 69 hK rfl rfl rfl ?_
    refine x_iload_n 70 hK rfl rfl rfl ?_
    refine x_if_icmp_ne 77 73 hK rfl rfl rfl (by omega) (by omega) (fun c28 => ?_) (fun c28 => ?_)
    · refine x_iconst 78 hK rfl rfl ?_
      refine x_callS 81 hK hmono rfl (Or.inl rfl) rfl [.int (I 0)] [] rfl rfl (Nat.le_of_ble_eq_true rfl) (Nat.le_of_ble_eq_true rfl) (CLd_le (Nat.le_of_ble_eq_true rfl) (ctX11_flag (by omega))) ?_
      rintro v9 h9 ⟨e9, rfl⟩
      rw [e9]
      clear e9
      have ew : wkF c x y = 0 := by
        unfold wkF
        rw [if_neg (by omega), if_neg (by omega), if_pos (by omega), if_neg (by omega)]
      exact x_iret hK rfl ⟨rfl, by rw [ew]⟩
    · refine x_iconst 74 hK rfl rfl ?_
      refine x_goto 78 hK rfl rfl ?_
      refine x_callS 81 hK hmono rfl (Or.inl rfl) rfl [.int (I 1)] [] rfl rfl (Nat.le_of_ble_eq_true rfl) (Nat.le_of_ble_eq_true rfl) (CLd_le (Nat.le_of_ble_eq_true rfl) (ctX11_flag (by omega))) ?_
      rintro v9 h9 ⟨e9, rfl⟩
      rw [e9]
      clear e9
      have ew : wkF c x y = 1 := by
        unfold wkF
        rw [if_neg (by omega), if_neg (by omega), if_pos (by omega), if_pos (by omega)]
      exact x_iret hK rfl ⟨rfl, by rw [ew]⟩
  by_cases e1_3 : c = 3
  · rw [show swI 93 0 [39, 53, 67, 81, 85, 89] c = 81 from by rw [e1_3]; rfl]
    show K 82 _ _ _ _ _
    refine x_iload_n 83 hK rfl rfl rfl ?_
    refine x_iload_n 84 hK rfl rfl rfl ?_
    refine x_iadd 85 hK rfl rfl ?_
    have ew : wkF c x y = w32 ((x + y)) := by
      unfold wkF
      rw [if_neg (by omega), if_neg (by omega), if_neg (by omega), if_pos (by omega)]
    exact x_iret hK rfl ⟨rfl, by rw [ew, I_w]⟩
  by_cases e1_4 : c = 4
  · rw [show swI 93 0 [39, 53, 67, 81, 85, 89] c = 85 from by rw [e1_4]; rfl]
    show K 86 _ _ _ _ _
    refine x_iload_n 87 hK rfl rfl rfl ?_
    refine x_iload_n 88 hK rfl rfl rfl ?_
    refine x_isub 89 hK rfl rfl ?_
    have ew : wkF c x y = w32 ((x - y)) := by
      unfold wkF
      rw [if_neg (by omega), if_neg (by omega), if_neg (by omega), if_neg (by omega), if_pos (by omega)]
    exact x_iret hK rfl ⟨rfl, by rw [ew, I_w]⟩
  by_cases e1_5 : c = 5
  · rw [show swI 93 0 [39, 53, 67, 81, 85, 89] c = 89 from by rw [e1_5]; rfl]
    show K 90 _ _ _ _ _
    refine x_iload_n 91 hK rfl rfl rfl ?_
    refine x_iload_n 92 hK rfl rfl rfl ?_
    refine x_imul 93 hK rfl rfl ?_
    have ew : wkF c x y = w32 ((x * y)) := by
      unfold wkF
      rw [if_neg (by omega), if_neg (by omega), if_neg (by omega), if_neg (by omega), if_neg (by omega), if_pos (by omega)]
    exact x_iret hK rfl ⟨rfl, by rw [ew, I_w]⟩
  rw [show swI 93 0 [39, 53, 67, 81, 85, 89] c = 93 from swI_d (by show _ ∨ (0 : Int) + (6 : Nat) ≤ _; omega)]
  show K 94 _ _ _ _ _
  refine x_iload_n 95 hK rfl rfl rfl ?_
  refine x_if_ne 102 98 hK rfl rfl rfl (by omega) (fun c53 => ?_) (fun c53 => ?_)
  · refine x_iload_n 103 hK rfl rfl rfl ?_
    refine x_iload_n 104 hK rfl rfl rfl ?_
    refine x_idivA 105 hK rfl rfl rx ry (by omega) ?_
    have ew : wkF c x y = w32 (x.tdiv y) := by
      unfold wkF
      rw [if_neg (by omega), if_neg (by omega), if_neg (by omega), if_neg (by omega), if_neg (by omega), if_neg (by omega), if_neg (by omega)]
    exact x_iret hK rfl ⟨rfl, by rw [ew]⟩
  · refine x_iconst 99 hK rfl rfl ?_
    refine x_goto 105 hK rfl rfl ?_
    have ew : wkF c x y = 0 := by
      unfold wkF
      rw [if_neg (by omega), if_neg (by omega), if_neg (by omega), if_neg (by omega), if_neg (by omega), if_neg (by omega), if_pos (by omega)]
    exact x_iret hK rfl ⟨rfl, by rw [ew]⟩
theorem hgt_pos {c : Nat → Int} {n : Int} (hv : VCd c n) : ∀ k : Nat, 0 < k → (k : Int) ≤ n → 1 ≤ hgt c k
  | 0, h, _ => absurd h (by omega)
  | k + 1, _, hk => by
    obtain ⟨v1, v2, v3, v4, v5, v6⟩ := VC_at hv (k := k) (by omega)
    by_cases h1 : c k = 3000
    · have := v3 h1; omega
    · by_cases h2 : 2000 ≤ c k
      · have := v4 h1 h2; omega
      · have := v5 (by omega); omega
set_option maxRecDepth 4000 in
theorem ctX11_ruledF {SP : CT} (hSP : MONO SP) {sh : List (Nat × Nat)} {h : aH} (hG : GD gE gRL sh h) (hX : XI h) : CLd SP 4 mX11_ruled [.ref 171] h 0 0 (fun rv h' => rv = some (.int (I (dlF (fun k => gi h 182 k) (gi h 171 25) (fun q => gi h 185 q.toNat)))) ∧ GD gE gRL sh h' ∧ FRM gRL [(0, 67, 0, 79)] h h') := by
  refine x_met _ rfl (Nat.le_of_ble_eq_true rfl) (fun K hK => ?_)
  have hmono := MONO_CLd hSP 3
  have hc80 : gi h 171 25 ≤ 80 := hX.1
  have hcl := gri 0 80 hG (a := 171) (r := 54) (k := 25) rfl rfl
  have a0 := gri 0 40 hG (a := 185) (r := 68) (k := 0) rfl rfl
  have lp : ∀ k : Nat, 0 < k → (k : Int) ≤ gi h 171 25 → 0 < (ruS (fun k => gi h 182 k) (fun q => gi h 185 q.toNat) k).length := fun k h1 h2 => by
    have z := ruS_l (c := (fun k => gi h 182 k)) (ak := (fun q => gi h 185 q.toNat)) hX k h2
    have := hgt_pos (c := (fun k => gi h 182 k)) hX k h1 h2
    omega
  have loop : ∀ (m : Nat) (k : Nat) (h1 : aH) (ls : List (Nat × Value)), ((gi h 171 25 - k).toNat = m) → (k : Int) ≤ gi h 171 25 → SK h1 (ruS (fun k => gi h 182 k) (fun q => gi h 185 q.toNat) k) → lk ls 0 = some (.ref 171) → lk ls 1 = some (.int (I (hgt (fun k => gi h 182 k) k))) → lk ls 2 = some (.int (I (k : Int))) → GD gE gRL sh h1 → FRM gRL [(0, 67, 0, 79)] h h1 → K 4 ls [] h1 0 0 := by
    intro m
    induction m using Nat.strongRecOn with
    | ind m ih =>
    intro k h1 ls hm hk sk l0 l1 l2 hG1 hF1
    have hc : gi h1 171 25 = gi h 171 25 := FRM_gi hF1 (r := 54) rfl rfl
    have hq : (k : Int) < gi h 171 25 → _ := fun z => VC_at (c := (fun k => gi h 182 k)) hX (k := k) z
    have hl := ruS_l (c := (fun k => gi h 182 k)) (ak := (fun q => gi h 185 q.toNat)) hX k hk
    have rs : ruS (fun k => gi h 182 k) (fun q => gi h 185 q.toNat) (k + 1) = ruStep (gi h 182 k) (fun q => gi h 185 q.toNat) (ruS (fun k => gi h 182 k) (fun q => gi h 185 q.toNat) k) := rfl
    have hz : (gi h 171 25 : Int) ≤ k → hgt (fun k => gi h 182 k) k = hgt (fun k => gi h 182 k) k := fun _ => rfl
    generalize hgt (fun k => gi h 182 k) k = t at *
    have lpos : 0 < k → 0 < (ruS (fun k => gi h 182 k) (fun q => gi h 185 q.toNat) k).length := fun z => lp k z hk
    refine x_iload_n 5 hK rfl rfl l2 ?_
    refine x_aload_n 6 hK rfl rfl l0 ?_
    have g114 := gri (0) (80) hG (a := 171) (r := 54) (k := 25) rfl rfl
    refine x_getE 9 hK rfl (Or.inl rfl) rfl (sp_171 (h := h1) hG1) (e := (gi h 171 25)) (FRM_gi hF1 (r := 54) rfl rfl) ?_
    refine x_if_icmp_ge 125 12 hK rfl rfl rfl (by omega) (by omega) (fun c4 => ?_) (fun c4 => ?_)
    · refine x_aload_n 126 hK rfl rfl l0 ?_
      refine x_getE 129 hK rfl (Or.inl rfl) rfl (sp_171 (h := h1) hG1) (e := (gi h 171 25)) (FRM_gi hF1 (r := 54) rfl rfl) ?_
      refine x_if_ne 146 132 hK rfl rfl rfl (by omega) (fun c7 => ?_) (fun c7 => ?_)
      · have kn : (k : Int) = gi h 171 25 := by omega
        have k1 : (gi h 171 25).toNat = k := by omega
        have s0 : gi h1 184 0 = ((ruS (fun k => gi h 182 k) (fun q => gi h 185 q.toNat) k).getD ((ruS (fun k => gi h 182 k) (fun q => gi h 185 q.toNat) k).length - 1) 0) := by
          have q := sk 0 (by have z := lpos (by omega); omega)
          rw [Nat.sub_zero] at q; exact q
        have dl : dlF (fun k => gi h 182 k) (gi h 171 25) (fun q => gi h 185 q.toNat) = max 1 (min 12 ((ruS (fun k => gi h 182 k) (fun q => gi h 185 q.toNat) k).getD ((ruS (fun k => gi h 182 k) (fun q => gi h 185 q.toNat) k).length - 1) 0)) := by unfold dlF; rw [if_neg (by omega), k1]
        have zr : r32 ((ruS (fun k => gi h 182 k) (fun q => gi h 185 q.toNat) k).getD ((ruS (fun k => gi h 182 k) (fun q => gi h 185 q.toNat) k).length - 1) 0) := by rw [← s0]; exact gi_r _ _ _
        refine x_aload_n 147 hK rfl rfl l0 ?_
        refine x_getR 150 hK rfl rfl (sp_171 (h := h1) hG1) (rf_171_27 (h := h1) hG1) ?_
        refine x_iconst 151 hK rfl rfl ?_
        refine x_ialoadE 152 hK rfl rfl (sp_184 (h := h1) hG1) (by omega) (by omega) (by omega) (e' := ((ruS (fun k => gi h 182 k) (fun q => gi h 185 q.toNat) k).getD ((ruS (fun k => gi h 182 k) (fun q => gi h 185 q.toNat) k).length - 1) 0)) (s0) ?_
        refine x_istore_n 153 hK rfl rfl _ rfl ?_
        refine x_iconst 154 hK rfl rfl ?_
        refine x_bipush 156 hK rfl rfl rfl ?_
        refine x_iload_n 157 hK rfl rfl lk1_s ?_
        refine x_min 160 hK rfl rfl (Nat.le_of_ble_eq_true rfl) (by omega) (by omega) ?_
        refine x_max 163 hK rfl rfl (Nat.le_of_ble_eq_true rfl) (by omega) (by omega) ?_
        exact x_iret hK rfl ⟨by rw [dl], hG1, hF1⟩
      · have dl : dlF (fun k => gi h 182 k) (gi h 171 25) (fun q => gi h 185 q.toNat) = max 1 (min 12 ((gi h 185 0) / 8 + 1)) := by unfold dlF; rw [if_pos (by omega)]; rfl
        refine x_aload_n 133 hK rfl rfl l0 ?_
        refine x_getR 136 hK rfl rfl (sp_171 (h := h1) hG1) (rf_171_28 (h := h1) hG1) ?_
        refine x_iconst 137 hK rfl rfl ?_
        have g115 := gri (0) (40) hG (a := 185) (r := 68) (k := 0) rfl rfl
        refine x_ialoadE 138 hK rfl rfl (sp_185 (h := h1) hG1) (by omega) (by omega) (by omega) (e' := (gi h 185 0)) (FRM_gi hF1 (r := 68) rfl rfl) ?_
        refine x_bipush 140 hK rfl rfl rfl ?_
        refine x_idivp 141 hK rfl rfl (by omega) (by omega) (by omega) (by omega) ?_
        refine x_iconst 142 hK rfl rfl ?_
        refine x_iadd 143 hK rfl rfl ?_
        refine x_goto 152 hK rfl rfl ?_
        refine x_istore_n 153 hK rfl rfl _ rfl ?_
        refine x_iconst 154 hK rfl rfl ?_
        refine x_bipush 156 hK rfl rfl rfl ?_
        refine x_iload_n 157 hK rfl rfl lk1_s ?_
        refine x_min 160 hK rfl rfl (Nat.le_of_ble_eq_true rfl) (by omega) (by omega) ?_
        refine x_max 163 hK rfl rfl (Nat.le_of_ble_eq_true rfl) (by omega) (by omega) ?_
        exact x_iret hK rfl ⟨by rw [dl], hG1, hF1⟩
    · refine x_aload_n 13 hK rfl rfl l0 ?_
      refine x_getR 16 hK rfl rfl (sp_171 (h := h1) hG1) (rf_171_23 (h := h1) hG1) ?_
      refine x_iload_n 17 hK rfl rfl l2 ?_
      have g116 := gi_r h 182 k
      refine x_ialoadE 18 hK rfl rfl (sp_182 (h := h1) hG1) (by omega) (by omega) (by omega) (e' := (gi h 182 k)) (FRM_gi hF1 (r := 65) rfl rfl) ?_
      refine x_istore_n 19 hK rfl rfl _ rfl ?_
      refine x_iload_n 20 hK rfl rfl lk1_s ?_
      refine x_sipush 23 hK rfl rfl rfl ?_
      refine x_if_icmp_ne 46 26 hK rfl rfl rfl (by omega) (by omega) (fun c44 => ?_) (fun c44 => ?_)
      · refine x_iload_n 47 hK rfl rfl lk1_s ?_
        refine x_sipush 50 hK rfl rfl rfl ?_
        refine x_if_icmp_lt 89 53 hK rfl rfl rfl (by omega) (by omega) (fun c47 => ?_) (fun c47 => ?_)
        · have q1 := hq (by omega)
          refine x_aload_n 90 hK rfl rfl (lk1_n l0 (by decide) (Or.inl rfl)) ?_
          refine x_getR 93 hK rfl rfl (sp_171 (h := h1) hG1) (rf_171_27 (h := h1) hG1) ?_
          refine x_iload_n 94 hK rfl rfl (lk1_n l1 (by decide) (Or.inl rfl)) ?_
          refine x_iload_n 95 hK rfl rfl lk1_s ?_
          refine x_sipush 98 hK rfl rfl rfl ?_
          refine x_if_icmp_lt 114 101 hK rfl rfl rfl (by omega) (by omega) (fun c54 => ?_) (fun c54 => ?_)
          · refine x_iload_n 115 hK rfl rfl lk1_s ?_
            refine x_iastore 116 hK rfl rfl (sp_184 (h := h1) hG1) (by omega) (by omega) (by omega) ?_
            refine x_iinc 119 hK rfl rfl (lk1_n l1 (by decide) (Or.inl rfl)) _ rfl ?_
            refine x_iinc 122 hK rfl rfl (lk1_n (lk1_n l2 (by decide) (Or.inl rfl)) (by decide) (Or.inl rfl)) _ rfl ?_
            refine x_goto 4 hK rfl rfl ?_
            have hh : hgt (fun k => gi h 182 k) (k + 1) = (t + 1) := by omega
            have sn : SK (wI h1 184 t.toNat (gi h 182 k)) (ruS (fun k => gi h 182 k) (fun q => gi h 185 q.toNat) (k + 1)) := by
              rw [rs]; unfold ruStep; rw [if_neg (by omega), if_neg (by omega), if_neg (by omega)]; rw [show t.toNat = (ruS (fun k => gi h 182 k) (fun q => gi h 185 q.toNat) k).length by omega]; have z := SK_push (v := (gi h 182 k)) sk; rw [w32_e (by omega)] at z; exact z
            refine ih _ (by omega) (k + 1) _ _ rfl (by omega) sn (lk1_n (lk1_n (lk1_n l0 (by decide) (Or.inl rfl)) (by decide) (Or.inl rfl)) (by decide) (Or.inl rfl)) (by rw [hh]; exact (lk1_n lk1_s (by decide) (Or.inl rfl))) lk1_s (GD_wn (hG1) (r := 67) rfl rfl) (FRM_wn 0 79 (hF1) (r := 67) rfl rfl rfl (by omega) (by omega))
          · refine x_aload_n 102 hK rfl rfl (lk1_n l0 (by decide) (Or.inl rfl)) ?_
            refine x_getR 105 hK rfl rfl (sp_171 (h := h1) hG1) (rf_171_28 (h := h1) hG1) ?_
            refine x_iload_n 106 hK rfl rfl lk1_s ?_
            refine x_sipush 109 hK rfl rfl rfl ?_
            refine x_isub 110 hK rfl rfl ?_
            have g117 := gi_r h 185 ((gi h 182 k) - 1000).toNat
            refine x_ialoadE 111 hK rfl rfl (sp_185 (h := h1) hG1) (by omega) (by omega) (by omega) (e' := (gi h 185 ((gi h 182 k) - 1000).toNat)) (FRM_gi hF1 (r := 68) rfl rfl) ?_
            refine x_goto 115 hK rfl rfl ?_
            refine x_iastore 116 hK rfl rfl (sp_184 (h := h1) hG1) (by omega) (by omega) (by omega) ?_
            refine x_iinc 119 hK rfl rfl (lk1_n l1 (by decide) (Or.inl rfl)) _ rfl ?_
            refine x_iinc 122 hK rfl rfl (lk1_n (lk1_n l2 (by decide) (Or.inl rfl)) (by decide) (Or.inl rfl)) _ rfl ?_
            refine x_goto 4 hK rfl rfl ?_
            have hh : hgt (fun k => gi h 182 k) (k + 1) = (t + 1) := by omega
            have sn : SK (wI h1 184 t.toNat (gi h 185 ((gi h 182 k) - 1000).toNat)) (ruS (fun k => gi h 182 k) (fun q => gi h 185 q.toNat) (k + 1)) := by
              rw [rs]; unfold ruStep; rw [if_neg (by omega), if_neg (by omega), if_pos (by omega)]; rw [show t.toNat = (ruS (fun k => gi h 182 k) (fun q => gi h 185 q.toNat) k).length by omega]; have z := SK_push (v := (gi h 185 ((gi h 182 k) - 1000).toNat)) sk; rw [w32_e (by omega)] at z; exact z
            refine ih _ (by omega) (k + 1) _ _ rfl (by omega) sn (lk1_n (lk1_n (lk1_n l0 (by decide) (Or.inl rfl)) (by decide) (Or.inl rfl)) (by decide) (Or.inl rfl)) (by rw [hh]; exact (lk1_n lk1_s (by decide) (Or.inl rfl))) lk1_s (GD_wn (hG1) (r := 67) rfl rfl) (FRM_wn 0 79 (hF1) (r := 67) rfl rfl rfl (by omega) (by omega))
        · have q1 := hq (by omega)
          obtain ⟨y, x, r, hs⟩ : ∃ y x r, (ruS (fun k => gi h 182 k) (fun q => gi h 185 q.toNat) k) = y :: x :: r := by
            match hs : (ruS (fun k => gi h 182 k) (fun q => gi h 185 q.toNat) k) with
            | [] => rw [hs] at hl; simp at hl; omega
            | [x] => rw [hs] at hl; simp at hl; omega
            | y :: x :: r => exact ⟨y, x, r, rfl⟩
          rw [hs] at sk hl
          simp only [List.length_cons] at hl
          have ry : r32 y := by rw [← SK_hd sk]; exact gi_r _ _ _
          have rx : r32 x := by rw [← SK_hd (SK_tail sk)]; exact gi_r _ _ _
          have gk := gi_r h 182 k
          refine x_iinc 56 hK rfl rfl (lk1_n l1 (by decide) (Or.inl rfl)) _ rfl ?_
          refine x_aload_n 57 hK rfl rfl (lk1_n (lk1_n l0 (by decide) (Or.inl rfl)) (by decide) (Or.inl rfl)) ?_
          refine x_getR 60 hK rfl rfl (sp_171 (h := h1) hG1) (rf_171_27 (h := h1) hG1) ?_
          refine x_iload_n 61 hK rfl rfl lk1_s ?_
          refine x_iconst 62 hK rfl rfl ?_
          refine x_isub 63 hK rfl rfl ?_
          refine x_iload_n 64 hK rfl rfl (lk1_n lk1_s (by decide) (Or.inl rfl)) ?_
          refine x_sipush 67 hK rfl rfl rfl ?_
          refine x_isub 68 hK rfl rfl ?_
          refine x_aload_n 69 hK rfl rfl (lk1_n (lk1_n l0 (by decide) (Or.inl rfl)) (by decide) (Or.inl rfl)) ?_
          refine x_getR 72 hK rfl rfl (sp_171 (h := h1) hG1) (rf_171_27 (h := h1) hG1) ?_
          refine x_iload_n 73 hK rfl rfl lk1_s ?_
          refine x_iconst 74 hK rfl rfl ?_
          refine x_isub 75 hK rfl rfl ?_
          refine x_ialoadE 76 hK rfl rfl (sp_184 (h := h1) hG1) (by omega) (by omega) (by omega) (e' := x) ((show gi h1 184 ((t + (-1)) - 1).toNat = x from by rw [show ((t + (-1)) - 1).toNat = r.length by omega]; exact SK_hd (SK_tail sk))) ?_
          refine x_aload_n 77 hK rfl rfl (lk1_n (lk1_n l0 (by decide) (Or.inl rfl)) (by decide) (Or.inl rfl)) ?_
          refine x_getR 80 hK rfl rfl (sp_171 (h := h1) hG1) (rf_171_27 (h := h1) hG1) ?_
          refine x_iload_n 81 hK rfl rfl lk1_s ?_
          refine x_ialoadE 82 hK rfl rfl (sp_184 (h := h1) hG1) (by omega) (by omega) (by omega) (e' := y) ((show gi h1 184 (t + (-1)).toNat = y from by rw [show (t + (-1)).toNat = (x :: r).length by simp; omega]; exact SK_hd sk)) ?_
          refine x_callS 85 hK hmono rfl (Or.inl rfl) rfl [.int (I ((gi h 182 k) - 2000)), .int (I x), .int (I y)] [.int (I ((t + (-1)) - 1)), .ref 184] rfl rfl (Nat.le_of_ble_eq_true rfl) (Nat.le_of_ble_eq_true rfl) (CLd_le (Nat.le_of_ble_eq_true rfl) (ctX11_worked hSP (by omega) rx ry)) ?_
          rintro v9 h9 ⟨e9, rfl⟩
          rw [e9]
          clear e9
          have wr := wkF_r ((gi h 182 k) - 2000) x y
          refine x_iastore 86 hK rfl rfl (sp_184 (h := h1) hG1) (by omega) (by omega) (by omega) ?_
          refine x_goto 119 hK rfl rfl ?_
          refine x_iinc 122 hK rfl rfl (lk1_n (lk1_n l2 (by decide) (Or.inl rfl)) (by decide) (Or.inl rfl)) _ rfl ?_
          refine x_goto 4 hK rfl rfl ?_
          have hh : hgt (fun k => gi h 182 k) (k + 1) = (t + (-1)) := by omega
          have sn : SK (wI h1 184 ((t + (-1)) - 1).toNat (wkF ((gi h 182 k) - 2000) x y)) (ruS (fun k => gi h 182 k) (fun q => gi h 185 q.toNat) (k + 1)) := by
            rw [rs]; unfold ruStep; rw [if_neg (by omega), if_pos (by omega), hs]; rw [show ((t + (-1)) - 1).toNat = r.length by omega]; have z := SK_top (v := wkF ((gi h 182 k) - 2000) x y) (SK_tail sk); rw [w32_e (wkF_r _ _ _)] at z; exact z
          refine ih _ (by omega) (k + 1) _ _ rfl (by omega) sn (lk1_n (lk1_n (lk1_n l0 (by decide) (Or.inl rfl)) (by decide) (Or.inl rfl)) (by decide) (Or.inl rfl)) (by rw [hh]; exact (lk1_n lk1_s (by decide) (Or.inl rfl))) lk1_s (GD_wn (hG1) (r := 67) rfl rfl) (FRM_wn 0 79 (hF1) (r := 67) rfl rfl rfl (by omega) (by omega))
      · have q1 := hq (by omega)
        obtain ⟨x, r, hs⟩ : ∃ x r, (ruS (fun k => gi h 182 k) (fun q => gi h 185 q.toNat) k) = x :: r := by
          cases hs : (ruS (fun k => gi h 182 k) (fun q => gi h 185 q.toNat) k) with
          | nil => rw [hs] at hl; simp at hl; omega
          | cons x r => exact ⟨x, r, rfl⟩
        rw [hs] at sk hl
        simp only [List.length_cons] at hl
        refine x_aload_n 27 hK rfl rfl (lk1_n l0 (by decide) (Or.inl rfl)) ?_
        refine x_getR 30 hK rfl rfl (sp_171 (h := h1) hG1) (rf_171_27 (h := h1) hG1) ?_
        refine x_iload_n 31 hK rfl rfl (lk1_n l1 (by decide) (Or.inl rfl)) ?_
        refine x_iconst 32 hK rfl rfl ?_
        refine x_isub 33 hK rfl rfl ?_
        refine x_aload_n 34 hK rfl rfl (lk1_n l0 (by decide) (Or.inl rfl)) ?_
        refine x_getR 37 hK rfl rfl (sp_171 (h := h1) hG1) (rf_171_27 (h := h1) hG1) ?_
        refine x_iload_n 38 hK rfl rfl (lk1_n l1 (by decide) (Or.inl rfl)) ?_
        refine x_iconst 39 hK rfl rfl ?_
        refine x_isub 40 hK rfl rfl ?_
        refine x_ialoadE 41 hK rfl rfl (sp_184 (h := h1) hG1) (by omega) (by omega) (by omega) (e' := x) ((show gi h1 184 (t - 1).toNat = x from by rw [show (t - 1).toNat = r.length by omega]; exact SK_hd sk)) ?_
        refine x_ineg 42 hK rfl rfl ?_
        refine x_iastore 43 hK rfl rfl (sp_184 (h := h1) hG1) (by omega) (by omega) (by omega) ?_
        refine x_goto 119 hK rfl rfl ?_
        refine x_iinc 122 hK rfl rfl (lk1_n l2 (by decide) (Or.inl rfl)) _ rfl ?_
        refine x_goto 4 hK rfl rfl ?_
        have hh : hgt (fun k => gi h 182 k) (k + 1) = t := by omega
        have sn : SK (wI h1 184 (t - 1).toNat (-x)) (ruS (fun k => gi h 182 k) (fun q => gi h 185 q.toNat) (k + 1)) := by
          rw [rs]; unfold ruStep; rw [if_pos (by omega), hs]; rw [show (t - 1).toNat = r.length by omega]; exact SK_top sk
        refine ih _ (by omega) (k + 1) _ _ rfl (by omega) sn (lk1_n (lk1_n l0 (by decide) (Or.inl rfl)) (by decide) (Or.inl rfl)) (by rw [hh]; exact (lk1_n (lk1_n l1 (by decide) (Or.inl rfl)) (by decide) (Or.inl rfl))) lk1_s (GD_wn (hG1) (r := 67) rfl rfl) (FRM_wn 0 79 (hF1) (r := 67) rfl rfl rfl (by omega) (by omega))
  refine x_iconst 1 hK rfl rfl ?_
  refine x_istore_n 2 hK rfl rfl [(1, .int (I 0)), (0, .ref 171)] rfl ?_
  refine x_iconst 3 hK rfl rfl ?_
  refine x_istore_n 4 hK rfl rfl [(2, .int (I 0)), (1, .int (I 0)), (0, .ref 171)] rfl ?_
  exact loop _ 0 h _ rfl (by omega) (fun i hi => absurd hi (Nat.not_lt_zero _)) rfl rfl rfl hG FRM.rf
/-- what a rule asks: LONG, POSTS, LIARS, the rest of a STEP -/
noncomputable def askF (h : aH) (step : Int) (q : Int) : Int := if q = 0 then gi h 171 3 else if q = 1 then gi h 171 4 else if q = 2 then gi h 171 5 else if q = 3 then step % 12 else 0
/-- DELAY of an order that is given in a STEP -/
noncomputable def dlA (h : aH) (step : Int) : Int := dlF (fun k => gi h 182 k) (gi h 171 25) (askF h step)
theorem dlA_b (h : aH) (step : Int) : 1 ≤ dlA h step ∧ dlA h step ≤ 12 := dlF_b _ _ _
theorem ruS_congr {c c' : Nat → Int} {ak ak' : Int → Int} {n : Int} (hv : VCd c n) (hc : ∀ k : Nat, (k : Int) < n → c' k = c k) (ha : ∀ q, 0 ≤ q → q ≤ 3 → ak' q = ak q) : ∀ k : Nat, (k : Int) ≤ n → ruS c' ak' k = ruS c ak k
  | 0, _ => rfl
  | k + 1, hk => by
    have ih := ruS_congr hv hc ha k (by omega)
    obtain ⟨v1, v2, v3, v4, v5, v6⟩ := VC_at hv (k := k) (by omega)
    show ruStep (c' k) ak' (ruS c' ak' k) = ruStep (c k) ak (ruS c ak k)
    rw [ih, hc k (by omega)]
    unfold ruStep
    by_cases h1 : c k = 3000
    · rw [if_pos h1, if_pos h1]
    · rw [if_neg h1, if_neg h1]
      by_cases h2 : 2000 ≤ c k
      · rw [if_pos h2, if_pos h2]
      · rw [if_neg h2, if_neg h2]
        by_cases h3 : 1000 ≤ c k
        · rw [if_pos h3, if_pos h3, ha _ (by omega) (by have := v6 h3 (by omega); omega)]
        · rw [if_neg h3, if_neg h3]
theorem dlF_congr {c c' : Nat → Int} {ak ak' : Int → Int} {n : Int} (hv : VCd c n) (hc : ∀ k : Nat, (k : Int) < n → c' k = c k) (ha : ∀ q, 0 ≤ q → q ≤ 3 → ak' q = ak q) (h0 : 0 ≤ n) : dlF c' n ak' = dlF c n ak := by
  unfold dlF
  rw [ruS_congr hv hc ha n.toNat (by omega), ha 0 (by omega) (by omega)]
/-- nothing that it stands on has changed -/
theorem dlA_eq {h h' : aH} (e25 : gi h' 171 25 = gi h 171 25) (e3 : gi h' 171 3 = gi h 171 3) (e4 : gi h' 171 4 = gi h 171 4) (e5 : gi h' 171 5 = gi h 171 5) (ec : ∀ k, gi h' 182 k = gi h 182 k) (step : Int) : dlA h' step = dlA h step := by
  have ea : askF h' step = askF h step := by funext q; unfold askF; rw [e3, e4, e5]
  have e2 : (fun k => gi h' 182 k) = fun k => gi h 182 k := funext ec
  unfold dlA
  rw [e25, ea, e2]
noncomputable def dlOk (M : MD) : Bool := !(mHas M 0 54 25) && !(mHas M 0 54 3) && (!(mHas M 0 54 4) && (!(mHas M 0 54 5) && (M.all fun q => !(Nat.beq q.1 0 && Nat.beq q.2.1 65))))
theorem dlA_F {M : MD} {h h' : aH} (hF : FRM gRL M h h') (hm : dlOk M = true) (step : Int) : dlA h' step = dlA h step := by
  simp only [dlOk, Bool.and_eq_true, Bool.not_eq_true'] at hm
  exact dlA_eq (FRM_gi hF (r := 54) rfl hm.1.1) (FRM_gi hF (r := 54) rfl hm.1.2) (FRM_gi hF (r := 54) rfl hm.2.1) (FRM_gi hF (r := 54) rfl hm.2.2.1) (fun k => FRM_gi hF (r := 65) rfl (mHas_non hm.2.2.2 k)) step
set_option maxRecDepth 4000 in
theorem ctX11_delayAtF {SP : CT} (hSP : MONO SP) {sh : List (Nat × Nat)} {h : aH} (hG : GD gE gRL sh h) {t : Int} (hX : XI h) (ht : 0 ≤ t ∧ t ≤ 2147483647) : CLd SP 5 mX11_delayAt [.ref 171, .int (I t)] h 0 0 (fun rv h' => rv = some (.int (I (dlA h t))) ∧ GD gE gRL sh h' ∧ FRM gRL [(0, 67, 0, 79), (0, 68, 0, 3)] h h') := by
  refine x_met _ rfl (Nat.le_of_ble_eq_true rfl) (fun K hK => ?_)
  have hmono := MONO_CLd hSP 4
  refine x_aload_n 1 hK rfl rfl rfl ?_
  refine x_getR 4 hK rfl rfl (sp_171 (h := h) hG) (rf_171_28 (h := h) hG) ?_
  refine x_iconst 5 hK rfl rfl ?_
  refine x_aload_n 6 hK rfl rfl rfl ?_
  have g118 := gri (2) (40) hG (a := 171) (r := 54) (k := 3) rfl rfl
  refine x_getE 9 hK rfl (Or.inl rfl) rfl (sp_171 (h := h) hG) (e := (gi h 171 3)) (rfl) ?_
  refine x_iastore 10 hK rfl rfl (sp_185 (h := h) hG) (by omega) (by omega) (by omega) ?_
  refine x_aload_n 11 hK rfl rfl rfl ?_
  refine x_getR 14 hK rfl rfl (sp_171 (h := h) hG) (rf_171_28 (h := h) hG) ?_
  refine x_iconst 15 hK rfl rfl ?_
  refine x_aload_n 16 hK rfl rfl rfl ?_
  have g119 := gri (0) (10) hG (a := 171) (r := 54) (k := 4) rfl rfl
  refine x_getE 19 hK rfl (Or.inl rfl) rfl (sp_171 (h := h) hG) (e := (gi h 171 4)) (gi_a (by decide) _) ?_
  refine x_iastore 20 hK rfl rfl (sp_185 (h := h) hG) (by omega) (by omega) (by omega) ?_
  refine x_aload_n 21 hK rfl rfl rfl ?_
  refine x_getR 24 hK rfl rfl (sp_171 (h := h) hG) (rf_171_28 (h := h) hG) ?_
  refine x_iconst 25 hK rfl rfl ?_
  refine x_aload_n 26 hK rfl rfl rfl ?_
  have g120 := gi_r h 171 5
  refine x_getE 29 hK rfl (Or.inl rfl) rfl (sp_171 (h := h) hG) (e := (gi h 171 5)) ((gi_a (by decide) _).trans (gi_a (by decide) _)) ?_
  refine x_iastore 30 hK rfl rfl (sp_185 (h := h) hG) (by omega) (by omega) (by omega) ?_
  refine x_aload_n 31 hK rfl rfl rfl ?_
  refine x_getR 34 hK rfl rfl (sp_171 (h := h) hG) (rf_171_28 (h := h) hG) ?_
  refine x_iconst 35 hK rfl rfl ?_
  refine x_iload_n 36 hK rfl rfl rfl ?_
  refine x_bipush 38 hK rfl rfl rfl ?_
  refine x_iremp 39 hK rfl rfl (by omega) (by omega) (by omega) (by omega) ?_
  refine x_iastore 40 hK rfl rfl (sp_185 (h := h) hG) (by omega) (by omega) (by omega) ?_
  refine x_aload_n 41 hK rfl rfl rfl ?_
  change K 41 _ _ (wI (wI (wI (wI h 185 0 (gi h 171 3)) 185 1 (gi h 171 4)) 185 2 (gi h 171 5)) 185 3 (t % 12)) _ _
  have hGp121 : GD gE gRL sh (wI (wI (wI (wI h 185 0 (gi h 171 3)) 185 1 (gi h 171 4)) 185 2 (gi h 171 5)) 185 3 (t % 12)) := GD_w0 (GD_w0 (GD_w0 (GD_w1 (hG) (r := 68) rfl (by omega) rfl (by omega) (by omega)) (r := 68) rfl rfl) (r := 68) rfl rfl) (r := 68) rfl rfl
  have hXp : XI (wI (wI (wI (wI h 185 0 (gi h 171 3)) 185 1 (gi h 171 4)) 185 2 (gi h 171 5)) 185 3 (t % 12)) := (xOk_ok rfl h (wI (wI (wI (wI h 185 0 (gi h 171 3)) 185 1 (gi h 171 4)) 185 2 (gi h 171 5)) 185 3 (t % 12)) (FRM_w (FRM_w (FRM_w (FRM_w ((FRM.rf : FRM gRL [(0, 68, 0, 0), (0, 68, 1, 1), (0, 68, 2, 2), (0, 68, 3, 3)] h h)) (r := 68) rfl rfl) (r := 68) rfl rfl) (r := 68) rfl rfl) (r := 68) rfl rfl) hX)
  refine x_callV 44 hK hmono rfl rfl [.ref 171] [] rfl rfl (Nat.le_of_ble_eq_true rfl) (Nat.le_of_ble_eq_true rfl) rfl (sp_171 (h := h) hG) (CLd_le (Nat.le_of_ble_eq_true rfl) (ctX11_ruledF hSP hGp121 hXp)) ?_
  rintro v2 h2 ⟨rfl, hG2, hF2⟩
  have c25 : gi (wI (wI (wI (wI h 185 0 (gi h 171 3)) 185 1 (gi h 171 4)) 185 2 (gi h 171 5)) 185 3 (t % 12)) 171 25 = gi h 171 25 := (gi_a (by decide) _).trans ((gi_a (by decide) _).trans ((gi_a (by decide) _).trans (gi_a (by decide) _)))
  have c182 : ∀ k, gi (wI (wI (wI (wI h 185 0 (gi h 171 3)) 185 1 (gi h 171 4)) 185 2 (gi h 171 5)) 185 3 (t % 12)) 182 k = gi h 182 k := fun k => (gi_a (by decide) _).trans ((gi_a (by decide) _).trans ((gi_a (by decide) _).trans (gi_a (by decide) _)))
  have q0 : gi (wI (wI (wI (wI h 185 0 (gi h 171 3)) 185 1 (gi h 171 4)) 185 2 (gi h 171 5)) 185 3 (t % 12)) 185 0 = gi h 171 3 := (gi_k (by decide) _).trans ((gi_k (by decide) _).trans ((gi_k (by decide) _).trans (gi_same (by omega))))
  have q1 : gi (wI (wI (wI (wI h 185 0 (gi h 171 3)) 185 1 (gi h 171 4)) 185 2 (gi h 171 5)) 185 3 (t % 12)) 185 1 = gi h 171 4 := (gi_k (by decide) _).trans ((gi_k (by decide) _).trans (gi_same (by omega)))
  have q2 : gi (wI (wI (wI (wI h 185 0 (gi h 171 3)) 185 1 (gi h 171 4)) 185 2 (gi h 171 5)) 185 3 (t % 12)) 185 2 = gi h 171 5 := (gi_k (by decide) _).trans (gi_same (by omega))
  have q3 : gi (wI (wI (wI (wI h 185 0 (gi h 171 3)) 185 1 (gi h 171 4)) 185 2 (gi h 171 5)) 185 3 (t % 12)) 185 3 = t % 12 := gi_same (by omega)
  have hd : dlF (fun k => gi (wI (wI (wI (wI h 185 0 (gi h 171 3)) 185 1 (gi h 171 4)) 185 2 (gi h 171 5)) 185 3 (t % 12)) 182 k) (gi (wI (wI (wI (wI h 185 0 (gi h 171 3)) 185 1 (gi h 171 4)) 185 2 (gi h 171 5)) 185 3 (t % 12)) 171 25) (fun q => gi (wI (wI (wI (wI h 185 0 (gi h 171 3)) 185 1 (gi h 171 4)) 185 2 (gi h 171 5)) 185 3 (t % 12)) 185 q.toNat) = dlA h t := by
    have hcl := gri 0 80 hG (a := 171) (r := 54) (k := 25) rfl rfl
    rw [c25]
    refine dlF_congr hX (fun k _ => c182 k) (fun q y1 y2 => ?_) hcl.1
    rcases (show q = 0 ∨ q = 1 ∨ q = 2 ∨ q = 3 by omega) with rfl | rfl | rfl | rfl
    · exact q0
    · exact q1
    · exact q2
    · exact q3
  rw [hd]
  exact x_iret hK rfl ⟨rfl, hG2, (FRM_w (FRM_w (FRM_w (FRM_w ((FRM.rf : FRM gRL [(0, 67, 0, 79), (0, 68, 0, 3)] h h)) (r := 68) rfl rfl) (r := 68) rfl rfl) (r := 68) rfl rfl) (r := 68) rfl rfl).trans ((hF2).mono rfl)⟩
end
section
/-! STEPS, ORDERS, FOOD (the reference), as what they make of a state -/
theorem flt_y {p : Int × Int × Int → Bool} {x : Int × Int × Int} (h : p x = true) : [x].filter p = [x] := by rw [List.filter_cons_of_pos h]; rfl
theorem flt_n {p : Int × Int × Int → Bool} {x : Int × Int × Int} (h : p x = false) : [x].filter p = [] := by rw [List.filter_cons_of_neg (by rw [h]; exact Bool.noConfusion)]; rfl
noncomputable def tri (f : Nat → Int) (k : Nat) : Int × Int × Int := (f (5 + 3 * k), f (6 + 3 * k), f (7 + 3 * k))
noncomputable def wlK (f : Nat → Int) (n : Nat) : List (Int × Int × Int) := (List.range n).map (tri f)
theorem wlK_s (f : Nat → Int) (n : Nat) : wlK f (n + 1) = wlK f n ++ [tri f n] := by unfold wlK; rw [List.range_succ, List.map_append]; rfl
theorem wlK_l (f : Nat → Int) (n : Nat) : (wlK f n).length = n := by unfold wlK; rw [List.length_map, List.length_range]
theorem wlK_congr {f g : Nat → Int} {n : Nat} (h : ∀ j, 5 ≤ j → j < 5 + 3 * n → f j = g j) : wlK f n = wlK g n := by
  unfold wlK
  refine List.map_congr_left fun k hk => ?_
  have := List.mem_range.mp hk
  unfold tri
  rw [h _ (by omega) (by omega), h (6 + 3 * k) (by omega) (by omega), h (7 + 3 * k) (by omega) (by omega)]
/-- orders under way -/
noncomputable def wl (s : Nat → Int) : List (Int × Int × Int) := wlK s (s 3).toNat
theorem wl_RC {h : aH} {a : Nat} (hn : gi h a 3 ≤ 12) : wl (RC h a 0) = wlK (gi h a) (gi h a 3).toNat := by
  unfold wl
  rw [RC_0 (by omega)]
  exact wlK_congr fun j _ h2 => RC_0 (by omega)
/-- a state: NOW, LANE, HITS, when the last order was given, orders under way, FOOD, HUNGRY -/
noncomputable abbrev WS : Type := Int × Int × Int × Int × List (Int × Int × Int) × (Nat → Int) × (Nat → Int)
noncomputable def vw (s : Nat → Int) : WS := (s 0, s 1, s 2, s 4, wl s, (fun m => if m < 8 then s (41 + m) else 0), fun m => if m < 8 then s (49 + m) else 0)
theorem WS_ext {a b : WS} (h0 : a.1 = b.1) (h1 : a.2.1 = b.2.1) (h2 : a.2.2.1 = b.2.2.1) (h3 : a.2.2.2.1 = b.2.2.2.1) (h4 : a.2.2.2.2.1 = b.2.2.2.2.1) (h5 : ∀ m, a.2.2.2.2.2.1 m = b.2.2.2.2.2.1 m) (h6 : ∀ m, a.2.2.2.2.2.2 m = b.2.2.2.2.2.2 m) : a = b :=
  Prod.ext h0 (Prod.ext h1 (Prod.ext h2 (Prod.ext h3 (Prod.ext h4 (Prod.ext (funext h5) (funext h6))))))
noncomputable def ptF (l : Int) (q : Int × Int × Int) : Int := max 0 (min 8 (l + q.2.1))
theorem ptF_b {l : Int} (hl : 0 ≤ l ∧ l ≤ 8) : ∀ (L : List (Int × Int × Int)), 0 ≤ L.foldl ptF l ∧ L.foldl ptF l ≤ 8
  | [] => hl
  | q :: r => ptF_b (l := ptF l q) (by unfold ptF; omega) r
noncomputable def hitN (ml ln : Nat → Int) (a b : Int) : Nat → Int
  | 0 => 0
  | i + 1 => hitN ml ln a b i + if ml i = a ∧ ln i = b then 1 else 0
theorem hitN_s {ml ln : Nat → Int} {a b i : Int} (h : 0 ≤ i) : hitN ml ln a b (i + 1).toNat = hitN ml ln a b i.toNat + if ml i.toNat = a ∧ ln i.toNat = b then 1 else 0 := by rw [tn_s h]; rfl
theorem hitN_b (ml ln : Nat → Int) (a b : Int) : ∀ n : Nat, 0 ≤ hitN ml ln a b n ∧ hitN ml ln a b n ≤ n
  | 0 => ⟨Int.le_refl _, Int.le_refl _⟩
  | n + 1 => by
    have := hitN_b ml ln a b n
    show 0 ≤ hitN ml ln a b n + (if ml n = a ∧ ln n = b then 1 else 0) ∧ hitN ml ln a b n + (if ml n = a ∧ ln n = b then 1 else 0) ≤ ((n + 1 : Nat) : Int)
    split <;> omega
noncomputable def fdS (f e : Int) : Int := if f < e then 0 else f - e
noncomputable def huS (u f e : Int) : Int := if f < e then u + 1 else u
noncomputable def hcN (f e : Nat → Int) : Nat → Int
  | 0 => 0
  | m + 1 => hcN f e m + if f m < e m then 1 else 0
theorem hcN_s {f e : Nat → Int} {i : Int} (h : 0 ≤ i) : hcN f e (i + 1).toNat = hcN f e i.toNat + if f i.toNat < e i.toNat then 1 else 0 := by rw [tn_s h]; rfl
theorem hcN_b (f e : Nat → Int) : ∀ n : Nat, 0 ≤ hcN f e n ∧ hcN f e n ≤ n
  | 0 => ⟨Int.le_refl _, Int.le_refl _⟩
  | n + 1 => by
    have := hcN_b f e n
    show 0 ≤ hcN f e n + (if f n < e n then 1 else 0) ∧ hcN f e n + (if f n < e n then 1 else 0) ≤ ((n + 1 : Nat) : Int)
    split <;> omega
/-- a STEP: the LANE, HITS in it, MESSES that are HUNGRY in it, the state behind it -/
noncomputable def stL (w : WS) : Int := (w.2.2.2.2.1.filter fun q => decide (q.1 = w.1 + 1)).foldl ptF w.2.1
noncomputable def stH (ml ln : Nat → Int) (nr : Nat) (w : WS) : Int := hitN ml ln (w.1 + 1) (stL w) nr
noncomputable def stU (ms : Int) (ea : Nat → Int) (w : WS) : Int := hcN w.2.2.2.2.2.1 ea ms.toNat
noncomputable def stW (ml ln : Nat → Int) (nr : Nat) (ms : Int) (ea : Nat → Int) (w : WS) : WS :=
  (w.1 + 1, stL w, w.2.2.1 + stH ml ln nr w, w.2.2.2.1, w.2.2.2.2.1.filter (fun q => !decide (q.1 = w.1 + 1)), (fun m => if (m : Int) < ms then fdS (w.2.2.2.2.2.1 m) (ea m) else w.2.2.2.2.2.1 m), fun m => if (m : Int) < ms then huS (w.2.2.2.2.2.2 m) (w.2.2.2.2.2.1 m) (ea m) else w.2.2.2.2.2.2 m)
theorem if_j {j : Nat} {k : Int} (hk : 0 ≤ k) (hj : j ≠ k.toNat) {A B : Int} : (if (j : Int) < k then A else B) = if (j : Int) < k + 1 then A else B := by
  by_cases z : (j : Int) < k
  · rw [if_pos z, if_pos (by omega)]
  · rw [if_neg z, if_neg (by omega)]
theorem hcN_c {f g e : Nat → Int} : ∀ (n : Nat), (∀ m, m < n → f m = g m) → hcN f e n = hcN g e n
  | 0, _ => rfl
  | n + 1, h => by
    show hcN f e n + (if f n < e n then 1 else 0) = hcN g e n + (if g n < e n then 1 else 0)
    rw [hcN_c n fun m hm => h m (by omega), h n (by omega)]
set_option maxRecDepth 4000 in
theorem ctX11_doesDueNF {SP : CT} (hSP : MONO SP) {sh : List (Nat × Nat)} {h : aH} (hG : GD gE gRL sh h) : CLd SP 4 mX11_doesDue [.ref 178] h 0 0 (fun rv h' => rv = none ∧ GD gE gRL sh h' ∧ FRM gRL [(0, 61, 1, 1), (0, 61, 3, 3), (0, 61, 5, 40)] h h' ∧ gi h' 178 1 = ((wl (RC h 178 0)).filter (fun q => decide (q.1 = gi h 178 0))).foldl ptF (gi h 178 1) ∧ wl (RC h' 178 0) = (wl (RC h 178 0)).filter (fun q => !decide (q.1 = gi h 178 0))) := by
  refine x_met _ rfl (Nat.le_of_ble_eq_true rfl) (fun K hK => ?_)
  have hmono := MONO_CLd hSP 3
  have g3 := gri 0 12 hG (a := 178) (r := 61) (k := 3) rfl rfl
  have loop : ∀ (mz : Nat) (d k : Int) (h4 : aH) (ls : List (Nat × Value)), ((gi h 178 3 - k).toNat = mz) → (0 ≤ k ∧ k ≤ gi h 178 3) → (0 ≤ d ∧ d ≤ k) → (gi h4 178 3 = gi h 178 3) → (wlK (gi h4 178) d.toNat = (wlK (gi h 178) k.toNat).filter (fun q => !decide (q.1 = gi h 178 0))) → (∀ j : Nat, 5 + 3 * k ≤ j → gi h4 178 j = gi h 178 j) → (gi h4 178 1 = ((wlK (gi h 178) k.toNat).filter (fun q => decide (q.1 = gi h 178 0))).foldl ptF (gi h 178 1)) → lk ls 0 = some (.ref 178) → lk ls 1 = some (.int (I d)) → lk ls 2 = some (.int (I k)) → GD gE gRL sh h4 → FRM gRL [(0, 61, 1, 1), (0, 61, 3, 3), (0, 61, 5, 40)] h h4 → K 4 ls [] h4 0 0 := by
    intro mz
    induction mz using Nat.strongRecOn with
    | ind mz ih =>
    intro d k h4 ls hm k0 d0 c3 wq ot la l0 l1 l2 hG4 hF4
    have wr : k < 12 → -1 ≤ gi h 178 ((5 + (3 * k)) + 1).toNat ∧ gi h 178 ((5 + (3 * k)) + 1).toNat ≤ 1 := fun z => by rw [show ((5 + (3 * k)) + 1).toNat = 6 + 3 * k.toNat by omega]; exact what_r hG (r := 61) rfl rfl (by omega)
    have g1 := gri 0 8 hG4 (a := 178) (r := 61) (k := 1) rfl rfl
    have ts : tri (gi h 178) k.toNat = (gi h 178 ((5 + (3 * k)) + 0).toNat, gi h 178 ((5 + (3 * k)) + 1).toNat, gi h 178 ((5 + (3 * k)) + 2).toNat) := by unfold tri; rw [show 5 + 3 * k.toNat = ((5 + (3 * k)) + 0).toNat by omega, show 6 + 3 * k.toNat = ((5 + (3 * k)) + 1).toNat by omega, show 7 + 3 * k.toNat = ((5 + (3 * k)) + 2).toNat by omega]
    have wl1 : wlK (gi h 178) (k + 1).toNat = (wlK (gi h 178) k.toNat) ++ [tri (gi h 178) k.toNat] := by rw [tn_s k0.1]; exact wlK_s _ _
    refine x_iload_n 5 hK rfl rfl l2 ?_
    refine x_aload_n 6 hK rfl rfl l0 ?_
    refine x_iconst 7 hK rfl rfl ?_
    have g122 := gri (0) (12) hG (a := 178) (r := 61) (k := 3) rfl rfl
    refine x_ialoadE 8 hK rfl rfl (sp_178 (h := h4) hG4) (by omega) (by omega) (by omega) (e' := (gi h 178 3)) (c3) ?_
    refine x_if_icmp_ge 86 11 hK rfl rfl rfl (by omega) (by omega) (fun c5 => ?_) (fun c5 => ?_)
    · refine x_aload_n 87 hK rfl rfl l0 ?_
      refine x_iconst 88 hK rfl rfl ?_
      refine x_iload_n 89 hK rfl rfl l1 ?_
      refine x_iastore 90 hK rfl rfl (sp_178 (h := h4) hG4) (by omega) (by omega) (by omega) ?_
      obtain rfl : k = gi h 178 3 := by omega
      have e3 : gi (wI h4 178 3 d) 178 3 = d := gi_same (by omega)
      have ew : wl (RC (wI h4 178 3 d) 178 0) = (wl (RC h 178 0)).filter (fun q => !decide (q.1 = gi h 178 0)) := by
        rw [wl_RC (by omega), wl_RC (by omega), e3, ← wq]
        exact wlK_congr fun j z1 z2 => gi_k (by omega) _
      exact x_vret hK rfl ⟨rfl, GD_st (hG4) (r := 61) rfl rfl (fun z => by omega) (fun z => by omega) (fun j hj z => by omega), FRM_w (hF4) (r := 61) rfl rfl, by rw [wl_RC (by omega), ← la]; exact gi_k (by decide) _, ew⟩
    · refine x_iconst 12 hK rfl rfl ?_
      refine x_iconst 13 hK rfl rfl ?_
      refine x_iload_n 14 hK rfl rfl l2 ?_
      refine x_imul 15 hK rfl rfl ?_
      refine x_iadd 16 hK rfl rfl ?_
      refine x_istore_n 17 hK rfl rfl _ rfl ?_
      refine x_aload_n 18 hK rfl rfl (lk1_n l0 (by decide) (Or.inl rfl)) ?_
      refine x_iload_n 19 hK rfl rfl lk1_s ?_
      refine x_iconst 20 hK rfl rfl ?_
      refine x_iadd 21 hK rfl rfl ?_
      have g123 := gi_r h 178 ((5 + (3 * k)) + 0).toNat
      refine x_ialoadE 22 hK rfl rfl (sp_178 (h := h4) hG4) (by omega) (by omega) (by omega) (e' := (gi h 178 ((5 + (3 * k)) + 0).toNat)) ((ot _ (by omega))) ?_
      refine x_aload_n 23 hK rfl rfl (lk1_n l0 (by decide) (Or.inl rfl)) ?_
      refine x_iconst 24 hK rfl rfl ?_
      have g124 := gi_r h 178 0
      refine x_ialoadE 25 hK rfl rfl (sp_178 (h := h4) hG4) (by omega) (by omega) (by omega) (e' := (gi h 178 0)) (FRM_gi hF4 (r := 61) rfl rfl) ?_
      refine x_if_icmp_ne 46 28 hK rfl rfl rfl (by omega) (by omega) (fun c25 => ?_) (fun c25 => ?_)
      · refine x_iconst 47 hK rfl rfl ?_
        refine x_istore 49 hK rfl rfl _ rfl ?_
        refine x_iload 51 hK rfl rfl lk1_s ?_
        refine x_iconst 52 hK rfl rfl ?_
        refine x_if_icmp_ge 77 55 hK rfl rfl rfl (by omega) (by omega) (fun c => by omega) (fun _ => ?_)
        refine x_aload_n 56 hK rfl rfl (lk1_n (lk1_n l0 (by decide) (Or.inl rfl)) (by decide) (Or.inl rfl)) ?_
        refine x_iconst 57 hK rfl rfl ?_
        refine x_iconst 58 hK rfl rfl ?_
        refine x_iload_n 59 hK rfl rfl (lk1_n (lk1_n l1 (by decide) (Or.inl rfl)) (by decide) (Or.inl rfl)) ?_
        refine x_imul 60 hK rfl rfl ?_
        refine x_iadd 61 hK rfl rfl ?_
        refine x_iload 63 hK rfl rfl lk1_s ?_
        refine x_iadd 64 hK rfl rfl ?_
        refine x_aload_n 65 hK rfl rfl (lk1_n (lk1_n l0 (by decide) (Or.inl rfl)) (by decide) (Or.inl rfl)) ?_
        refine x_iload_n 66 hK rfl rfl (lk1_n lk1_s (by decide) (Or.inl rfl)) ?_
        refine x_iload 68 hK rfl rfl lk1_s ?_
        refine x_iadd 69 hK rfl rfl ?_
        refine x_ialoadE 70 hK rfl rfl (sp_178 (h := h4) hG4) (by omega) (by omega) (by omega) (e' := (gi h 178 ((5 + (3 * k)) + 0).toNat)) ((ot _ (by omega))) ?_
        refine x_iastore 71 hK rfl rfl (sp_178 (h := h4) hG4) (by omega) (by omega) (by omega) ?_
        refine x_iinc 74 hK rfl rfl lk1_s _ rfl ?_
        refine x_goto 49 hK rfl rfl ?_
        refine x_iload 51 hK rfl rfl lk1_s ?_
        refine x_iconst 52 hK rfl rfl ?_
        refine x_if_icmp_ge 77 55 hK rfl rfl rfl (by omega) (by omega) (fun c => by omega) (fun _ => ?_)
        refine x_aload_n 56 hK rfl rfl (lk1_n (lk1_n (lk1_n l0 (by decide) (Or.inl rfl)) (by decide) (Or.inl rfl)) (by decide) (Or.inl rfl)) ?_
        refine x_iconst 57 hK rfl rfl ?_
        refine x_iconst 58 hK rfl rfl ?_
        refine x_iload_n 59 hK rfl rfl (lk1_n (lk1_n (lk1_n l1 (by decide) (Or.inl rfl)) (by decide) (Or.inl rfl)) (by decide) (Or.inl rfl)) ?_
        refine x_imul 60 hK rfl rfl ?_
        refine x_iadd 61 hK rfl rfl ?_
        refine x_iload 63 hK rfl rfl lk1_s ?_
        refine x_iadd 64 hK rfl rfl ?_
        refine x_aload_n 65 hK rfl rfl (lk1_n (lk1_n (lk1_n l0 (by decide) (Or.inl rfl)) (by decide) (Or.inl rfl)) (by decide) (Or.inl rfl)) ?_
        refine x_iload_n 66 hK rfl rfl (lk1_n (lk1_n lk1_s (by decide) (Or.inl rfl)) (by decide) (Or.inl rfl)) ?_
        refine x_iload 68 hK rfl rfl lk1_s ?_
        refine x_iadd 69 hK rfl rfl ?_
        have g125 := gi_r h 178 ((5 + (3 * k)) + 1).toNat
        refine x_ialoadE 70 hK rfl rfl (sp_178 (h := h4) hG4) (by omega) (by omega) (by omega) (e' := (gi h 178 ((5 + (3 * k)) + 1).toNat)) ((gi_k (by omega) _).trans ((ot _ (by omega)))) ?_
        refine x_iastore 71 hK rfl rfl (sp_178 (h := h4) hG4) (by omega) (by omega) (by omega) ?_
        refine x_iinc 74 hK rfl rfl lk1_s _ rfl ?_
        refine x_goto 49 hK rfl rfl ?_
        refine x_iload 51 hK rfl rfl lk1_s ?_
        refine x_iconst 52 hK rfl rfl ?_
        refine x_if_icmp_ge 77 55 hK rfl rfl rfl (by omega) (by omega) (fun c => by omega) (fun _ => ?_)
        refine x_aload_n 56 hK rfl rfl (lk1_n (lk1_n (lk1_n (lk1_n l0 (by decide) (Or.inl rfl)) (by decide) (Or.inl rfl)) (by decide) (Or.inl rfl)) (by decide) (Or.inl rfl)) ?_
        refine x_iconst 57 hK rfl rfl ?_
        refine x_iconst 58 hK rfl rfl ?_
        refine x_iload_n 59 hK rfl rfl (lk1_n (lk1_n (lk1_n (lk1_n l1 (by decide) (Or.inl rfl)) (by decide) (Or.inl rfl)) (by decide) (Or.inl rfl)) (by decide) (Or.inl rfl)) ?_
        refine x_imul 60 hK rfl rfl ?_
        refine x_iadd 61 hK rfl rfl ?_
        refine x_iload 63 hK rfl rfl lk1_s ?_
        refine x_iadd 64 hK rfl rfl ?_
        refine x_aload_n 65 hK rfl rfl (lk1_n (lk1_n (lk1_n (lk1_n l0 (by decide) (Or.inl rfl)) (by decide) (Or.inl rfl)) (by decide) (Or.inl rfl)) (by decide) (Or.inl rfl)) ?_
        refine x_iload_n 66 hK rfl rfl (lk1_n (lk1_n (lk1_n lk1_s (by decide) (Or.inl rfl)) (by decide) (Or.inl rfl)) (by decide) (Or.inl rfl)) ?_
        refine x_iload 68 hK rfl rfl lk1_s ?_
        refine x_iadd 69 hK rfl rfl ?_
        have g126 := gi_r h 178 ((5 + (3 * k)) + 2).toNat
        refine x_ialoadE 70 hK rfl rfl (sp_178 (h := h4) hG4) (by omega) (by omega) (by omega) (e' := (gi h 178 ((5 + (3 * k)) + 2).toNat)) ((gi_k (by omega) _).trans ((gi_k (by omega) _).trans ((ot _ (by omega))))) ?_
        refine x_iastore 71 hK rfl rfl (sp_178 (h := h4) hG4) (by omega) (by omega) (by omega) ?_
        refine x_iinc 74 hK rfl rfl lk1_s _ rfl ?_
        refine x_goto 49 hK rfl rfl ?_
        refine x_iload 51 hK rfl rfl lk1_s ?_
        refine x_iconst 52 hK rfl rfl ?_
        refine x_if_icmp_ge 77 55 hK rfl rfl rfl (by omega) (by omega) (fun _ => ?_) (fun c => by omega)
        refine x_iinc 80 hK rfl rfl (lk1_n (lk1_n (lk1_n (lk1_n (lk1_n l1 (by decide) (Or.inl rfl)) (by decide) (Or.inl rfl)) (by decide) (Or.inl rfl)) (by decide) (Or.inl rfl)) (by decide) (Or.inl rfl)) _ rfl ?_
        refine x_iinc 83 hK rfl rfl (lk1_n (lk1_n (lk1_n (lk1_n (lk1_n (lk1_n l2 (by decide) (Or.inl rfl)) (by decide) (Or.inl rfl)) (by decide) (Or.inl rfl)) (by decide) (Or.inl rfl)) (by decide) (Or.inl rfl)) (by decide) (Or.inl rfl)) _ rfl ?_
        refine x_goto 4 hK rfl rfl ?_
        change K 4 _ _ (wI (wI (wI h4 178 ((5 + (3 * d)) + 0).toNat (gi h 178 ((5 + (3 * k)) + 0).toNat)) 178 ((5 + (3 * d)) + 1).toNat (gi h 178 ((5 + (3 * k)) + 1).toNat)) 178 ((5 + (3 * d)) + 2).toNat (gi h 178 ((5 + (3 * k)) + 2).toNat)) _ _
        have due : ¬ gi h 178 ((5 + (3 * k)) + 0).toNat = gi h 178 0 := by omega
        have t0 : gi (wI (wI (wI h4 178 ((5 + (3 * d)) + 0).toNat (gi h 178 ((5 + (3 * k)) + 0).toNat)) 178 ((5 + (3 * d)) + 1).toNat (gi h 178 ((5 + (3 * k)) + 1).toNat)) 178 ((5 + (3 * d)) + 2).toNat (gi h 178 ((5 + (3 * k)) + 2).toNat)) 178 ((5 + (3 * d)) + 0).toNat = (gi h 178 ((5 + (3 * k)) + 0).toNat) := (gi_k (by omega) _).trans ((gi_k (by omega) _).trans (gi_same (by omega)))
        have t1 : gi (wI (wI (wI h4 178 ((5 + (3 * d)) + 0).toNat (gi h 178 ((5 + (3 * k)) + 0).toNat)) 178 ((5 + (3 * d)) + 1).toNat (gi h 178 ((5 + (3 * k)) + 1).toNat)) 178 ((5 + (3 * d)) + 2).toNat (gi h 178 ((5 + (3 * k)) + 2).toNat)) 178 ((5 + (3 * d)) + 1).toNat = (gi h 178 ((5 + (3 * k)) + 1).toNat) := (gi_k (by omega) _).trans (gi_same (by omega))
        have t2 : gi (wI (wI (wI h4 178 ((5 + (3 * d)) + 0).toNat (gi h 178 ((5 + (3 * k)) + 0).toNat)) 178 ((5 + (3 * d)) + 1).toNat (gi h 178 ((5 + (3 * k)) + 1).toNat)) 178 ((5 + (3 * d)) + 2).toNat (gi h 178 ((5 + (3 * k)) + 2).toNat)) 178 ((5 + (3 * d)) + 2).toNat = (gi h 178 ((5 + (3 * k)) + 2).toNat) := gi_same (by omega)
        have tq : tri (gi (wI (wI (wI h4 178 ((5 + (3 * d)) + 0).toNat (gi h 178 ((5 + (3 * k)) + 0).toNat)) 178 ((5 + (3 * d)) + 1).toNat (gi h 178 ((5 + (3 * k)) + 1).toNat)) 178 ((5 + (3 * d)) + 2).toNat (gi h 178 ((5 + (3 * k)) + 2).toNat)) 178) d.toNat = (gi h 178 ((5 + (3 * k)) + 0).toNat, gi h 178 ((5 + (3 * k)) + 1).toNat, gi h 178 ((5 + (3 * k)) + 2).toNat) := by unfold tri; rw [show 5 + 3 * d.toNat = ((5 + (3 * d)) + 0).toNat by omega, show 6 + 3 * d.toNat = ((5 + (3 * d)) + 1).toNat by omega, show 7 + 3 * d.toNat = ((5 + (3 * d)) + 2).toNat by omega, t0, t1, t2]
        exact ih _ (by omega) (d + 1) (k + 1) _ _ rfl (by omega) (by omega) ((gi_k (by omega) _).trans ((gi_k (by omega) _).trans ((gi_k (by omega) _).trans c3))) (by rw [wl1, List.filter_append, show [tri (gi h 178) k.toNat].filter (fun q => !decide (q.1 = gi h 178 0)) = [tri (gi h 178) k.toNat] from flt_y (by rw [ts]; show (!decide (gi h 178 ((5 + (3 * k)) + 0).toNat = gi h 178 0)) = true; rw [decide_eq_false due]; rfl), ← wq, tn_s d0.1, wlK_s, tq, ← ts]; congr 1; exact wlK_congr fun j z1 z2 => (gi_k (by omega) _).trans ((gi_k (by omega) _).trans (gi_k (by omega) _))) ((fun j hj => (gi_k (by omega) _).trans ((gi_k (by omega) _).trans ((gi_k (by omega) _).trans (ot j (by omega)))))) (by rw [wl1, List.filter_append, show [tri (gi h 178) k.toNat].filter (fun q => decide (q.1 = gi h 178 0)) = [] from flt_n (by rw [ts]; exact decide_eq_false due), List.append_nil, ← la]; exact (gi_k (by omega) _).trans ((gi_k (by omega) _).trans (gi_k (by omega) _))) (lk1_n (lk1_n (lk1_n (lk1_n (lk1_n (lk1_n (lk1_n l0 (by decide) (Or.inl rfl)) (by decide) (Or.inl rfl)) (by decide) (Or.inl rfl)) (by decide) (Or.inl rfl)) (by decide) (Or.inl rfl)) (by decide) (Or.inl rfl)) (by decide) (Or.inl rfl)) (lk1_n lk1_s (by decide) (Or.inl rfl)) lk1_s (GD_st (GD_st (GD_st (hG4) (r := 61) rfl rfl (fun z => by omega) (fun z => by omega) (fun j hj z => by omega)) (r := 61) rfl rfl (fun z => by omega) (fun z => by omega) (fun j hj z => by omega)) (r := 61) rfl rfl (fun z => by omega) (fun z => by omega) (fun j hj z => by omega)) (FRM_wn 5 40 (FRM_wn 5 40 (FRM_wn 5 40 (hF4) (r := 61) rfl rfl rfl (by omega) (by omega)) (r := 61) rfl rfl rfl (by omega) (by omega)) (r := 61) rfl rfl rfl (by omega) (by omega))
      · refine x_aload_n 29 hK rfl rfl (lk1_n l0 (by decide) (Or.inl rfl)) ?_
        refine x_iconst 30 hK rfl rfl ?_
        refine x_aload_n 31 hK rfl rfl (lk1_n l0 (by decide) (Or.inl rfl)) ?_
        refine x_iconst 32 hK rfl rfl ?_
        have g127 := gri (0) (8) hG4 (a := 178) (r := 61) (k := 1) rfl rfl
        refine x_ialoadE 33 hK rfl rfl (sp_178 (h := h4) hG4) (by omega) (by omega) (by omega) (e' := (gi h4 178 1)) (rfl) ?_
        refine x_aload_n 34 hK rfl rfl (lk1_n l0 (by decide) (Or.inl rfl)) ?_
        refine x_iload_n 35 hK rfl rfl lk1_s ?_
        refine x_iconst 36 hK rfl rfl ?_
        refine x_iadd 37 hK rfl rfl ?_
        have g128 := gi_r h 178 ((5 + (3 * k)) + 1).toNat
        refine x_ialoadE 38 hK rfl rfl (sp_178 (h := h4) hG4) (by omega) (by omega) (by omega) (e' := (gi h 178 ((5 + (3 * k)) + 1).toNat)) ((ot _ (by omega))) ?_
        refine x_iadd 39 hK rfl rfl ?_
        refine x_callS 42 hK hmono rfl (Or.inl rfl) rfl [.int (I ((gi h4 178 1) + (gi h 178 ((5 + (3 * k)) + 1).toNat)))] [.int (I 1), .ref 178] rfl rfl (Nat.le_of_ble_eq_true rfl) (Nat.le_of_ble_eq_true rfl) (CLd_le (Nat.le_of_ble_eq_true rfl) (ctX11_put hSP (by omega))) ?_
        rintro v9 h9 ⟨e9, rfl⟩
        rw [e9]
        clear e9
        refine x_iastore 43 hK rfl rfl (sp_178 (h := h4) hG4) (by omega) (by omega) (by omega) ?_
        refine x_goto 80 hK rfl rfl ?_
        refine x_iinc 83 hK rfl rfl (lk1_n l2 (by decide) (Or.inl rfl)) _ rfl ?_
        refine x_goto 4 hK rfl rfl ?_
        have due : gi h 178 ((5 + (3 * k)) + 0).toNat = gi h 178 0 := by omega
        exact ih _ (by omega) d (k + 1) _ _ rfl (by omega) (by omega) ((gi_k (by decide) _).trans c3) (by rw [wl1, List.filter_append, show [tri (gi h 178) k.toNat].filter (fun q => !decide (q.1 = gi h 178 0)) = [] from flt_n (by rw [ts]; show (!decide (gi h 178 ((5 + (3 * k)) + 0).toNat = gi h 178 0)) = false; rw [decide_eq_true due]; rfl), List.append_nil, ← wq]; exact wlK_congr fun j z1 _ => gi_k (by omega) _) ((fun j hj => (gi_k (by omega) _).trans (ot j (by omega)))) (by rw [wl1, List.filter_append, List.foldl_append, show [tri (gi h 178) k.toNat].filter (fun q => decide (q.1 = gi h 178 0)) = [tri (gi h 178) k.toNat] from flt_y (by rw [ts]; exact decide_eq_true due), ← la, ts]; exact gi_same (by omega)) (lk1_n (lk1_n l0 (by decide) (Or.inl rfl)) (by decide) (Or.inl rfl)) (lk1_n (lk1_n l1 (by decide) (Or.inl rfl)) (by decide) (Or.inl rfl)) lk1_s (GD_st (hG4) (r := 61) rfl rfl (fun z => by omega) (fun z => by omega) (fun j hj z => by omega)) (FRM_w (hF4) (r := 61) rfl rfl)
  refine x_iconst 1 hK rfl rfl ?_
  refine x_istore_n 2 hK rfl rfl [(1, .int (I 0)), (0, .ref 178)] rfl ?_
  refine x_iconst 3 hK rfl rfl ?_
  refine x_istore_n 4 hK rfl rfl [(2, .int (I 0)), (1, .int (I 0)), (0, .ref 178)] rfl ?_
  exact loop _ 0 0 _ _ rfl (by omega) (by omega) (rfl) (rfl) ((fun _ _ => rfl)) (rfl) rfl rfl rfl (hG) ((FRM.rf : FRM gRL [(0, 61, 1, 1), (0, 61, 3, 3), (0, 61, 5, 40)] h h))
set_option maxRecDepth 4000 in
theorem ctX11_doesDueTF {SP : CT} (hSP : MONO SP) {sh : List (Nat × Nat)} {h : aH} (hG : GD gE gRL sh h) : CLd SP 4 mX11_doesDue [.ref 179] h 0 0 (fun rv h' => rv = none ∧ GD gE gRL sh h' ∧ FRM gRL [(0, 62, 1, 1), (0, 62, 3, 3), (0, 62, 5, 40)] h h' ∧ gi h' 179 1 = ((wl (RC h 179 0)).filter (fun q => decide (q.1 = gi h 179 0))).foldl ptF (gi h 179 1) ∧ wl (RC h' 179 0) = (wl (RC h 179 0)).filter (fun q => !decide (q.1 = gi h 179 0))) := by
  refine x_met _ rfl (Nat.le_of_ble_eq_true rfl) (fun K hK => ?_)
  have hmono := MONO_CLd hSP 3
  have g3 := gri 0 12 hG (a := 179) (r := 62) (k := 3) rfl rfl
  have loop : ∀ (mz : Nat) (d k : Int) (h4 : aH) (ls : List (Nat × Value)), ((gi h 179 3 - k).toNat = mz) → (0 ≤ k ∧ k ≤ gi h 179 3) → (0 ≤ d ∧ d ≤ k) → (gi h4 179 3 = gi h 179 3) → (wlK (gi h4 179) d.toNat = (wlK (gi h 179) k.toNat).filter (fun q => !decide (q.1 = gi h 179 0))) → (∀ j : Nat, 5 + 3 * k ≤ j → gi h4 179 j = gi h 179 j) → (gi h4 179 1 = ((wlK (gi h 179) k.toNat).filter (fun q => decide (q.1 = gi h 179 0))).foldl ptF (gi h 179 1)) → lk ls 0 = some (.ref 179) → lk ls 1 = some (.int (I d)) → lk ls 2 = some (.int (I k)) → GD gE gRL sh h4 → FRM gRL [(0, 62, 1, 1), (0, 62, 3, 3), (0, 62, 5, 40)] h h4 → K 4 ls [] h4 0 0 := by
    intro mz
    induction mz using Nat.strongRecOn with
    | ind mz ih =>
    intro d k h4 ls hm k0 d0 c3 wq ot la l0 l1 l2 hG4 hF4
    have wr : k < 12 → -1 ≤ gi h 179 ((5 + (3 * k)) + 1).toNat ∧ gi h 179 ((5 + (3 * k)) + 1).toNat ≤ 1 := fun z => by rw [show ((5 + (3 * k)) + 1).toNat = 6 + 3 * k.toNat by omega]; exact what_r hG (r := 62) rfl rfl (by omega)
    have g1 := gri 0 8 hG4 (a := 179) (r := 62) (k := 1) rfl rfl
    have ts : tri (gi h 179) k.toNat = (gi h 179 ((5 + (3 * k)) + 0).toNat, gi h 179 ((5 + (3 * k)) + 1).toNat, gi h 179 ((5 + (3 * k)) + 2).toNat) := by unfold tri; rw [show 5 + 3 * k.toNat = ((5 + (3 * k)) + 0).toNat by omega, show 6 + 3 * k.toNat = ((5 + (3 * k)) + 1).toNat by omega, show 7 + 3 * k.toNat = ((5 + (3 * k)) + 2).toNat by omega]
    have wl1 : wlK (gi h 179) (k + 1).toNat = (wlK (gi h 179) k.toNat) ++ [tri (gi h 179) k.toNat] := by rw [tn_s k0.1]; exact wlK_s _ _
    refine x_iload_n 5 hK rfl rfl l2 ?_
    refine x_aload_n 6 hK rfl rfl l0 ?_
    refine x_iconst 7 hK rfl rfl ?_
    have g130 := gri (0) (12) hG (a := 179) (r := 62) (k := 3) rfl rfl
    refine x_ialoadE 8 hK rfl rfl (sp_179 (h := h4) hG4) (by omega) (by omega) (by omega) (e' := (gi h 179 3)) (c3) ?_
    refine x_if_icmp_ge 86 11 hK rfl rfl rfl (by omega) (by omega) (fun c5 => ?_) (fun c5 => ?_)
    · refine x_aload_n 87 hK rfl rfl l0 ?_
      refine x_iconst 88 hK rfl rfl ?_
      refine x_iload_n 89 hK rfl rfl l1 ?_
      refine x_iastore 90 hK rfl rfl (sp_179 (h := h4) hG4) (by omega) (by omega) (by omega) ?_
      obtain rfl : k = gi h 179 3 := by omega
      have e3 : gi (wI h4 179 3 d) 179 3 = d := gi_same (by omega)
      have ew : wl (RC (wI h4 179 3 d) 179 0) = (wl (RC h 179 0)).filter (fun q => !decide (q.1 = gi h 179 0)) := by
        rw [wl_RC (by omega), wl_RC (by omega), e3, ← wq]
        exact wlK_congr fun j z1 z2 => gi_k (by omega) _
      exact x_vret hK rfl ⟨rfl, GD_st (hG4) (r := 62) rfl rfl (fun z => by omega) (fun z => by omega) (fun j hj z => by omega), FRM_w (hF4) (r := 62) rfl rfl, by rw [wl_RC (by omega), ← la]; exact gi_k (by decide) _, ew⟩
    · refine x_iconst 12 hK rfl rfl ?_
      refine x_iconst 13 hK rfl rfl ?_
      refine x_iload_n 14 hK rfl rfl l2 ?_
      refine x_imul 15 hK rfl rfl ?_
      refine x_iadd 16 hK rfl rfl ?_
      refine x_istore_n 17 hK rfl rfl _ rfl ?_
      refine x_aload_n 18 hK rfl rfl (lk1_n l0 (by decide) (Or.inl rfl)) ?_
      refine x_iload_n 19 hK rfl rfl lk1_s ?_
      refine x_iconst 20 hK rfl rfl ?_
      refine x_iadd 21 hK rfl rfl ?_
      have g131 := gi_r h 179 ((5 + (3 * k)) + 0).toNat
      refine x_ialoadE 22 hK rfl rfl (sp_179 (h := h4) hG4) (by omega) (by omega) (by omega) (e' := (gi h 179 ((5 + (3 * k)) + 0).toNat)) ((ot _ (by omega))) ?_
      refine x_aload_n 23 hK rfl rfl (lk1_n l0 (by decide) (Or.inl rfl)) ?_
      refine x_iconst 24 hK rfl rfl ?_
      have g132 := gi_r h 179 0
      refine x_ialoadE 25 hK rfl rfl (sp_179 (h := h4) hG4) (by omega) (by omega) (by omega) (e' := (gi h 179 0)) (FRM_gi hF4 (r := 62) rfl rfl) ?_
      refine x_if_icmp_ne 46 28 hK rfl rfl rfl (by omega) (by omega) (fun c25 => ?_) (fun c25 => ?_)
      · refine x_iconst 47 hK rfl rfl ?_
        refine x_istore 49 hK rfl rfl _ rfl ?_
        refine x_iload 51 hK rfl rfl lk1_s ?_
        refine x_iconst 52 hK rfl rfl ?_
        refine x_if_icmp_ge 77 55 hK rfl rfl rfl (by omega) (by omega) (fun c => by omega) (fun _ => ?_)
        refine x_aload_n 56 hK rfl rfl (lk1_n (lk1_n l0 (by decide) (Or.inl rfl)) (by decide) (Or.inl rfl)) ?_
        refine x_iconst 57 hK rfl rfl ?_
        refine x_iconst 58 hK rfl rfl ?_
        refine x_iload_n 59 hK rfl rfl (lk1_n (lk1_n l1 (by decide) (Or.inl rfl)) (by decide) (Or.inl rfl)) ?_
        refine x_imul 60 hK rfl rfl ?_
        refine x_iadd 61 hK rfl rfl ?_
        refine x_iload 63 hK rfl rfl lk1_s ?_
        refine x_iadd 64 hK rfl rfl ?_
        refine x_aload_n 65 hK rfl rfl (lk1_n (lk1_n l0 (by decide) (Or.inl rfl)) (by decide) (Or.inl rfl)) ?_
        refine x_iload_n 66 hK rfl rfl (lk1_n lk1_s (by decide) (Or.inl rfl)) ?_
        refine x_iload 68 hK rfl rfl lk1_s ?_
        refine x_iadd 69 hK rfl rfl ?_
        refine x_ialoadE 70 hK rfl rfl (sp_179 (h := h4) hG4) (by omega) (by omega) (by omega) (e' := (gi h 179 ((5 + (3 * k)) + 0).toNat)) ((ot _ (by omega))) ?_
        refine x_iastore 71 hK rfl rfl (sp_179 (h := h4) hG4) (by omega) (by omega) (by omega) ?_
        refine x_iinc 74 hK rfl rfl lk1_s _ rfl ?_
        refine x_goto 49 hK rfl rfl ?_
        refine x_iload 51 hK rfl rfl lk1_s ?_
        refine x_iconst 52 hK rfl rfl ?_
        refine x_if_icmp_ge 77 55 hK rfl rfl rfl (by omega) (by omega) (fun c => by omega) (fun _ => ?_)
        refine x_aload_n 56 hK rfl rfl (lk1_n (lk1_n (lk1_n l0 (by decide) (Or.inl rfl)) (by decide) (Or.inl rfl)) (by decide) (Or.inl rfl)) ?_
        refine x_iconst 57 hK rfl rfl ?_
        refine x_iconst 58 hK rfl rfl ?_
        refine x_iload_n 59 hK rfl rfl (lk1_n (lk1_n (lk1_n l1 (by decide) (Or.inl rfl)) (by decide) (Or.inl rfl)) (by decide) (Or.inl rfl)) ?_
        refine x_imul 60 hK rfl rfl ?_
        refine x_iadd 61 hK rfl rfl ?_
        refine x_iload 63 hK rfl rfl lk1_s ?_
        refine x_iadd 64 hK rfl rfl ?_
        refine x_aload_n 65 hK rfl rfl (lk1_n (lk1_n (lk1_n l0 (by decide) (Or.inl rfl)) (by decide) (Or.inl rfl)) (by decide) (Or.inl rfl)) ?_
        refine x_iload_n 66 hK rfl rfl (lk1_n (lk1_n lk1_s (by decide) (Or.inl rfl)) (by decide) (Or.inl rfl)) ?_
        refine x_iload 68 hK rfl rfl lk1_s ?_
        refine x_iadd 69 hK rfl rfl ?_
        have g133 := gi_r h 179 ((5 + (3 * k)) + 1).toNat
        refine x_ialoadE 70 hK rfl rfl (sp_179 (h := h4) hG4) (by omega) (by omega) (by omega) (e' := (gi h 179 ((5 + (3 * k)) + 1).toNat)) ((gi_k (by omega) _).trans ((ot _ (by omega)))) ?_
        refine x_iastore 71 hK rfl rfl (sp_179 (h := h4) hG4) (by omega) (by omega) (by omega) ?_
        refine x_iinc 74 hK rfl rfl lk1_s _ rfl ?_
        refine x_goto 49 hK rfl rfl ?_
        refine x_iload 51 hK rfl rfl lk1_s ?_
        refine x_iconst 52 hK rfl rfl ?_
        refine x_if_icmp_ge 77 55 hK rfl rfl rfl (by omega) (by omega) (fun c => by omega) (fun _ => ?_)
        refine x_aload_n 56 hK rfl rfl (lk1_n (lk1_n (lk1_n (lk1_n l0 (by decide) (Or.inl rfl)) (by decide) (Or.inl rfl)) (by decide) (Or.inl rfl)) (by decide) (Or.inl rfl)) ?_
        refine x_iconst 57 hK rfl rfl ?_
        refine x_iconst 58 hK rfl rfl ?_
        refine x_iload_n 59 hK rfl rfl (lk1_n (lk1_n (lk1_n (lk1_n l1 (by decide) (Or.inl rfl)) (by decide) (Or.inl rfl)) (by decide) (Or.inl rfl)) (by decide) (Or.inl rfl)) ?_
        refine x_imul 60 hK rfl rfl ?_
        refine x_iadd 61 hK rfl rfl ?_
        refine x_iload 63 hK rfl rfl lk1_s ?_
        refine x_iadd 64 hK rfl rfl ?_
        refine x_aload_n 65 hK rfl rfl (lk1_n (lk1_n (lk1_n (lk1_n l0 (by decide) (Or.inl rfl)) (by decide) (Or.inl rfl)) (by decide) (Or.inl rfl)) (by decide) (Or.inl rfl)) ?_
        refine x_iload_n 66 hK rfl rfl (lk1_n (lk1_n (lk1_n lk1_s (by decide) (Or.inl rfl)) (by decide) (Or.inl rfl)) (by decide) (Or.inl rfl)) ?_
        refine x_iload 68 hK rfl rfl lk1_s ?_
        refine x_iadd 69 hK rfl rfl ?_
        have g134 := gi_r h 179 ((5 + (3 * k)) + 2).toNat
        refine x_ialoadE 70 hK rfl rfl (sp_179 (h := h4) hG4) (by omega) (by omega) (by omega) (e' := (gi h 179 ((5 + (3 * k)) + 2).toNat)) ((gi_k (by omega) _).trans ((gi_k (by omega) _).trans ((ot _ (by omega))))) ?_
        refine x_iastore 71 hK rfl rfl (sp_179 (h := h4) hG4) (by omega) (by omega) (by omega) ?_
        refine x_iinc 74 hK rfl rfl lk1_s _ rfl ?_
        refine x_goto 49 hK rfl rfl ?_
        refine x_iload 51 hK rfl rfl lk1_s ?_
        refine x_iconst 52 hK rfl rfl ?_
        refine x_if_icmp_ge 77 55 hK rfl rfl rfl (by omega) (by omega) (fun _ => ?_) (fun c => by omega)
        refine x_iinc 80 hK rfl rfl (lk1_n (lk1_n (lk1_n (lk1_n (lk1_n l1 (by decide) (Or.inl rfl)) (by decide) (Or.inl rfl)) (by decide) (Or.inl rfl)) (by decide) (Or.inl rfl)) (by decide) (Or.inl rfl)) _ rfl ?_
        refine x_iinc 83 hK rfl rfl (lk1_n (lk1_n (lk1_n (lk1_n (lk1_n (lk1_n l2 (by decide) (Or.inl rfl)) (by decide) (Or.inl rfl)) (by decide) (Or.inl rfl)) (by decide) (Or.inl rfl)) (by decide) (Or.inl rfl)) (by decide) (Or.inl rfl)) _ rfl ?_
        refine x_goto 4 hK rfl rfl ?_
        change K 4 _ _ (wI (wI (wI h4 179 ((5 + (3 * d)) + 0).toNat (gi h 179 ((5 + (3 * k)) + 0).toNat)) 179 ((5 + (3 * d)) + 1).toNat (gi h 179 ((5 + (3 * k)) + 1).toNat)) 179 ((5 + (3 * d)) + 2).toNat (gi h 179 ((5 + (3 * k)) + 2).toNat)) _ _
        have due : ¬ gi h 179 ((5 + (3 * k)) + 0).toNat = gi h 179 0 := by omega
        have t0 : gi (wI (wI (wI h4 179 ((5 + (3 * d)) + 0).toNat (gi h 179 ((5 + (3 * k)) + 0).toNat)) 179 ((5 + (3 * d)) + 1).toNat (gi h 179 ((5 + (3 * k)) + 1).toNat)) 179 ((5 + (3 * d)) + 2).toNat (gi h 179 ((5 + (3 * k)) + 2).toNat)) 179 ((5 + (3 * d)) + 0).toNat = (gi h 179 ((5 + (3 * k)) + 0).toNat) := (gi_k (by omega) _).trans ((gi_k (by omega) _).trans (gi_same (by omega)))
        have t1 : gi (wI (wI (wI h4 179 ((5 + (3 * d)) + 0).toNat (gi h 179 ((5 + (3 * k)) + 0).toNat)) 179 ((5 + (3 * d)) + 1).toNat (gi h 179 ((5 + (3 * k)) + 1).toNat)) 179 ((5 + (3 * d)) + 2).toNat (gi h 179 ((5 + (3 * k)) + 2).toNat)) 179 ((5 + (3 * d)) + 1).toNat = (gi h 179 ((5 + (3 * k)) + 1).toNat) := (gi_k (by omega) _).trans (gi_same (by omega))
        have t2 : gi (wI (wI (wI h4 179 ((5 + (3 * d)) + 0).toNat (gi h 179 ((5 + (3 * k)) + 0).toNat)) 179 ((5 + (3 * d)) + 1).toNat (gi h 179 ((5 + (3 * k)) + 1).toNat)) 179 ((5 + (3 * d)) + 2).toNat (gi h 179 ((5 + (3 * k)) + 2).toNat)) 179 ((5 + (3 * d)) + 2).toNat = (gi h 179 ((5 + (3 * k)) + 2).toNat) := gi_same (by omega)
        have tq : tri (gi (wI (wI (wI h4 179 ((5 + (3 * d)) + 0).toNat (gi h 179 ((5 + (3 * k)) + 0).toNat)) 179 ((5 + (3 * d)) + 1).toNat (gi h 179 ((5 + (3 * k)) + 1).toNat)) 179 ((5 + (3 * d)) + 2).toNat (gi h 179 ((5 + (3 * k)) + 2).toNat)) 179) d.toNat = (gi h 179 ((5 + (3 * k)) + 0).toNat, gi h 179 ((5 + (3 * k)) + 1).toNat, gi h 179 ((5 + (3 * k)) + 2).toNat) := by unfold tri; rw [show 5 + 3 * d.toNat = ((5 + (3 * d)) + 0).toNat by omega, show 6 + 3 * d.toNat = ((5 + (3 * d)) + 1).toNat by omega, show 7 + 3 * d.toNat = ((5 + (3 * d)) + 2).toNat by omega, t0, t1, t2]
        exact ih _ (by omega) (d + 1) (k + 1) _ _ rfl (by omega) (by omega) ((gi_k (by omega) _).trans ((gi_k (by omega) _).trans ((gi_k (by omega) _).trans c3))) (by rw [wl1, List.filter_append, show [tri (gi h 179) k.toNat].filter (fun q => !decide (q.1 = gi h 179 0)) = [tri (gi h 179) k.toNat] from flt_y (by rw [ts]; show (!decide (gi h 179 ((5 + (3 * k)) + 0).toNat = gi h 179 0)) = true; rw [decide_eq_false due]; rfl), ← wq, tn_s d0.1, wlK_s, tq, ← ts]; congr 1; exact wlK_congr fun j z1 z2 => (gi_k (by omega) _).trans ((gi_k (by omega) _).trans (gi_k (by omega) _))) ((fun j hj => (gi_k (by omega) _).trans ((gi_k (by omega) _).trans ((gi_k (by omega) _).trans (ot j (by omega)))))) (by rw [wl1, List.filter_append, show [tri (gi h 179) k.toNat].filter (fun q => decide (q.1 = gi h 179 0)) = [] from flt_n (by rw [ts]; exact decide_eq_false due), List.append_nil, ← la]; exact (gi_k (by omega) _).trans ((gi_k (by omega) _).trans (gi_k (by omega) _))) (lk1_n (lk1_n (lk1_n (lk1_n (lk1_n (lk1_n (lk1_n l0 (by decide) (Or.inl rfl)) (by decide) (Or.inl rfl)) (by decide) (Or.inl rfl)) (by decide) (Or.inl rfl)) (by decide) (Or.inl rfl)) (by decide) (Or.inl rfl)) (by decide) (Or.inl rfl)) (lk1_n lk1_s (by decide) (Or.inl rfl)) lk1_s (GD_st (GD_st (GD_st (hG4) (r := 62) rfl rfl (fun z => by omega) (fun z => by omega) (fun j hj z => by omega)) (r := 62) rfl rfl (fun z => by omega) (fun z => by omega) (fun j hj z => by omega)) (r := 62) rfl rfl (fun z => by omega) (fun z => by omega) (fun j hj z => by omega)) (FRM_wn 5 40 (FRM_wn 5 40 (FRM_wn 5 40 (hF4) (r := 62) rfl rfl rfl (by omega) (by omega)) (r := 62) rfl rfl rfl (by omega) (by omega)) (r := 62) rfl rfl rfl (by omega) (by omega))
      · refine x_aload_n 29 hK rfl rfl (lk1_n l0 (by decide) (Or.inl rfl)) ?_
        refine x_iconst 30 hK rfl rfl ?_
        refine x_aload_n 31 hK rfl rfl (lk1_n l0 (by decide) (Or.inl rfl)) ?_
        refine x_iconst 32 hK rfl rfl ?_
        have g135 := gri (0) (8) hG4 (a := 179) (r := 62) (k := 1) rfl rfl
        refine x_ialoadE 33 hK rfl rfl (sp_179 (h := h4) hG4) (by omega) (by omega) (by omega) (e' := (gi h4 179 1)) (rfl) ?_
        refine x_aload_n 34 hK rfl rfl (lk1_n l0 (by decide) (Or.inl rfl)) ?_
        refine x_iload_n 35 hK rfl rfl lk1_s ?_
        refine x_iconst 36 hK rfl rfl ?_
        refine x_iadd 37 hK rfl rfl ?_
        have g136 := gi_r h 179 ((5 + (3 * k)) + 1).toNat
        refine x_ialoadE 38 hK rfl rfl (sp_179 (h := h4) hG4) (by omega) (by omega) (by omega) (e' := (gi h 179 ((5 + (3 * k)) + 1).toNat)) ((ot _ (by omega))) ?_
        refine x_iadd 39 hK rfl rfl ?_
        refine x_callS 42 hK hmono rfl (Or.inl rfl) rfl [.int (I ((gi h4 179 1) + (gi h 179 ((5 + (3 * k)) + 1).toNat)))] [.int (I 1), .ref 179] rfl rfl (Nat.le_of_ble_eq_true rfl) (Nat.le_of_ble_eq_true rfl) (CLd_le (Nat.le_of_ble_eq_true rfl) (ctX11_put hSP (by omega))) ?_
        rintro v9 h9 ⟨e9, rfl⟩
        rw [e9]
        clear e9
        refine x_iastore 43 hK rfl rfl (sp_179 (h := h4) hG4) (by omega) (by omega) (by omega) ?_
        refine x_goto 80 hK rfl rfl ?_
        refine x_iinc 83 hK rfl rfl (lk1_n l2 (by decide) (Or.inl rfl)) _ rfl ?_
        refine x_goto 4 hK rfl rfl ?_
        have due : gi h 179 ((5 + (3 * k)) + 0).toNat = gi h 179 0 := by omega
        exact ih _ (by omega) d (k + 1) _ _ rfl (by omega) (by omega) ((gi_k (by decide) _).trans c3) (by rw [wl1, List.filter_append, show [tri (gi h 179) k.toNat].filter (fun q => !decide (q.1 = gi h 179 0)) = [] from flt_n (by rw [ts]; show (!decide (gi h 179 ((5 + (3 * k)) + 0).toNat = gi h 179 0)) = false; rw [decide_eq_true due]; rfl), List.append_nil, ← wq]; exact wlK_congr fun j z1 _ => gi_k (by omega) _) ((fun j hj => (gi_k (by omega) _).trans (ot j (by omega)))) (by rw [wl1, List.filter_append, List.foldl_append, show [tri (gi h 179) k.toNat].filter (fun q => decide (q.1 = gi h 179 0)) = [tri (gi h 179) k.toNat] from flt_y (by rw [ts]; exact decide_eq_true due), ← la, ts]; exact gi_same (by omega)) (lk1_n (lk1_n l0 (by decide) (Or.inl rfl)) (by decide) (Or.inl rfl)) (lk1_n (lk1_n l1 (by decide) (Or.inl rfl)) (by decide) (Or.inl rfl)) lk1_s (GD_st (hG4) (r := 62) rfl rfl (fun z => by omega) (fun z => by omega) (fun j hj z => by omega)) (FRM_w (hF4) (r := 62) rfl rfl)
  refine x_iconst 1 hK rfl rfl ?_
  refine x_istore_n 2 hK rfl rfl [(1, .int (I 0)), (0, .ref 179)] rfl ?_
  refine x_iconst 3 hK rfl rfl ?_
  refine x_istore_n 4 hK rfl rfl [(2, .int (I 0)), (1, .int (I 0)), (0, .ref 179)] rfl ?_
  exact loop _ 0 0 _ _ rfl (by omega) (by omega) (rfl) (rfl) ((fun _ _ => rfl)) (rfl) rfl rfl rfl (hG) ((FRM.rf : FRM gRL [(0, 62, 1, 1), (0, 62, 3, 3), (0, 62, 5, 40)] h h))
set_option maxRecDepth 4000 in
theorem ctX11_hitsAtF {SP : CT} (hSP : MONO SP) {sh : List (Nat × Nat)} {h : aH} (hG : GD gE gRL sh h) {a b : Int} (ra : r32 a) (rb : r32 b) : CLd SP 2 mX11_hitsAt [.ref 171, .int (I a), .int (I b)] h 0 0 (fun rv h' => h' = h ∧ rv = some (.int (I (hitN (gi h 175) (gi h 176) a b (gi h 171 6).toNat)))) := by
  refine x_met _ rfl (Nat.le_of_ble_eq_true rfl) (fun K hK => ?_)
  have hmono := MONO_CLd hSP 1
  have loop : ∀ (mz : Nat) (e i : Int) (ls : List (Nat × Value)), ((gi h 171 6 - i).toNat = mz) → (0 ≤ i ∧ i ≤ gi h 171 6) → (e = hitN (gi h 175) (gi h 176) a b i.toNat) → lk ls 0 = some (.ref 171) → lk ls 1 = some (.int (I a)) → lk ls 2 = some (.int (I b)) → lk ls 3 = some (.int (I e)) → lk ls 4 = some (.int (I i)) → K 5 ls [] h 0 0 := by
    intro mz
    induction mz using Nat.strongRecOn with
    | ind mz ih =>
    intro e i ls hm i0 ee l0 l1 l2 l3 l4
    have g6 := gri 0 16 hG (a := 171) (r := 54) (k := 6) rfl rfl
    have hb := hitN_b (gi h 175) (gi h 176) a b i.toNat
    refine x_iload 7 hK rfl rfl l4 ?_
    refine x_aload_n 8 hK rfl rfl l0 ?_
    have g138 := gri (0) (16) hG (a := 171) (r := 54) (k := 6) rfl rfl
    refine x_getE 11 hK rfl (Or.inl rfl) rfl (sp_171 (h := h) hG) (e := (gi h 171 6)) (rfl) ?_
    refine x_if_icmp_ge 53 14 hK rfl rfl rfl (by omega) (by omega) (fun c4 => ?_) (fun c4 => ?_)
    · refine x_iload_n 54 hK rfl rfl l3 ?_
      exact x_iret hK rfl ⟨rfl, by rw [ee, show i = gi h 171 6 by omega]⟩
    · refine x_iload_n 15 hK rfl rfl l3 ?_
      refine x_aload_n 16 hK rfl rfl l0 ?_
      refine x_getR 19 hK rfl rfl (sp_171 (h := h) hG) (rf_171_11 (h := h) hG) ?_
      refine x_iload 21 hK rfl rfl l4 ?_
      have g139 := grn (0) (999) hG (a := 175) (r := 58) (k := i.toNat) rfl rfl (by omega)
      refine x_ialoadE 22 hK rfl rfl (sp_175 (h := h) hG) (by omega) (by omega) (by omega) (e' := (gi h 175 i.toNat)) (rfl) ?_
      refine x_iload_n 23 hK rfl rfl l1 ?_
      refine x_if_icmp_ne 41 26 hK rfl rfl rfl (by omega) (by omega) (fun c13 => ?_) (fun c13 => ?_)
      · refine x_iconst 42 hK rfl rfl ?_
        refine x_callS 45 hK hmono rfl (Or.inl rfl) rfl [.int (I 0)] [.int (I e)] rfl rfl (Nat.le_of_ble_eq_true rfl) (Nat.le_of_ble_eq_true rfl) (CLd_le (Nat.le_of_ble_eq_true rfl) (ctX11_flag (by omega))) ?_
        rintro v9 h9 ⟨e9, rfl⟩
        rw [e9]
        clear e9
        refine x_iadd 46 hK rfl rfl ?_
        refine x_istore_n 47 hK rfl rfl _ rfl ?_
        refine x_iinc 50 hK rfl rfl (lk1_n l4 (by decide) (Or.inl rfl)) _ rfl ?_
        refine x_goto 5 hK rfl rfl ?_
        exact ih _ (by omega) (e + 0) (i + 1) _ rfl (by omega) (by rw [hitN_s i0.1, ← ee]; first | rw [if_pos (by omega)] | rw [if_neg (by omega)]) (lk1_n (lk1_n l0 (by decide) (Or.inl rfl)) (by decide) (Or.inl rfl)) (lk1_n (lk1_n l1 (by decide) (Or.inl rfl)) (by decide) (Or.inl rfl)) (lk1_n (lk1_n l2 (by decide) (Or.inl rfl)) (by decide) (Or.inl rfl)) (lk1_n lk1_s (by decide) (Or.inl rfl)) lk1_s
      · refine x_aload_n 27 hK rfl rfl l0 ?_
        refine x_getR 30 hK rfl rfl (sp_171 (h := h) hG) (rf_171_12 (h := h) hG) ?_
        refine x_iload 32 hK rfl rfl l4 ?_
        have g141 := gi_r h 176 i.toNat
        refine x_ialoadE 33 hK rfl rfl (sp_176 (h := h) hG) (by omega) (by omega) (by omega) (e' := (gi h 176 i.toNat)) (rfl) ?_
        refine x_iload_n 34 hK rfl rfl l2 ?_
        refine x_if_icmp_ne 41 37 hK rfl rfl rfl (by omega) (by omega) (fun c26 => ?_) (fun c26 => ?_)
        · refine x_iconst 42 hK rfl rfl ?_
          refine x_callS 45 hK hmono rfl (Or.inl rfl) rfl [.int (I 0)] [.int (I e)] rfl rfl (Nat.le_of_ble_eq_true rfl) (Nat.le_of_ble_eq_true rfl) (CLd_le (Nat.le_of_ble_eq_true rfl) (ctX11_flag (by omega))) ?_
          rintro v9 h9 ⟨e9, rfl⟩
          rw [e9]
          clear e9
          refine x_iadd 46 hK rfl rfl ?_
          refine x_istore_n 47 hK rfl rfl _ rfl ?_
          refine x_iinc 50 hK rfl rfl (lk1_n l4 (by decide) (Or.inl rfl)) _ rfl ?_
          refine x_goto 5 hK rfl rfl ?_
          exact ih _ (by omega) (e + 0) (i + 1) _ rfl (by omega) (by rw [hitN_s i0.1, ← ee]; first | rw [if_pos (by omega)] | rw [if_neg (by omega)]) (lk1_n (lk1_n l0 (by decide) (Or.inl rfl)) (by decide) (Or.inl rfl)) (lk1_n (lk1_n l1 (by decide) (Or.inl rfl)) (by decide) (Or.inl rfl)) (lk1_n (lk1_n l2 (by decide) (Or.inl rfl)) (by decide) (Or.inl rfl)) (lk1_n lk1_s (by decide) (Or.inl rfl)) lk1_s
        · refine x_iconst 38 hK rfl rfl ?_
          refine x_goto 42 hK rfl rfl ?_
          refine x_callS 45 hK hmono rfl (Or.inl rfl) rfl [.int (I 1)] [.int (I e)] rfl rfl (Nat.le_of_ble_eq_true rfl) (Nat.le_of_ble_eq_true rfl) (CLd_le (Nat.le_of_ble_eq_true rfl) (ctX11_flag (by omega))) ?_
          rintro v9 h9 ⟨e9, rfl⟩
          rw [e9]
          clear e9
          refine x_iadd 46 hK rfl rfl ?_
          refine x_istore_n 47 hK rfl rfl _ rfl ?_
          refine x_iinc 50 hK rfl rfl (lk1_n l4 (by decide) (Or.inl rfl)) _ rfl ?_
          refine x_goto 5 hK rfl rfl ?_
          exact ih _ (by omega) (e + 1) (i + 1) _ rfl (by omega) (by rw [hitN_s i0.1, ← ee]; first | rw [if_pos (by omega)] | rw [if_neg (by omega)]) (lk1_n (lk1_n l0 (by decide) (Or.inl rfl)) (by decide) (Or.inl rfl)) (lk1_n (lk1_n l1 (by decide) (Or.inl rfl)) (by decide) (Or.inl rfl)) (lk1_n (lk1_n l2 (by decide) (Or.inl rfl)) (by decide) (Or.inl rfl)) (lk1_n lk1_s (by decide) (Or.inl rfl)) lk1_s
  refine x_iconst 1 hK rfl rfl ?_
  refine x_istore_n 2 hK rfl rfl [(3, .int (I 0)), (0, .ref 171), (1, .int (I a)), (2, .int (I b))] rfl ?_
  refine x_iconst 3 hK rfl rfl ?_
  refine x_istore 5 hK rfl rfl [(4, .int (I 0)), (3, .int (I 0)), (0, .ref 171), (1, .int (I a)), (2, .int (I b))] rfl ?_
  have g6 := gri 0 16 hG (a := 171) (r := 54) (k := 6) rfl rfl
  exact loop _ 0 0 _ rfl (by omega) (rfl) rfl rfl rfl rfl rfl
theorem mh_178 {k : Nat} (hk : 41 ≤ k) : mHas [(0, 61, 1, 1), (0, 61, 3, 3), (0, 61, 5, 40)] 0 61 k = false := by
  refine mHas_no ?_
  have e : ∀ x y : Nat, y ≤ 40 → (Nat.ble x k && Nat.ble k y) = false := fun x y hy => by
    have : Nat.ble k y = false := by
      cases c : Nat.ble k y
      · rfl
      · have := Nat.le_of_ble_eq_true c; omega
    rw [this, Bool.and_false]
  simp only [List.all_cons, List.all_nil, Bool.and_true, Bool.and_assoc, e _ 1 (by omega), e _ 3 (by omega), e _ 40 (by omega), Bool.and_false, Bool.not_false]
set_option maxRecDepth 4000 in
theorem ctX11_stepGoesNF {SP : CT} (hSP : MONO SP) {sh : List (Nat × Nat)} {h : aH} (hG : GD gE gRL sh h) {b : Int} (wb : WB b (RC h 178 0)) (hb : b ≤ 1000000) (h31 : 0 ≤ gi h 171 31 ∧ gi h 171 31 ≤ 1000000000) (h32 : 0 ≤ gi h 171 32 ∧ gi h 171 32 ≤ 1000000000) : CLd SP 5 mX11_stepGoes [.ref 171, .ref 178] h 0 0 (fun rv h' => rv = none ∧ GD gE gRL sh h' ∧ FRM gRL [(0, 54, 31, 32), (0, 61, 0, 56)] h h' ∧ vw (RC h' 178 0) = stW (gi h 175) (gi h 176) (gi h 171 6).toNat (gi h 171 7) (gi h 177) (vw (RC h 178 0)) ∧ gi h' 171 31 = gi h 171 31 + stH (gi h 175) (gi h 176) (gi h 171 6).toNat (vw (RC h 178 0)) ∧ gi h' 171 32 = gi h 171 32 + stU (gi h 171 7) (gi h 177) (vw (RC h 178 0)) ∧ WB (b + 1) (RC h' 178 0)) := by
  refine x_met _ rfl (Nat.le_of_ble_eq_true rfl) (fun K hK => ?_)
  have hmono := MONO_CLd hSP 4
  have g3 := gri 0 12 hG (a := 178) (r := 61) (k := 3) rfl rfl
  have g7 := gri 0 8 hG (a := 171) (r := 54) (k := 7) rfl rfl
  have g6 := gri 0 16 hG (a := 171) (r := 54) (k := 6) rfl rfl
  obtain ⟨w0, w1, w2, w3, w4, w5⟩ := wb
  rw [RC_0 (by omega)] at w0 w1 w2 w3 w4
  have w6 : ∀ m, m < 8 → (0 ≤ gi h 178 (41 + m) ∧ gi h 178 (41 + m) ≤ 99) ∧ 0 ≤ gi h 178 (49 + m) ∧ gi h 178 (49 + m) ≤ b := fun m hm => by have := w5 m hm; rw [RC_0 (by omega), RC_0 (by omega)] at this; exact this
  have hH := hitN_b (gi h 175) (gi h 176) (gi h 178 0 + 1) (stL (vw (RC h 178 0))) (gi h 171 6).toNat
  have eH : stH (gi h 175) (gi h 176) (gi h 171 6).toNat (vw (RC h 178 0)) = hitN (gi h 175) (gi h 176) (gi h 178 0 + 1) (stL (vw (RC h 178 0))) (gi h 171 6).toNat := by show hitN _ _ (RC h 178 0 0 + 1) _ _ = _; rw [RC_0 (by omega)]
  have eL : stL (vw (RC h 178 0)) = ((wl (RC h 178 0)).filter fun q => decide (q.1 = gi h 178 0 + 1)).foldl ptF (gi h 178 1) := by show ((wl (RC h 178 0)).filter fun z => decide (z.1 = RC h 178 0 0 + 1)).foldl ptF (RC h 178 0 1) = _; rw [RC_0 (by omega), RC_0 (by omega)]
  have lb : 0 ≤ stL (vw (RC h 178 0)) ∧ stL (vw (RC h 178 0)) ≤ 8 := by rw [eL]; exact ptF_b w1 _
  have loop : ∀ (mz : Nat) (k : Int) (h4 : aH) (ls : List (Nat × Value)), ((gi h 171 7 - k).toNat = mz) → (0 ≤ k ∧ k ≤ gi h 171 7) → (gi h4 178 0 = gi h 178 0 + 1) → (gi h4 178 1 = stL (vw (RC h 178 0))) → (gi h4 178 2 = gi h 178 2 + stH (gi h 175) (gi h 176) (gi h 171 6).toNat (vw (RC h 178 0))) → (gi h4 178 4 = gi h 178 4) → (wl (RC h4 178 0) = (wl (RC h 178 0)).filter (fun z => !decide (z.1 = gi h 178 0 + 1))) → (∀ j : Nat, j < 8 → gi h4 178 (41 + j) = (if (j : Int) < k then fdS (gi h 178 (41 + j)) (gi h 177 j) else gi h 178 (41 + j)) ∧ gi h4 178 (49 + j) = (if (j : Int) < k then huS (gi h 178 (49 + j)) (gi h 178 (41 + j)) (gi h 177 j) else gi h 178 (49 + j))) → (gi h4 171 31 = gi h 171 31 + stH (gi h 175) (gi h 176) (gi h 171 6).toNat (vw (RC h 178 0))) → (gi h4 171 32 = gi h 171 32 + hcN (fun j => gi h 178 (41 + j)) (gi h 177) k.toNat) → lk ls 0 = some (.ref 171) → lk ls 1 = some (.ref 178) → lk ls 3 = some (.int (I k)) → GD gE gRL sh h4 → FRM gRL [(0, 54, 31, 32), (0, 61, 0, 56)] h h4 → K 41 ls [] h4 0 0 := by
    intro mz
    induction mz using Nat.strongRecOn with
    | ind mz ih =>
    intro k h4 ls hm k0 a0 a1 a2 a4 aw fl a31 a32 l0 l1 l3 hG4 hF4
    have g43 := gri 0 12 hG4 (a := 178) (r := 61) (k := 3) rfl rfl
    have hcb := hcN_b (fun j => gi h 178 (41 + j)) (gi h 177) k.toNat
    have w7 := fun z : k < 8 => w6 k.toNat (by omega)
    have hs := hcN_s (f := (fun j => gi h 178 (41 + j))) (e := gi h 177) k0.1
    refine x_iload_n 42 hK rfl rfl l3 ?_
    refine x_aload_n 43 hK rfl rfl l0 ?_
    have g144 := gri (0) (8) hG (a := 171) (r := 54) (k := 7) rfl rfl
    refine x_getE 46 hK rfl (Or.inl rfl) rfl (sp_171 (h := h4) hG4) (e := (gi h 171 7)) (FRM_gi hF4 (r := 54) rfl rfl) ?_
    refine x_if_icmp_ge 133 49 hK rfl rfl rfl (by omega) (by omega) (fun c4 => ?_) (fun c4 => ?_)
    · obtain rfl : k = gi h 171 7 := by omega
      have ev : vw (RC h4 178 0) = stW (gi h 175) (gi h 176) (gi h 171 6).toNat (gi h 171 7) (gi h 177) (vw (RC h 178 0)) := by
        refine WS_ext ?_ ?_ ?_ ?_ ?_ (fun m => ?_) (fun m => ?_)
        · show RC h4 178 0 0 = RC h 178 0 0 + 1; rw [RC_0 (by omega), RC_0 (by omega), a0]
        · show RC h4 178 0 1 = stL (vw (RC h 178 0)); rw [RC_0 (by omega), a1]
        · show RC h4 178 0 2 = RC h 178 0 2 + _; rw [RC_0 (by omega), RC_0 (by omega), a2]
        · show RC h4 178 0 4 = RC h 178 0 4; rw [RC_0 (by omega), RC_0 (by omega), a4]
        · show wl (RC h4 178 0) = (wl (RC h 178 0)).filter (fun z => !decide (z.1 = RC h 178 0 0 + 1)); rw [RC_0 (by omega)]; exact aw
        · show (if m < 8 then RC h4 178 0 (41 + m) else 0) = if (m : Int) < gi h 171 7 then fdS (if m < 8 then RC h 178 0 (41 + m) else 0) (gi h 177 m) else (if m < 8 then RC h 178 0 (41 + m) else 0)
          by_cases c : m < 8
          · rw [if_pos c, if_pos c, RC_0 (by omega), RC_0 (by omega)]; exact (fl m c).1
          · rw [if_neg c, if_neg c, if_neg (by omega)]
        · show (if m < 8 then RC h4 178 0 (49 + m) else 0) = if (m : Int) < gi h 171 7 then huS (if m < 8 then RC h 178 0 (49 + m) else 0) (if m < 8 then RC h 178 0 (41 + m) else 0) (gi h 177 m) else (if m < 8 then RC h 178 0 (49 + m) else 0)
          by_cases c : m < 8
          · rw [if_pos c, if_pos c, if_pos c, RC_0 (by omega), RC_0 (by omega), RC_0 (by omega)]; exact (fl m c).2
          · rw [if_neg c, if_neg c, if_neg (by omega)]
      have eu : stU (gi h 171 7) (gi h 177) (vw (RC h 178 0)) = hcN (fun j => gi h 178 (41 + j)) (gi h 177) (gi h 171 7).toNat := by
        show hcN (fun m => if m < 8 then RC h 178 0 (41 + m) else 0) _ _ = _
        exact hcN_c _ fun m hm => by rw [if_pos (by omega), RC_0 (by omega)]
      have ewb : WB (b + 1) (RC h4 178 0) := by
        have y1 := gri 0 8 hG4 (a := 178) (r := 61) (k := 1) rfl rfl
        refine ⟨?_, ?_, ?_, ?_, ?_, fun m hm => ?_⟩
        · rw [RC_0 (by omega), a0]; omega
        · rw [RC_0 (by omega)]; exact y1
        · rw [RC_0 (by omega), a2, eH]; omega
        · rw [RC_0 (by omega)]; exact g43
        · rw [RC_0 (by omega), a4]; omega
        · rw [RC_0 (by omega), RC_0 (by omega), (fl m hm).1, (fl m hm).2]
          have z1 := w6 m hm
          have z2 := grn 0 9 hG (a := 177) (r := 60) (k := m) rfl rfl (by omega)
          unfold fdS huS
          (repeat' split) <;> omega
      exact x_vret hK rfl ⟨rfl, hG4, hF4, ev, a31, by rw [a32, eu], ewb⟩
    · refine x_aload_n 50 hK rfl rfl l1 ?_
      refine x_bipush 52 hK rfl rfl rfl ?_
      refine x_iload_n 53 hK rfl rfl l3 ?_
      refine x_iadd 54 hK rfl rfl ?_
      refine x_ialoadE 55 hK rfl rfl (sp_178 (h := h4) hG4) (by omega) (by omega) (by omega) (e' := (gi h 178 (41 + k.toNat))) (((gi_to (by omega)).trans ((fl k.toNat (by omega)).1.trans (if_neg (by omega))))) ?_
      refine x_aload_n 56 hK rfl rfl l0 ?_
      refine x_getR 59 hK rfl rfl (sp_171 (h := h4) hG4) (rf_171_13 (h := h4) hG4) ?_
      refine x_iload_n 60 hK rfl rfl l3 ?_
      have g145 := grn (0) (9) hG (a := 177) (r := 60) (k := k.toNat) rfl rfl (by omega)
      refine x_ialoadE 61 hK rfl rfl (sp_177 (h := h4) hG4) (by omega) (by omega) (by omega) (e' := (gi h 177 k.toNat)) (FRM_gi hF4 (r := 60) rfl rfl) ?_
      refine x_if_icmp_ge 68 64 hK rfl rfl rfl (by omega) (by omega) (fun c15 => ?_) (fun c15 => ?_)
      · refine x_iconst 69 hK rfl rfl ?_
        refine x_istore 71 hK rfl rfl _ rfl ?_
        refine x_aload_n 72 hK rfl rfl (lk1_n l1 (by decide) (Or.inl rfl)) ?_
        refine x_bipush 74 hK rfl rfl rfl ?_
        refine x_iload_n 75 hK rfl rfl (lk1_n l3 (by decide) (Or.inl rfl)) ?_
        refine x_iadd 76 hK rfl rfl ?_
        refine x_dup2 77 hK rfl rfl rfl rfl ?_
        refine x_ialoadE 78 hK rfl rfl (sp_178 (h := h4) hG4) (by omega) (by omega) (by omega) (e' := (gi h 178 (49 + k.toNat))) (((gi_to (by omega)).trans ((fl k.toNat (by omega)).2.trans (if_neg (by omega))))) ?_
        refine x_iload 80 hK rfl rfl lk1_s ?_
        refine x_callS 83 hK hmono rfl (Or.inl rfl) rfl [.int (I 0)] [.int (I (gi h 178 (49 + k.toNat))), .int (I (49 + k)), .ref 178] rfl rfl (Nat.le_of_ble_eq_true rfl) (Nat.le_of_ble_eq_true rfl) (CLd_le (Nat.le_of_ble_eq_true rfl) (ctX11_flag (by omega))) ?_
        rintro v9 h9 ⟨e9, rfl⟩
        rw [e9]
        clear e9
        refine x_iadd 84 hK rfl rfl ?_
        refine x_iastore 85 hK rfl rfl (sp_178 (h := h4) hG4) (by omega) (by omega) (by omega) ?_
        refine x_aload_n 86 hK rfl rfl (lk1_n l0 (by decide) (Or.inl rfl)) ?_
        refine x_dup 87 hK rfl rfl rfl ?_
        refine x_getE 90 hK rfl (Or.inl rfl) rfl (sp_171 (h := h4) hG4) (e := (gi h 171 32 + hcN (fun j => gi h 178 (41 + j)) (gi h 177) k.toNat)) ((gi_a (by decide) _).trans (a32)) ?_
        refine x_iload 92 hK rfl rfl lk1_s ?_
        have hGp147 : GD gE gRL sh (wI h4 178 (49 + k).toNat ((gi h 178 (49 + k.toNat)) + 0)) := GD_st (hG4) (r := 61) rfl rfl (fun z => by omega) (fun z => by omega) (fun j hj z => by omega)
        refine x_callS 95 hK hmono rfl (Or.inl rfl) rfl [.int (I 0)] [.int (I (gi h 171 32 + hcN (fun j => gi h 178 (41 + j)) (gi h 177) k.toNat)), .ref 171] rfl rfl (Nat.le_of_ble_eq_true rfl) (Nat.le_of_ble_eq_true rfl) (CLd_le (Nat.le_of_ble_eq_true rfl) (ctX11_flag (by omega))) ?_
        rintro v9 h9 ⟨e9, rfl⟩
        rw [e9]
        clear e9
        refine x_iadd 96 hK rfl rfl ?_
        refine x_putI 99 hK rfl rfl (sp_171 (h := h4) hG4) ?_
        refine x_aload_n 100 hK rfl rfl (lk1_n l1 (by decide) (Or.inl rfl)) ?_
        refine x_bipush 102 hK rfl rfl rfl ?_
        refine x_iload_n 103 hK rfl rfl (lk1_n l3 (by decide) (Or.inl rfl)) ?_
        refine x_iadd 104 hK rfl rfl ?_
        refine x_iload 106 hK rfl rfl lk1_s ?_
        refine x_if_eq 113 109 hK rfl rfl rfl (by omega) (fun _ => ?_) (fun c => by omega)
        refine x_aload_n 114 hK rfl rfl (lk1_n l1 (by decide) (Or.inl rfl)) ?_
        refine x_bipush 116 hK rfl rfl rfl ?_
        refine x_iload_n 117 hK rfl rfl (lk1_n l3 (by decide) (Or.inl rfl)) ?_
        refine x_iadd 118 hK rfl rfl ?_
        refine x_ialoadE 119 hK rfl rfl (sp_178 (h := h4) hG4) (by omega) (by omega) (by omega) (e' := (gi h 178 (41 + k.toNat))) ((gi_a (by decide) _).trans ((gi_k (by omega) _).trans (((gi_to (by omega)).trans ((fl k.toNat (by omega)).1.trans (if_neg (by omega))))))) ?_
        refine x_aload_n 120 hK rfl rfl (lk1_n l0 (by decide) (Or.inl rfl)) ?_
        refine x_getR 123 hK rfl rfl (sp_171 (h := h4) hG4) (rf_171_13 (h := h4) hG4) ?_
        refine x_iload_n 124 hK rfl rfl (lk1_n l3 (by decide) (Or.inl rfl)) ?_
        refine x_ialoadE 125 hK rfl rfl (sp_177 (h := h4) hG4) (by omega) (by omega) (by omega) (e' := (gi h 177 k.toNat)) ((gi_a (by decide) _).trans ((gi_a (by decide) _).trans (FRM_gi hF4 (r := 60) rfl rfl))) ?_
        refine x_isub 126 hK rfl rfl ?_
        refine x_iastore 127 hK rfl rfl (sp_178 (h := h4) hG4) (by omega) (by omega) (by omega) ?_
        refine x_iinc 130 hK rfl rfl (lk1_n l3 (by decide) (Or.inl rfl)) _ rfl ?_
        refine x_goto 41 hK rfl rfl ?_
        have n3 : gi (wI (wI (wI h4 178 (49 + k).toNat ((gi h 178 (49 + k.toNat)) + 0)) 171 32 ((gi h 171 32 + hcN (fun j => gi h 178 (41 + j)) (gi h 177) k.toNat) + 0)) 178 (41 + k).toNat ((gi h 178 (41 + k.toNat)) - (gi h 177 k.toNat))) 178 3 = gi h4 178 3 := ((gi_k (by omega) _).trans ((gi_a (by decide) _).trans ((gi_k (by omega) _).trans rfl)))
        have y1 : gi (wI (wI (wI h4 178 (49 + k).toNat ((gi h 178 (49 + k.toNat)) + 0)) 171 32 ((gi h 171 32 + hcN (fun j => gi h 178 (41 + j)) (gi h 177) k.toNat) + 0)) 178 (41 + k).toNat ((gi h 178 (41 + k.toNat)) - (gi h 177 k.toNat))) 178 (41 + k).toNat = ((gi h 178 (41 + k.toNat)) - (gi h 177 k.toNat)) := gi_same (by omega)
        have y2 : gi (wI (wI (wI h4 178 (49 + k).toNat ((gi h 178 (49 + k.toNat)) + 0)) 171 32 ((gi h 171 32 + hcN (fun j => gi h 178 (41 + j)) (gi h 177) k.toNat) + 0)) 178 (41 + k).toNat ((gi h 178 (41 + k.toNat)) - (gi h 177 k.toNat))) 178 (49 + k).toNat = ((gi h 178 (49 + k.toNat)) + 0) := (gi_k (by omega) _).trans ((gi_a (by decide) _).trans (gi_same (by omega)))
        have fn : ∀ j : Nat, j < 8 → gi (wI (wI (wI h4 178 (49 + k).toNat ((gi h 178 (49 + k.toNat)) + 0)) 171 32 ((gi h 171 32 + hcN (fun j => gi h 178 (41 + j)) (gi h 177) k.toNat) + 0)) 178 (41 + k).toNat ((gi h 178 (41 + k.toNat)) - (gi h 177 k.toNat))) 178 (41 + j) = (if (j : Int) < (k + 1) then fdS (gi h 178 (41 + j)) (gi h 177 j) else gi h 178 (41 + j)) ∧ gi (wI (wI (wI h4 178 (49 + k).toNat ((gi h 178 (49 + k.toNat)) + 0)) 171 32 ((gi h 171 32 + hcN (fun j => gi h 178 (41 + j)) (gi h 177) k.toNat) + 0)) 178 (41 + k).toNat ((gi h 178 (41 + k.toNat)) - (gi h 177 k.toNat))) 178 (49 + j) = (if (j : Int) < (k + 1) then huS (gi h 178 (49 + j)) (gi h 178 (41 + j)) (gi h 177 j) else gi h 178 (49 + j)) := by
          intro j hj
          by_cases c : j = k.toNat
          · subst c
            rw [if_pos (by omega), if_pos (by omega), (gi_to (show 41 + k.toNat = (41 + k).toNat by omega)).trans y1, (gi_to (show 49 + k.toNat = (49 + k).toNat by omega)).trans y2]
            unfold fdS huS
            rw [if_neg (by omega), if_neg (by omega)]
            exact ⟨rfl, Int.add_zero _⟩
          · rw [← if_j k0.1 c, ← if_j k0.1 c]
            exact ⟨((gi_k (by omega) _).trans ((gi_a (by decide) _).trans ((gi_k (by omega) _).trans (fl j hj).1))), ((gi_k (by omega) _).trans ((gi_a (by decide) _).trans ((gi_k (by omega) _).trans (fl j hj).2)))⟩
        exact ih _ (by omega) (k + 1) _ _ rfl (by omega) (((gi_k (by omega) _).trans ((gi_a (by decide) _).trans ((gi_k (by omega) _).trans a0)))) (((gi_k (by omega) _).trans ((gi_a (by decide) _).trans ((gi_k (by omega) _).trans a1)))) (((gi_k (by omega) _).trans ((gi_a (by decide) _).trans ((gi_k (by omega) _).trans a2)))) (((gi_k (by omega) _).trans ((gi_a (by decide) _).trans ((gi_k (by omega) _).trans a4)))) ((by rw [← aw, wl_RC (by rw [n3]; omega), wl_RC (by omega), n3]; exact wlK_congr fun j z1 z2 => ((gi_k (by omega) _).trans ((gi_a (by decide) _).trans ((gi_k (by omega) _).trans rfl))))) (fn) ((((gi_a (by decide) _).trans ((gi_k (by decide) _).trans ((gi_a (by decide) _).trans a31))))) ((by rw [hs, if_neg (by omega)]; exact ((gi_a (by decide) _).trans (gi_same (by omega))).trans (by omega))) (lk1_n (lk1_n l0 (by decide) (Or.inl rfl)) (by decide) (Or.inl rfl)) (lk1_n (lk1_n l1 (by decide) (Or.inl rfl)) (by decide) (Or.inl rfl)) lk1_s (GD_st (GD_w0 (GD_st (hG4) (r := 61) rfl rfl (fun z => by omega) (fun z => by omega) (fun j hj z => by omega)) (r := 54) rfl rfl) (r := 61) rfl rfl (fun z => by omega) (fun z => by omega) (fun j hj z => by omega)) (FRM_wn 0 56 (FRM_w (FRM_wn 0 56 (hF4) (r := 61) rfl rfl rfl (by omega) (by omega)) (r := 54) rfl rfl) (r := 61) rfl rfl rfl (by omega) (by omega))
      · refine x_iconst 65 hK rfl rfl ?_
        refine x_goto 69 hK rfl rfl ?_
        refine x_istore 71 hK rfl rfl _ rfl ?_
        refine x_aload_n 72 hK rfl rfl (lk1_n l1 (by decide) (Or.inl rfl)) ?_
        refine x_bipush 74 hK rfl rfl rfl ?_
        refine x_iload_n 75 hK rfl rfl (lk1_n l3 (by decide) (Or.inl rfl)) ?_
        refine x_iadd 76 hK rfl rfl ?_
        refine x_dup2 77 hK rfl rfl rfl rfl ?_
        refine x_ialoadE 78 hK rfl rfl (sp_178 (h := h4) hG4) (by omega) (by omega) (by omega) (e' := (gi h 178 (49 + k.toNat))) (((gi_to (by omega)).trans ((fl k.toNat (by omega)).2.trans (if_neg (by omega))))) ?_
        refine x_iload 80 hK rfl rfl lk1_s ?_
        refine x_callS 83 hK hmono rfl (Or.inl rfl) rfl [.int (I 1)] [.int (I (gi h 178 (49 + k.toNat))), .int (I (49 + k)), .ref 178] rfl rfl (Nat.le_of_ble_eq_true rfl) (Nat.le_of_ble_eq_true rfl) (CLd_le (Nat.le_of_ble_eq_true rfl) (ctX11_flag (by omega))) ?_
        rintro v9 h9 ⟨e9, rfl⟩
        rw [e9]
        clear e9
        refine x_iadd 84 hK rfl rfl ?_
        refine x_iastore 85 hK rfl rfl (sp_178 (h := h4) hG4) (by omega) (by omega) (by omega) ?_
        refine x_aload_n 86 hK rfl rfl (lk1_n l0 (by decide) (Or.inl rfl)) ?_
        refine x_dup 87 hK rfl rfl rfl ?_
        refine x_getE 90 hK rfl (Or.inl rfl) rfl (sp_171 (h := h4) hG4) (e := (gi h 171 32 + hcN (fun j => gi h 178 (41 + j)) (gi h 177) k.toNat)) ((gi_a (by decide) _).trans (a32)) ?_
        refine x_iload 92 hK rfl rfl lk1_s ?_
        have hGp150 : GD gE gRL sh (wI h4 178 (49 + k).toNat ((gi h 178 (49 + k.toNat)) + 1)) := GD_st (hG4) (r := 61) rfl rfl (fun z => by omega) (fun z => by omega) (fun j hj z => by omega)
        refine x_callS 95 hK hmono rfl (Or.inl rfl) rfl [.int (I 1)] [.int (I (gi h 171 32 + hcN (fun j => gi h 178 (41 + j)) (gi h 177) k.toNat)), .ref 171] rfl rfl (Nat.le_of_ble_eq_true rfl) (Nat.le_of_ble_eq_true rfl) (CLd_le (Nat.le_of_ble_eq_true rfl) (ctX11_flag (by omega))) ?_
        rintro v9 h9 ⟨e9, rfl⟩
        rw [e9]
        clear e9
        refine x_iadd 96 hK rfl rfl ?_
        refine x_putI 99 hK rfl rfl (sp_171 (h := h4) hG4) ?_
        refine x_aload_n 100 hK rfl rfl (lk1_n l1 (by decide) (Or.inl rfl)) ?_
        refine x_bipush 102 hK rfl rfl rfl ?_
        refine x_iload_n 103 hK rfl rfl (lk1_n l3 (by decide) (Or.inl rfl)) ?_
        refine x_iadd 104 hK rfl rfl ?_
        refine x_iload 106 hK rfl rfl lk1_s ?_
        refine x_if_eq 113 109 hK rfl rfl rfl (by omega) (fun c => by omega) (fun _ => ?_)
        refine x_iconst 110 hK rfl rfl ?_
        refine x_goto 126 hK rfl rfl ?_
        refine x_iastore 127 hK rfl rfl (sp_178 (h := h4) hG4) (by omega) (by omega) (by omega) ?_
        refine x_iinc 130 hK rfl rfl (lk1_n l3 (by decide) (Or.inl rfl)) _ rfl ?_
        refine x_goto 41 hK rfl rfl ?_
        have n3 : gi (wI (wI (wI h4 178 (49 + k).toNat ((gi h 178 (49 + k.toNat)) + 1)) 171 32 ((gi h 171 32 + hcN (fun j => gi h 178 (41 + j)) (gi h 177) k.toNat) + 1)) 178 (41 + k).toNat 0) 178 3 = gi h4 178 3 := ((gi_k (by omega) _).trans ((gi_a (by decide) _).trans ((gi_k (by omega) _).trans rfl)))
        have y1 : gi (wI (wI (wI h4 178 (49 + k).toNat ((gi h 178 (49 + k.toNat)) + 1)) 171 32 ((gi h 171 32 + hcN (fun j => gi h 178 (41 + j)) (gi h 177) k.toNat) + 1)) 178 (41 + k).toNat 0) 178 (41 + k).toNat = 0 := gi_same (by omega)
        have y2 : gi (wI (wI (wI h4 178 (49 + k).toNat ((gi h 178 (49 + k.toNat)) + 1)) 171 32 ((gi h 171 32 + hcN (fun j => gi h 178 (41 + j)) (gi h 177) k.toNat) + 1)) 178 (41 + k).toNat 0) 178 (49 + k).toNat = ((gi h 178 (49 + k.toNat)) + 1) := (gi_k (by omega) _).trans ((gi_a (by decide) _).trans (gi_same (by omega)))
        have fn : ∀ j : Nat, j < 8 → gi (wI (wI (wI h4 178 (49 + k).toNat ((gi h 178 (49 + k.toNat)) + 1)) 171 32 ((gi h 171 32 + hcN (fun j => gi h 178 (41 + j)) (gi h 177) k.toNat) + 1)) 178 (41 + k).toNat 0) 178 (41 + j) = (if (j : Int) < (k + 1) then fdS (gi h 178 (41 + j)) (gi h 177 j) else gi h 178 (41 + j)) ∧ gi (wI (wI (wI h4 178 (49 + k).toNat ((gi h 178 (49 + k.toNat)) + 1)) 171 32 ((gi h 171 32 + hcN (fun j => gi h 178 (41 + j)) (gi h 177) k.toNat) + 1)) 178 (41 + k).toNat 0) 178 (49 + j) = (if (j : Int) < (k + 1) then huS (gi h 178 (49 + j)) (gi h 178 (41 + j)) (gi h 177 j) else gi h 178 (49 + j)) := by
          intro j hj
          by_cases c : j = k.toNat
          · subst c
            rw [if_pos (by omega), if_pos (by omega), (gi_to (show 41 + k.toNat = (41 + k).toNat by omega)).trans y1, (gi_to (show 49 + k.toNat = (49 + k).toNat by omega)).trans y2]
            unfold fdS huS
            rw [if_pos (by omega), if_pos (by omega)]
            exact ⟨rfl, rfl⟩
          · rw [← if_j k0.1 c, ← if_j k0.1 c]
            exact ⟨((gi_k (by omega) _).trans ((gi_a (by decide) _).trans ((gi_k (by omega) _).trans (fl j hj).1))), ((gi_k (by omega) _).trans ((gi_a (by decide) _).trans ((gi_k (by omega) _).trans (fl j hj).2)))⟩
        exact ih _ (by omega) (k + 1) _ _ rfl (by omega) (((gi_k (by omega) _).trans ((gi_a (by decide) _).trans ((gi_k (by omega) _).trans a0)))) (((gi_k (by omega) _).trans ((gi_a (by decide) _).trans ((gi_k (by omega) _).trans a1)))) (((gi_k (by omega) _).trans ((gi_a (by decide) _).trans ((gi_k (by omega) _).trans a2)))) (((gi_k (by omega) _).trans ((gi_a (by decide) _).trans ((gi_k (by omega) _).trans a4)))) ((by rw [← aw, wl_RC (by rw [n3]; omega), wl_RC (by omega), n3]; exact wlK_congr fun j z1 z2 => ((gi_k (by omega) _).trans ((gi_a (by decide) _).trans ((gi_k (by omega) _).trans rfl))))) (fn) ((((gi_a (by decide) _).trans ((gi_k (by decide) _).trans ((gi_a (by decide) _).trans a31))))) ((by rw [hs, if_pos (by omega)]; exact ((gi_a (by decide) _).trans (gi_same (by omega))).trans (by omega))) (lk1_n (lk1_n l0 (by decide) (Or.inl rfl)) (by decide) (Or.inl rfl)) (lk1_n (lk1_n l1 (by decide) (Or.inl rfl)) (by decide) (Or.inl rfl)) lk1_s (GD_st (GD_w0 (GD_st (hG4) (r := 61) rfl rfl (fun z => by omega) (fun z => by omega) (fun j hj z => by omega)) (r := 54) rfl rfl) (r := 61) rfl rfl (fun z => by omega) (fun z => by omega) (fun j hj z => by omega)) (FRM_wn 0 56 (FRM_w (FRM_wn 0 56 (hF4) (r := 61) rfl rfl rfl (by omega) (by omega)) (r := 54) rfl rfl) (r := 61) rfl rfl rfl (by omega) (by omega))
  refine x_aload_n 1 hK rfl rfl rfl ?_
  refine x_iconst 2 hK rfl rfl ?_
  refine x_dup2 3 hK rfl rfl rfl rfl ?_
  have g152 := gi_r h 178 0
  refine x_ialoadE 4 hK rfl rfl (sp_178 (h := h) hG) (by omega) (by omega) (by omega) (e' := (gi h 178 0)) (rfl) ?_
  refine x_iconst 5 hK rfl rfl ?_
  refine x_iadd 6 hK rfl rfl ?_
  refine x_iastore 7 hK rfl rfl (sp_178 (h := h) hG) (by omega) (by omega) (by omega) ?_
  refine x_aload_n 8 hK rfl rfl rfl ?_
  change K 8 _ _ (wI h 178 0 ((gi h 178 0) + 1)) _ _
  have hG1 : GD gE gRL sh (wI h 178 0 ((gi h 178 0) + 1)) := GD_w0 (hG) (r := 61) rfl rfl
  have e0 : gi (wI h 178 0 ((gi h 178 0) + 1)) 178 0 = gi h 178 0 + 1 := gi_same (by omega)
  have ew : wl (RC (wI h 178 0 ((gi h 178 0) + 1)) 178 0) = wl (RC h 178 0) := by rw [wl_RC (by rw [gi_k (by decide)]; omega), wl_RC (by omega), gi_k (by decide)]; exact wlK_congr fun j z1 z2 => gi_k (by omega) _
  refine x_callS 11 hK hmono rfl (Or.inl rfl) rfl [.ref 178] [] rfl rfl (Nat.le_of_ble_eq_true rfl) (Nat.le_of_ble_eq_true rfl) (CLd_le (Nat.le_of_ble_eq_true rfl) (ctX11_doesDueNF hSP hG1)) ?_
  rintro v2 h2 ⟨rfl, hG2, hF2, d1, d2⟩
  rw [e0, ew] at d1 d2
  rw [show gi (wI h 178 0 ((gi h 178 0) + 1)) 178 1 = gi h 178 1 from gi_k (by decide) _, ← eL] at d1
  refine x_aload_n 12 hK rfl rfl rfl ?_
  refine x_aload_n 13 hK rfl rfl rfl ?_
  refine x_iconst 14 hK rfl rfl ?_
  refine x_ialoadE 15 hK rfl rfl (sp_178 (h := h2) hG2) (by omega) (by omega) (by omega) (e' := ((gi h 178 0) + 1)) ((FRM_gi hF2 (r := 61) rfl rfl).trans (gi_same (by omega))) ?_
  refine x_aload_n 16 hK rfl rfl rfl ?_
  refine x_iconst 17 hK rfl rfl ?_
  refine x_ialoadE 18 hK rfl rfl (sp_178 (h := h2) hG2) (by omega) (by omega) (by omega) (e' := (stL (vw (RC h 178 0)))) (d1) ?_
  refine x_callV 21 hK hmono rfl rfl [.ref 171, .int (I ((gi h 178 0) + 1)), .int (I (stL (vw (RC h 178 0))))] [] rfl rfl (Nat.le_of_ble_eq_true rfl) (Nat.le_of_ble_eq_true rfl) rfl (sp_171 (h := h2) hG2) (CLd_le (Nat.le_of_ble_eq_true rfl) (ctX11_hitsAtF hSP hG2 (by omega) (by omega))) ?_
  rintro v9 h9 ⟨e9, rfl⟩
  rw [e9, show gi h2 175 = gi h 175 from funext fun j => (FRM_gi hF2 (r := 58) rfl rfl).trans (gi_a (by decide) _), show gi h2 176 = gi h 176 from funext fun j => (FRM_gi hF2 (r := 59) rfl rfl).trans (gi_a (by decide) _), show gi h2 171 6 = gi h 171 6 from (FRM_gi hF2 (r := 54) rfl rfl).trans (gi_a (by decide) _), ← eH]
  clear e9
  rw [← eH] at hH
  refine x_istore_n 22 hK rfl rfl [(2, .int (I (stH (gi h 175) (gi h 176) (gi h 171 6).toNat (vw (RC h 178 0))))), (0, .ref 171), (1, .ref 178)] rfl ?_
  refine x_aload_n 23 hK rfl rfl rfl ?_
  refine x_iconst 24 hK rfl rfl ?_
  refine x_dup2 25 hK rfl rfl rfl rfl ?_
  have g153 := gi_r h 178 2
  refine x_ialoadE 26 hK rfl rfl (sp_178 (h := h2) hG2) (by omega) (by omega) (by omega) (e' := (gi h 178 2)) ((FRM_gi hF2 (r := 61) rfl rfl).trans (gi_k (by decide) _)) ?_
  refine x_iload_n 27 hK rfl rfl rfl ?_
  refine x_iadd 28 hK rfl rfl ?_
  refine x_iastore 29 hK rfl rfl (sp_178 (h := h2) hG2) (by omega) (by omega) (by omega) ?_
  refine x_aload_n 30 hK rfl rfl rfl ?_
  refine x_dup 31 hK rfl rfl rfl ?_
  have g154 := gi_r h 171 31
  refine x_getE 34 hK rfl (Or.inl rfl) rfl (sp_171 (h := h2) hG2) (e := (gi h 171 31)) ((gi_a (by decide) _).trans ((FRM_gi hF2 (r := 54) rfl rfl).trans (gi_a (by decide) _))) ?_
  refine x_iload_n 35 hK rfl rfl rfl ?_
  refine x_iadd 36 hK rfl rfl ?_
  refine x_putI 39 hK rfl rfl (sp_171 (h := h2) hG2) ?_
  refine x_iconst 40 hK rfl rfl ?_
  refine x_istore_n 41 hK rfl rfl [(3, .int (I 0)), (2, .int (I (stH (gi h 175) (gi h 176) (gi h 171 6).toNat (vw (RC h 178 0))))), (0, .ref 171), (1, .ref 178)] rfl ?_
  change K 41 _ _ (wI (wI h2 178 2 ((gi h 178 2) + (stH (gi h 175) (gi h 176) (gi h 171 6).toNat (vw (RC h 178 0))))) 171 31 ((gi h 171 31) + (stH (gi h 175) (gi h 176) (gi h 171 6).toNat (vw (RC h 178 0))))) _ _
  have g23 := gri 0 12 hG2 (a := 178) (r := 61) (k := 3) rfl rfl
  have n3 : gi (wI (wI h2 178 2 ((gi h 178 2) + (stH (gi h 175) (gi h 176) (gi h 171 6).toNat (vw (RC h 178 0))))) 171 31 ((gi h 171 31) + (stH (gi h 175) (gi h 176) (gi h 171 6).toNat (vw (RC h 178 0))))) 178 3 = gi h2 178 3 := (gi_a (by decide) _).trans (gi_k (by decide) _)
  exact loop _ 0 _ _ rfl (by omega) ((gi_a (by decide) _).trans ((gi_k (by decide) _).trans ((FRM_gi hF2 (r := 61) rfl rfl).trans (gi_same (by omega))))) ((gi_a (by decide) _).trans ((gi_k (by decide) _).trans (d1))) ((gi_a (by decide) _).trans (gi_same (by omega))) ((gi_a (by decide) _).trans ((gi_k (by decide) _).trans ((FRM_gi hF2 (r := 61) rfl rfl).trans (gi_k (by decide) _)))) ((by rw [← d2, wl_RC (by rw [n3]; omega), wl_RC (by omega), n3]; exact wlK_congr fun j z1 z2 => (gi_a (by decide) _).trans (gi_k (by omega) _))) ((fun j hj => by rw [if_neg (by omega), if_neg (by omega)]; exact ⟨(gi_a (by decide) _).trans ((gi_k (by omega) _).trans ((FRM_gi hF2 (r := 61) rfl (mh_178 (by omega))).trans (gi_k (by omega) _))), (gi_a (by decide) _).trans ((gi_k (by omega) _).trans ((FRM_gi hF2 (r := 61) rfl (mh_178 (by omega))).trans (gi_k (by omega) _)))⟩)) (gi_same (by omega)) ((((gi_k (by decide) _).trans ((gi_a (by decide) _).trans ((FRM_gi hF2 (r := 54) rfl rfl).trans (gi_a (by decide) _)))).trans (Int.add_zero _).symm)) rfl rfl rfl (GD_w0 (GD_w0 (hG2) (r := 61) rfl rfl) (r := 54) rfl rfl) (FRM_w (FRM_w ((FRM_w ((FRM.rf : FRM gRL [(0, 54, 31, 32), (0, 61, 0, 56)] h h)) (r := 61) rfl rfl).trans ((hF2).mono rfl)) (r := 61) rfl rfl) (r := 54) rfl rfl)
theorem mh_179 {k : Nat} (hk : 41 ≤ k) : mHas [(0, 62, 1, 1), (0, 62, 3, 3), (0, 62, 5, 40)] 0 62 k = false := by
  refine mHas_no ?_
  have e : ∀ x y : Nat, y ≤ 40 → (Nat.ble x k && Nat.ble k y) = false := fun x y hy => by
    have : Nat.ble k y = false := by
      cases c : Nat.ble k y
      · rfl
      · have := Nat.le_of_ble_eq_true c; omega
    rw [this, Bool.and_false]
  simp only [List.all_cons, List.all_nil, Bool.and_true, Bool.and_assoc, e _ 1 (by omega), e _ 3 (by omega), e _ 40 (by omega), Bool.and_false, Bool.not_false]
set_option maxRecDepth 4000 in
theorem ctX11_stepGoesTF {SP : CT} (hSP : MONO SP) {sh : List (Nat × Nat)} {h : aH} (hG : GD gE gRL sh h) {b : Int} (wb : WB b (RC h 179 0)) (hb : b ≤ 1000000) (h31 : 0 ≤ gi h 171 31 ∧ gi h 171 31 ≤ 1000000000) (h32 : 0 ≤ gi h 171 32 ∧ gi h 171 32 ≤ 1000000000) : CLd SP 5 mX11_stepGoes [.ref 171, .ref 179] h 0 0 (fun rv h' => rv = none ∧ GD gE gRL sh h' ∧ FRM gRL [(0, 54, 31, 32), (0, 62, 0, 56)] h h' ∧ vw (RC h' 179 0) = stW (gi h 175) (gi h 176) (gi h 171 6).toNat (gi h 171 7) (gi h 177) (vw (RC h 179 0)) ∧ gi h' 171 31 = gi h 171 31 + stH (gi h 175) (gi h 176) (gi h 171 6).toNat (vw (RC h 179 0)) ∧ gi h' 171 32 = gi h 171 32 + stU (gi h 171 7) (gi h 177) (vw (RC h 179 0)) ∧ WB (b + 1) (RC h' 179 0)) := by
  refine x_met _ rfl (Nat.le_of_ble_eq_true rfl) (fun K hK => ?_)
  have hmono := MONO_CLd hSP 4
  have g3 := gri 0 12 hG (a := 179) (r := 62) (k := 3) rfl rfl
  have g7 := gri 0 8 hG (a := 171) (r := 54) (k := 7) rfl rfl
  have g6 := gri 0 16 hG (a := 171) (r := 54) (k := 6) rfl rfl
  obtain ⟨w0, w1, w2, w3, w4, w5⟩ := wb
  rw [RC_0 (by omega)] at w0 w1 w2 w3 w4
  have w6 : ∀ m, m < 8 → (0 ≤ gi h 179 (41 + m) ∧ gi h 179 (41 + m) ≤ 99) ∧ 0 ≤ gi h 179 (49 + m) ∧ gi h 179 (49 + m) ≤ b := fun m hm => by have := w5 m hm; rw [RC_0 (by omega), RC_0 (by omega)] at this; exact this
  have hH := hitN_b (gi h 175) (gi h 176) (gi h 179 0 + 1) (stL (vw (RC h 179 0))) (gi h 171 6).toNat
  have eH : stH (gi h 175) (gi h 176) (gi h 171 6).toNat (vw (RC h 179 0)) = hitN (gi h 175) (gi h 176) (gi h 179 0 + 1) (stL (vw (RC h 179 0))) (gi h 171 6).toNat := by show hitN _ _ (RC h 179 0 0 + 1) _ _ = _; rw [RC_0 (by omega)]
  have eL : stL (vw (RC h 179 0)) = ((wl (RC h 179 0)).filter fun q => decide (q.1 = gi h 179 0 + 1)).foldl ptF (gi h 179 1) := by show ((wl (RC h 179 0)).filter fun z => decide (z.1 = RC h 179 0 0 + 1)).foldl ptF (RC h 179 0 1) = _; rw [RC_0 (by omega), RC_0 (by omega)]
  have lb : 0 ≤ stL (vw (RC h 179 0)) ∧ stL (vw (RC h 179 0)) ≤ 8 := by rw [eL]; exact ptF_b w1 _
  have loop : ∀ (mz : Nat) (k : Int) (h4 : aH) (ls : List (Nat × Value)), ((gi h 171 7 - k).toNat = mz) → (0 ≤ k ∧ k ≤ gi h 171 7) → (gi h4 179 0 = gi h 179 0 + 1) → (gi h4 179 1 = stL (vw (RC h 179 0))) → (gi h4 179 2 = gi h 179 2 + stH (gi h 175) (gi h 176) (gi h 171 6).toNat (vw (RC h 179 0))) → (gi h4 179 4 = gi h 179 4) → (wl (RC h4 179 0) = (wl (RC h 179 0)).filter (fun z => !decide (z.1 = gi h 179 0 + 1))) → (∀ j : Nat, j < 8 → gi h4 179 (41 + j) = (if (j : Int) < k then fdS (gi h 179 (41 + j)) (gi h 177 j) else gi h 179 (41 + j)) ∧ gi h4 179 (49 + j) = (if (j : Int) < k then huS (gi h 179 (49 + j)) (gi h 179 (41 + j)) (gi h 177 j) else gi h 179 (49 + j))) → (gi h4 171 31 = gi h 171 31 + stH (gi h 175) (gi h 176) (gi h 171 6).toNat (vw (RC h 179 0))) → (gi h4 171 32 = gi h 171 32 + hcN (fun j => gi h 179 (41 + j)) (gi h 177) k.toNat) → lk ls 0 = some (.ref 171) → lk ls 1 = some (.ref 179) → lk ls 3 = some (.int (I k)) → GD gE gRL sh h4 → FRM gRL [(0, 54, 31, 32), (0, 62, 0, 56)] h h4 → K 41 ls [] h4 0 0 := by
    intro mz
    induction mz using Nat.strongRecOn with
    | ind mz ih =>
    intro k h4 ls hm k0 a0 a1 a2 a4 aw fl a31 a32 l0 l1 l3 hG4 hF4
    have g43 := gri 0 12 hG4 (a := 179) (r := 62) (k := 3) rfl rfl
    have hcb := hcN_b (fun j => gi h 179 (41 + j)) (gi h 177) k.toNat
    have w7 := fun z : k < 8 => w6 k.toNat (by omega)
    have hs := hcN_s (f := (fun j => gi h 179 (41 + j))) (e := gi h 177) k0.1
    refine x_iload_n 42 hK rfl rfl l3 ?_
    refine x_aload_n 43 hK rfl rfl l0 ?_
    have g155 := gri (0) (8) hG (a := 171) (r := 54) (k := 7) rfl rfl
    refine x_getE 46 hK rfl (Or.inl rfl) rfl (sp_171 (h := h4) hG4) (e := (gi h 171 7)) (FRM_gi hF4 (r := 54) rfl rfl) ?_
    refine x_if_icmp_ge 133 49 hK rfl rfl rfl (by omega) (by omega) (fun c4 => ?_) (fun c4 => ?_)
    · obtain rfl : k = gi h 171 7 := by omega
      have ev : vw (RC h4 179 0) = stW (gi h 175) (gi h 176) (gi h 171 6).toNat (gi h 171 7) (gi h 177) (vw (RC h 179 0)) := by
        refine WS_ext ?_ ?_ ?_ ?_ ?_ (fun m => ?_) (fun m => ?_)
        · show RC h4 179 0 0 = RC h 179 0 0 + 1; rw [RC_0 (by omega), RC_0 (by omega), a0]
        · show RC h4 179 0 1 = stL (vw (RC h 179 0)); rw [RC_0 (by omega), a1]
        · show RC h4 179 0 2 = RC h 179 0 2 + _; rw [RC_0 (by omega), RC_0 (by omega), a2]
        · show RC h4 179 0 4 = RC h 179 0 4; rw [RC_0 (by omega), RC_0 (by omega), a4]
        · show wl (RC h4 179 0) = (wl (RC h 179 0)).filter (fun z => !decide (z.1 = RC h 179 0 0 + 1)); rw [RC_0 (by omega)]; exact aw
        · show (if m < 8 then RC h4 179 0 (41 + m) else 0) = if (m : Int) < gi h 171 7 then fdS (if m < 8 then RC h 179 0 (41 + m) else 0) (gi h 177 m) else (if m < 8 then RC h 179 0 (41 + m) else 0)
          by_cases c : m < 8
          · rw [if_pos c, if_pos c, RC_0 (by omega), RC_0 (by omega)]; exact (fl m c).1
          · rw [if_neg c, if_neg c, if_neg (by omega)]
        · show (if m < 8 then RC h4 179 0 (49 + m) else 0) = if (m : Int) < gi h 171 7 then huS (if m < 8 then RC h 179 0 (49 + m) else 0) (if m < 8 then RC h 179 0 (41 + m) else 0) (gi h 177 m) else (if m < 8 then RC h 179 0 (49 + m) else 0)
          by_cases c : m < 8
          · rw [if_pos c, if_pos c, if_pos c, RC_0 (by omega), RC_0 (by omega), RC_0 (by omega)]; exact (fl m c).2
          · rw [if_neg c, if_neg c, if_neg (by omega)]
      have eu : stU (gi h 171 7) (gi h 177) (vw (RC h 179 0)) = hcN (fun j => gi h 179 (41 + j)) (gi h 177) (gi h 171 7).toNat := by
        show hcN (fun m => if m < 8 then RC h 179 0 (41 + m) else 0) _ _ = _
        exact hcN_c _ fun m hm => by rw [if_pos (by omega), RC_0 (by omega)]
      have ewb : WB (b + 1) (RC h4 179 0) := by
        have y1 := gri 0 8 hG4 (a := 179) (r := 62) (k := 1) rfl rfl
        refine ⟨?_, ?_, ?_, ?_, ?_, fun m hm => ?_⟩
        · rw [RC_0 (by omega), a0]; omega
        · rw [RC_0 (by omega)]; exact y1
        · rw [RC_0 (by omega), a2, eH]; omega
        · rw [RC_0 (by omega)]; exact g43
        · rw [RC_0 (by omega), a4]; omega
        · rw [RC_0 (by omega), RC_0 (by omega), (fl m hm).1, (fl m hm).2]
          have z1 := w6 m hm
          have z2 := grn 0 9 hG (a := 177) (r := 60) (k := m) rfl rfl (by omega)
          unfold fdS huS
          (repeat' split) <;> omega
      exact x_vret hK rfl ⟨rfl, hG4, hF4, ev, a31, by rw [a32, eu], ewb⟩
    · refine x_aload_n 50 hK rfl rfl l1 ?_
      refine x_bipush 52 hK rfl rfl rfl ?_
      refine x_iload_n 53 hK rfl rfl l3 ?_
      refine x_iadd 54 hK rfl rfl ?_
      refine x_ialoadE 55 hK rfl rfl (sp_179 (h := h4) hG4) (by omega) (by omega) (by omega) (e' := (gi h 179 (41 + k.toNat))) (((gi_to (by omega)).trans ((fl k.toNat (by omega)).1.trans (if_neg (by omega))))) ?_
      refine x_aload_n 56 hK rfl rfl l0 ?_
      refine x_getR 59 hK rfl rfl (sp_171 (h := h4) hG4) (rf_171_13 (h := h4) hG4) ?_
      refine x_iload_n 60 hK rfl rfl l3 ?_
      have g156 := grn (0) (9) hG (a := 177) (r := 60) (k := k.toNat) rfl rfl (by omega)
      refine x_ialoadE 61 hK rfl rfl (sp_177 (h := h4) hG4) (by omega) (by omega) (by omega) (e' := (gi h 177 k.toNat)) (FRM_gi hF4 (r := 60) rfl rfl) ?_
      refine x_if_icmp_ge 68 64 hK rfl rfl rfl (by omega) (by omega) (fun c15 => ?_) (fun c15 => ?_)
      · refine x_iconst 69 hK rfl rfl ?_
        refine x_istore 71 hK rfl rfl _ rfl ?_
        refine x_aload_n 72 hK rfl rfl (lk1_n l1 (by decide) (Or.inl rfl)) ?_
        refine x_bipush 74 hK rfl rfl rfl ?_
        refine x_iload_n 75 hK rfl rfl (lk1_n l3 (by decide) (Or.inl rfl)) ?_
        refine x_iadd 76 hK rfl rfl ?_
        refine x_dup2 77 hK rfl rfl rfl rfl ?_
        refine x_ialoadE 78 hK rfl rfl (sp_179 (h := h4) hG4) (by omega) (by omega) (by omega) (e' := (gi h 179 (49 + k.toNat))) (((gi_to (by omega)).trans ((fl k.toNat (by omega)).2.trans (if_neg (by omega))))) ?_
        refine x_iload 80 hK rfl rfl lk1_s ?_
        refine x_callS 83 hK hmono rfl (Or.inl rfl) rfl [.int (I 0)] [.int (I (gi h 179 (49 + k.toNat))), .int (I (49 + k)), .ref 179] rfl rfl (Nat.le_of_ble_eq_true rfl) (Nat.le_of_ble_eq_true rfl) (CLd_le (Nat.le_of_ble_eq_true rfl) (ctX11_flag (by omega))) ?_
        rintro v9 h9 ⟨e9, rfl⟩
        rw [e9]
        clear e9
        refine x_iadd 84 hK rfl rfl ?_
        refine x_iastore 85 hK rfl rfl (sp_179 (h := h4) hG4) (by omega) (by omega) (by omega) ?_
        refine x_aload_n 86 hK rfl rfl (lk1_n l0 (by decide) (Or.inl rfl)) ?_
        refine x_dup 87 hK rfl rfl rfl ?_
        refine x_getE 90 hK rfl (Or.inl rfl) rfl (sp_171 (h := h4) hG4) (e := (gi h 171 32 + hcN (fun j => gi h 179 (41 + j)) (gi h 177) k.toNat)) ((gi_a (by decide) _).trans (a32)) ?_
        refine x_iload 92 hK rfl rfl lk1_s ?_
        have hGp158 : GD gE gRL sh (wI h4 179 (49 + k).toNat ((gi h 179 (49 + k.toNat)) + 0)) := GD_st (hG4) (r := 62) rfl rfl (fun z => by omega) (fun z => by omega) (fun j hj z => by omega)
        refine x_callS 95 hK hmono rfl (Or.inl rfl) rfl [.int (I 0)] [.int (I (gi h 171 32 + hcN (fun j => gi h 179 (41 + j)) (gi h 177) k.toNat)), .ref 171] rfl rfl (Nat.le_of_ble_eq_true rfl) (Nat.le_of_ble_eq_true rfl) (CLd_le (Nat.le_of_ble_eq_true rfl) (ctX11_flag (by omega))) ?_
        rintro v9 h9 ⟨e9, rfl⟩
        rw [e9]
        clear e9
        refine x_iadd 96 hK rfl rfl ?_
        refine x_putI 99 hK rfl rfl (sp_171 (h := h4) hG4) ?_
        refine x_aload_n 100 hK rfl rfl (lk1_n l1 (by decide) (Or.inl rfl)) ?_
        refine x_bipush 102 hK rfl rfl rfl ?_
        refine x_iload_n 103 hK rfl rfl (lk1_n l3 (by decide) (Or.inl rfl)) ?_
        refine x_iadd 104 hK rfl rfl ?_
        refine x_iload 106 hK rfl rfl lk1_s ?_
        refine x_if_eq 113 109 hK rfl rfl rfl (by omega) (fun _ => ?_) (fun c => by omega)
        refine x_aload_n 114 hK rfl rfl (lk1_n l1 (by decide) (Or.inl rfl)) ?_
        refine x_bipush 116 hK rfl rfl rfl ?_
        refine x_iload_n 117 hK rfl rfl (lk1_n l3 (by decide) (Or.inl rfl)) ?_
        refine x_iadd 118 hK rfl rfl ?_
        refine x_ialoadE 119 hK rfl rfl (sp_179 (h := h4) hG4) (by omega) (by omega) (by omega) (e' := (gi h 179 (41 + k.toNat))) ((gi_a (by decide) _).trans ((gi_k (by omega) _).trans (((gi_to (by omega)).trans ((fl k.toNat (by omega)).1.trans (if_neg (by omega))))))) ?_
        refine x_aload_n 120 hK rfl rfl (lk1_n l0 (by decide) (Or.inl rfl)) ?_
        refine x_getR 123 hK rfl rfl (sp_171 (h := h4) hG4) (rf_171_13 (h := h4) hG4) ?_
        refine x_iload_n 124 hK rfl rfl (lk1_n l3 (by decide) (Or.inl rfl)) ?_
        refine x_ialoadE 125 hK rfl rfl (sp_177 (h := h4) hG4) (by omega) (by omega) (by omega) (e' := (gi h 177 k.toNat)) ((gi_a (by decide) _).trans ((gi_a (by decide) _).trans (FRM_gi hF4 (r := 60) rfl rfl))) ?_
        refine x_isub 126 hK rfl rfl ?_
        refine x_iastore 127 hK rfl rfl (sp_179 (h := h4) hG4) (by omega) (by omega) (by omega) ?_
        refine x_iinc 130 hK rfl rfl (lk1_n l3 (by decide) (Or.inl rfl)) _ rfl ?_
        refine x_goto 41 hK rfl rfl ?_
        have n3 : gi (wI (wI (wI h4 179 (49 + k).toNat ((gi h 179 (49 + k.toNat)) + 0)) 171 32 ((gi h 171 32 + hcN (fun j => gi h 179 (41 + j)) (gi h 177) k.toNat) + 0)) 179 (41 + k).toNat ((gi h 179 (41 + k.toNat)) - (gi h 177 k.toNat))) 179 3 = gi h4 179 3 := ((gi_k (by omega) _).trans ((gi_a (by decide) _).trans ((gi_k (by omega) _).trans rfl)))
        have y1 : gi (wI (wI (wI h4 179 (49 + k).toNat ((gi h 179 (49 + k.toNat)) + 0)) 171 32 ((gi h 171 32 + hcN (fun j => gi h 179 (41 + j)) (gi h 177) k.toNat) + 0)) 179 (41 + k).toNat ((gi h 179 (41 + k.toNat)) - (gi h 177 k.toNat))) 179 (41 + k).toNat = ((gi h 179 (41 + k.toNat)) - (gi h 177 k.toNat)) := gi_same (by omega)
        have y2 : gi (wI (wI (wI h4 179 (49 + k).toNat ((gi h 179 (49 + k.toNat)) + 0)) 171 32 ((gi h 171 32 + hcN (fun j => gi h 179 (41 + j)) (gi h 177) k.toNat) + 0)) 179 (41 + k).toNat ((gi h 179 (41 + k.toNat)) - (gi h 177 k.toNat))) 179 (49 + k).toNat = ((gi h 179 (49 + k.toNat)) + 0) := (gi_k (by omega) _).trans ((gi_a (by decide) _).trans (gi_same (by omega)))
        have fn : ∀ j : Nat, j < 8 → gi (wI (wI (wI h4 179 (49 + k).toNat ((gi h 179 (49 + k.toNat)) + 0)) 171 32 ((gi h 171 32 + hcN (fun j => gi h 179 (41 + j)) (gi h 177) k.toNat) + 0)) 179 (41 + k).toNat ((gi h 179 (41 + k.toNat)) - (gi h 177 k.toNat))) 179 (41 + j) = (if (j : Int) < (k + 1) then fdS (gi h 179 (41 + j)) (gi h 177 j) else gi h 179 (41 + j)) ∧ gi (wI (wI (wI h4 179 (49 + k).toNat ((gi h 179 (49 + k.toNat)) + 0)) 171 32 ((gi h 171 32 + hcN (fun j => gi h 179 (41 + j)) (gi h 177) k.toNat) + 0)) 179 (41 + k).toNat ((gi h 179 (41 + k.toNat)) - (gi h 177 k.toNat))) 179 (49 + j) = (if (j : Int) < (k + 1) then huS (gi h 179 (49 + j)) (gi h 179 (41 + j)) (gi h 177 j) else gi h 179 (49 + j)) := by
          intro j hj
          by_cases c : j = k.toNat
          · subst c
            rw [if_pos (by omega), if_pos (by omega), (gi_to (show 41 + k.toNat = (41 + k).toNat by omega)).trans y1, (gi_to (show 49 + k.toNat = (49 + k).toNat by omega)).trans y2]
            unfold fdS huS
            rw [if_neg (by omega), if_neg (by omega)]
            exact ⟨rfl, Int.add_zero _⟩
          · rw [← if_j k0.1 c, ← if_j k0.1 c]
            exact ⟨((gi_k (by omega) _).trans ((gi_a (by decide) _).trans ((gi_k (by omega) _).trans (fl j hj).1))), ((gi_k (by omega) _).trans ((gi_a (by decide) _).trans ((gi_k (by omega) _).trans (fl j hj).2)))⟩
        exact ih _ (by omega) (k + 1) _ _ rfl (by omega) (((gi_k (by omega) _).trans ((gi_a (by decide) _).trans ((gi_k (by omega) _).trans a0)))) (((gi_k (by omega) _).trans ((gi_a (by decide) _).trans ((gi_k (by omega) _).trans a1)))) (((gi_k (by omega) _).trans ((gi_a (by decide) _).trans ((gi_k (by omega) _).trans a2)))) (((gi_k (by omega) _).trans ((gi_a (by decide) _).trans ((gi_k (by omega) _).trans a4)))) ((by rw [← aw, wl_RC (by rw [n3]; omega), wl_RC (by omega), n3]; exact wlK_congr fun j z1 z2 => ((gi_k (by omega) _).trans ((gi_a (by decide) _).trans ((gi_k (by omega) _).trans rfl))))) (fn) ((((gi_a (by decide) _).trans ((gi_k (by decide) _).trans ((gi_a (by decide) _).trans a31))))) ((by rw [hs, if_neg (by omega)]; exact ((gi_a (by decide) _).trans (gi_same (by omega))).trans (by omega))) (lk1_n (lk1_n l0 (by decide) (Or.inl rfl)) (by decide) (Or.inl rfl)) (lk1_n (lk1_n l1 (by decide) (Or.inl rfl)) (by decide) (Or.inl rfl)) lk1_s (GD_st (GD_w0 (GD_st (hG4) (r := 62) rfl rfl (fun z => by omega) (fun z => by omega) (fun j hj z => by omega)) (r := 54) rfl rfl) (r := 62) rfl rfl (fun z => by omega) (fun z => by omega) (fun j hj z => by omega)) (FRM_wn 0 56 (FRM_w (FRM_wn 0 56 (hF4) (r := 62) rfl rfl rfl (by omega) (by omega)) (r := 54) rfl rfl) (r := 62) rfl rfl rfl (by omega) (by omega))
      · refine x_iconst 65 hK rfl rfl ?_
        refine x_goto 69 hK rfl rfl ?_
        refine x_istore 71 hK rfl rfl _ rfl ?_
        refine x_aload_n 72 hK rfl rfl (lk1_n l1 (by decide) (Or.inl rfl)) ?_
        refine x_bipush 74 hK rfl rfl rfl ?_
        refine x_iload_n 75 hK rfl rfl (lk1_n l3 (by decide) (Or.inl rfl)) ?_
        refine x_iadd 76 hK rfl rfl ?_
        refine x_dup2 77 hK rfl rfl rfl rfl ?_
        refine x_ialoadE 78 hK rfl rfl (sp_179 (h := h4) hG4) (by omega) (by omega) (by omega) (e' := (gi h 179 (49 + k.toNat))) (((gi_to (by omega)).trans ((fl k.toNat (by omega)).2.trans (if_neg (by omega))))) ?_
        refine x_iload 80 hK rfl rfl lk1_s ?_
        refine x_callS 83 hK hmono rfl (Or.inl rfl) rfl [.int (I 1)] [.int (I (gi h 179 (49 + k.toNat))), .int (I (49 + k)), .ref 179] rfl rfl (Nat.le_of_ble_eq_true rfl) (Nat.le_of_ble_eq_true rfl) (CLd_le (Nat.le_of_ble_eq_true rfl) (ctX11_flag (by omega))) ?_
        rintro v9 h9 ⟨e9, rfl⟩
        rw [e9]
        clear e9
        refine x_iadd 84 hK rfl rfl ?_
        refine x_iastore 85 hK rfl rfl (sp_179 (h := h4) hG4) (by omega) (by omega) (by omega) ?_
        refine x_aload_n 86 hK rfl rfl (lk1_n l0 (by decide) (Or.inl rfl)) ?_
        refine x_dup 87 hK rfl rfl rfl ?_
        refine x_getE 90 hK rfl (Or.inl rfl) rfl (sp_171 (h := h4) hG4) (e := (gi h 171 32 + hcN (fun j => gi h 179 (41 + j)) (gi h 177) k.toNat)) ((gi_a (by decide) _).trans (a32)) ?_
        refine x_iload 92 hK rfl rfl lk1_s ?_
        have hGp161 : GD gE gRL sh (wI h4 179 (49 + k).toNat ((gi h 179 (49 + k.toNat)) + 1)) := GD_st (hG4) (r := 62) rfl rfl (fun z => by omega) (fun z => by omega) (fun j hj z => by omega)
        refine x_callS 95 hK hmono rfl (Or.inl rfl) rfl [.int (I 1)] [.int (I (gi h 171 32 + hcN (fun j => gi h 179 (41 + j)) (gi h 177) k.toNat)), .ref 171] rfl rfl (Nat.le_of_ble_eq_true rfl) (Nat.le_of_ble_eq_true rfl) (CLd_le (Nat.le_of_ble_eq_true rfl) (ctX11_flag (by omega))) ?_
        rintro v9 h9 ⟨e9, rfl⟩
        rw [e9]
        clear e9
        refine x_iadd 96 hK rfl rfl ?_
        refine x_putI 99 hK rfl rfl (sp_171 (h := h4) hG4) ?_
        refine x_aload_n 100 hK rfl rfl (lk1_n l1 (by decide) (Or.inl rfl)) ?_
        refine x_bipush 102 hK rfl rfl rfl ?_
        refine x_iload_n 103 hK rfl rfl (lk1_n l3 (by decide) (Or.inl rfl)) ?_
        refine x_iadd 104 hK rfl rfl ?_
        refine x_iload 106 hK rfl rfl lk1_s ?_
        refine x_if_eq 113 109 hK rfl rfl rfl (by omega) (fun c => by omega) (fun _ => ?_)
        refine x_iconst 110 hK rfl rfl ?_
        refine x_goto 126 hK rfl rfl ?_
        refine x_iastore 127 hK rfl rfl (sp_179 (h := h4) hG4) (by omega) (by omega) (by omega) ?_
        refine x_iinc 130 hK rfl rfl (lk1_n l3 (by decide) (Or.inl rfl)) _ rfl ?_
        refine x_goto 41 hK rfl rfl ?_
        have n3 : gi (wI (wI (wI h4 179 (49 + k).toNat ((gi h 179 (49 + k.toNat)) + 1)) 171 32 ((gi h 171 32 + hcN (fun j => gi h 179 (41 + j)) (gi h 177) k.toNat) + 1)) 179 (41 + k).toNat 0) 179 3 = gi h4 179 3 := ((gi_k (by omega) _).trans ((gi_a (by decide) _).trans ((gi_k (by omega) _).trans rfl)))
        have y1 : gi (wI (wI (wI h4 179 (49 + k).toNat ((gi h 179 (49 + k.toNat)) + 1)) 171 32 ((gi h 171 32 + hcN (fun j => gi h 179 (41 + j)) (gi h 177) k.toNat) + 1)) 179 (41 + k).toNat 0) 179 (41 + k).toNat = 0 := gi_same (by omega)
        have y2 : gi (wI (wI (wI h4 179 (49 + k).toNat ((gi h 179 (49 + k.toNat)) + 1)) 171 32 ((gi h 171 32 + hcN (fun j => gi h 179 (41 + j)) (gi h 177) k.toNat) + 1)) 179 (41 + k).toNat 0) 179 (49 + k).toNat = ((gi h 179 (49 + k.toNat)) + 1) := (gi_k (by omega) _).trans ((gi_a (by decide) _).trans (gi_same (by omega)))
        have fn : ∀ j : Nat, j < 8 → gi (wI (wI (wI h4 179 (49 + k).toNat ((gi h 179 (49 + k.toNat)) + 1)) 171 32 ((gi h 171 32 + hcN (fun j => gi h 179 (41 + j)) (gi h 177) k.toNat) + 1)) 179 (41 + k).toNat 0) 179 (41 + j) = (if (j : Int) < (k + 1) then fdS (gi h 179 (41 + j)) (gi h 177 j) else gi h 179 (41 + j)) ∧ gi (wI (wI (wI h4 179 (49 + k).toNat ((gi h 179 (49 + k.toNat)) + 1)) 171 32 ((gi h 171 32 + hcN (fun j => gi h 179 (41 + j)) (gi h 177) k.toNat) + 1)) 179 (41 + k).toNat 0) 179 (49 + j) = (if (j : Int) < (k + 1) then huS (gi h 179 (49 + j)) (gi h 179 (41 + j)) (gi h 177 j) else gi h 179 (49 + j)) := by
          intro j hj
          by_cases c : j = k.toNat
          · subst c
            rw [if_pos (by omega), if_pos (by omega), (gi_to (show 41 + k.toNat = (41 + k).toNat by omega)).trans y1, (gi_to (show 49 + k.toNat = (49 + k).toNat by omega)).trans y2]
            unfold fdS huS
            rw [if_pos (by omega), if_pos (by omega)]
            exact ⟨rfl, rfl⟩
          · rw [← if_j k0.1 c, ← if_j k0.1 c]
            exact ⟨((gi_k (by omega) _).trans ((gi_a (by decide) _).trans ((gi_k (by omega) _).trans (fl j hj).1))), ((gi_k (by omega) _).trans ((gi_a (by decide) _).trans ((gi_k (by omega) _).trans (fl j hj).2)))⟩
        exact ih _ (by omega) (k + 1) _ _ rfl (by omega) (((gi_k (by omega) _).trans ((gi_a (by decide) _).trans ((gi_k (by omega) _).trans a0)))) (((gi_k (by omega) _).trans ((gi_a (by decide) _).trans ((gi_k (by omega) _).trans a1)))) (((gi_k (by omega) _).trans ((gi_a (by decide) _).trans ((gi_k (by omega) _).trans a2)))) (((gi_k (by omega) _).trans ((gi_a (by decide) _).trans ((gi_k (by omega) _).trans a4)))) ((by rw [← aw, wl_RC (by rw [n3]; omega), wl_RC (by omega), n3]; exact wlK_congr fun j z1 z2 => ((gi_k (by omega) _).trans ((gi_a (by decide) _).trans ((gi_k (by omega) _).trans rfl))))) (fn) ((((gi_a (by decide) _).trans ((gi_k (by decide) _).trans ((gi_a (by decide) _).trans a31))))) ((by rw [hs, if_pos (by omega)]; exact ((gi_a (by decide) _).trans (gi_same (by omega))).trans (by omega))) (lk1_n (lk1_n l0 (by decide) (Or.inl rfl)) (by decide) (Or.inl rfl)) (lk1_n (lk1_n l1 (by decide) (Or.inl rfl)) (by decide) (Or.inl rfl)) lk1_s (GD_st (GD_w0 (GD_st (hG4) (r := 62) rfl rfl (fun z => by omega) (fun z => by omega) (fun j hj z => by omega)) (r := 54) rfl rfl) (r := 62) rfl rfl (fun z => by omega) (fun z => by omega) (fun j hj z => by omega)) (FRM_wn 0 56 (FRM_w (FRM_wn 0 56 (hF4) (r := 62) rfl rfl rfl (by omega) (by omega)) (r := 54) rfl rfl) (r := 62) rfl rfl rfl (by omega) (by omega))
  refine x_aload_n 1 hK rfl rfl rfl ?_
  refine x_iconst 2 hK rfl rfl ?_
  refine x_dup2 3 hK rfl rfl rfl rfl ?_
  have g163 := gi_r h 179 0
  refine x_ialoadE 4 hK rfl rfl (sp_179 (h := h) hG) (by omega) (by omega) (by omega) (e' := (gi h 179 0)) (rfl) ?_
  refine x_iconst 5 hK rfl rfl ?_
  refine x_iadd 6 hK rfl rfl ?_
  refine x_iastore 7 hK rfl rfl (sp_179 (h := h) hG) (by omega) (by omega) (by omega) ?_
  refine x_aload_n 8 hK rfl rfl rfl ?_
  change K 8 _ _ (wI h 179 0 ((gi h 179 0) + 1)) _ _
  have hG1 : GD gE gRL sh (wI h 179 0 ((gi h 179 0) + 1)) := GD_w0 (hG) (r := 62) rfl rfl
  have e0 : gi (wI h 179 0 ((gi h 179 0) + 1)) 179 0 = gi h 179 0 + 1 := gi_same (by omega)
  have ew : wl (RC (wI h 179 0 ((gi h 179 0) + 1)) 179 0) = wl (RC h 179 0) := by rw [wl_RC (by rw [gi_k (by decide)]; omega), wl_RC (by omega), gi_k (by decide)]; exact wlK_congr fun j z1 z2 => gi_k (by omega) _
  refine x_callS 11 hK hmono rfl (Or.inl rfl) rfl [.ref 179] [] rfl rfl (Nat.le_of_ble_eq_true rfl) (Nat.le_of_ble_eq_true rfl) (CLd_le (Nat.le_of_ble_eq_true rfl) (ctX11_doesDueTF hSP hG1)) ?_
  rintro v2 h2 ⟨rfl, hG2, hF2, d1, d2⟩
  rw [e0, ew] at d1 d2
  rw [show gi (wI h 179 0 ((gi h 179 0) + 1)) 179 1 = gi h 179 1 from gi_k (by decide) _, ← eL] at d1
  refine x_aload_n 12 hK rfl rfl rfl ?_
  refine x_aload_n 13 hK rfl rfl rfl ?_
  refine x_iconst 14 hK rfl rfl ?_
  refine x_ialoadE 15 hK rfl rfl (sp_179 (h := h2) hG2) (by omega) (by omega) (by omega) (e' := ((gi h 179 0) + 1)) ((FRM_gi hF2 (r := 62) rfl rfl).trans (gi_same (by omega))) ?_
  refine x_aload_n 16 hK rfl rfl rfl ?_
  refine x_iconst 17 hK rfl rfl ?_
  refine x_ialoadE 18 hK rfl rfl (sp_179 (h := h2) hG2) (by omega) (by omega) (by omega) (e' := (stL (vw (RC h 179 0)))) (d1) ?_
  refine x_callV 21 hK hmono rfl rfl [.ref 171, .int (I ((gi h 179 0) + 1)), .int (I (stL (vw (RC h 179 0))))] [] rfl rfl (Nat.le_of_ble_eq_true rfl) (Nat.le_of_ble_eq_true rfl) rfl (sp_171 (h := h2) hG2) (CLd_le (Nat.le_of_ble_eq_true rfl) (ctX11_hitsAtF hSP hG2 (by omega) (by omega))) ?_
  rintro v9 h9 ⟨e9, rfl⟩
  rw [e9, show gi h2 175 = gi h 175 from funext fun j => (FRM_gi hF2 (r := 58) rfl rfl).trans (gi_a (by decide) _), show gi h2 176 = gi h 176 from funext fun j => (FRM_gi hF2 (r := 59) rfl rfl).trans (gi_a (by decide) _), show gi h2 171 6 = gi h 171 6 from (FRM_gi hF2 (r := 54) rfl rfl).trans (gi_a (by decide) _), ← eH]
  clear e9
  rw [← eH] at hH
  refine x_istore_n 22 hK rfl rfl [(2, .int (I (stH (gi h 175) (gi h 176) (gi h 171 6).toNat (vw (RC h 179 0))))), (0, .ref 171), (1, .ref 179)] rfl ?_
  refine x_aload_n 23 hK rfl rfl rfl ?_
  refine x_iconst 24 hK rfl rfl ?_
  refine x_dup2 25 hK rfl rfl rfl rfl ?_
  have g164 := gi_r h 179 2
  refine x_ialoadE 26 hK rfl rfl (sp_179 (h := h2) hG2) (by omega) (by omega) (by omega) (e' := (gi h 179 2)) ((FRM_gi hF2 (r := 62) rfl rfl).trans (gi_k (by decide) _)) ?_
  refine x_iload_n 27 hK rfl rfl rfl ?_
  refine x_iadd 28 hK rfl rfl ?_
  refine x_iastore 29 hK rfl rfl (sp_179 (h := h2) hG2) (by omega) (by omega) (by omega) ?_
  refine x_aload_n 30 hK rfl rfl rfl ?_
  refine x_dup 31 hK rfl rfl rfl ?_
  have g165 := gi_r h 171 31
  refine x_getE 34 hK rfl (Or.inl rfl) rfl (sp_171 (h := h2) hG2) (e := (gi h 171 31)) ((gi_a (by decide) _).trans ((FRM_gi hF2 (r := 54) rfl rfl).trans (gi_a (by decide) _))) ?_
  refine x_iload_n 35 hK rfl rfl rfl ?_
  refine x_iadd 36 hK rfl rfl ?_
  refine x_putI 39 hK rfl rfl (sp_171 (h := h2) hG2) ?_
  refine x_iconst 40 hK rfl rfl ?_
  refine x_istore_n 41 hK rfl rfl [(3, .int (I 0)), (2, .int (I (stH (gi h 175) (gi h 176) (gi h 171 6).toNat (vw (RC h 179 0))))), (0, .ref 171), (1, .ref 179)] rfl ?_
  change K 41 _ _ (wI (wI h2 179 2 ((gi h 179 2) + (stH (gi h 175) (gi h 176) (gi h 171 6).toNat (vw (RC h 179 0))))) 171 31 ((gi h 171 31) + (stH (gi h 175) (gi h 176) (gi h 171 6).toNat (vw (RC h 179 0))))) _ _
  have g23 := gri 0 12 hG2 (a := 179) (r := 62) (k := 3) rfl rfl
  have n3 : gi (wI (wI h2 179 2 ((gi h 179 2) + (stH (gi h 175) (gi h 176) (gi h 171 6).toNat (vw (RC h 179 0))))) 171 31 ((gi h 171 31) + (stH (gi h 175) (gi h 176) (gi h 171 6).toNat (vw (RC h 179 0))))) 179 3 = gi h2 179 3 := (gi_a (by decide) _).trans (gi_k (by decide) _)
  exact loop _ 0 _ _ rfl (by omega) ((gi_a (by decide) _).trans ((gi_k (by decide) _).trans ((FRM_gi hF2 (r := 62) rfl rfl).trans (gi_same (by omega))))) ((gi_a (by decide) _).trans ((gi_k (by decide) _).trans (d1))) ((gi_a (by decide) _).trans (gi_same (by omega))) ((gi_a (by decide) _).trans ((gi_k (by decide) _).trans ((FRM_gi hF2 (r := 62) rfl rfl).trans (gi_k (by decide) _)))) ((by rw [← d2, wl_RC (by rw [n3]; omega), wl_RC (by omega), n3]; exact wlK_congr fun j z1 z2 => (gi_a (by decide) _).trans (gi_k (by omega) _))) ((fun j hj => by rw [if_neg (by omega), if_neg (by omega)]; exact ⟨(gi_a (by decide) _).trans ((gi_k (by omega) _).trans ((FRM_gi hF2 (r := 62) rfl (mh_179 (by omega))).trans (gi_k (by omega) _))), (gi_a (by decide) _).trans ((gi_k (by omega) _).trans ((FRM_gi hF2 (r := 62) rfl (mh_179 (by omega))).trans (gi_k (by omega) _)))⟩)) (gi_same (by omega)) ((((gi_k (by decide) _).trans ((gi_a (by decide) _).trans ((FRM_gi hF2 (r := 54) rfl rfl).trans (gi_a (by decide) _)))).trans (Int.add_zero _).symm)) rfl rfl rfl (GD_w0 (GD_w0 (hG2) (r := 62) rfl rfl) (r := 54) rfl rfl) (FRM_w (FRM_w ((FRM_w ((FRM.rf : FRM gRL [(0, 54, 31, 32), (0, 62, 0, 56)] h h)) (r := 62) rfl rfl).trans ((hF2).mono rfl)) (r := 62) rfl rfl) (r := 54) rfl rfl)
end
