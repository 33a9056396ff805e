/-! SETS OF LANES -/
noncomputable def bitS (s : Int) (j : Nat) : Int := bAnd (bShr s j) 1
noncomputable def wdB (s : Int) : Int := bAnd (bOr (bOr s (bShl s 1)) (bShr s 1)) 511
theorem wdB_n : ∀ s : Nat, s < 512 → (0 ≤ wdB s ∧ wdB s ≤ 511) ∧ ∀ j : Nat, j < 9 → (bitS (wdB s) j = 1 ↔ bitS s j = 1 ∨ (1 ≤ j ∧ bitS s (j - 1) = 1) ∨ (j ≤ 7 ∧ bitS s (j + 1) = 1)) := by decide +kernel
/-- costs that are told stay below m -/
noncomputable def FN (m : Int) (u : Nat → Int) : Prop := ∀ g, u g < 1000 → u g ≤ m
theorem FN.mono {m m' : Int} {u : Nat → Int} (h : FN m u) (hm : m ≤ m') : FN m' u := fun g z => by have := h g z; omega
/-! bit by bit -/
noncomputable def gb (s : Int) (j : Nat) : Bool := (I s).toBitVec.getLsbD j
theorem gb_and (a b : Int) (j : Nat) : gb (bAnd a b) j = (gb a j && gb b j) := by
  unfold gb bAnd
  rw [I_ti]
  exact BitVec.getLsbD_and
theorem gb_or (a b : Int) (j : Nat) : gb (bOr a b) j = (gb a j || gb b j) := by
  unfold gb bOr
  rw [I_ti]
  exact BitVec.getLsbD_or
theorem bt_n : ∀ s : Nat, s < 512 → (I s).toBitVec.toNat = s ∧ ∀ j : Nat, j < 9 → (bitS s j = 1 ↔ gb s j = true) := by decide +kernel
theorem bt_gb {s : Int} (h : 0 ≤ s ∧ s ≤ 511) {j : Nat} (hj : j < 9) : bitS s j = 1 ↔ gb s j = true := by
  obtain ⟨n, hn⟩ : ∃ n : Nat, s = n := ⟨s.toNat, by omega⟩
  rw [hn]
  exact (bt_n n (by omega)).2 j hj
theorem bAnd_in {s : Int} (h : 0 ≤ s ∧ s ≤ 511) (b : Int) : 0 ≤ bAnd s b ∧ bAnd s b ≤ 511 := by
  obtain ⟨n, hn⟩ : ∃ n : Nat, s = n := ⟨s.toNat, by omega⟩
  have e : ((I s).toBitVec &&& (I b).toBitVec).toNat ≤ 511 := by
    rw [BitVec.toNat_and]
    refine Nat.le_trans Nat.and_le_left ?_
    rw [hn, (bt_n n (by omega)).1]
    omega
  show 0 ≤ ((I s).toBitVec &&& (I b).toBitVec).toInt ∧ ((I s).toBitVec &&& (I b).toBitVec).toInt ≤ 511
  rw [BitVec.toInt_eq_toNat_of_lt (by omega)]
  omega
theorem or_n : ∀ l : Nat, l < 9 → (0 ≤ bShl 1 l ∧ bShl 1 l ≤ 511) ∧ (∀ j : Nat, j < 9 → (gb (bShl 1 l) j = true ↔ j = l)) ∧ ∀ s : Nat, s < 512 → 0 ≤ bOr s (bShl 1 l) ∧ bOr s (bShl 1 l) ≤ 511 := by decide +kernel
/-! the same list of doings -/
set_option maxRecDepth 4000 in
theorem ctX10_widenedF {SP : CT} (hSP : MONO SP) {h : aH} {s : Int} : CLd SP 1 mX10_widened [.int (I s)] h 0 0 (fun rv h' => h' = h ∧ rv = some (.int (I (wdB s)))) := by
  refine x_met _ rfl (Nat.le_of_ble_eq_true rfl) (fun K hK => ?_)
  have hmono := MONO_CLd hSP 0
  refine x_iload_n 1 hK rfl rfl rfl ?_
  refine x_iload_n 2 hK rfl rfl rfl ?_
  refine x_iconst 3 hK rfl rfl ?_
  have g390 := bShl_r s 1
  refine x_ishlF 4 hK rfl rfl ?_
  have g391 := bOr_r s (bShl s 1)
  refine x_iorF 5 hK rfl rfl ?_
  refine x_iload_n 6 hK rfl rfl rfl ?_
  refine x_iconst 7 hK rfl rfl ?_
  have g392 := bShr_r s 1
  refine x_ishrF 8 hK rfl rfl ?_
  have g393 := bOr_r (bOr s (bShl s 1)) (bShr s 1)
  refine x_iorF 9 hK rfl rfl ?_
  refine x_sipush 12 hK rfl rfl rfl ?_
  have g394 := bAnd_r (bOr (bOr s (bShl s 1)) (bShr s 1)) 511
  refine x_iandF 13 hK rfl rfl ?_
  exact x_iret hK rfl ⟨rfl, rfl⟩
