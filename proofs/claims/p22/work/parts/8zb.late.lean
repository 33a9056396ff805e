section
/-! LATE -/
theorem dlA_12 (h : aH) (t : Int) : dlA h (t + 12) = dlA h t := by
  have e : askF h (t + 12) = askF h t := by
    funext q
    unfold askF
    rw [show (t + 12) % 12 = t % 12 by omega]
  unfold dlA
  rw [e]
/-- when an order of STEP k from now is done -/
noncomputable def dnF (h : aH) (t : Int) (k : Nat) : Int := (k : Int) + dlA h (t + k)
theorem dnF_b (h : aH) (t : Int) (k : Nat) : (k : Int) + 1 ≤ dnF h t k ∧ dnF h t k ≤ k + 12 := by
  have := dlA_b h (t + k)
  unfold dnF
  omega
theorem dnF_12 (h : aH) (t : Int) (k : Nat) : dnF h t (k + 12) = dnF h t k + 12 := by
  unfold dnF
  rw [show t + ((k + 12 : Nat) : Int) = t + (k : Int) + 12 by omega, dlA_12]
  omega
end
section
/-! WHO FASTS -/
noncomputable def bc3 (y : Int) : Int := bAnd (y + bUsh y 4) 252645135
set_option maxRecDepth 4000 in
theorem ctX11_hasF {SP : CT} (hSP : MONO SP) {h : aH} {x y : Int} : CLd SP 1 mX11_has [.int (I x), .int (I y)] h 0 0 (fun rv h' => h' = h ∧ ((rv = some (.int (I 1)) ∧ bAnd (bShr x y) 1 = 1) ∨ (rv = some (.int (I 0)) ∧ ¬ bAnd (bShr x y) 1 = 1))) := by
  refine x_met _ rfl (Nat.le_of_ble_eq_true rfl) (fun K hK => ?_)
  have hmono := MONO_CLd hSP 0
  refine x_iload_n 1 hK rfl rfl rfl ?_
  refine x_iload_n 2 hK rfl rfl rfl ?_
  have g599 := bShr_r x y
  refine x_ishrF 3 hK rfl rfl ?_
  refine x_iconst 4 hK rfl rfl ?_
  have g600 := bAnd_r (bShr x y) 1
  refine x_iandF 5 hK rfl rfl ?_
  refine x_iconst 6 hK rfl rfl ?_
  refine x_if_icmp_ne 13 9 hK rfl rfl rfl (by omega) (by omega) (fun c7 => ?_) (fun c7 => ?_)
  · refine x_iconst 14 hK rfl rfl ?_
    exact x_zret hK rfl (by omega) ⟨rfl, Or.inr ⟨rfl, by omega⟩⟩
  · refine x_iconst 10 hK rfl rfl ?_
    refine x_goto 14 hK rfl rfl ?_
    exact x_zret hK rfl (by omega) ⟨rfl, Or.inl ⟨rfl, by omega⟩⟩
end
