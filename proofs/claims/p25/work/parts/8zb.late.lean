section
/-! LATE -/
theorem dlA_12 (h : aH) (t : Int) : dlA h (t + 12) = dlA h t := by
  have e : askF h (t + 12) = askF h t := by
    funext q
    unfold askF
    rw [show (t + 12) % 12 = t % 12 by omega]
  unfold dlA
  rw [e]
/-- when an order of STEP k from now is done -/
noncomputable def dnF (h : aH) (t : Int) (k : Nat) : Int := (k : Int) + dlA h (t + k)
theorem dnF_b (h : aH) (t : Int) (k : Nat) : (k : Int) + 1 ≤ dnF h t k ∧ dnF h t k ≤ k + 12 := by
  have := dlA_b h (t + k)
  unfold dnF
  omega
theorem dnF_12 (h : aH) (t : Int) (k : Nat) : dnF h t (k + 12) = dnF h t k + 12 := by
  unfold dnF
  rw [show t + ((k + 12 : Nat) : Int) = t + (k : Int) + 12 by omega, dlA_12]
  omega
end
section
/-! WHO FASTS -/
noncomputable def bc1 (x : Int) : Int := x - bAnd (bUsh x 1) 1431655765
noncomputable def bc2 (y : Int) : Int := bAnd y 858993459 + bAnd (bUsh y 2) 858993459
noncomputable def bc3 (y : Int) : Int := bAnd (y + bUsh y 4) 252645135
noncomputable def bc4 (y : Int) : Int := y + bUsh y 8
noncomputable def bc5 (y : Int) : Int := y + bUsh y 16
noncomputable def bcF (x : Int) : Int := bAnd (bc5 (bc4 (bc3 (bc2 (bc1 x))))) 63
theorem bcF_r (x : Int) : r32 (bcF x) := bAnd_r _ _
set_option maxRecDepth 4000 in
theorem ctJ6_bitCount_0f7a4F {SP : CT} (hSP : MONO SP) {h : aH} {x : Int} : CLd SP 1 mJ6_bitCount_0f7a4 [.int (I x)] h 0 0 (fun rv h' => h' = h ∧ rv = some (.int (I (bcF x)))) := by
  refine x_met _ rfl (Nat.le_of_ble_eq_true rfl) (fun K hK => ?_)
  have hmono := MONO_CLd hSP 0
  refine x_iload_n 1 hK rfl rfl rfl ?_
  refine x_iload_n 2 hK rfl rfl rfl ?_
  refine x_iconst 3 hK rfl rfl ?_
  have g578 := bUsh_r x 1
  refine x_iushrF 4 hK rfl rfl ?_
  refine x_ldc_w 7 hK rfl rfl ?_
  have g579 := bAnd_r (bUsh x 1) 1431655765
  refine x_iandF 8 hK rfl rfl ?_
  refine x_isub 9 hK rfl rfl ?_
  change K 9 _ (.int (I (bc1 x)) :: _) _ _ _
  refine x_istore_n 10 hK rfl rfl [(0, .int (I (bc1 x)))] rfl ?_
  refine x_iload_n 11 hK rfl rfl rfl ?_
  refine x_ldc_w 14 hK rfl rfl ?_
  have g580 := bAnd_r (bc1 x) 858993459
  refine x_iandF 15 hK rfl rfl ?_
  refine x_iload_n 16 hK rfl rfl rfl ?_
  refine x_iconst 17 hK rfl rfl ?_
  have g581 := bUsh_r (bc1 x) 2
  refine x_iushrF 18 hK rfl rfl ?_
  refine x_ldc_w 21 hK rfl rfl ?_
  have g582 := bAnd_r (bUsh (bc1 x) 2) 858993459
  refine x_iandF 22 hK rfl rfl ?_
  refine x_iadd 23 hK rfl rfl ?_
  change K 23 _ (.int (I (bc2 (bc1 x))) :: _) _ _ _
  refine x_istore_n 24 hK rfl rfl [(0, .int (I (bc2 (bc1 x))))] rfl ?_
  refine x_iload_n 25 hK rfl rfl rfl ?_
  refine x_iload_n 26 hK rfl rfl rfl ?_
  refine x_iconst 27 hK rfl rfl ?_
  have g583 := bUsh_r (bc2 (bc1 x)) 4
  refine x_iushrF 28 hK rfl rfl ?_
  refine x_iadd 29 hK rfl rfl ?_
  refine x_ldc_w 32 hK rfl rfl ?_
  have g584 := bAnd_r ((bc2 (bc1 x)) + (bUsh (bc2 (bc1 x)) 4)) 252645135
  refine x_iandF 33 hK rfl rfl ?_
  change K 33 _ (.int (I (bc3 (bc2 (bc1 x)))) :: _) _ _ _
  refine x_istore_n 34 hK rfl rfl [(0, .int (I (bc3 (bc2 (bc1 x)))))] rfl ?_
  refine x_iload_n 35 hK rfl rfl rfl ?_
  refine x_iload_n 36 hK rfl rfl rfl ?_
  refine x_bipush 38 hK rfl rfl rfl ?_
  have g585 := bUsh_r (bc3 (bc2 (bc1 x))) 8
  refine x_iushrF 39 hK rfl rfl ?_
  refine x_iadd 40 hK rfl rfl ?_
  change K 40 _ (.int (I (bc4 (bc3 (bc2 (bc1 x))))) :: _) _ _ _
  refine x_istore_n 41 hK rfl rfl [(0, .int (I (bc4 (bc3 (bc2 (bc1 x))))))] rfl ?_
  refine x_iload_n 42 hK rfl rfl rfl ?_
  refine x_iload_n 43 hK rfl rfl rfl ?_
  refine x_bipush 45 hK rfl rfl rfl ?_
  have g586 := bUsh_r (bc4 (bc3 (bc2 (bc1 x)))) 16
  refine x_iushrF 46 hK rfl rfl ?_
  refine x_iadd 47 hK rfl rfl ?_
  change K 47 _ (.int (I (bc5 (bc4 (bc3 (bc2 (bc1 x)))))) :: _) _ _ _
  refine x_istore_n 48 hK rfl rfl [(0, .int (I (bc5 (bc4 (bc3 (bc2 (bc1 x)))))))] rfl ?_
  refine x_iload_n 49 hK rfl rfl rfl ?_
  refine x_bipush 51 hK rfl rfl rfl ?_
  have g587 := bAnd_r (bc5 (bc4 (bc3 (bc2 (bc1 x))))) 63
  refine x_iandF 52 hK rfl rfl ?_
  exact x_iret hK rfl ⟨rfl, rfl⟩
end
