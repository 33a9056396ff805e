/-! THE SHIP (the reference) -/
theorem nmI_e {f : Int → Int} {n : Nat} {lo hi p e q : Int} (h1 : e = if (tkv f n p 0).2 = p then -1 else if lo ≤ (tkv f n p 0).1 ∧ (tkv f n p 0).1 ≤ hi then (tkv f n p 0).1 else -1) (h2 : q = if (tkv f n p 0).2 = p then (tkv f n p 0).2 else if lo ≤ (tkv f n p 0).1 ∧ (tkv f n p 0).1 ≤ hi then (tkv f n p 0).2 else (tkv f n p 0).2 - 1) : nmI f n lo hi p = (e, q) := by
  have nn := tkv_nn (f := f) n p 0 (Int.le_refl _)
  unfold nmI nmF
  by_cases c : (tkv f n p 0).2 = p
  · rw [if_pos c] at h1 h2
    rw [if_pos c, if_pos (show (-1 : Int) < 0 by decide), h1, h2]
  · rw [if_neg c] at h1 h2
    rw [if_neg c, if_neg (show ¬ (tkv f n p 0).1 < 0 by omega)]
    by_cases d : lo ≤ (tkv f n p 0).1 ∧ (tkv f n p 0).1 ≤ hi
    · rw [if_pos d] at h1 h2
      rw [if_pos d, h1, h2]
    · rw [if_neg d] at h1 h2
      rw [if_neg d, h1, h2]
def mpL (h : aH) (n : Nat) : List (Int × Int) := (List.range n).map fun j => (gi h 173 j, gi h 174 j)
theorem mpL_s {h h' : aH} {n : Nat} {c l : Int} (h1 : gi h' 173 n = c) (h2 : gi h' 174 n = l) (h3 : ∀ j, j < n → gi h' 173 j = gi h 173 j ∧ gi h' 174 j = gi h 174 j) : mpL h' (n + 1) = mpL h n ++ [(c, l)] := by
  unfold mpL
  rw [List.range_succ, List.map_append, List.map_cons, List.map_nil, h1, h2]
  congr 1
  exact List.map_congr_left fun j hj => by rw [(h3 j (List.mem_range.mp hj)).1, (h3 j (List.mem_range.mp hj)).2]
theorem take_s {L : List (Int × Int)} {k : Nat} (h : k < L.length) : L.take (k + 1) = L.take k ++ [L.getD k (0, 0)] := by
  rw [List.take_succ, List.getD_eq_getElem?_getD, List.getElem?_eq_getElem h]; rfl
set_option maxRecDepth 4000 in
theorem ctX11_shipF {SP : CT} (hSP : MONO SP) {sh : List (Nat × Nat)} {h : aH} (hG : GD gE gRL sh h) : CLd SP 6 mX11_ship [.ref 171] h 0 0 (fun rv h' => (((fltF (gi h 171 17) 43 (shF (txF (gi h 180) (min (gi h 171 17) 43))).2.1) < 0 ∧ rv = some (.int (I (fltF (gi h 171 17) 43 (shF (txF (gi h 180) (min (gi h 171 17) 43))).2.1))) ∧ gi h' 171 3 = gi h 171 3 ∧ gi h' 171 4 = gi h 171 4 ∧ gi h' 171 5 = gi h 171 5 ∧ ∀ j, gi h' 173 j = gi h 173 j ∧ gi h' 174 j = gi h 174 j) ∨ ((fltF (gi h 171 17) 43 (shF (txF (gi h 180) (min (gi h 171 17) 43))).2.1) = 0 ∧ rv = some (.int (I (((shF (txF (gi h 180) (min (gi h 171 17) 43))).2.2).length : Nat))) ∧ gi h' 171 3 = (shF (txF (gi h 180) (min (gi h 171 17) 43))).1 ∧ gi h' 171 4 = (((shF (txF (gi h 180) (min (gi h 171 17) 43))).2.2).length : Nat) ∧ gi h' 171 5 = lsum (shF (txF (gi h 180) (min (gi h 171 17) 43))).2.2 ∧ mpL h' ((shF (txF (gi h 180) (min (gi h 171 17) 43))).2.2).length = (shF (txF (gi h 180) (min (gi h 171 17) 43))).2.2)) ∧ GD gE gRL sh h' ∧ FRM gRL [(0, 54, 0, 0), (0, 54, 3, 5), (0, 54, 17, 20), (0, 54, 22, 22), (0, 56, 0, 9), (0, 57, 0, 9), (0, 64, 0, 31)] h h' ∧ gi h' 171 0 = 0 ∧ gi h' 171 17 = 0) := by
  refine x_met _ rfl (Nat.le_of_ble_eq_true rfl) (fun K hK => ?_)
  have hmono := MONO_CLd hSP 5
  have gsz := gri 0 80 hG (a := 171) (r := 54) (k := 17) rfl rfl
  obtain ⟨T, hT⟩ : ∃ T, (txF (gi h 180) (min (gi h 171 17) 43)) = T := ⟨_, rfl⟩
  obtain ⟨RR, hRR⟩ : ∃ RR, shF T = RR := ⟨_, rfl⟩
  have fe0 : ∀ a, min (gi h 171 17) 43 ≤ a → T a = -1 := fun a ha => by rw [← hT]; exact if_neg (by omega)
  have rb := shF_b fe0 (by omega)
  rw [hRR] at rb
  rw [hT, hRR] at hK
  have loop2 : ∀ (mz : Nat) (k : Int) (h5 : aH) (ls : List (Nat × Value)), ((((RR.2.2.length : Nat) : Int) - k).toNat = mz) → (0 ≤ k ∧ k ≤ (RR.2.2.length : Nat)) → (fltF (gi h 171 17) 43 RR.2.1 = 0) → (gi h5 171 0 = 0) → (gi h5 171 17 = 0) → (gi h5 171 3 = RR.1) → (gi h5 171 4 = (RR.2.2.length : Nat)) → (gi h5 171 5 = lsum (RR.2.2.take k.toNat)) → (∀ j : Nat, j < RR.2.2.length → gi h5 181 (2 * j) = (RR.2.2.getD j (0, 0)).1 ∧ gi h5 181 (2 * j + 1) = (RR.2.2.getD j (0, 0)).2) → (mpL h5 k.toNat = RR.2.2.take k.toNat) → lk ls 0 = some (.ref 171) → lk ls 6 = some (.int (I k)) → GD gE gRL sh h5 → FRM gRL [(0, 54, 0, 0), (0, 54, 3, 5), (0, 54, 17, 20), (0, 54, 22, 22), (0, 56, 0, 9), (0, 57, 0, 9), (0, 64, 0, 31)] h h5 → K 181 ls [] h5 0 0 := by
    intro mz
    induction mz using Nat.strongRecOn with
    | ind mz ih =>
    intro k h5 ls hm k0 f0 t5 z5 d3 d4 d5 rl mp l0 l6 hG5 hF5
    have rlk := fun z : k < (RR.2.2.length : Nat) => rl k.toNat (by omega)
    have rbk := fun z : k < (RR.2.2.length : Nat) => getD_all rb.2.2.2 (j := k.toNat) (by omega)
    have rb1 := rb.2.1
    have sb := lsum_b (l := RR.2.2.take k.toNat) (fun q hq => (rb.2.2.2 q (List.mem_of_mem_take hq)).2)
    have sl : (RR.2.2.take k.toNat).length ≤ 10 := Nat.le_trans (List.length_take_le _ _) (by omega)
    have ts := fun z : k < (RR.2.2.length : Nat) => take_s (L := RR.2.2) (k := k.toNat) (by omega)
    have wr2 := rb.2.2.1 (fltF_0 (n := gi h 171 17) (most := 43) (by omega) rb.1.1 f0).1
    refine x_iload 183 hK rfl rfl l6 ?_
    refine x_aload_n 184 hK rfl rfl l0 ?_
    refine x_getE 187 hK rfl (Or.inl rfl) rfl (sp_171 (h := h5) hG5) (e := ((RR.2.2.length : Nat) : Int)) (d4) ?_
    refine x_if_icmp_ge 259 190 hK rfl rfl rfl (by omega) (by omega) (fun c4 => ?_) (fun c4 => ?_)
    · refine x_aload_n 260 hK rfl rfl l0 ?_
      refine x_getE 263 hK rfl (Or.inl rfl) rfl (sp_171 (h := h5) hG5) (e := ((RR.2.2.length : Nat) : Int)) (d4) ?_
      obtain rfl : k = (RR.2.2.length : Nat) := by omega
      rw [show ((RR.2.2.length : Nat) : Int).toNat = RR.2.2.length from rfl, List.take_length] at d5 mp
      exact x_iret hK rfl ⟨Or.inr ⟨f0, rfl, d3, d4, d5, mp⟩, hG5, hF5, t5, z5⟩
    · refine x_aload_n 191 hK rfl rfl l0 ?_
      refine x_getR 194 hK rfl rfl (sp_171 (h := h5) hG5) (rf_171_9 (h := h5) hG5) ?_
      refine x_iload 196 hK rfl rfl l6 ?_
      refine x_aload_n 197 hK rfl rfl l0 ?_
      refine x_getR 200 hK rfl rfl (sp_171 (h := h5) hG5) (rf_171_21 (h := h5) hG5) ?_
      refine x_iconst 201 hK rfl rfl ?_
      refine x_iload 203 hK rfl rfl l6 ?_
      refine x_imul 204 hK rfl rfl ?_
      refine x_ialoadE 205 hK rfl rfl (sp_181 (h := h5) hG5) (by omega) (by omega) (by omega) (e' := (RR.2.2.getD k.toNat (0, 0)).1) (((gi_to (by omega)).trans (rlk (by omega)).1)) ?_
      refine x_iastore 206 hK rfl rfl (sp_173 (h := h5) hG5) (by omega) (by omega) (by omega) ?_
      refine x_aload_n 207 hK rfl rfl l0 ?_
      refine x_getR 210 hK rfl rfl (sp_171 (h := h5) hG5) (rf_171_10 (h := h5) hG5) ?_
      refine x_iload 212 hK rfl rfl l6 ?_
      refine x_aload_n 213 hK rfl rfl l0 ?_
      refine x_getR 216 hK rfl rfl (sp_171 (h := h5) hG5) (rf_171_21 (h := h5) hG5) ?_
      refine x_iconst 217 hK rfl rfl ?_
      refine x_iload 219 hK rfl rfl l6 ?_
      refine x_imul 220 hK rfl rfl ?_
      refine x_iconst 221 hK rfl rfl ?_
      refine x_iadd 222 hK rfl rfl ?_
      refine x_ialoadE 223 hK rfl rfl (sp_181 (h := h5) hG5) (by omega) (by omega) (by omega) (e' := (RR.2.2.getD k.toNat (0, 0)).2) ((gi_a (by decide) _).trans (((gi_to (by omega)).trans (rlk (by omega)).2))) ?_
      refine x_iconst 224 hK rfl rfl ?_
      refine x_if_icmp_ne 231 227 hK rfl rfl rfl (by omega) (by omega) (fun c30 => ?_) (fun c30 => ?_)
      · refine x_iconst 232 hK rfl rfl ?_
        refine x_bastore 233 hK rfl rfl (sp_174 (h := h5) hG5) (by omega) (by omega) (by omega) (by omega) ?_
        refine x_aload_n 234 hK rfl rfl l0 ?_
        refine x_dup 235 hK rfl rfl rfl ?_
        refine x_getE 238 hK rfl (Or.inl rfl) rfl (sp_171 (h := h5) hG5) (e := (lsum (RR.2.2.take k.toNat))) ((gi_a (by decide) _).trans ((gi_a (by decide) _).trans (d5))) ?_
        refine x_aload_n 239 hK rfl rfl l0 ?_
        refine x_getR 242 hK rfl rfl (sp_171 (h := h5) hG5) (rf_171_21 (h := h5) hG5) ?_
        refine x_iconst 243 hK rfl rfl ?_
        refine x_iload 245 hK rfl rfl l6 ?_
        refine x_imul 246 hK rfl rfl ?_
        refine x_iconst 247 hK rfl rfl ?_
        refine x_iadd 248 hK rfl rfl ?_
        refine x_ialoadE 249 hK rfl rfl (sp_181 (h := h5) hG5) (by omega) (by omega) (by omega) (e' := (RR.2.2.getD k.toNat (0, 0)).2) ((gi_a (by decide) _).trans ((gi_a (by decide) _).trans (((gi_to (by omega)).trans (rlk (by omega)).2)))) ?_
        refine x_iadd 250 hK rfl rfl ?_
        refine x_putI 253 hK rfl rfl (sp_171 (h := h5) hG5) ?_
        refine x_iinc 256 hK rfl rfl l6 _ rfl ?_
        refine x_goto 181 hK rfl rfl ?_
        have rbq := rbk (by omega)
        have tsq := ts (by omega)
        have y1 : gi (wI (wI (wI h5 173 k.toNat ((RR.2.2.getD k.toNat (0, 0)).1)) 174 k.toNat 0) 171 5 ((lsum (RR.2.2.take k.toNat)) + (RR.2.2.getD k.toNat (0, 0)).2)) 173 k.toNat = (RR.2.2.getD k.toNat (0, 0)).1 := (gi_a (by decide) _).trans ((gi_a (by decide) _).trans (gi_same (by omega)))
        have y2 : gi (wI (wI (wI h5 173 k.toNat ((RR.2.2.getD k.toNat (0, 0)).1)) 174 k.toNat 0) 171 5 ((lsum (RR.2.2.take k.toNat)) + (RR.2.2.getD k.toNat (0, 0)).2)) 174 k.toNat = (RR.2.2.getD k.toNat (0, 0)).2 := ((gi_a (by decide) _).trans (gi_same (by omega))).trans (by omega)
        have y5 : gi (wI (wI (wI h5 173 k.toNat ((RR.2.2.getD k.toNat (0, 0)).1)) 174 k.toNat 0) 171 5 ((lsum (RR.2.2.take k.toNat)) + (RR.2.2.getD k.toNat (0, 0)).2)) 171 5 = lsum (RR.2.2.take (k + 1).toNat) := by rw [tn_s k0.1, tsq, lsum_snoc]; exact gi_same (by omega)
        have ym : mpL (wI (wI (wI h5 173 k.toNat ((RR.2.2.getD k.toNat (0, 0)).1)) 174 k.toNat 0) 171 5 ((lsum (RR.2.2.take k.toNat)) + (RR.2.2.getD k.toNat (0, 0)).2)) (k + 1).toNat = RR.2.2.take (k + 1).toNat := by
          rw [tn_s k0.1, tsq, ← mp]
          exact mpL_s y1 y2 fun j hj => ⟨(gi_a (by decide) _).trans ((gi_a (by decide) _).trans (gi_k (by omega) _)), (gi_a (by decide) _).trans ((gi_k (by omega) _).trans (gi_a (by decide) _))⟩
        exact ih _ (by omega) (k + 1) _ _ rfl (by omega) (f0) ((gi_k (by decide) _).trans ((gi_a (by decide) _).trans ((gi_a (by decide) _).trans (t5)))) ((gi_k (by decide) _).trans ((gi_a (by decide) _).trans ((gi_a (by decide) _).trans (z5)))) ((gi_k (by decide) _).trans ((gi_a (by decide) _).trans ((gi_a (by decide) _).trans (d3)))) ((gi_k (by decide) _).trans ((gi_a (by decide) _).trans ((gi_a (by decide) _).trans (d4)))) (y5) ((fun j hj => by rw [show gi (wI (wI (wI h5 173 k.toNat ((RR.2.2.getD k.toNat (0, 0)).1)) 174 k.toNat 0) 171 5 ((lsum (RR.2.2.take k.toNat)) + (RR.2.2.getD k.toNat (0, 0)).2)) 181 (2 * j) = gi h5 181 (2 * j) from (gi_a (by decide) _).trans ((gi_a (by decide) _).trans (gi_a (by decide) _)), show gi (wI (wI (wI h5 173 k.toNat ((RR.2.2.getD k.toNat (0, 0)).1)) 174 k.toNat 0) 171 5 ((lsum (RR.2.2.take k.toNat)) + (RR.2.2.getD k.toNat (0, 0)).2)) 181 (2 * j + 1) = gi h5 181 (2 * j + 1) from (gi_a (by decide) _).trans ((gi_a (by decide) _).trans (gi_a (by decide) _))]; exact rl j hj)) (ym) (lk1_n l0 (by decide) (Or.inl rfl)) lk1_s (GD_w0 (GD_wu (GD_wn (hG5) (r := 56) rfl rfl) (r := 57) rfl (by omega) rfl (by omega) (by omega)) (r := 54) rfl rfl) (FRM_w (FRM_wn 0 9 (FRM_wn 0 9 (hF5) (r := 56) rfl rfl rfl (by omega) (by omega)) (r := 57) rfl rfl rfl (by omega) (by omega)) (r := 54) rfl rfl)
      · refine x_iconst 228 hK rfl rfl ?_
        refine x_goto 232 hK rfl rfl ?_
        refine x_bastore 233 hK rfl rfl (sp_174 (h := h5) hG5) (by omega) (by omega) (by omega) (by omega) ?_
        refine x_aload_n 234 hK rfl rfl l0 ?_
        refine x_dup 235 hK rfl rfl rfl ?_
        refine x_getE 238 hK rfl (Or.inl rfl) rfl (sp_171 (h := h5) hG5) (e := (lsum (RR.2.2.take k.toNat))) ((gi_a (by decide) _).trans ((gi_a (by decide) _).trans (d5))) ?_
        refine x_aload_n 239 hK rfl rfl l0 ?_
        refine x_getR 242 hK rfl rfl (sp_171 (h := h5) hG5) (rf_171_21 (h := h5) hG5) ?_
        refine x_iconst 243 hK rfl rfl ?_
        refine x_iload 245 hK rfl rfl l6 ?_
        refine x_imul 246 hK rfl rfl ?_
        refine x_iconst 247 hK rfl rfl ?_
        refine x_iadd 248 hK rfl rfl ?_
        refine x_ialoadE 249 hK rfl rfl (sp_181 (h := h5) hG5) (by omega) (by omega) (by omega) (e' := (RR.2.2.getD k.toNat (0, 0)).2) ((gi_a (by decide) _).trans ((gi_a (by decide) _).trans (((gi_to (by omega)).trans (rlk (by omega)).2)))) ?_
        refine x_iadd 250 hK rfl rfl ?_
        refine x_putI 253 hK rfl rfl (sp_171 (h := h5) hG5) ?_
        refine x_iinc 256 hK rfl rfl l6 _ rfl ?_
        refine x_goto 181 hK rfl rfl ?_
        have rbq := rbk (by omega)
        have tsq := ts (by omega)
        have y1 : gi (wI (wI (wI h5 173 k.toNat ((RR.2.2.getD k.toNat (0, 0)).1)) 174 k.toNat 1) 171 5 ((lsum (RR.2.2.take k.toNat)) + (RR.2.2.getD k.toNat (0, 0)).2)) 173 k.toNat = (RR.2.2.getD k.toNat (0, 0)).1 := (gi_a (by decide) _).trans ((gi_a (by decide) _).trans (gi_same (by omega)))
        have y2 : gi (wI (wI (wI h5 173 k.toNat ((RR.2.2.getD k.toNat (0, 0)).1)) 174 k.toNat 1) 171 5 ((lsum (RR.2.2.take k.toNat)) + (RR.2.2.getD k.toNat (0, 0)).2)) 174 k.toNat = (RR.2.2.getD k.toNat (0, 0)).2 := ((gi_a (by decide) _).trans (gi_same (by omega))).trans (by omega)
        have y5 : gi (wI (wI (wI h5 173 k.toNat ((RR.2.2.getD k.toNat (0, 0)).1)) 174 k.toNat 1) 171 5 ((lsum (RR.2.2.take k.toNat)) + (RR.2.2.getD k.toNat (0, 0)).2)) 171 5 = lsum (RR.2.2.take (k + 1).toNat) := by rw [tn_s k0.1, tsq, lsum_snoc]; exact gi_same (by omega)
        have ym : mpL (wI (wI (wI h5 173 k.toNat ((RR.2.2.getD k.toNat (0, 0)).1)) 174 k.toNat 1) 171 5 ((lsum (RR.2.2.take k.toNat)) + (RR.2.2.getD k.toNat (0, 0)).2)) (k + 1).toNat = RR.2.2.take (k + 1).toNat := by
          rw [tn_s k0.1, tsq, ← mp]
          exact mpL_s y1 y2 fun j hj => ⟨(gi_a (by decide) _).trans ((gi_a (by decide) _).trans (gi_k (by omega) _)), (gi_a (by decide) _).trans ((gi_k (by omega) _).trans (gi_a (by decide) _))⟩
        exact ih _ (by omega) (k + 1) _ _ rfl (by omega) (f0) ((gi_k (by decide) _).trans ((gi_a (by decide) _).trans ((gi_a (by decide) _).trans (t5)))) ((gi_k (by decide) _).trans ((gi_a (by decide) _).trans ((gi_a (by decide) _).trans (z5)))) ((gi_k (by decide) _).trans ((gi_a (by decide) _).trans ((gi_a (by decide) _).trans (d3)))) ((gi_k (by decide) _).trans ((gi_a (by decide) _).trans ((gi_a (by decide) _).trans (d4)))) (y5) ((fun j hj => by rw [show gi (wI (wI (wI h5 173 k.toNat ((RR.2.2.getD k.toNat (0, 0)).1)) 174 k.toNat 1) 171 5 ((lsum (RR.2.2.take k.toNat)) + (RR.2.2.getD k.toNat (0, 0)).2)) 181 (2 * j) = gi h5 181 (2 * j) from (gi_a (by decide) _).trans ((gi_a (by decide) _).trans (gi_a (by decide) _)), show gi (wI (wI (wI h5 173 k.toNat ((RR.2.2.getD k.toNat (0, 0)).1)) 174 k.toNat 1) 171 5 ((lsum (RR.2.2.take k.toNat)) + (RR.2.2.getD k.toNat (0, 0)).2)) 181 (2 * j + 1) = gi h5 181 (2 * j + 1) from (gi_a (by decide) _).trans ((gi_a (by decide) _).trans (gi_a (by decide) _))]; exact rl j hj)) (ym) (lk1_n l0 (by decide) (Or.inl rfl)) lk1_s (GD_w0 (GD_wu (GD_wn (hG5) (r := 56) rfl rfl) (r := 57) rfl (by omega) rfl (by omega) (by omega)) (r := 54) rfl rfl) (FRM_w (FRM_wn 0 9 (FRM_wn 0 9 (hF5) (r := 56) rfl rfl rfl (by omega) (by omega)) (r := 57) rfl rfl rfl (by omega) (by omega)) (r := 54) rfl rfl)
  have end1 : ∀ (w is : Int) (h4 : aH) (ls : List (Nat × Value)), (is = b2i RR.2.1.1) → (RR.2.1.1 = true → w = RR.1) → (r32 w) → (gi h4 171 18 = RR.2.1.2) → (gi h4 171 19 = min (gi h 171 17) 43) → (gi h4 171 0 = 0) → (gi h4 171 17 = 0) → (RR.2.1.1 = true → rdL h4 (gi h4 171 22).toNat = RR.2.2) → lk ls 0 = some (.ref 171) → lk ls 1 = some (.int (I (gi h 171 17))) → lk ls 2 = some (.int (I w)) → lk ls 3 = some (.int (I is)) → GD gE gRL sh h4 → FRM gRL [(0, 54, 0, 0), (0, 54, 17, 20), (0, 54, 22, 22), (0, 64, 0, 31)] h h4 → K 142 ls [] h4 0 0 := by
    intro w is h4 ls ib wb rw a4 to4 t4 z4 rl l0 l1 l2 l3 hG4 hF4
    have g22 := gri 0 16 hG4 (a := 171) (r := 54) (k := 22) rfl rfl
    have is01 := b2i_r RR.2.1.1
    have a0 := rb.1
    have fb := fltF_le (n := gi h 171 17) (most := 43) (r := RR.2.1) (by omega) a0.1
    refine x_aload_n 143 hK rfl rfl l0 ?_
    refine x_iload_n 144 hK rfl rfl l1 ?_
    refine x_bipush 146 hK rfl rfl rfl ?_
    refine x_iload_n 147 hK rfl rfl l3 ?_
    refine x_callV 150 hK hmono rfl rfl [.ref 171, .int (I (gi h 171 17)), .int (I 43), .int (I is)] [] rfl rfl (Nat.le_of_ble_eq_true rfl) (Nat.le_of_ble_eq_true rfl) rfl (sp_171 (h := h4) hG4) (CLd_le (Nat.le_of_ble_eq_true rfl) (ctX11_faultOf hSP hG4 (by omega) (by omega) (by omega))) ?_
    rintro v9 h9 ⟨e9, rfl⟩
    rw [e9, a4, to4]
    clear e9
    rw [show (if 43 < gi h 171 17 ∧ ((is = 1 ∧ RR.2.1.2 = min (gi h 171 17) 43) ∨ 43 ≤ RR.2.1.2) then -1 - 43 else if is = 1 ∧ RR.2.1.2 = min (gi h 171 17) 43 then 0 else -1 - RR.2.1.2) = fltF (gi h 171 17) 43 RR.2.1 from by rw [ib]; exact flt_i]
    have fr : r32 (fltF (gi h 171 17) 43 RR.2.1) := by unfold fltF at fb ⊢; (repeat' split) <;> omega
    refine x_istore 152 hK rfl rfl _ rfl ?_
    refine x_iload 154 hK rfl rfl lk1_s ?_
    refine x_if_ge 160 157 hK rfl rfl rfl (by omega) (fun c8 => ?_) (fun c8 => ?_)
    · have r1 := (fltF_0 (n := gi h 171 17) (most := 43) (by omega) a0.1 (by omega)).1
      have we := wb r1
      have wr := rb.2.2.1 r1
      have rl4 := rl r1
      have len4 := rdL_l rl4
      have rb1 := rb.2.1
      refine x_aload_n 161 hK rfl rfl (lk1_n l0 (by decide) (Or.inl rfl)) ?_
      refine x_iload_n 162 hK rfl rfl (lk1_n l2 (by decide) (Or.inl rfl)) ?_
      refine x_putI 165 hK rfl rfl (sp_171 (h := h4) hG4) ?_
      refine x_aload_n 166 hK rfl rfl (lk1_n l0 (by decide) (Or.inl rfl)) ?_
      refine x_aload_n 167 hK rfl rfl (lk1_n l0 (by decide) (Or.inl rfl)) ?_
      have g274 := gri (0) (16) hG4 (a := 171) (r := 54) (k := 22) rfl rfl
      refine x_getE 170 hK rfl (Or.inl rfl) rfl (sp_171 (h := h4) hG4) (e := (gi h4 171 22)) (gi_k (by decide) _) ?_
      refine x_putI 173 hK rfl rfl (sp_171 (h := h4) hG4) ?_
      refine x_aload_n 174 hK rfl rfl (lk1_n l0 (by decide) (Or.inl rfl)) ?_
      refine x_iconst 175 hK rfl rfl ?_
      refine x_putI 178 hK rfl rfl (sp_171 (h := h4) hG4) ?_
      refine x_iconst 179 hK rfl rfl ?_
      refine x_istore 181 hK rfl rfl _ rfl ?_
      exact loop2 _ 0 _ _ rfl (⟨by omega, by omega⟩) (by omega) ((gi_k (by decide) _).trans ((gi_k (by decide) _).trans ((gi_k (by decide) _).trans (t4)))) ((gi_k (by decide) _).trans ((gi_k (by decide) _).trans ((gi_k (by decide) _).trans (z4)))) (((gi_k (by decide) _).trans ((gi_k (by decide) _).trans (gi_same (by omega)))).trans we) (((gi_k (by decide) _).trans (gi_same (by omega))).trans (by omega)) ((gi_same (by omega)).trans rfl) ((fun j hj => by rw [show gi (wI (wI (wI h4 171 3 w) 171 4 (gi h4 171 22)) 171 5 0) 181 (2 * j) = gi h4 181 (2 * j) from (gi_a (by decide) _).trans ((gi_a (by decide) _).trans (gi_a (by decide) _)), show gi (wI (wI (wI h4 171 3 w) 171 4 (gi h4 171 22)) 171 5 0) 181 (2 * j + 1) = gi h4 181 (2 * j + 1) from (gi_a (by decide) _).trans ((gi_a (by decide) _).trans (gi_a (by decide) _))]; exact rdL_get rl4 (by omega))) (rfl) (lk1_n (lk1_n l0 (by decide) (Or.inl rfl)) (by decide) (Or.inl rfl)) lk1_s (GD_w0 (GD_w1 (GD_w1 (hG4) (r := 54) rfl (by omega) rfl (by omega) (by omega)) (r := 54) rfl (by omega) rfl (by omega) (by omega)) (r := 54) rfl rfl) (FRM_w (FRM_w (FRM_w ((hF4).mono rfl) (r := 54) rfl rfl) (r := 54) rfl rfl) (r := 54) rfl rfl)
    · refine x_iload 159 hK rfl rfl lk1_s ?_
      exact x_iret hK rfl ⟨Or.inl ⟨by omega, rfl, FRM_gi hF4 (r := 54) rfl rfl, FRM_gi hF4 (r := 54) rfl rfl, FRM_gi hF4 (r := 54) rfl rfl, fun j => ⟨FRM_gi hF4 (r := 56) rfl rfl, FRM_gi hF4 (r := 57) rfl rfl⟩⟩, hG4, (hF4).mono rfl, t4, z4⟩
  have loop1 : ∀ (mz : Nat) (w a p : Int) (h6 : aH) (ls : List (Nat × Value)), ((11 - gi h6 171 22).toNat = mz) → (2 ≤ w ∧ w ≤ 40) → (RR.1 = w) → (-1 ≤ a ∧ a < w) → (0 ≤ gi h6 171 22 ∧ gi h6 171 22 ≤ 10) → (gi h6 171 18 = p) → (0 ≤ p ∧ p ≤ min (gi h 171 17) 43) → (gi h6 171 19 = min (gi h 171 17) 43) → (gi h6 171 0 = 0) → (gi h6 171 17 = 0) → (RR.2.1 = (shP T w (10 - gi h6 171 22).toNat a p).1) → (RR.2.2 = rdL h6 (gi h6 171 22).toNat ++ (shP T w (10 - gi h6 171 22).toNat a p).2) → lk ls 0 = some (.ref 171) → lk ls 1 = some (.int (I (gi h 171 17))) → lk ls 2 = some (.int (I w)) → lk ls 3 = some (.int (I 1)) → lk ls 4 = some (.int (I a)) → GD gE gRL sh h6 → FRM gRL [(0, 54, 0, 0), (0, 54, 17, 20), (0, 54, 22, 22), (0, 64, 0, 31)] h h6 → K 39 ls [] h6 0 0 := by
    intro mz
    induction mz using Nat.strongRecOn with
    | ind mz ih =>
    intro w a p h6 ls hm w0 wd a0 i6 d6 p0 to6 t6 z6 e1 e2 l0 l1 l2 l3 l4 hG6 hF6
    have ft6 : fm h6 = T := by rw [fm_tx, to6, ← hT, show gi h6 180 = gi h 180 from funext fun k => FRM_gi hF6 (r := 63) rfl rfl]
    obtain ⟨i, hi⟩ : ∃ i, gi h6 171 22 = i := ⟨_, rfl⟩
    rw [hi] at i6 e1 e2
    refine x_iload_n 40 hK rfl rfl l3 ?_
    refine x_if_eq 142 43 hK rfl rfl rfl (by omega) (fun c => by omega) (fun _ => ?_)
    refine x_aload_n 44 hK rfl rfl l0 ?_
    refine x_getE 47 hK rfl (Or.inl rfl) rfl (sp_171 (h := h6) hG6) (e := i) (hi) ?_
    refine x_bipush 49 hK rfl rfl rfl ?_
    refine x_if_icmp_ge 142 52 hK rfl rfl rfl (by omega) (by omega) (fun c6 => ?_) (fun c6 => ?_)
    · have er : shP T w (10 - i).toNat a p = ((true, p), []) := by
        by_cases z : i = 10
        · rw [z]; rfl
        · rw [show (10 - i).toNat = (9 - i).toNat + 1 by omega]
          show (if T p = 44 then _ else _) = _
          rw [if_neg (by omega)]
      rw [er] at e1 e2
      exact end1 w 1 _ _ ((by rw [e1]; rfl)) ((fun _ => wd.symm)) (by omega) ((by rw [e1]; exact d6)) (to6) (t6) (z6) ((fun z => by rw [e2, List.append_nil, show gi h6 171 22 = i from hi] <;> exact rdL_congr fun j hj => rfl)) l0 l1 l2 l3 (hG6) (hF6)
    · refine x_aload_n 53 hK rfl rfl l0 ?_
      refine x_bipush 55 hK rfl rfl rfl ?_
      have at275 : gi h6 171 18 = p := d6
      have fe275 : fm h6 = T := ft6
      have to275 : gi h6 171 19 = (min (gi h 171 17) 43) := to6
      refine x_callV 58 hK hmono rfl rfl [.ref 171, .int (I 44)] [] rfl rfl (Nat.le_of_ble_eq_true rfl) (Nat.le_of_ble_eq_true rfl) rfl (sp_171 (h := h6) hG6) (CLd_le (Nat.le_of_ble_eq_true rfl) (ctX11_takes hSP hG6 (s := 44) (by omega))) ?_
      rw [fe275, at275, to275]
      rintro v275 h275 ⟨hG275, hF275, ⟨rfl, tk275, tt275, eq275⟩ | ⟨rfl, tk275, eq275⟩⟩
      · refine x_if_eq 142 61 hK rfl rfl rfl (by omega) (fun c => by omega) (fun _ => ?_)
        refine x_aload_n 62 hK rfl rfl l0 ?_
        refine x_iconst 63 hK rfl rfl ?_
        refine x_iload 65 hK rfl rfl l4 ?_
        refine x_iconst 66 hK rfl rfl ?_
        refine x_iadd 67 hK rfl rfl ?_
        refine x_iload_n 68 hK rfl rfl l2 ?_
        refine x_iconst 69 hK rfl rfl ?_
        refine x_isub 70 hK rfl rfl ?_
        have at276 : gi h275 171 18 = (p + 1) := eq275
        have fe276 : fm h275 = T := (fm_F hF275 rfl rfl).trans (ft6)
        have to276 : gi h275 171 19 = (min (gi h 171 17) 43) := (FRM_gi hF275 (r := 54) rfl rfl).trans (to6)
        refine x_callV 73 hK hmono rfl rfl [.ref 171, .int (I 2), .int (I (a + 1)), .int (I (w - 1))] [] rfl rfl (Nat.le_of_ble_eq_true rfl) (Nat.le_of_ble_eq_true rfl) rfl (sp_171 (h := h275) hG275) (CLd_le (Nat.le_of_ble_eq_true rfl) (ctX11_numberIn hSP hG275 (n := 2) (lo := (a + 1)) (hi := (w - 1)) (by omega) (by omega) (by omega))) ?_
        rw [fe276, at276, to276]
        rintro v276 h276 ⟨⟨e276, rfl, ne276, nu276, nf276⟩, hG276, hF276, np276, nq276, nr276⟩
        have nm276 : nmI T 2 (a + 1) (w - 1) (p + 1) = (e276, gi h276 171 18) := nmI_e nu276 np276
        clear nu276 np276
        generalize eq276 : gi h276 171 18 = p276 at *
        refine x_istore 75 hK rfl rfl _ rfl ?_
        refine x_iload 77 hK rfl rfl lk1_s ?_
        refine x_if_lt 84 80 hK rfl rfl rfl (by omega) (fun c23 => ?_) (fun c23 => ?_)
        · refine x_iconst 85 hK rfl rfl ?_
          refine x_istore_n 86 hK rfl rfl _ rfl ?_
          refine x_iload_n 87 hK rfl rfl lk1_s ?_
          refine x_if_eq 139 90 hK rfl rfl rfl (by omega) (fun _ => ?_) (fun c => by omega)
          refine x_goto 39 hK rfl rfl ?_
          refine x_iload_n 40 hK rfl rfl lk1_s ?_
          refine x_if_eq 142 43 hK rfl rfl rfl (by omega) (fun _ => ?_) (fun c => by omega)
          have er : shP T w (10 - i).toNat a p = ((false, p276), []) := by
            rw [show (10 - i).toNat = (9 - i).toNat + 1 by omega]
            show (if T p = 44 then _ else _) = _
            rw [if_pos (by omega), nm276, if_pos (show e276 < 0 by omega)]
          rw [er] at e1 e2
          exact end1 w 0 _ _ ((by rw [e1]; rfl)) ((fun z => by rw [e1] at z; cases z)) (by omega) ((by rw [e1]; exact eq276)) ((FRM_gi hF276 (r := 54) rfl rfl).trans ((FRM_gi hF275 (r := 54) rfl rfl).trans (to6))) ((FRM_gi hF276 (r := 54) rfl rfl).trans ((FRM_gi hF275 (r := 54) rfl rfl).trans (t6))) ((FRM_gi hF276 (r := 54) rfl rfl).trans ((FRM_gi hF275 (r := 54) rfl rfl).trans (z6))) ((fun z => by rw [e1] at z; cases z)) (lk1_n (lk1_n l0 (by decide) (Or.inl rfl)) (by decide) (Or.inl rfl)) (lk1_n (lk1_n l1 (by decide) (Or.inl rfl)) (by decide) (Or.inl rfl)) (lk1_n (lk1_n l2 (by decide) (Or.inl rfl)) (by decide) (Or.inl rfl)) lk1_s (hG276) (((hF6).trans ((hF275).mono rfl)).trans ((hF276).mono rfl))
        · refine x_iconst 81 hK rfl rfl ?_
          refine x_goto 85 hK rfl rfl ?_
          refine x_istore_n 86 hK rfl rfl _ rfl ?_
          refine x_iload_n 87 hK rfl rfl lk1_s ?_
          refine x_if_eq 139 90 hK rfl rfl rfl (by omega) (fun c => by omega) (fun _ => ?_)
          refine x_iload 92 hK rfl rfl (lk1_n lk1_s (by decide) (Or.inl rfl)) ?_
          refine x_istore 94 hK rfl rfl _ rfl ?_
          refine x_aload_n 95 hK rfl rfl (lk1_n (lk1_n (lk1_n l0 (by decide) (Or.inl rfl)) (by decide) (Or.inl rfl)) (by decide) (Or.inl rfl)) ?_
          refine x_getR 98 hK rfl rfl (sp_171 (h := h276) hG276) (rf_171_21 (h := h276) hG276) ?_
          refine x_iconst 99 hK rfl rfl ?_
          refine x_aload_n 100 hK rfl rfl (lk1_n (lk1_n (lk1_n l0 (by decide) (Or.inl rfl)) (by decide) (Or.inl rfl)) (by decide) (Or.inl rfl)) ?_
          refine x_getE 103 hK rfl (Or.inl rfl) rfl (sp_171 (h := h276) hG276) (e := i) ((FRM_gi hF276 (r := 54) rfl rfl).trans ((FRM_gi hF275 (r := 54) rfl rfl).trans (hi))) ?_
          refine x_imul 104 hK rfl rfl ?_
          refine x_iload 106 hK rfl rfl (lk1_n (lk1_n lk1_s (by decide) (Or.inl rfl)) (by decide) (Or.inl rfl)) ?_
          refine x_iastore 107 hK rfl rfl (sp_181 (h := h276) hG276) (by omega) (by omega) (by omega) ?_
          refine x_aload_n 108 hK rfl rfl (lk1_n (lk1_n (lk1_n l0 (by decide) (Or.inl rfl)) (by decide) (Or.inl rfl)) (by decide) (Or.inl rfl)) ?_
          refine x_getR 111 hK rfl rfl (sp_171 (h := h276) hG276) (rf_171_21 (h := h276) hG276) ?_
          refine x_iconst 112 hK rfl rfl ?_
          refine x_aload_n 113 hK rfl rfl (lk1_n (lk1_n (lk1_n l0 (by decide) (Or.inl rfl)) (by decide) (Or.inl rfl)) (by decide) (Or.inl rfl)) ?_
          refine x_getE 116 hK rfl (Or.inl rfl) rfl (sp_171 (h := h276) hG276) (e := i) ((gi_a (by decide) _).trans ((FRM_gi hF276 (r := 54) rfl rfl).trans ((FRM_gi hF275 (r := 54) rfl rfl).trans (hi)))) ?_
          refine x_imul 117 hK rfl rfl ?_
          refine x_iconst 118 hK rfl rfl ?_
          refine x_iadd 119 hK rfl rfl ?_
          refine x_aload_n 120 hK rfl rfl (lk1_n (lk1_n (lk1_n l0 (by decide) (Or.inl rfl)) (by decide) (Or.inl rfl)) (by decide) (Or.inl rfl)) ?_
          refine x_bipush 122 hK rfl rfl rfl ?_
          have hGp278 : GD gE gRL sh (wI h276 181 (2 * i).toNat e276) := GD_wn (hG276) (r := 64) rfl rfl
          have at277 : gi (wI h276 181 (2 * i).toNat e276) 171 18 = p276 := (gi_a (by decide) _).trans (eq276)
          have fe277 : fm (wI h276 181 (2 * i).toNat e276) = T := (fm_wI (by decide) (Or.inl (by decide))).trans ((fm_F hF276 rfl rfl).trans ((fm_F hF275 rfl rfl).trans (ft6)))
          have to277 : gi (wI h276 181 (2 * i).toNat e276) 171 19 = (min (gi h 171 17) 43) := (gi_a (by decide) _).trans ((FRM_gi hF276 (r := 54) rfl rfl).trans ((FRM_gi hF275 (r := 54) rfl rfl).trans (to6)))
          refine x_callV 125 hK hmono rfl rfl [.ref 171, .int (I 42)] [.int (I ((2 * i) + 1)), .ref 181] rfl rfl (Nat.le_of_ble_eq_true rfl) (Nat.le_of_ble_eq_true rfl) rfl (sp_171 (h := h276) hG276) (CLd_le (Nat.le_of_ble_eq_true rfl) (ctX11_takes hSP hGp278 (s := 42) (by omega))) ?_
          rw [fe277, at277, to277]
          rintro v277 h277 ⟨hG277, hF277, ⟨rfl, tk277, tt277, eq277⟩ | ⟨rfl, tk277, eq277⟩⟩
          · refine x_callS 128 hK hmono rfl (Or.inl rfl) rfl [.int (I 1)] [.int (I ((2 * i) + 1)), .ref 181] rfl rfl (Nat.le_of_ble_eq_true rfl) (Nat.le_of_ble_eq_true rfl) (CLd_le (Nat.le_of_ble_eq_true rfl) (ctX11_flag (by omega))) ?_
            rintro v9 h9 ⟨e9, rfl⟩
            rw [e9]
            clear e9
            refine x_iastore 129 hK rfl rfl (sp_181 (h := h277) hG277) (by omega) (by omega) (by omega) ?_
            refine x_aload_n 130 hK rfl rfl (lk1_n (lk1_n (lk1_n l0 (by decide) (Or.inl rfl)) (by decide) (Or.inl rfl)) (by decide) (Or.inl rfl)) ?_
            refine x_dup 131 hK rfl rfl rfl ?_
            refine x_getE 134 hK rfl (Or.inl rfl) rfl (sp_171 (h := h277) hG277) (e := i) ((gi_a (by decide) _).trans ((FRM_gi hF277 (r := 54) rfl rfl).trans ((gi_a (by decide) _).trans ((FRM_gi hF276 (r := 54) rfl rfl).trans ((FRM_gi hF275 (r := 54) rfl rfl).trans (hi)))))) ?_
            refine x_iconst 135 hK rfl rfl ?_
            refine x_iadd 136 hK rfl rfl ?_
            refine x_putI 139 hK rfl rfl (sp_171 (h := h277) hG277) ?_
            refine x_goto 39 hK rfl rfl ?_
            have er : shP T w (10 - i).toNat a p = ((shP T w (10 - (i + 1)).toNat e276 (p276 + 1)).1, (e276, 1) :: (shP T w (10 - (i + 1)).toNat e276 (p276 + 1)).2) := by
              rw [show (10 - i).toNat = (10 - (i + 1)).toNat + 1 by omega]
              show (if T p = 44 then _ else _) = _
              rw [if_pos (by omega), nm276, if_neg (show ¬ e276 < 0 by omega)]
              show (if T p276 = 42 then _ else _) = _
              rw [if_pos (by omega)]
            rw [er] at e1 e2
            have y0 : gi (wI (wI h277 181 ((2 * i) + 1).toNat 1) 171 22 (i + 1)) 181 (2 * i).toNat = e276 := (gi_a (by decide) _).trans ((gi_k (by omega) _).trans ((FRM_gi hF277 (r := 64) rfl rfl).trans (gi_same (by omega))))
            have y1 : gi (wI (wI h277 181 ((2 * i) + 1).toNat 1) 171 22 (i + 1)) 181 ((2 * i) + 1).toNat = 1 := (gi_a (by decide) _).trans (gi_same (by omega))
            have y22 : gi (wI (wI h277 181 ((2 * i) + 1).toNat 1) 171 22 (i + 1)) 171 22 = i + 1 := gi_same (by omega)
            have yr : rdL (wI (wI h277 181 ((2 * i) + 1).toNat 1) 171 22 (i + 1)) (i + 1).toNat = rdL h6 i.toNat ++ [(e276, 1)] := by
              rw [tn_s i6.1, rdL_s]
              congr 1
              · exact rdL_congr fun j hj => (gi_a (by decide) _).trans ((gi_k (by omega) _).trans ((FRM_gi hF277 (r := 64) rfl rfl).trans ((gi_k (by omega) _).trans ((FRM_gi hF276 (r := 64) rfl rfl).trans (FRM_gi hF275 (r := 64) rfl rfl)))))
              · rw [(gi_to (show 2 * i.toNat = (2 * i).toNat by omega)).trans y0, (gi_to (show 2 * i.toNat + 1 = ((2 * i) + 1).toNat by omega)).trans y1]
            exact ih _ (by rw [y22]; omega) w e276 (p276 + 1) _ _ rfl (w0) (wd) (by omega) (by rw [y22]; omega) ((gi_k (by decide) _).trans ((gi_a (by decide) _).trans (eq277))) (by omega) ((gi_k (by decide) _).trans ((gi_a (by decide) _).trans ((FRM_gi hF277 (r := 54) rfl rfl).trans ((gi_a (by decide) _).trans ((FRM_gi hF276 (r := 54) rfl rfl).trans ((FRM_gi hF275 (r := 54) rfl rfl).trans (to6))))))) ((gi_k (by decide) _).trans ((gi_a (by decide) _).trans ((FRM_gi hF277 (r := 54) rfl rfl).trans ((gi_a (by decide) _).trans ((FRM_gi hF276 (r := 54) rfl rfl).trans ((FRM_gi hF275 (r := 54) rfl rfl).trans (t6))))))) ((gi_k (by decide) _).trans ((gi_a (by decide) _).trans ((FRM_gi hF277 (r := 54) rfl rfl).trans ((gi_a (by decide) _).trans ((FRM_gi hF276 (r := 54) rfl rfl).trans ((FRM_gi hF275 (r := 54) rfl rfl).trans (z6))))))) (by rw [y22]; exact e1) (by rw [y22, yr, e2, List.append_assoc]; rfl) (lk1_n (lk1_n (lk1_n l0 (by decide) (Or.inl rfl)) (by decide) (Or.inl rfl)) (by decide) (Or.inl rfl)) (lk1_n (lk1_n (lk1_n l1 (by decide) (Or.inl rfl)) (by decide) (Or.inl rfl)) (by decide) (Or.inl rfl)) (lk1_n (lk1_n (lk1_n l2 (by decide) (Or.inl rfl)) (by decide) (Or.inl rfl)) (by decide) (Or.inl rfl)) (lk1_n lk1_s (by decide) (Or.inl rfl)) lk1_s (GD_w1 (GD_wn (hG277) (r := 64) rfl rfl) (r := 54) rfl (by omega) rfl (by omega) (by omega)) (FRM_w (FRM_wn 0 31 ((FRM_wn 0 31 (((hF6).trans ((hF275).mono rfl)).trans ((hF276).mono rfl)) (r := 64) rfl rfl rfl (by omega) (by omega)).trans ((hF277).mono rfl)) (r := 64) rfl rfl rfl (by omega) (by omega)) (r := 54) rfl rfl)
          · refine x_callS 128 hK hmono rfl (Or.inl rfl) rfl [.int (I 0)] [.int (I ((2 * i) + 1)), .ref 181] rfl rfl (Nat.le_of_ble_eq_true rfl) (Nat.le_of_ble_eq_true rfl) (CLd_le (Nat.le_of_ble_eq_true rfl) (ctX11_flag (by omega))) ?_
            rintro v9 h9 ⟨e9, rfl⟩
            rw [e9]
            clear e9
            refine x_iastore 129 hK rfl rfl (sp_181 (h := h277) hG277) (by omega) (by omega) (by omega) ?_
            refine x_aload_n 130 hK rfl rfl (lk1_n (lk1_n (lk1_n l0 (by decide) (Or.inl rfl)) (by decide) (Or.inl rfl)) (by decide) (Or.inl rfl)) ?_
            refine x_dup 131 hK rfl rfl rfl ?_
            refine x_getE 134 hK rfl (Or.inl rfl) rfl (sp_171 (h := h277) hG277) (e := i) ((gi_a (by decide) _).trans ((FRM_gi hF277 (r := 54) rfl rfl).trans ((gi_a (by decide) _).trans ((FRM_gi hF276 (r := 54) rfl rfl).trans ((FRM_gi hF275 (r := 54) rfl rfl).trans (hi)))))) ?_
            refine x_iconst 135 hK rfl rfl ?_
            refine x_iadd 136 hK rfl rfl ?_
            refine x_putI 139 hK rfl rfl (sp_171 (h := h277) hG277) ?_
            refine x_goto 39 hK rfl rfl ?_
            have er : shP T w (10 - i).toNat a p = ((shP T w (10 - (i + 1)).toNat e276 p276).1, (e276, 0) :: (shP T w (10 - (i + 1)).toNat e276 p276).2) := by
              rw [show (10 - i).toNat = (10 - (i + 1)).toNat + 1 by omega]
              show (if T p = 44 then _ else _) = _
              rw [if_pos (by omega), nm276, if_neg (show ¬ e276 < 0 by omega)]
              show (if T p276 = 42 then _ else _) = _
              rw [if_neg (by omega)]
            rw [er] at e1 e2
            have y0 : gi (wI (wI h277 181 ((2 * i) + 1).toNat 0) 171 22 (i + 1)) 181 (2 * i).toNat = e276 := (gi_a (by decide) _).trans ((gi_k (by omega) _).trans ((FRM_gi hF277 (r := 64) rfl rfl).trans (gi_same (by omega))))
            have y1 : gi (wI (wI h277 181 ((2 * i) + 1).toNat 0) 171 22 (i + 1)) 181 ((2 * i) + 1).toNat = 0 := (gi_a (by decide) _).trans (gi_same (by omega))
            have y22 : gi (wI (wI h277 181 ((2 * i) + 1).toNat 0) 171 22 (i + 1)) 171 22 = i + 1 := gi_same (by omega)
            have yr : rdL (wI (wI h277 181 ((2 * i) + 1).toNat 0) 171 22 (i + 1)) (i + 1).toNat = rdL h6 i.toNat ++ [(e276, 0)] := by
              rw [tn_s i6.1, rdL_s]
              congr 1
              · exact rdL_congr fun j hj => (gi_a (by decide) _).trans ((gi_k (by omega) _).trans ((FRM_gi hF277 (r := 64) rfl rfl).trans ((gi_k (by omega) _).trans ((FRM_gi hF276 (r := 64) rfl rfl).trans (FRM_gi hF275 (r := 64) rfl rfl)))))
              · rw [(gi_to (show 2 * i.toNat = (2 * i).toNat by omega)).trans y0, (gi_to (show 2 * i.toNat + 1 = ((2 * i) + 1).toNat by omega)).trans y1]
            exact ih _ (by rw [y22]; omega) w e276 p276 _ _ rfl (w0) (wd) (by omega) (by rw [y22]; omega) ((gi_k (by decide) _).trans ((gi_a (by decide) _).trans (eq277))) (by omega) ((gi_k (by decide) _).trans ((gi_a (by decide) _).trans ((FRM_gi hF277 (r := 54) rfl rfl).trans ((gi_a (by decide) _).trans ((FRM_gi hF276 (r := 54) rfl rfl).trans ((FRM_gi hF275 (r := 54) rfl rfl).trans (to6))))))) ((gi_k (by decide) _).trans ((gi_a (by decide) _).trans ((FRM_gi hF277 (r := 54) rfl rfl).trans ((gi_a (by decide) _).trans ((FRM_gi hF276 (r := 54) rfl rfl).trans ((FRM_gi hF275 (r := 54) rfl rfl).trans (t6))))))) ((gi_k (by decide) _).trans ((gi_a (by decide) _).trans ((FRM_gi hF277 (r := 54) rfl rfl).trans ((gi_a (by decide) _).trans ((FRM_gi hF276 (r := 54) rfl rfl).trans ((FRM_gi hF275 (r := 54) rfl rfl).trans (z6))))))) (by rw [y22]; exact e1) (by rw [y22, yr, e2, List.append_assoc]; rfl) (lk1_n (lk1_n (lk1_n l0 (by decide) (Or.inl rfl)) (by decide) (Or.inl rfl)) (by decide) (Or.inl rfl)) (lk1_n (lk1_n (lk1_n l1 (by decide) (Or.inl rfl)) (by decide) (Or.inl rfl)) (by decide) (Or.inl rfl)) (lk1_n (lk1_n (lk1_n l2 (by decide) (Or.inl rfl)) (by decide) (Or.inl rfl)) (by decide) (Or.inl rfl)) (lk1_n lk1_s (by decide) (Or.inl rfl)) lk1_s (GD_w1 (GD_wn (hG277) (r := 64) rfl rfl) (r := 54) rfl (by omega) rfl (by omega) (by omega)) (FRM_w (FRM_wn 0 31 ((FRM_wn 0 31 (((hF6).trans ((hF275).mono rfl)).trans ((hF276).mono rfl)) (r := 64) rfl rfl rfl (by omega) (by omega)).trans ((hF277).mono rfl)) (r := 64) rfl rfl rfl (by omega) (by omega)) (r := 54) rfl rfl)
      · refine x_if_eq 142 61 hK rfl rfl rfl (by omega) (fun _ => ?_) (fun c => by omega)
        have er : shP T w (10 - i).toNat a p = ((true, p), []) := by
          by_cases z : i = 10
          · rw [z]; rfl
          · rw [show (10 - i).toNat = (9 - i).toNat + 1 by omega]
            show (if T p = 44 then _ else _) = _
            rw [if_neg (by omega)]
        rw [er] at e1 e2
        exact end1 w 1 _ _ ((by rw [e1]; rfl)) ((fun _ => wd.symm)) (by omega) ((by rw [e1]; exact eq275)) ((FRM_gi hF275 (r := 54) rfl rfl).trans (to6)) ((FRM_gi hF275 (r := 54) rfl rfl).trans (t6)) ((FRM_gi hF275 (r := 54) rfl rfl).trans (z6)) ((fun z => by rw [e2, List.append_nil, show gi h275 171 22 = i from (FRM_gi hF275 (r := 54) rfl rfl).trans (hi)] <;> exact rdL_congr fun j hj => FRM_gi hF275 (r := 64) rfl rfl)) l0 l1 l2 l3 (hG275) ((hF6).trans ((hF275).mono rfl))
  refine x_aload_n 1 hK rfl rfl rfl ?_
  refine x_iconst 2 hK rfl rfl ?_
  refine x_putI 5 hK rfl rfl (sp_171 (h := h) hG) ?_
  refine x_aload_n 6 hK rfl rfl rfl ?_
  refine x_bipush 8 hK rfl rfl rfl ?_
  have hGp281 : GD gE gRL sh (wI h 171 0 0) := GD_w1 (hG) (r := 54) rfl (by omega) rfl (by omega) (by omega)
  have sz0 : gi (wI h 171 0 0) 171 17 = gi h 171 17 := gi_k (by decide) _
  refine x_callV 11 hK hmono rfl rfl [.ref 171, .int (I 43)] [] rfl rfl (Nat.le_of_ble_eq_true rfl) (Nat.le_of_ble_eq_true rfl) rfl (sp_171 (h := h) hG) (CLd_le (Nat.le_of_ble_eq_true rfl) (ctX11_begins hSP hGp281 (by omega))) ?_
  rintro v1 h1 ⟨rfl, hG1, hF1, b17, b18, b20, b19⟩
  rw [sz0] at b19 ⊢
  have f1 : fm h1 = T := by rw [fm_tx, b19, ← hT, show gi h1 180 = gi h 180 from funext fun k => (FRM_gi hF1 (r := 63) rfl rfl).trans (gi_a (by decide) _)]
  refine x_istore_n 12 hK rfl rfl [(1, .int (I (gi h 171 17))), (0, .ref 171)] rfl ?_
  refine x_aload_n 13 hK rfl rfl rfl ?_
  refine x_iconst 14 hK rfl rfl ?_
  refine x_putI 17 hK rfl rfl (sp_171 (h := h1) hG1) ?_
  refine x_aload_n 18 hK rfl rfl rfl ?_
  refine x_iconst 19 hK rfl rfl ?_
  refine x_iconst 20 hK rfl rfl ?_
  refine x_bipush 22 hK rfl rfl rfl ?_
  have hGp283 : GD gE gRL sh (wI h1 171 22 0) := GD_w1 (hG1) (r := 54) rfl (by omega) rfl (by omega) (by omega)
  have at282 : gi (wI h1 171 22 0) 171 18 = 0 := (gi_k (by decide) _).trans (b18)
  have fe282 : fm (wI h1 171 22 0) = T := (fm_wI (by decide) (Or.inr (by decide))).trans (f1)
  have to282 : gi (wI h1 171 22 0) 171 19 = (min (gi h 171 17) 43) := (gi_k (by decide) _).trans (b19)
  refine x_callV 25 hK hmono rfl rfl [.ref 171, .int (I 2), .int (I 2), .int (I 40)] [] rfl rfl (Nat.le_of_ble_eq_true rfl) (Nat.le_of_ble_eq_true rfl) rfl (sp_171 (h := h1) hG1) (CLd_le (Nat.le_of_ble_eq_true rfl) (ctX11_numberIn hSP hGp283 (n := 2) (lo := 2) (hi := 40) (by omega) (by omega) (by omega))) ?_
  rw [fe282, at282, to282]
  rintro v282 h282 ⟨⟨e282, rfl, ne282, nu282, nf282⟩, hG282, hF282, np282, nq282, nr282⟩
  have nm282 : nmI T 2 2 40 0 = (e282, gi h282 171 18) := nmI_e nu282 np282
  clear nu282 np282
  generalize eq282 : gi h282 171 18 = p282 at *
  refine x_istore_n 26 hK rfl rfl [(2, .int (I e282)), (1, .int (I (gi h 171 17))), (0, .ref 171)] rfl ?_
  refine x_iload_n 27 hK rfl rfl rfl ?_
  refine x_if_le 34 30 hK rfl rfl rfl (by omega) (fun c18 => ?_) (fun c18 => ?_)
  · refine x_iconst 35 hK rfl rfl ?_
    refine x_istore_n 36 hK rfl rfl [(3, .int (I 0)), (2, .int (I e282)), (1, .int (I (gi h 171 17))), (0, .ref 171)] rfl ?_
    refine x_iconst 37 hK rfl rfl ?_
    refine x_istore 39 hK rfl rfl [(4, .int (I (-1))), (3, .int (I 0)), (2, .int (I e282)), (1, .int (I (gi h 171 17))), (0, .ref 171)] rfl ?_
    refine x_iload_n 40 hK rfl rfl rfl ?_
    refine x_if_eq 142 43 hK rfl rfl rfl (by omega) (fun _ => ?_) (fun c => by omega)
    have r0 : RR = (e282, (false, p282), []) := by rw [← hRR]; unfold shF; rw [nm282, if_neg (show ¬ 0 < e282 by omega)]
    exact end1 e282 0 _ _ ((by rw [r0]; rfl)) ((fun z => by rw [r0] at z; cases z)) (by omega) ((by rw [r0]; exact eq282)) ((FRM_gi hF282 (r := 54) rfl rfl).trans ((gi_k (by decide) _).trans (b19))) ((FRM_gi hF282 (r := 54) rfl rfl).trans ((gi_k (by decide) _).trans ((FRM_gi hF1 (r := 54) rfl rfl).trans (gi_same (by omega))))) ((FRM_gi hF282 (r := 54) rfl rfl).trans ((gi_k (by decide) _).trans (b17))) ((fun z => by rw [r0] at z; cases z)) rfl rfl rfl rfl (hG282) ((FRM_w ((FRM_w ((FRM.rf : FRM gRL [(0, 54, 0, 0), (0, 54, 17, 20), (0, 54, 22, 22), (0, 64, 0, 31)] h h)) (r := 54) rfl rfl).trans ((hF1).mono rfl)) (r := 54) rfl rfl).trans ((hF282).mono rfl))
  · refine x_iconst 31 hK rfl rfl ?_
    refine x_goto 35 hK rfl rfl ?_
    refine x_istore_n 36 hK rfl rfl [(3, .int (I 1)), (2, .int (I e282)), (1, .int (I (gi h 171 17))), (0, .ref 171)] rfl ?_
    refine x_iconst 37 hK rfl rfl ?_
    refine x_istore 39 hK rfl rfl [(4, .int (I (-1))), (3, .int (I 1)), (2, .int (I e282)), (1, .int (I (gi h 171 17))), (0, .ref 171)] rfl ?_
    exact loop1 _ e282 (-1) p282 _ _ rfl (by omega) ((by rw [← hRR]; unfold shF; rw [nm282])) (by omega) ((by rw [show gi h282 171 22 = 0 from (FRM_gi hF282 (r := 54) rfl rfl).trans (gi_same (by omega))]; omega)) (eq282) (by omega) ((FRM_gi hF282 (r := 54) rfl rfl).trans ((gi_k (by decide) _).trans (b19))) ((FRM_gi hF282 (r := 54) rfl rfl).trans ((gi_k (by decide) _).trans ((FRM_gi hF1 (r := 54) rfl rfl).trans (gi_same (by omega))))) ((FRM_gi hF282 (r := 54) rfl rfl).trans ((gi_k (by decide) _).trans (b17))) ((by rw [show gi h282 171 22 = 0 from (FRM_gi hF282 (r := 54) rfl rfl).trans (gi_same (by omega)), ← hRR]; unfold shF; rw [nm282, if_pos (show 0 < e282 by omega)]; rfl)) ((by rw [show gi h282 171 22 = 0 from (FRM_gi hF282 (r := 54) rfl rfl).trans (gi_same (by omega)), ← hRR]; unfold shF; rw [nm282, if_pos (show 0 < e282 by omega)]; rfl)) rfl rfl rfl rfl rfl (hG282) ((FRM_w ((FRM_w ((FRM.rf : FRM gRL [(0, 54, 0, 0), (0, 54, 17, 20), (0, 54, 22, 22), (0, 64, 0, 31)] h h)) (r := 54) rfl rfl).trans ((hF1).mono rfl)) (r := 54) rfl rfl).trans ((hF282).mono rfl))
