/-! THE REFERENCE READS A SHIP, ROCKS, MESSES: safe -/
theorem ctX11_ship (hSP : MONO SPt) {sh : List (Nat × Nat)} {h : aH} (hG : GD gE gRL sh h) : CLd SPt 6 mX11_ship [.ref 171] h 0 0 (fun rv h' => (∃ e, rv = some (.int (I e))) ∧ GD gE gRL sh h' ∧ FRM gRL [(0, 54, 0, 0), (0, 54, 3, 5), (0, 54, 17, 20), (0, 54, 22, 22), (0, 56, 0, 9), (0, 57, 0, 9), (0, 64, 0, 31)] h h' ∧ gi h' 171 0 = 0) := by
  refine x_met _ rfl (Nat.le_of_ble_eq_true rfl) (fun K hK => ?_)
  have hmono := MONO_CLd hSP 5
  have loop2 : ∀ (m : Nat) (k : Int) (h4 : aH) (ls : List (Nat × Value)), ((gi h4 171 4 - k).toNat = m) → 0 ≤ k → k ≤ gi h4 171 4 → lk ls 0 = some (.ref 171) → lk ls 6 = some (.int (I k)) → GD gE gRL sh h4 → FRM gRL [(0, 54, 0, 0), (0, 54, 3, 5), (0, 54, 17, 20), (0, 54, 22, 22), (0, 56, 0, 9), (0, 57, 0, 9), (0, 64, 0, 31)] h h4 → gi h4 171 0 = 0 → K 181 ls [] h4 0 0 := by
    intro m
    induction m using Nat.strongRecOn with
    | ind m ih =>
    intro k h4 ls hm h0 hk l0 l6 hG4 hF4 t4
    have gp := gri 0 10 hG4 (a := 171) (r := 54) (k := 4) rfl rfl
    refine x_iload 183 hK rfl rfl l6 ?_
    refine x_aload_n 184 hK rfl rfl l0 ?_
    refine x_getE 187 hK rfl (Or.inl rfl) rfl (sp_171 (h := h4) hG4) (e := (gi h4 171 4)) (rfl) ?_
    refine x_if_icmp_ge 259 190 hK rfl rfl rfl (by first | omega | exact gi_r _ _ _) (by first | omega | exact gi_r _ _ _) (fun c4 => ?_) (fun c4 => ?_)
    · refine x_aload_n 260 hK rfl rfl l0 ?_
      refine x_getE 263 hK rfl (Or.inl rfl) rfl (sp_171 (h := h4) hG4) (e := (gi h4 171 4)) (rfl) ?_
      exact x_iret hK rfl ⟨⟨_, rfl⟩, hG4, hF4, t4⟩
    · refine x_aload_n 191 hK rfl rfl l0 ?_
      refine x_getR 194 hK rfl rfl (sp_171 (h := h4) hG4) (rf_171_9 (h := h4) hG4) ?_
      refine x_iload 196 hK rfl rfl l6 ?_
      refine x_aload_n 197 hK rfl rfl l0 ?_
      refine x_getR 200 hK rfl rfl (sp_171 (h := h4) hG4) (rf_171_21 (h := h4) hG4) ?_
      refine x_iconst 201 hK rfl rfl ?_
      refine x_iload 203 hK rfl rfl l6 ?_
      refine x_imul 204 hK rfl rfl ?_
      refine x_ialoadE 205 hK rfl rfl (sp_181 (h := h4) hG4) (by first | omega | exact gi_r _ _ _) (by first | omega | exact gi_r _ _ _) (by first | omega | exact gi_r _ _ _) (e' := (gi h4 181 (2 * k).toNat)) (rfl) ?_
      refine x_iastore 206 hK rfl rfl (sp_173 (h := h4) hG4) (by first | omega | exact gi_r _ _ _) (by first | omega | exact gi_r _ _ _) (by first | omega | exact gi_r _ _ _) ?_
      refine x_aload_n 207 hK rfl rfl l0 ?_
      refine x_getR 210 hK rfl rfl (sp_171 (h := h4) hG4) (rf_171_10 (h := h4) hG4) ?_
      refine x_iload 212 hK rfl rfl l6 ?_
      refine x_aload_n 213 hK rfl rfl l0 ?_
      refine x_getR 216 hK rfl rfl (sp_171 (h := h4) hG4) (rf_171_21 (h := h4) hG4) ?_
      refine x_iconst 217 hK rfl rfl ?_
      refine x_iload 219 hK rfl rfl l6 ?_
      refine x_imul 220 hK rfl rfl ?_
      refine x_iconst 221 hK rfl rfl ?_
      refine x_iadd 222 hK rfl rfl ?_
      refine x_ialoadE 223 hK rfl rfl (sp_181 (h := h4) hG4) (by first | omega | exact gi_r _ _ _) (by first | omega | exact gi_r _ _ _) (by first | omega | exact gi_r _ _ _) (e' := (gi h4 181 ((2 * k) + 1).toNat)) (gi_a (by decide) _) ?_
      refine x_iconst 224 hK rfl rfl ?_
      refine x_if_icmp_ne 231 227 hK rfl rfl rfl (by first | omega | exact gi_r _ _ _) (by first | omega | exact gi_r _ _ _) (fun c30 => ?_) (fun c30 => ?_)
      · refine x_iconst 232 hK rfl rfl ?_
        refine x_bastore 233 hK rfl rfl (sp_174 (h := h4) hG4) (by first | omega | exact gi_r _ _ _) (by first | omega | exact gi_r _ _ _) (by first | omega | exact gi_r _ _ _) (by first | omega | exact gi_r _ _ _) ?_
        refine x_aload_n 234 hK rfl rfl l0 ?_
        refine x_dup 235 hK rfl rfl rfl ?_
        refine x_getE 238 hK rfl (Or.inl rfl) rfl (sp_171 (h := h4) hG4) (e := (gi h4 171 5)) ((gi_a (by decide) _).trans (gi_a (by decide) _)) ?_
        refine x_aload_n 239 hK rfl rfl l0 ?_
        refine x_getR 242 hK rfl rfl (sp_171 (h := h4) hG4) (rf_171_21 (h := h4) hG4) ?_
        refine x_iconst 243 hK rfl rfl ?_
        refine x_iload 245 hK rfl rfl l6 ?_
        refine x_imul 246 hK rfl rfl ?_
        refine x_iconst 247 hK rfl rfl ?_
        refine x_iadd 248 hK rfl rfl ?_
        refine x_ialoadE 249 hK rfl rfl (sp_181 (h := h4) hG4) (by first | omega | exact gi_r _ _ _) (by first | omega | exact gi_r _ _ _) (by first | omega | exact gi_r _ _ _) (e' := (gi h4 181 ((2 * k) + 1).toNat)) ((gi_a (by decide) _).trans (gi_a (by decide) _)) ?_
        refine x_iadd 250 hK rfl rfl ?_
        refine x_putI 253 hK rfl rfl (sp_171 (h := h4) hG4) ?_
        refine x_iinc 256 hK rfl rfl l6 _ rfl ?_
        refine x_goto 181 hK rfl rfl ?_
        have s4 : gi (wI (wI (wI h4 173 k.toNat (gi h4 181 (2 * k).toNat)) 174 k.toNat 0) 171 5 ((gi h4 171 5) + (gi h4 181 ((2 * k) + 1).toNat))) 171 4 = (gi h4 171 4) := (gi_k (by decide) _).trans ((gi_a (by decide) _).trans (gi_a (by decide) _))
        have s0 : gi (wI (wI (wI h4 173 k.toNat (gi h4 181 (2 * k).toNat)) 174 k.toNat 0) 171 5 ((gi h4 171 5) + (gi h4 181 ((2 * k) + 1).toNat))) 171 0 = (gi h4 171 0) := (gi_k (by decide) _).trans ((gi_a (by decide) _).trans (gi_a (by decide) _))
        exact ih _ (by omega) (k + 1) _ _ rfl (by omega) (by omega) (lk1_n l0 (by decide) (Or.inl rfl)) lk1_s (GD_w0 (GD_wu (GD_wn (hG4) (r := 56) rfl rfl) (r := 57) rfl (by omega) rfl (by omega) (by omega)) (r := 54) rfl rfl) (FRM_w (FRM_wn 0 9 (FRM_wn 0 9 (hF4) (r := 56) rfl rfl rfl (by omega) (by omega)) (r := 57) rfl rfl rfl (by omega) (by omega)) (r := 54) rfl rfl) (s0.trans t4)
      · refine x_iconst 228 hK rfl rfl ?_
        refine x_goto 232 hK rfl rfl ?_
        refine x_bastore 233 hK rfl rfl (sp_174 (h := h4) hG4) (by first | omega | exact gi_r _ _ _) (by first | omega | exact gi_r _ _ _) (by first | omega | exact gi_r _ _ _) (by first | omega | exact gi_r _ _ _) ?_
        refine x_aload_n 234 hK rfl rfl l0 ?_
        refine x_dup 235 hK rfl rfl rfl ?_
        refine x_getE 238 hK rfl (Or.inl rfl) rfl (sp_171 (h := h4) hG4) (e := (gi h4 171 5)) ((gi_a (by decide) _).trans (gi_a (by decide) _)) ?_
        refine x_aload_n 239 hK rfl rfl l0 ?_
        refine x_getR 242 hK rfl rfl (sp_171 (h := h4) hG4) (rf_171_21 (h := h4) hG4) ?_
        refine x_iconst 243 hK rfl rfl ?_
        refine x_iload 245 hK rfl rfl l6 ?_
        refine x_imul 246 hK rfl rfl ?_
        refine x_iconst 247 hK rfl rfl ?_
        refine x_iadd 248 hK rfl rfl ?_
        refine x_ialoadE 249 hK rfl rfl (sp_181 (h := h4) hG4) (by first | omega | exact gi_r _ _ _) (by first | omega | exact gi_r _ _ _) (by first | omega | exact gi_r _ _ _) (e' := (gi h4 181 ((2 * k) + 1).toNat)) ((gi_a (by decide) _).trans (gi_a (by decide) _)) ?_
        refine x_iadd 250 hK rfl rfl ?_
        refine x_putI 253 hK rfl rfl (sp_171 (h := h4) hG4) ?_
        refine x_iinc 256 hK rfl rfl l6 _ rfl ?_
        refine x_goto 181 hK rfl rfl ?_
        have s4 : gi (wI (wI (wI h4 173 k.toNat (gi h4 181 (2 * k).toNat)) 174 k.toNat 1) 171 5 ((gi h4 171 5) + (gi h4 181 ((2 * k) + 1).toNat))) 171 4 = (gi h4 171 4) := (gi_k (by decide) _).trans ((gi_a (by decide) _).trans (gi_a (by decide) _))
        have s0 : gi (wI (wI (wI h4 173 k.toNat (gi h4 181 (2 * k).toNat)) 174 k.toNat 1) 171 5 ((gi h4 171 5) + (gi h4 181 ((2 * k) + 1).toNat))) 171 0 = (gi h4 171 0) := (gi_k (by decide) _).trans ((gi_a (by decide) _).trans (gi_a (by decide) _))
        exact ih _ (by omega) (k + 1) _ _ rfl (by omega) (by omega) (lk1_n l0 (by decide) (Or.inl rfl)) lk1_s (GD_w0 (GD_wu (GD_wn (hG4) (r := 56) rfl rfl) (r := 57) rfl (by omega) rfl (by omega) (by omega)) (r := 54) rfl rfl) (FRM_w (FRM_wn 0 9 (FRM_wn 0 9 (hF4) (r := 56) rfl rfl rfl (by omega) (by omega)) (r := 57) rfl rfl rfl (by omega) (by omega)) (r := 54) rfl rfl) (s0.trans t4)
  have end1 : ∀ (is n w : Int) (h2 : aH) (ls : List (Nat × Value)), (is = 0 ∨ is = 1 ∧ 2 ≤ w ∧ w ≤ 40) → r32 n → r32 w → gi h2 171 22 ≤ 10 → lk ls 0 = some (.ref 171) → lk ls 1 = some (.int (I n)) → lk ls 2 = some (.int (I w)) → lk ls 3 = some (.int (I is)) → GD gE gRL sh h2 → FRM gRL [(0, 54, 0, 0), (0, 54, 3, 5), (0, 54, 17, 20), (0, 54, 22, 22), (0, 56, 0, 9), (0, 57, 0, 9), (0, 64, 0, 31)] h h2 → gi h2 171 0 = 0 → K 142 ls [] h2 0 0 := by
    intro is n w h2 ls his rn rw h10 l0 l1 l2 l3 hG2 hF2 t2
    have g22 := gri 0 16 hG2 (a := 171) (r := 54) (k := 22) rfl rfl
    refine x_aload_n 143 hK rfl rfl l0 ?_
    refine x_iload_n 144 hK rfl rfl l1 ?_
    refine x_bipush 146 hK rfl rfl rfl ?_
    refine x_iload_n 147 hK rfl rfl l3 ?_
    refine x_callV 150 hK hmono rfl rfl [.ref 171, .int (I n), .int (I 43), .int (I is)] [] rfl rfl (Nat.le_of_ble_eq_true rfl) (Nat.le_of_ble_eq_true rfl) rfl (sp_171 (h := h2) hG2) (CLd_le (Nat.le_of_ble_eq_true rfl) (ctX11_faultOf hSP hG2 rn (by omega) (by omega))) ?_
    rintro v9 h9 ⟨e9, rfl⟩
    rw [e9]
    clear e9
    have at9 := at_r hG2
    obtain ⟨w9, hw9, lw9, uw9⟩ : ∃ w : Int, (if 43 < n ∧ ((is = 1 ∧ gi h2 171 18 = gi h2 171 19) ∨ 43 ≤ gi h2 171 18) then -1 - 43 else if is = 1 ∧ gi h2 171 18 = gi h2 171 19 then 0 else -1 - gi h2 171 18) = w ∧ -82 ≤ w ∧ (w = 0 → is = 1) := by
      split
      · exact ⟨_, rfl, by omega, by omega⟩
      · split
        · exact ⟨_, rfl, by omega, by omega⟩
        · exact ⟨_, rfl, by omega, by omega⟩
    rw [hw9]
    refine x_istore 152 hK rfl rfl _ rfl ?_
    refine x_iload 154 hK rfl rfl lk1_s ?_
    refine x_if_ge 160 157 hK rfl rfl rfl (by first | omega | exact gi_r _ _ _) (fun c8 => ?_) (fun c8 => ?_)
    · refine x_aload_n 161 hK rfl rfl (lk1_n l0 (by decide) (Or.inl rfl)) ?_
      refine x_iload_n 162 hK rfl rfl (lk1_n l2 (by decide) (Or.inl rfl)) ?_
      refine x_putI 165 hK rfl rfl (sp_171 (h := h2) hG2) ?_
      refine x_aload_n 166 hK rfl rfl (lk1_n l0 (by decide) (Or.inl rfl)) ?_
      refine x_aload_n 167 hK rfl rfl (lk1_n l0 (by decide) (Or.inl rfl)) ?_
      refine x_getE 170 hK rfl (Or.inl rfl) rfl (sp_171 (h := h2) hG2) (e := (gi h2 171 22)) (gi_k (by decide) _) ?_
      refine x_putI 173 hK rfl rfl (sp_171 (h := h2) hG2) ?_
      refine x_aload_n 174 hK rfl rfl (lk1_n l0 (by decide) (Or.inl rfl)) ?_
      refine x_iconst 175 hK rfl rfl ?_
      refine x_putI 178 hK rfl rfl (sp_171 (h := h2) hG2) ?_
      refine x_iconst 179 hK rfl rfl ?_
      refine x_istore 181 hK rfl rfl _ rfl ?_
      have s0 : gi (wI (wI (wI h2 171 3 w) 171 4 (gi h2 171 22)) 171 5 0) 171 0 = (gi h2 171 0) := (gi_k (by decide) _).trans ((gi_k (by decide) _).trans (gi_k (by decide) _))
      have s4 : gi (wI (wI (wI h2 171 3 w) 171 4 (gi h2 171 22)) 171 5 0) 171 4 = (gi h2 171 22) := (gi_k (by decide) _).trans (gi_same (by first | omega | exact gi_r _ _ _))
      exact loop2 _ 0 _ _ rfl (by omega) (by omega) (lk1_n (lk1_n l0 (by decide) (Or.inl rfl)) (by decide) (Or.inl rfl)) lk1_s (GD_w0 (GD_w1 (GD_w1 (hG2) (r := 54) rfl (by omega) rfl (by omega) (by omega)) (r := 54) rfl (by omega) rfl (by omega) (by omega)) (r := 54) rfl rfl) (FRM_w (FRM_w (FRM_w (hF2) (r := 54) rfl rfl) (r := 54) rfl rfl) (r := 54) rfl rfl) (s0.trans t2)
    · refine x_iload 159 hK rfl rfl lk1_s ?_
      exact x_iret hK rfl ⟨⟨_, rfl⟩, hG2, hF2, t2⟩
  have loop1 : ∀ (m : Nat) (n w last : Int) (h2 : aH) (ls : List (Nat × Value)), ((10 - gi h2 171 22).toNat = m) → 2 ≤ w → w ≤ 40 → -1 ≤ last → last ≤ 99 → r32 n → gi h2 171 22 ≤ 10 → lk ls 0 = some (.ref 171) → lk ls 1 = some (.int (I n)) → lk ls 2 = some (.int (I w)) → lk ls 3 = some (.int (I 1)) → lk ls 4 = some (.int (I last)) → GD gE gRL sh h2 → FRM gRL [(0, 54, 0, 0), (0, 54, 3, 5), (0, 54, 17, 20), (0, 54, 22, 22), (0, 56, 0, 9), (0, 57, 0, 9), (0, 64, 0, 31)] h h2 → gi h2 171 0 = 0 → K 43 ls [] h2 0 0 := by
    intro m
    induction m using Nat.strongRecOn with
    | ind m ih =>
    intro n w last h2 ls hm w2 w40 la1 la2 rn h10 l0 l1 l2 l3 l4 hG2 hF2 t2
    have g22 := gri 0 16 hG2 (a := 171) (r := 54) (k := 22) rfl rfl
    refine x_aload_n 44 hK rfl rfl l0 ?_
    refine x_getE 47 hK rfl (Or.inl rfl) rfl (sp_171 (h := h2) hG2) (e := (gi h2 171 22)) (rfl) ?_
    refine x_bipush 49 hK rfl rfl rfl ?_
    refine x_if_icmp_ge 142 52 hK rfl rfl rfl (by first | omega | exact gi_r _ _ _) (by first | omega | exact gi_r _ _ _) (fun c4 => ?_) (fun c4 => ?_)
    · have s22 : gi h2 171 22 = (gi h2 171 22) := rfl
      have s0 : gi h2 171 0 = (gi h2 171 0) := rfl
      exact end1 1 n w _ _ (by omega) rn (by omega) (by omega) l0 l1 l2 l3 (hG2) (hF2) (s0.trans t2)
    · refine x_aload_n 53 hK rfl rfl l0 ?_
      refine x_bipush 55 hK rfl rfl rfl ?_
      refine x_callV 58 hK hmono rfl rfl [.ref 171, .int (I 44)] [] rfl rfl (Nat.le_of_ble_eq_true rfl) (Nat.le_of_ble_eq_true rfl) rfl (sp_171 (h := h2) hG2) (CLd_le (Nat.le_of_ble_eq_true rfl) (ctX11_takes hSP hG2 (by omega))) ?_
      rintro v3 h3 ⟨hG3, hF3, tk3⟩
      have f3_171_22 : gi h3 171 22 = (gi h2 171 22) := (FRM_gi hF3 (r := 54) rfl rfl).trans (rfl)
      have f3_171_0 : gi h3 171 0 = (gi h2 171 0) := (FRM_gi hF3 (r := 54) rfl rfl).trans (rfl)
      replace hF3 : FRM gRL [(0, 54, 0, 0), (0, 54, 3, 5), (0, 54, 17, 20), (0, 54, 22, 22), (0, 56, 0, 9), (0, 57, 0, 9), (0, 64, 0, 31)] h h3 := hF2.trans (hF3.mono rfl)
      rcases tk3 with ⟨rfl, -⟩ | ⟨rfl, -⟩
      · refine x_if_eq 142 61 hK rfl rfl rfl (by first | omega | exact gi_r _ _ _) (fun c => by omega) (fun _ => ?_)
        refine x_aload_n 62 hK rfl rfl l0 ?_
        refine x_iconst 63 hK rfl rfl ?_
        refine x_iload 65 hK rfl rfl l4 ?_
        refine x_iconst 66 hK rfl rfl ?_
        refine x_iadd 67 hK rfl rfl ?_
        refine x_iload_n 68 hK rfl rfl l2 ?_
        refine x_iconst 69 hK rfl rfl ?_
        refine x_isub 70 hK rfl rfl ?_
        refine x_callV 73 hK hmono rfl rfl [.ref 171, .int (I 2), .int (I (last + 1)), .int (I (w - 1))] [] rfl rfl (Nat.le_of_ble_eq_true rfl) (Nat.le_of_ble_eq_true rfl) rfl (sp_171 (h := h3) hG3) (CLd_le (Nat.le_of_ble_eq_true rfl) (ctX11_numberIn hSP hG3 (by omega) (by omega) (by omega))) ?_
        rintro v4 h4 ⟨⟨c, rfl, rc, -, -⟩, hG4, hF4, -, -, -⟩
        have f4_171_22 : gi h4 171 22 = (gi h2 171 22) := (FRM_gi hF4 (r := 54) rfl rfl).trans (f3_171_22)
        have f4_171_0 : gi h4 171 0 = (gi h2 171 0) := (FRM_gi hF4 (r := 54) rfl rfl).trans (f3_171_0)
        replace hF4 : FRM gRL [(0, 54, 0, 0), (0, 54, 3, 5), (0, 54, 17, 20), (0, 54, 22, 22), (0, 56, 0, 9), (0, 57, 0, 9), (0, 64, 0, 31)] h h4 := hF3.trans (hF4.mono rfl)
        have rc2 : -1 ≤ c ∧ c ≤ 99 := by omega
        clear rc
        refine x_istore 75 hK rfl rfl _ rfl ?_
        refine x_iload 77 hK rfl rfl lk1_s ?_
        refine x_if_lt 84 80 hK rfl rfl rfl (by first | omega | exact gi_r _ _ _) (fun c21 => ?_) (fun c21 => ?_)
        · refine x_iconst 85 hK rfl rfl ?_
          refine x_istore_n 86 hK rfl rfl _ rfl ?_
          refine x_iload_n 87 hK rfl rfl lk1_s ?_
          refine x_if_eq 139 90 hK rfl rfl rfl (by first | omega | exact gi_r _ _ _) (fun _ => ?_) (fun c => by omega)
          refine x_goto 39 hK rfl rfl ?_
          refine x_iload_n 40 hK rfl rfl lk1_s ?_
          refine x_if_eq 142 43 hK rfl rfl rfl (by first | omega | exact gi_r _ _ _) (fun _ => ?_) (fun c => by omega)
          have s22 : gi h4 171 22 = (gi h2 171 22) := f4_171_22
          have s0 : gi h4 171 0 = (gi h2 171 0) := f4_171_0
          exact end1 0 n w _ _ (by omega) rn (by omega) (by omega) (lk1_n (lk1_n l0 (by decide) (Or.inl rfl)) (by decide) (Or.inl rfl)) (lk1_n (lk1_n l1 (by decide) (Or.inl rfl)) (by decide) (Or.inl rfl)) (lk1_n (lk1_n l2 (by decide) (Or.inl rfl)) (by decide) (Or.inl rfl)) lk1_s (hG4) (hF4) (s0.trans t2)
        · refine x_iconst 81 hK rfl rfl ?_
          refine x_goto 85 hK rfl rfl ?_
          refine x_istore_n 86 hK rfl rfl _ rfl ?_
          refine x_iload_n 87 hK rfl rfl lk1_s ?_
          refine x_if_eq 139 90 hK rfl rfl rfl (by first | omega | exact gi_r _ _ _) (fun c => by omega) (fun _ => ?_)
          refine x_iload 92 hK rfl rfl (lk1_n lk1_s (by decide) (Or.inl rfl)) ?_
          refine x_istore 94 hK rfl rfl _ rfl ?_
          refine x_aload_n 95 hK rfl rfl (lk1_n (lk1_n (lk1_n l0 (by decide) (Or.inl rfl)) (by decide) (Or.inl rfl)) (by decide) (Or.inl rfl)) ?_
          refine x_getR 98 hK rfl rfl (sp_171 (h := h4) hG4) (rf_171_21 (h := h4) hG4) ?_
          refine x_iconst 99 hK rfl rfl ?_
          refine x_aload_n 100 hK rfl rfl (lk1_n (lk1_n (lk1_n l0 (by decide) (Or.inl rfl)) (by decide) (Or.inl rfl)) (by decide) (Or.inl rfl)) ?_
          refine x_getE 103 hK rfl (Or.inl rfl) rfl (sp_171 (h := h4) hG4) (e := (gi h2 171 22)) (f4_171_22) ?_
          refine x_imul 104 hK rfl rfl ?_
          refine x_iload 106 hK rfl rfl (lk1_n (lk1_n lk1_s (by decide) (Or.inl rfl)) (by decide) (Or.inl rfl)) ?_
          refine x_iastore 107 hK rfl rfl (sp_181 (h := h4) hG4) (by first | omega | exact gi_r _ _ _) (by first | omega | exact gi_r _ _ _) (by first | omega | exact gi_r _ _ _) ?_
          refine x_aload_n 108 hK rfl rfl (lk1_n (lk1_n (lk1_n l0 (by decide) (Or.inl rfl)) (by decide) (Or.inl rfl)) (by decide) (Or.inl rfl)) ?_
          refine x_getR 111 hK rfl rfl (sp_171 (h := h4) hG4) (rf_171_21 (h := h4) hG4) ?_
          refine x_iconst 112 hK rfl rfl ?_
          refine x_aload_n 113 hK rfl rfl (lk1_n (lk1_n (lk1_n l0 (by decide) (Or.inl rfl)) (by decide) (Or.inl rfl)) (by decide) (Or.inl rfl)) ?_
          refine x_getE 116 hK rfl (Or.inl rfl) rfl (sp_171 (h := h4) hG4) (e := (gi h2 171 22)) ((gi_a (by decide) _).trans (f4_171_22)) ?_
          refine x_imul 117 hK rfl rfl ?_
          refine x_iconst 118 hK rfl rfl ?_
          refine x_iadd 119 hK rfl rfl ?_
          refine x_aload_n 120 hK rfl rfl (lk1_n (lk1_n (lk1_n l0 (by decide) (Or.inl rfl)) (by decide) (Or.inl rfl)) (by decide) (Or.inl rfl)) ?_
          refine x_bipush 122 hK rfl rfl rfl ?_
          have hGp5 : GD gE gRL sh (wI h4 181 (2 * (gi h2 171 22)).toNat c) := GD_wn (hG4) (r := 64) rfl rfl
          have hFp5 : FRM gRL [(0, 54, 0, 0), (0, 54, 3, 5), (0, 54, 17, 20), (0, 54, 22, 22), (0, 56, 0, 9), (0, 57, 0, 9), (0, 64, 0, 31)] h (wI h4 181 (2 * (gi h2 171 22)).toNat c) := FRM_wn 0 31 (hF4) (r := 64) rfl rfl rfl (by omega) (by omega)
          refine x_callV 125 hK hmono rfl rfl [.ref 171, .int (I 42)] [.int (I ((2 * (gi h2 171 22)) + 1)), .ref 181] rfl rfl (Nat.le_of_ble_eq_true rfl) (Nat.le_of_ble_eq_true rfl) rfl (sp_171 (h := h4) hG4) (CLd_le (Nat.le_of_ble_eq_true rfl) (ctX11_takes hSP hGp5 (by omega))) ?_
          rintro v5 h5 ⟨hG5, hF5, tk5⟩
          have f5_171_22 : gi h5 171 22 = (gi h2 171 22) := (FRM_gi hF5 (r := 54) rfl rfl).trans ((gi_a (by decide) _).trans (f4_171_22))
          have f5_171_0 : gi h5 171 0 = (gi h2 171 0) := (FRM_gi hF5 (r := 54) rfl rfl).trans ((gi_a (by decide) _).trans (f4_171_0))
          replace hF5 : FRM gRL [(0, 54, 0, 0), (0, 54, 3, 5), (0, 54, 17, 20), (0, 54, 22, 22), (0, 56, 0, 9), (0, 57, 0, 9), (0, 64, 0, 31)] h h5 := hFp5.trans (hF5.mono rfl)
          rcases tk5 with ⟨rfl, -⟩ | ⟨rfl, -⟩
          · refine x_callS 128 hK hmono rfl (Or.inl rfl) rfl [.int (I 1)] [.int (I ((2 * (gi h2 171 22)) + 1)), .ref 181] rfl rfl (Nat.le_of_ble_eq_true rfl) (Nat.le_of_ble_eq_true rfl) (CLd_le (Nat.le_of_ble_eq_true rfl) (ctX11_flag (by omega))) ?_
            rintro v9 h9 ⟨e9, rfl⟩
            rw [e9]
            clear e9
            refine x_iastore 129 hK rfl rfl (sp_181 (h := h5) hG5) (by first | omega | exact gi_r _ _ _) (by first | omega | exact gi_r _ _ _) (by first | omega | exact gi_r _ _ _) ?_
            refine x_aload_n 130 hK rfl rfl (lk1_n (lk1_n (lk1_n l0 (by decide) (Or.inl rfl)) (by decide) (Or.inl rfl)) (by decide) (Or.inl rfl)) ?_
            refine x_dup 131 hK rfl rfl rfl ?_
            refine x_getE 134 hK rfl (Or.inl rfl) rfl (sp_171 (h := h5) hG5) (e := (gi h2 171 22)) ((gi_a (by decide) _).trans (f5_171_22)) ?_
            refine x_iconst 135 hK rfl rfl ?_
            refine x_iadd 136 hK rfl rfl ?_
            refine x_putI 139 hK rfl rfl (sp_171 (h := h5) hG5) ?_
            refine x_goto 39 hK rfl rfl ?_
            refine x_iload_n 40 hK rfl rfl (lk1_n lk1_s (by decide) (Or.inl rfl)) ?_
            refine x_if_eq 142 43 hK rfl rfl rfl (by first | omega | exact gi_r _ _ _) (fun c => by omega) (fun _ => ?_)
            have s22 : gi (wI (wI h5 181 ((2 * (gi h2 171 22)) + 1).toNat 1) 171 22 ((gi h2 171 22) + 1)) 171 22 = ((gi h2 171 22) + 1) := gi_same (by first | omega | exact gi_r _ _ _)
            have s0 : gi (wI (wI h5 181 ((2 * (gi h2 171 22)) + 1).toNat 1) 171 22 ((gi h2 171 22) + 1)) 171 0 = (gi h2 171 0) := (gi_k (by decide) _).trans ((gi_a (by decide) _).trans (f5_171_0))
            exact ih _ (by omega) n w c _ _ rfl w2 w40 (by omega) (by omega) rn (by omega) (lk1_n (lk1_n (lk1_n l0 (by decide) (Or.inl rfl)) (by decide) (Or.inl rfl)) (by decide) (Or.inl rfl)) (lk1_n (lk1_n (lk1_n l1 (by decide) (Or.inl rfl)) (by decide) (Or.inl rfl)) (by decide) (Or.inl rfl)) (lk1_n (lk1_n (lk1_n l2 (by decide) (Or.inl rfl)) (by decide) (Or.inl rfl)) (by decide) (Or.inl rfl)) (lk1_n lk1_s (by decide) (Or.inl rfl)) lk1_s (GD_w1 (GD_wn (hG5) (r := 64) rfl rfl) (r := 54) rfl (by omega) rfl (by omega) (by omega)) (FRM_w (FRM_wn 0 31 (hF5) (r := 64) rfl rfl rfl (by omega) (by omega)) (r := 54) rfl rfl) (s0.trans t2)
          · refine x_callS 128 hK hmono rfl (Or.inl rfl) rfl [.int (I 0)] [.int (I ((2 * (gi h2 171 22)) + 1)), .ref 181] rfl rfl (Nat.le_of_ble_eq_true rfl) (Nat.le_of_ble_eq_true rfl) (CLd_le (Nat.le_of_ble_eq_true rfl) (ctX11_flag (by omega))) ?_
            rintro v9 h9 ⟨e9, rfl⟩
            rw [e9]
            clear e9
            refine x_iastore 129 hK rfl rfl (sp_181 (h := h5) hG5) (by first | omega | exact gi_r _ _ _) (by first | omega | exact gi_r _ _ _) (by first | omega | exact gi_r _ _ _) ?_
            refine x_aload_n 130 hK rfl rfl (lk1_n (lk1_n (lk1_n l0 (by decide) (Or.inl rfl)) (by decide) (Or.inl rfl)) (by decide) (Or.inl rfl)) ?_
            refine x_dup 131 hK rfl rfl rfl ?_
            refine x_getE 134 hK rfl (Or.inl rfl) rfl (sp_171 (h := h5) hG5) (e := (gi h2 171 22)) ((gi_a (by decide) _).trans (f5_171_22)) ?_
            refine x_iconst 135 hK rfl rfl ?_
            refine x_iadd 136 hK rfl rfl ?_
            refine x_putI 139 hK rfl rfl (sp_171 (h := h5) hG5) ?_
            refine x_goto 39 hK rfl rfl ?_
            refine x_iload_n 40 hK rfl rfl (lk1_n lk1_s (by decide) (Or.inl rfl)) ?_
            refine x_if_eq 142 43 hK rfl rfl rfl (by first | omega | exact gi_r _ _ _) (fun c => by omega) (fun _ => ?_)
            have s22 : gi (wI (wI h5 181 ((2 * (gi h2 171 22)) + 1).toNat 0) 171 22 ((gi h2 171 22) + 1)) 171 22 = ((gi h2 171 22) + 1) := gi_same (by first | omega | exact gi_r _ _ _)
            have s0 : gi (wI (wI h5 181 ((2 * (gi h2 171 22)) + 1).toNat 0) 171 22 ((gi h2 171 22) + 1)) 171 0 = (gi h2 171 0) := (gi_k (by decide) _).trans ((gi_a (by decide) _).trans (f5_171_0))
            exact ih _ (by omega) n w c _ _ rfl w2 w40 (by omega) (by omega) rn (by omega) (lk1_n (lk1_n (lk1_n l0 (by decide) (Or.inl rfl)) (by decide) (Or.inl rfl)) (by decide) (Or.inl rfl)) (lk1_n (lk1_n (lk1_n l1 (by decide) (Or.inl rfl)) (by decide) (Or.inl rfl)) (by decide) (Or.inl rfl)) (lk1_n (lk1_n (lk1_n l2 (by decide) (Or.inl rfl)) (by decide) (Or.inl rfl)) (by decide) (Or.inl rfl)) (lk1_n lk1_s (by decide) (Or.inl rfl)) lk1_s (GD_w1 (GD_wn (hG5) (r := 64) rfl rfl) (r := 54) rfl (by omega) rfl (by omega) (by omega)) (FRM_w (FRM_wn 0 31 (hF5) (r := 64) rfl rfl rfl (by omega) (by omega)) (r := 54) rfl rfl) (s0.trans t2)
      · refine x_if_eq 142 61 hK rfl rfl rfl (by first | omega | exact gi_r _ _ _) (fun _ => ?_) (fun c => by omega)
        have s22 : gi h3 171 22 = (gi h2 171 22) := f3_171_22
        have s0 : gi h3 171 0 = (gi h2 171 0) := f3_171_0
        exact end1 1 n w _ _ (by omega) rn (by omega) (by omega) l0 l1 l2 l3 (hG3) (hF3) (s0.trans t2)
  refine x_aload_n 1 hK rfl rfl rfl ?_
  refine x_iconst 2 hK rfl rfl ?_
  refine x_putI 5 hK rfl rfl (sp_171 (h := h) hG) ?_
  refine x_aload_n 6 hK rfl rfl rfl ?_
  refine x_bipush 8 hK rfl rfl rfl ?_
  have hGp1 : GD gE gRL sh (wI h 171 0 0) := GD_w1 (hG) (r := 54) rfl (by omega) rfl (by omega) (by omega)
  have hFp1 : FRM gRL [(0, 54, 0, 0), (0, 54, 3, 5), (0, 54, 17, 20), (0, 54, 22, 22), (0, 56, 0, 9), (0, 57, 0, 9), (0, 64, 0, 31)] h (wI h 171 0 0) := FRM_w (FRM.rf) (r := 54) rfl rfl
  refine x_callV 11 hK hmono rfl rfl [.ref 171, .int (I 43)] [] rfl rfl (Nat.le_of_ble_eq_true rfl) (Nat.le_of_ble_eq_true rfl) rfl (sp_171 (h := h) hG) (CLd_le (Nat.le_of_ble_eq_true rfl) (ctX11_begins hSP hGp1 (by omega))) ?_
  rintro v1 h1 ⟨rfl, hG1, hF1, b17, b18, b20, b19⟩
  have f1_171_0 : gi h1 171 0 = 0 := (FRM_gi hF1 (r := 54) rfl rfl).trans (gi_same (by first | omega | exact gi_r _ _ _))
  have tn := gri 0 80 hGp1 (a := 171) (r := 54) (k := 17) rfl rfl
  generalize gi (wI h 171 0 0) 171 17 = n at *
  have rn : r32 n := by omega
  replace hF1 : FRM gRL [(0, 54, 0, 0), (0, 54, 3, 5), (0, 54, 17, 20), (0, 54, 22, 22), (0, 56, 0, 9), (0, 57, 0, 9), (0, 64, 0, 31)] h h1 := hFp1.trans (hF1.mono rfl)
  refine x_istore_n 12 hK rfl rfl [(1, .int (I n)), (0, .ref 171)] rfl ?_
  refine x_aload_n 13 hK rfl rfl rfl ?_
  refine x_iconst 14 hK rfl rfl ?_
  refine x_putI 17 hK rfl rfl (sp_171 (h := h1) hG1) ?_
  refine x_aload_n 18 hK rfl rfl rfl ?_
  refine x_iconst 19 hK rfl rfl ?_
  refine x_iconst 20 hK rfl rfl ?_
  refine x_bipush 22 hK rfl rfl rfl ?_
  have hGp2 : GD gE gRL sh (wI h1 171 22 0) := GD_w1 (hG1) (r := 54) rfl (by omega) rfl (by omega) (by omega)
  have hFp2 : FRM gRL [(0, 54, 0, 0), (0, 54, 3, 5), (0, 54, 17, 20), (0, 54, 22, 22), (0, 56, 0, 9), (0, 57, 0, 9), (0, 64, 0, 31)] h (wI h1 171 22 0) := FRM_w (hF1) (r := 54) rfl rfl
  refine x_callV 25 hK hmono rfl rfl [.ref 171, .int (I 2), .int (I 2), .int (I 40)] [] rfl rfl (Nat.le_of_ble_eq_true rfl) (Nat.le_of_ble_eq_true rfl) rfl (sp_171 (h := h1) hG1) (CLd_le (Nat.le_of_ble_eq_true rfl) (ctX11_numberIn hSP hGp2 (by omega) (by omega) (by omega))) ?_
  rintro v2 h2 ⟨⟨w, rfl, rc, -, -⟩, hG2, hF2, -, -, -⟩
  have f2_171_22 : gi h2 171 22 = 0 := (FRM_gi hF2 (r := 54) rfl rfl).trans (gi_same (by first | omega | exact gi_r _ _ _))
  have f2_171_0 : gi h2 171 0 = 0 := (FRM_gi hF2 (r := 54) rfl rfl).trans ((gi_k (by decide) _).trans (f1_171_0))
  replace hF2 : FRM gRL [(0, 54, 0, 0), (0, 54, 3, 5), (0, 54, 17, 20), (0, 54, 22, 22), (0, 56, 0, 9), (0, 57, 0, 9), (0, 64, 0, 31)] h h2 := hFp2.trans (hF2.mono rfl)
  have rw2 : w = -1 ∨ (2 ≤ w ∧ w ≤ 40) := by omega
  have rw3 : r32 w := by omega
  clear rc
  refine x_istore_n 26 hK rfl rfl [(2, .int (I w)), (1, .int (I n)), (0, .ref 171)] rfl ?_
  refine x_iload_n 27 hK rfl rfl rfl ?_
  refine x_if_le 34 30 hK rfl rfl rfl (by first | omega | exact gi_r _ _ _) (fun c18 => ?_) (fun c18 => ?_)
  · refine x_iconst 35 hK rfl rfl ?_
    refine x_istore_n 36 hK rfl rfl [(3, .int (I 0)), (2, .int (I w)), (1, .int (I n)), (0, .ref 171)] rfl ?_
    refine x_iconst 37 hK rfl rfl ?_
    refine x_istore 39 hK rfl rfl [(4, .int (I (-1))), (3, .int (I 0)), (2, .int (I w)), (1, .int (I n)), (0, .ref 171)] rfl ?_
    refine x_iload_n 40 hK rfl rfl rfl ?_
    refine x_if_eq 142 43 hK rfl rfl rfl (by first | omega | exact gi_r _ _ _) (fun _ => ?_) (fun c => by omega)
    have s22 : gi h2 171 22 = 0 := f2_171_22
    have s0 : gi h2 171 0 = 0 := f2_171_0
    exact end1 0 n w _ _ (by omega) rn rw3 (by omega) rfl rfl rfl rfl hG2 hF2 s0
  · refine x_iconst 31 hK rfl rfl ?_
    refine x_goto 35 hK rfl rfl ?_
    refine x_istore_n 36 hK rfl rfl [(3, .int (I 1)), (2, .int (I w)), (1, .int (I n)), (0, .ref 171)] rfl ?_
    refine x_iconst 37 hK rfl rfl ?_
    refine x_istore 39 hK rfl rfl [(4, .int (I (-1))), (3, .int (I 1)), (2, .int (I w)), (1, .int (I n)), (0, .ref 171)] rfl ?_
    refine x_iload_n 40 hK rfl rfl rfl ?_
    refine x_if_eq 142 43 hK rfl rfl rfl (by first | omega | exact gi_r _ _ _) (fun c => by omega) (fun _ => ?_)
    have s22 : gi h2 171 22 = 0 := f2_171_22
    have s0 : gi h2 171 0 = 0 := f2_171_0
    exact loop1 _ n w (-1) _ _ rfl (by omega) (by omega) (by omega) (by omega) rn (by omega) rfl rfl rfl rfl rfl hG2 hF2 s0
theorem ctX11_readsRock (hSP : MONO SPt) {sh : List (Nat × Nat)} {h : aH} (hG : GD gE gRL sh h) (hc : gi h 171 6 + gi h 171 22 ≤ 16) : CLd SPt 6 mX11_readsRock [.ref 171] h 0 0 (fun rv h' => (rv = some (.int (I 0)) ∨ (rv = some (.int (I 1)) ∧ gi h 171 6 + gi h 171 22 < 16 ∧ gi h' 171 22 = gi h 171 22 + 1 ∧ 1 ≤ gi h' 181 (2 * gi h 171 22).toNat ∧ gi h' 181 (2 * gi h 171 22).toNat ≤ 999 ∧ ∀ j, j ≠ (2 * gi h 171 22).toNat → j ≠ (2 * gi h 171 22 + 1).toNat → gi h' 181 j = gi h 181 j)) ∧ GD gE gRL sh h' ∧ FRM gRL [(0, 54, 18, 18), (0, 54, 22, 22), (0, 64, 0, 31)] h h') := by
  refine x_met _ rfl (Nat.le_of_ble_eq_true rfl) (fun K hK => ?_)
  have hmono := MONO_CLd hSP 5
  have g22 := gri 0 16 hG (a := 171) (r := 54) (k := 22) rfl rfl
  have gc := gri 0 16 hG (a := 171) (r := 54) (k := 6) rfl rfl
  refine x_aload_n 1 hK rfl rfl rfl ?_
  refine x_getE 4 hK rfl (Or.inl rfl) rfl (sp_171 (h := h) hG) (e := (gi h 171 6)) (rfl) ?_
  refine x_aload_n 5 hK rfl rfl rfl ?_
  refine x_getE 8 hK rfl (Or.inl rfl) rfl (sp_171 (h := h) hG) (e := (gi h 171 22)) (rfl) ?_
  refine x_iadd 9 hK rfl rfl ?_
  refine x_bipush 11 hK rfl rfl rfl ?_
  refine x_if_icmp_ne 16 14 hK rfl rfl rfl (by first | omega | exact gi_r _ _ _) (by first | omega | exact gi_r _ _ _) (fun c7 => ?_) (fun c7 => ?_)
  · refine x_iconst 17 hK rfl rfl ?_
    refine x_aload_n 18 hK rfl rfl rfl ?_
    refine x_getE 21 hK rfl (Or.inl rfl) rfl (sp_171 (h := h) hG) (e := (gi h 171 22)) (rfl) ?_
    refine x_imul 22 hK rfl rfl ?_
    refine x_istore_n 23 hK rfl rfl [(1, .int (I (2 * (gi h 171 22)))), (0, .ref 171)] rfl ?_
    refine x_aload_n 24 hK rfl rfl rfl ?_
    refine x_getR 27 hK rfl rfl (sp_171 (h := h) hG) (rf_171_21 (h := h) hG) ?_
    refine x_iload_n 28 hK rfl rfl rfl ?_
    refine x_aload_n 29 hK rfl rfl rfl ?_
    refine x_iconst 30 hK rfl rfl ?_
    refine x_iconst 31 hK rfl rfl ?_
    refine x_sipush 34 hK rfl rfl rfl ?_
    refine x_callV 37 hK hmono rfl rfl [.ref 171, .int (I 3), .int (I 1), .int (I 999)] [.int (I (2 * (gi h 171 22))), .ref 181] rfl rfl (Nat.le_of_ble_eq_true rfl) (Nat.le_of_ble_eq_true rfl) rfl (sp_171 (h := h) hG) (CLd_le (Nat.le_of_ble_eq_true rfl) (ctX11_numberIn hSP hG (by omega) (by omega) (by omega))) ?_
    rintro v2 h2 ⟨⟨e, rfl, rc, -, -⟩, hG2, hF2, -, -, -⟩
    have f2_171_22 : gi h2 171 22 = (gi h 171 22) := (FRM_gi hF2 (r := 54) rfl rfl).trans (rfl)
    have o2 : ∀ j, gi h2 181 j = gi h 181 j := fun j => FRM_gi hF2 (r := 64) rfl rfl
    replace hF2 : FRM gRL [(0, 54, 18, 18), (0, 54, 22, 22), (0, 64, 0, 31)] h h2 := (FRM.rf : FRM gRL [(0, 54, 18, 18), (0, 54, 22, 22), (0, 64, 0, 31)] h h).trans (hF2.mono rfl)
    have rc2 : e = -1 ∨ (1 ≤ e ∧ e ≤ 999) := by omega
    clear rc
    refine x_iastore 38 hK rfl rfl (sp_181 (h := h2) hG2) (by first | omega | exact gi_r _ _ _) (by first | omega | exact gi_r _ _ _) (by first | omega | exact gi_r _ _ _) ?_
    refine x_aload_n 39 hK rfl rfl rfl ?_
    refine x_getR 42 hK rfl rfl (sp_171 (h := h2) hG2) (rf_171_21 (h := h2) hG2) ?_
    refine x_iload_n 43 hK rfl rfl rfl ?_
    refine x_ialoadE 44 hK rfl rfl (sp_181 (h := h2) hG2) (by first | omega | exact gi_r _ _ _) (by first | omega | exact gi_r _ _ _) (by first | omega | exact gi_r _ _ _) (e' := e) (gi_same (by first | omega | exact gi_r _ _ _)) ?_
    refine x_if_lt 56 47 hK rfl rfl rfl (by first | omega | exact gi_r _ _ _) (fun c26 => ?_) (fun c26 => ?_)
    · refine x_iconst 57 hK rfl rfl ?_
      exact x_zret hK rfl (by omega) ⟨Or.inl rfl, GD_wn (hG2) (r := 64) rfl rfl, FRM_wn 0 31 (hF2) (r := 64) rfl rfl rfl (by omega) (by omega)⟩
    · refine x_aload_n 48 hK rfl rfl rfl ?_
      refine x_bipush 50 hK rfl rfl rfl ?_
      have hGp3 : GD gE gRL sh (wI h2 181 (2 * (gi h 171 22)).toNat e) := GD_wn (hG2) (r := 64) rfl rfl
      have hFp3 : FRM gRL [(0, 54, 18, 18), (0, 54, 22, 22), (0, 64, 0, 31)] h (wI h2 181 (2 * (gi h 171 22)).toNat e) := FRM_wn 0 31 (hF2) (r := 64) rfl rfl rfl (by omega) (by omega)
      refine x_callV 53 hK hmono rfl rfl [.ref 171, .int (I 44)] [] rfl rfl (Nat.le_of_ble_eq_true rfl) (Nat.le_of_ble_eq_true rfl) rfl (sp_171 (h := h2) hG2) (CLd_le (Nat.le_of_ble_eq_true rfl) (ctX11_takes hSP hGp3 (by omega))) ?_
      rintro v3 h3 ⟨hG3, hF3, tk3⟩
      have f3_171_22 : gi h3 171 22 = (gi h 171 22) := (FRM_gi hF3 (r := 54) rfl rfl).trans ((gi_a (by decide) _).trans (f2_171_22))
      have f3_181__2_gi_h_171_22_toNat : gi h3 181 (2 * (gi h 171 22)).toNat = e := (FRM_gi hF3 (r := 64) rfl rfl).trans (gi_same (by first | omega | exact gi_r _ _ _))
      have o3 : ∀ j, j ≠ (2 * (gi h 171 22)).toNat → gi h3 181 j = gi h 181 j := fun j hj => (FRM_gi hF3 (r := 64) rfl rfl).trans ((gi_k hj _).trans (o2 j))
      replace hF3 : FRM gRL [(0, 54, 18, 18), (0, 54, 22, 22), (0, 64, 0, 31)] h h3 := hFp3.trans (hF3.mono rfl)
      rcases tk3 with ⟨rfl, -⟩ | ⟨rfl, -⟩
      · refine x_if_ne 58 56 hK rfl rfl rfl (by first | omega | exact gi_r _ _ _) (fun _ => ?_) (fun c => by omega)
        refine x_aload_n 59 hK rfl rfl rfl ?_
        refine x_getR 62 hK rfl rfl (sp_171 (h := h3) hG3) (rf_171_21 (h := h3) hG3) ?_
        refine x_iload_n 63 hK rfl rfl rfl ?_
        refine x_iconst 64 hK rfl rfl ?_
        refine x_iadd 65 hK rfl rfl ?_
        refine x_aload_n 66 hK rfl rfl rfl ?_
        refine x_ldcS 68 hK rfl rfl ?_
        refine x_callV 71 hK hmono rfl rfl [.ref 171, .ref 1000000] [.int (I ((2 * (gi h 171 22)) + 1)), .ref 181] rfl rfl (Nat.le_of_ble_eq_true rfl) (Nat.le_of_ble_eq_true rfl) rfl (sp_171 (h := h3) hG3) (CLd_le (Nat.le_of_ble_eq_true rfl) (ctX11_takesOf hSP hG3 (b := 0) (by decide))) ?_
        rintro v4 h4 ⟨⟨f, rfl, -, lf, uf, -, -⟩, hG4, hF4⟩
        have f4_171_22 : gi h4 171 22 = (gi h 171 22) := (FRM_gi hF4 (r := 54) rfl rfl).trans (f3_171_22)
        have f4_181__2_gi_h_171_22_toNat : gi h4 181 (2 * (gi h 171 22)).toNat = e := (FRM_gi hF4 (r := 64) rfl rfl).trans (f3_181__2_gi_h_171_22_toNat)
        have o4 : ∀ j, j ≠ (2 * (gi h 171 22)).toNat → gi h4 181 j = gi h 181 j := fun j hj => (FRM_gi hF4 (r := 64) rfl rfl).trans (o3 j hj)
        replace hF4 : FRM gRL [(0, 54, 18, 18), (0, 54, 22, 22), (0, 64, 0, 31)] h h4 := hF3.trans (hF4.mono rfl)
        refine x_iastore 72 hK rfl rfl (sp_181 (h := h4) hG4) (by first | omega | exact gi_r _ _ _) (by first | omega | exact gi_r _ _ _) (by first | omega | exact gi_r _ _ _) ?_
        refine x_aload_n 73 hK rfl rfl rfl ?_
        refine x_dup 74 hK rfl rfl rfl ?_
        refine x_getE 77 hK rfl (Or.inl rfl) rfl (sp_171 (h := h4) hG4) (e := (gi h 171 22)) ((gi_a (by decide) _).trans (f4_171_22)) ?_
        refine x_iconst 78 hK rfl rfl ?_
        refine x_iadd 79 hK rfl rfl ?_
        refine x_putI 82 hK rfl rfl (sp_171 (h := h4) hG4) ?_
        refine x_aload_n 83 hK rfl rfl rfl ?_
        refine x_getR 86 hK rfl rfl (sp_171 (h := h4) hG4) (rf_171_21 (h := h4) hG4) ?_
        refine x_iload_n 87 hK rfl rfl rfl ?_
        refine x_iconst 88 hK rfl rfl ?_
        refine x_iadd 89 hK rfl rfl ?_
        refine x_ialoadE 90 hK rfl rfl (sp_181 (h := h4) hG4) (by first | omega | exact gi_r _ _ _) (by first | omega | exact gi_r _ _ _) (by first | omega | exact gi_r _ _ _) (e' := f) ((gi_a (by decide) _).trans (gi_same (by first | omega | exact gi_r _ _ _))) ?_
        refine x_if_lt 97 93 hK rfl rfl rfl (by first | omega | exact gi_r _ _ _) (fun c54 => ?_) (fun c54 => ?_)
        · refine x_iconst 98 hK rfl rfl ?_
          exact x_zret hK rfl (by omega) ⟨Or.inl rfl, GD_w1 (GD_wn (hG4) (r := 64) rfl rfl) (r := 54) rfl (by omega) rfl (by omega) (by omega), FRM_w (FRM_wn 0 31 (hF4) (r := 64) rfl rfl rfl (by omega) (by omega)) (r := 54) rfl rfl⟩
        · refine x_iconst 94 hK rfl rfl ?_
          refine x_goto 98 hK rfl rfl ?_
          have s22 : gi (wI (wI h4 181 ((2 * (gi h 171 22)) + 1).toNat f) 171 22 ((gi h 171 22) + 1)) 171 22 = ((gi h 171 22) + 1) := gi_same (by first | omega | exact gi_r _ _ _)
          have sv : gi (wI (wI h4 181 ((2 * (gi h 171 22)) + 1).toNat f) 171 22 ((gi h 171 22) + 1)) 181 (2 * (gi h 171 22)).toNat = e := (gi_a (by decide) _).trans ((gi_k (by omega) _).trans f4_181__2_gi_h_171_22_toNat)
          exact x_zret hK rfl (by omega) ⟨Or.inr ⟨rfl, by omega, s22, by omega, by omega, fun j h5 h6 => (gi_a (by decide) _).trans ((gi_k h6 _).trans (o4 j h5))⟩, GD_w1 (GD_wn (hG4) (r := 64) rfl rfl) (r := 54) rfl (by omega) rfl (by omega) (by omega), FRM_w (FRM_wn 0 31 (hF4) (r := 64) rfl rfl rfl (by omega) (by omega)) (r := 54) rfl rfl⟩
      · refine x_if_ne 58 56 hK rfl rfl rfl (by first | omega | exact gi_r _ _ _) (fun c => by omega) (fun _ => ?_)
        refine x_iconst 57 hK rfl rfl ?_
        exact x_zret hK rfl (by omega) ⟨Or.inl rfl, hG3, hF3⟩
  · refine x_iconst 15 hK rfl rfl ?_
    exact x_zret hK rfl (by omega) ⟨Or.inl rfl, hG, FRM.rf⟩
theorem ctX11_rocks (hSP : MONO SPt) {sh : List (Nat × Nat)} {h : aH} (hG : GD gE gRL sh h) : CLd SPt 7 mX11_rocks [.ref 171] h 0 0 (fun rv h' => (∃ e, rv = some (.int (I e))) ∧ GD gE gRL sh h' ∧ FRM gRL [(0, 54, 0, 0), (0, 54, 6, 6), (0, 54, 17, 20), (0, 54, 22, 22), (0, 58, 0, 15), (0, 59, 0, 15), (0, 64, 0, 31)] h h' ∧ gi h' 171 0 = 0 ∧ (∀ b, NB b h → NB b h')) := by
  refine x_met _ rfl (Nat.le_of_ble_eq_true rfl) (fun K hK => ?_)
  have hmono := MONO_CLd hSP 6
  have loop2 : ∀ (m : Nat) (k : Int) (h4 : aH) (ls : List (Nat × Value)), ((gi h4 171 22 - k).toNat = m) → 0 ≤ k → k ≤ gi h4 171 22 → gi h4 171 6 + gi h4 171 22 - k ≤ 16 → (∀ j : Nat, (j : Int) < gi h4 171 22 → 1 ≤ gi h4 181 (2 * j) ∧ gi h4 181 (2 * j) ≤ 999) → lk ls 0 = some (.ref 171) → lk ls 5 = some (.int (I k)) → GD gE gRL sh h4 → FRM gRL [(0, 54, 0, 0), (0, 54, 6, 6), (0, 54, 17, 20), (0, 54, 22, 22), (0, 58, 0, 15), (0, 59, 0, 15), (0, 64, 0, 31)] h h4 → gi h4 171 0 = 0 → K 81 ls [] h4 0 0 := by
    intro m
    induction m using Nat.strongRecOn with
    | ind m ih =>
    intro k h4 ls hm h0 hk hc hv l0 l5 hG4 hF4 t4
    have g22 := gri 0 16 hG4 (a := 171) (r := 54) (k := 22) rfl rfl
    have gc := gri 0 16 hG4 (a := 171) (r := 54) (k := 6) rfl rfl
    refine x_iload 83 hK rfl rfl l5 ?_
    refine x_aload_n 84 hK rfl rfl l0 ?_
    refine x_getE 87 hK rfl (Or.inl rfl) rfl (sp_171 (h := h4) hG4) (e := (gi h4 171 22)) (rfl) ?_
    refine x_if_icmp_ge 144 90 hK rfl rfl rfl (by first | omega | exact gi_r _ _ _) (by first | omega | exact gi_r _ _ _) (fun c4 => ?_) (fun c4 => ?_)
    · refine x_aload_n 145 hK rfl rfl l0 ?_
      refine x_getE 148 hK rfl (Or.inl rfl) rfl (sp_171 (h := h4) hG4) (e := (gi h4 171 22)) (rfl) ?_
      exact x_iret hK rfl ⟨⟨_, rfl⟩, hG4, hF4, t4, fun b z => NB_frm (by decide) hF4 z⟩
    · have hvk := hv k.toNat (by omega)
      rw [gi_to (h := h4) (a := 181) (show 2 * k.toNat = (2 * k).toNat by omega)] at hvk
      refine x_aload_n 91 hK rfl rfl l0 ?_
      refine x_getR 94 hK rfl rfl (sp_171 (h := h4) hG4) (rf_171_11 (h := h4) hG4) ?_
      refine x_aload_n 95 hK rfl rfl l0 ?_
      refine x_getE 98 hK rfl (Or.inl rfl) rfl (sp_171 (h := h4) hG4) (e := (gi h4 171 6)) (rfl) ?_
      refine x_aload_n 99 hK rfl rfl l0 ?_
      refine x_getR 102 hK rfl rfl (sp_171 (h := h4) hG4) (rf_171_21 (h := h4) hG4) ?_
      refine x_iconst 103 hK rfl rfl ?_
      refine x_iload 105 hK rfl rfl l5 ?_
      refine x_imul 106 hK rfl rfl ?_
      refine x_ialoadE 107 hK rfl rfl (sp_181 (h := h4) hG4) (by first | omega | exact gi_r _ _ _) (by first | omega | exact gi_r _ _ _) (by first | omega | exact gi_r _ _ _) (e' := (gi h4 181 (2 * k).toNat)) (rfl) ?_
      refine x_iastore 108 hK rfl rfl (sp_175 (h := h4) hG4) (by first | omega | exact gi_r _ _ _) (by first | omega | exact gi_r _ _ _) (by first | omega | exact gi_r _ _ _) ?_
      refine x_aload_n 109 hK rfl rfl l0 ?_
      refine x_getR 112 hK rfl rfl (sp_171 (h := h4) hG4) (rf_171_12 (h := h4) hG4) ?_
      refine x_aload_n 113 hK rfl rfl l0 ?_
      refine x_getE 116 hK rfl (Or.inl rfl) rfl (sp_171 (h := h4) hG4) (e := (gi h4 171 6)) (gi_a (by decide) _) ?_
      refine x_aload_n 117 hK rfl rfl l0 ?_
      refine x_getR 120 hK rfl rfl (sp_171 (h := h4) hG4) (rf_171_21 (h := h4) hG4) ?_
      refine x_iconst 121 hK rfl rfl ?_
      refine x_iload 123 hK rfl rfl l5 ?_
      refine x_imul 124 hK rfl rfl ?_
      refine x_iconst 125 hK rfl rfl ?_
      refine x_iadd 126 hK rfl rfl ?_
      refine x_ialoadE 127 hK rfl rfl (sp_181 (h := h4) hG4) (by first | omega | exact gi_r _ _ _) (by first | omega | exact gi_r _ _ _) (by first | omega | exact gi_r _ _ _) (e' := (gi h4 181 ((2 * k) + 1).toNat)) (gi_a (by decide) _) ?_
      refine x_iastore 128 hK rfl rfl (sp_176 (h := h4) hG4) (by first | omega | exact gi_r _ _ _) (by first | omega | exact gi_r _ _ _) (by first | omega | exact gi_r _ _ _) ?_
      refine x_aload_n 129 hK rfl rfl l0 ?_
      refine x_dup 130 hK rfl rfl rfl ?_
      refine x_getE 133 hK rfl (Or.inl rfl) rfl (sp_171 (h := h4) hG4) (e := (gi h4 171 6)) ((gi_a (by decide) _).trans (gi_a (by decide) _)) ?_
      refine x_iconst 134 hK rfl rfl ?_
      refine x_iadd 135 hK rfl rfl ?_
      refine x_putI 138 hK rfl rfl (sp_171 (h := h4) hG4) ?_
      refine x_iinc 141 hK rfl rfl l5 _ rfl ?_
      refine x_goto 81 hK rfl rfl ?_
      have s22 : gi (wI (wI (wI h4 175 (gi h4 171 6).toNat (gi h4 181 (2 * k).toNat)) 176 (gi h4 171 6).toNat (gi h4 181 ((2 * k) + 1).toNat)) 171 6 ((gi h4 171 6) + 1)) 171 22 = (gi h4 171 22) := (gi_k (by decide) _).trans ((gi_a (by decide) _).trans (gi_a (by decide) _))
      have sc : gi (wI (wI (wI h4 175 (gi h4 171 6).toNat (gi h4 181 (2 * k).toNat)) 176 (gi h4 171 6).toNat (gi h4 181 ((2 * k) + 1).toNat)) 171 6 ((gi h4 171 6) + 1)) 171 6 = ((gi h4 171 6) + 1) := gi_same (by first | omega | exact gi_r _ _ _)
      have s0 : gi (wI (wI (wI h4 175 (gi h4 171 6).toNat (gi h4 181 (2 * k).toNat)) 176 (gi h4 171 6).toNat (gi h4 181 ((2 * k) + 1).toNat)) 171 6 ((gi h4 171 6) + 1)) 171 0 = (gi h4 171 0) := (gi_k (by decide) _).trans ((gi_a (by decide) _).trans (gi_a (by decide) _))
      have sv : ∀ j, gi (wI (wI (wI h4 175 (gi h4 171 6).toNat (gi h4 181 (2 * k).toNat)) 176 (gi h4 171 6).toNat (gi h4 181 ((2 * k) + 1).toNat)) 171 6 ((gi h4 171 6) + 1)) 181 j = gi h4 181 j := fun j => (gi_a (by decide) _).trans ((gi_a (by decide) _).trans (gi_a (by decide) _))
      exact ih _ (by omega) (k + 1) _ _ rfl (by omega) (by omega) (by omega) (fun j hj => by rw [sv]; exact hv j (by omega)) (lk1_n l0 (by decide) (Or.inl rfl)) lk1_s (GD_w1 (GD_wn (GD_wu (hG4) (r := 58) rfl (by omega) rfl (by omega) (by omega)) (r := 59) rfl rfl) (r := 54) rfl (by omega) rfl (by omega) (by omega)) (FRM_w (FRM_wn 0 15 (FRM_wn 0 15 (hF4) (r := 58) rfl rfl rfl (by omega) (by omega)) (r := 59) rfl rfl rfl (by omega) (by omega)) (r := 54) rfl rfl) (s0.trans t4)
  have end1 : ∀ (is n : Int) (h2 : aH) (ls : List (Nat × Value)), (is = 0 ∨ is = 1 ∧ gi h2 171 6 + gi h2 171 22 ≤ 16 ∧ (∀ j : Nat, (j : Int) < gi h2 171 22 → 1 ≤ gi h2 181 (2 * j) ∧ gi h2 181 (2 * j) ≤ 999)) → r32 n → lk ls 0 = some (.ref 171) → lk ls 1 = some (.int (I n)) → lk ls 2 = some (.int (I is)) → GD gE gRL sh h2 → FRM gRL [(0, 54, 0, 0), (0, 54, 17, 20), (0, 54, 22, 22), (0, 64, 0, 31)] h h2 → gi h2 171 0 = 0 → K 60 ls [] h2 0 0 := by
    intro is n h2 ls his rn l0 l1 l2 hG2 hF2 t2
    have g22 := gri 0 16 hG2 (a := 171) (r := 54) (k := 22) rfl rfl
    have is2 : is = 0 ∨ is = 1 := by omega
    refine x_aload_n 61 hK rfl rfl l0 ?_
    refine x_iload_n 62 hK rfl rfl l1 ?_
    refine x_bipush 64 hK rfl rfl rfl ?_
    refine x_iload_n 65 hK rfl rfl l2 ?_
    refine x_callV 68 hK hmono rfl rfl [.ref 171, .int (I n), .int (I 76), .int (I is)] [] rfl rfl (Nat.le_of_ble_eq_true rfl) (Nat.le_of_ble_eq_true rfl) rfl (sp_171 (h := h2) hG2) (CLd_le (Nat.le_of_ble_eq_true rfl) (ctX11_faultOf hSP hG2 rn (by omega) (by omega))) ?_
    rintro v9 h9 ⟨e9, rfl⟩
    rw [e9]
    clear e9
    have at9 := at_r hG2
    obtain ⟨w9, hw9, lw9, uw9⟩ : ∃ w : Int, (if 76 < n ∧ ((is = 1 ∧ gi h2 171 18 = gi h2 171 19) ∨ 76 ≤ gi h2 171 18) then -1 - 76 else if is = 1 ∧ gi h2 171 18 = gi h2 171 19 then 0 else -1 - gi h2 171 18) = w ∧ -82 ≤ w ∧ (w = 0 → is = 1) := by
      split
      · exact ⟨_, rfl, by omega, by omega⟩
      · split
        · exact ⟨_, rfl, by omega, by omega⟩
        · exact ⟨_, rfl, by omega, by omega⟩
    rw [hw9]
    refine x_istore 70 hK rfl rfl _ rfl ?_
    refine x_iload 72 hK rfl rfl lk1_s ?_
    refine x_if_ge 78 75 hK rfl rfl rfl (by first | omega | exact gi_r _ _ _) (fun c8 => ?_) (fun c8 => ?_)
    · refine x_iconst 79 hK rfl rfl ?_
      refine x_istore 81 hK rfl rfl _ rfl ?_
      obtain ⟨-, i2, i3⟩ := his.resolve_left (by omega)
      exact loop2 _ 0 _ _ rfl (by omega) (by omega) (by omega) i3 (lk1_n (lk1_n l0 (by decide) (Or.inl rfl)) (by decide) (Or.inl rfl)) lk1_s hG2 (hF2.mono rfl) t2
    · refine x_iload 77 hK rfl rfl lk1_s ?_
      exact x_iret hK rfl ⟨⟨_, rfl⟩, hG2, hF2.mono rfl, t2, fun b z => NB_frm (by decide) hF2 z⟩
  have loop1 : ∀ (m : Nat) (n : Int) (h2 : aH) (ls : List (Nat × Value)), ((16 - gi h2 171 22).toNat = m) → gi h2 171 6 + gi h2 171 22 ≤ 16 → (∀ j : Nat, (j : Int) < gi h2 171 22 → 1 ≤ gi h2 181 (2 * j) ∧ gi h2 181 (2 * j) ≤ 999) → r32 n → lk ls 0 = some (.ref 171) → lk ls 1 = some (.int (I n)) → GD gE gRL sh h2 → FRM gRL [(0, 54, 0, 0), (0, 54, 17, 20), (0, 54, 22, 22), (0, 64, 0, 31)] h h2 → gi h2 171 0 = 0 → K 33 ls [] h2 0 0 := by
    intro m
    induction m using Nat.strongRecOn with
    | ind m ih =>
    intro n h2 ls hm hc hv rn l0 l1 hG2 hF2 t2
    have g22 := gri 0 16 hG2 (a := 171) (r := 54) (k := 22) rfl rfl
    have gc := gri 0 16 hG2 (a := 171) (r := 54) (k := 6) rfl rfl
    refine x_aload_n 34 hK rfl rfl l0 ?_
    refine x_callV 37 hK hmono rfl rfl [.ref 171] [] rfl rfl (Nat.le_of_ble_eq_true rfl) (Nat.le_of_ble_eq_true rfl) rfl (sp_171 (h := h2) hG2) (CLd_le (Nat.le_of_ble_eq_true rfl) (ctX11_readsRock hSP hG2 hc)) ?_
    rintro v3 h3 ⟨hv3, hG3, hF3⟩
    have f3_171_0 : gi h3 171 0 = (gi h2 171 0) := (FRM_gi hF3 (r := 54) rfl rfl).trans (rfl)
    have f3_171_6 : gi h3 171 6 = (gi h2 171 6) := (FRM_gi hF3 (r := 54) rfl rfl).trans (rfl)
    replace hF3 : FRM gRL [(0, 54, 0, 0), (0, 54, 17, 20), (0, 54, 22, 22), (0, 64, 0, 31)] h h3 := hF2.trans (hF3.mono rfl)
    rcases hv3 with rfl | ⟨rfl, q1, q2, q3, q4, q5⟩
    · refine x_istore_n 38 hK rfl rfl _ rfl ?_
      refine x_iload_n 39 hK rfl rfl lk1_s ?_
      refine x_if_eq 55 42 hK rfl rfl rfl (by first | omega | exact gi_r _ _ _) (fun _ => ?_) (fun c => by omega)
      refine x_iconst 56 hK rfl rfl ?_
      refine x_istore_n 57 hK rfl rfl _ rfl ?_
      refine x_goto 29 hK rfl rfl ?_
      refine x_iload_n 30 hK rfl rfl lk1_s ?_
      refine x_if_eq 60 33 hK rfl rfl rfl (by first | omega | exact gi_r _ _ _) (fun _ => ?_) (fun c => by omega)
      have s0 : gi h3 171 0 = (gi h2 171 0) := f3_171_0
      exact end1 0 n h3 _ (Or.inl rfl) rn (lk1_n (lk1_n l0 (by decide) (Or.inl rfl)) (by decide) (Or.inl rfl)) (lk1_n (lk1_n l1 (by decide) (Or.inl rfl)) (by decide) (Or.inl rfl)) (lk1_n lk1_s (by decide) (Or.inl rfl)) hG3 hF3 (s0.trans t2)
    · have hv3 : (∀ j : Nat, (j : Int) < gi h3 171 22 → 1 ≤ gi h3 181 (2 * j) ∧ gi h3 181 (2 * j) ≤ 999) := fun j hj => by
        by_cases cj : (j : Int) = gi h2 171 22
        · rw [show 2 * j = (2 * gi h2 171 22).toNat by omega]; exact ⟨q3, q4⟩
        · rw [q5 _ (by omega) (by omega)]; exact hv j (by omega)
      refine x_istore_n 38 hK rfl rfl _ rfl ?_
      refine x_iload_n 39 hK rfl rfl lk1_s ?_
      refine x_if_eq 55 42 hK rfl rfl rfl (by first | omega | exact gi_r _ _ _) (fun c => by omega) (fun _ => ?_)
      refine x_aload_n 43 hK rfl rfl (lk1_n l0 (by decide) (Or.inl rfl)) ?_
      refine x_bipush 45 hK rfl rfl rfl ?_
      refine x_callV 48 hK hmono rfl rfl [.ref 171, .int (I 59)] [] rfl rfl (Nat.le_of_ble_eq_true rfl) (Nat.le_of_ble_eq_true rfl) rfl (sp_171 (h := h3) hG3) (CLd_le (Nat.le_of_ble_eq_true rfl) (ctX11_takes hSP hG3 (by omega))) ?_
      rintro v5 h5 ⟨hG5, hF5, tk5⟩
      have f5_171_0 : gi h5 171 0 = (gi h2 171 0) := (FRM_gi hF5 (r := 54) rfl rfl).trans (f3_171_0)
      have f5_171_6 : gi h5 171 6 = (gi h2 171 6) := (FRM_gi hF5 (r := 54) rfl rfl).trans (f3_171_6)
      have f5_171_22 : gi h5 171 22 = (gi h3 171 22) := (FRM_gi hF5 (r := 54) rfl rfl).trans (rfl)
      have o5 : ∀ j, gi h5 181 j = gi h3 181 j := fun j => FRM_gi hF5 (r := 64) rfl rfl
      replace hF5 : FRM gRL [(0, 54, 0, 0), (0, 54, 17, 20), (0, 54, 22, 22), (0, 64, 0, 31)] h h5 := hF3.trans (hF5.mono rfl)
      rcases tk5 with ⟨rfl, -⟩ | ⟨rfl, -⟩
      · refine x_if_eq 55 51 hK rfl rfl rfl (by first | omega | exact gi_r _ _ _) (fun c => by omega) (fun _ => ?_)
        refine x_iconst 52 hK rfl rfl ?_
        refine x_goto 56 hK rfl rfl ?_
        refine x_istore_n 57 hK rfl rfl _ rfl ?_
        refine x_goto 29 hK rfl rfl ?_
        refine x_iload_n 30 hK rfl rfl lk1_s ?_
        refine x_if_eq 60 33 hK rfl rfl rfl (by first | omega | exact gi_r _ _ _) (fun c => by omega) (fun _ => ?_)
        have s0 : gi h5 171 0 = (gi h2 171 0) := f5_171_0
        have e22 : gi h5 171 22 = gi h3 171 22 := f5_171_22
        have sc : gi h5 171 6 = (gi h2 171 6) := f5_171_6
        exact ih _ (by omega) n h5 _ rfl (by omega) (fun j hj => by rw [o5]; exact hv3 j (by omega)) rn (lk1_n (lk1_n l0 (by decide) (Or.inl rfl)) (by decide) (Or.inl rfl)) (lk1_n (lk1_n l1 (by decide) (Or.inl rfl)) (by decide) (Or.inl rfl)) hG5 hF5 (s0.trans t2)
      · refine x_if_eq 55 51 hK rfl rfl rfl (by first | omega | exact gi_r _ _ _) (fun _ => ?_) (fun c => by omega)
        refine x_iconst 56 hK rfl rfl ?_
        refine x_istore_n 57 hK rfl rfl _ rfl ?_
        refine x_goto 29 hK rfl rfl ?_
        refine x_iload_n 30 hK rfl rfl lk1_s ?_
        refine x_if_eq 60 33 hK rfl rfl rfl (by first | omega | exact gi_r _ _ _) (fun _ => ?_) (fun c => by omega)
        have s0 : gi h5 171 0 = (gi h2 171 0) := f5_171_0
        have e22 : gi h5 171 22 = gi h3 171 22 := f5_171_22
        have sc : gi h5 171 6 = (gi h2 171 6) := f5_171_6
        exact end1 1 n h5 _ (Or.inr ⟨rfl, by omega, fun j hj => by rw [o5]; exact hv3 j (by omega)⟩) rn (lk1_n (lk1_n l0 (by decide) (Or.inl rfl)) (by decide) (Or.inl rfl)) (lk1_n (lk1_n l1 (by decide) (Or.inl rfl)) (by decide) (Or.inl rfl)) (lk1_n lk1_s (by decide) (Or.inl rfl)) hG5 hF5 (s0.trans t2)
  refine x_aload_n 1 hK rfl rfl rfl ?_
  refine x_iconst 2 hK rfl rfl ?_
  refine x_putI 5 hK rfl rfl (sp_171 (h := h) hG) ?_
  refine x_aload_n 6 hK rfl rfl rfl ?_
  refine x_bipush 8 hK rfl rfl rfl ?_
  have hGp1 : GD gE gRL sh (wI h 171 0 0) := GD_w1 (hG) (r := 54) rfl (by omega) rfl (by omega) (by omega)
  have hFp1 : FRM gRL [(0, 54, 0, 0), (0, 54, 17, 20), (0, 54, 22, 22), (0, 64, 0, 31)] h (wI h 171 0 0) := FRM_w (FRM.rf) (r := 54) rfl rfl
  refine x_callV 11 hK hmono rfl rfl [.ref 171, .int (I 76)] [] rfl rfl (Nat.le_of_ble_eq_true rfl) (Nat.le_of_ble_eq_true rfl) rfl (sp_171 (h := h) hG) (CLd_le (Nat.le_of_ble_eq_true rfl) (ctX11_begins hSP hGp1 (by omega))) ?_
  rintro v1 h1 ⟨rfl, hG1, hF1, b17, b18, b20, b19⟩
  have f1_171_0 : gi h1 171 0 = 0 := (FRM_gi hF1 (r := 54) rfl rfl).trans (gi_same (by first | omega | exact gi_r _ _ _))
  have f1_171_6 : gi h1 171 6 = (gi h 171 6) := (FRM_gi hF1 (r := 54) rfl rfl).trans (gi_k (by decide) _)
  have tn := gri 0 80 hGp1 (a := 171) (r := 54) (k := 17) rfl rfl
  generalize gi (wI h 171 0 0) 171 17 = n at *
  have rn : r32 n := by omega
  replace hF1 : FRM gRL [(0, 54, 0, 0), (0, 54, 17, 20), (0, 54, 22, 22), (0, 64, 0, 31)] h h1 := hFp1.trans (hF1.mono rfl)
  refine x_istore_n 12 hK rfl rfl [(1, .int (I n)), (0, .ref 171)] rfl ?_
  refine x_aload_n 13 hK rfl rfl rfl ?_
  refine x_iconst 14 hK rfl rfl ?_
  refine x_putI 17 hK rfl rfl (sp_171 (h := h1) hG1) ?_
  refine x_iconst 18 hK rfl rfl ?_
  refine x_istore_n 19 hK rfl rfl [(2, .int (I 1)), (1, .int (I n)), (0, .ref 171)] rfl ?_
  refine x_iload_n 20 hK rfl rfl rfl ?_
  refine x_if_le 27 23 hK rfl rfl rfl (by first | omega | exact gi_r _ _ _) (fun c14 => ?_) (fun c14 => ?_)
  · refine x_iconst 28 hK rfl rfl ?_
    refine x_istore_n 29 hK rfl rfl [(3, .int (I 0)), (2, .int (I 1)), (1, .int (I n)), (0, .ref 171)] rfl ?_
    refine x_iload_n 30 hK rfl rfl rfl ?_
    refine x_if_eq 60 33 hK rfl rfl rfl (by first | omega | exact gi_r _ _ _) (fun _ => ?_) (fun c => by omega)
    have s22 : gi (wI h1 171 22 0) 171 22 = 0 := gi_same (by first | omega | exact gi_r _ _ _)
    have s0 : gi (wI h1 171 22 0) 171 0 = 0 := (gi_k (by decide) _).trans (f1_171_0)
    have sc : gi (wI h1 171 22 0) 171 6 = (gi h 171 6) := (gi_k (by decide) _).trans (f1_171_6)
    have gc := gri 0 16 hG (a := 171) (r := 54) (k := 6) rfl rfl
    exact end1 1 n _ _ (Or.inr ⟨rfl, by omega, (fun j hj => by omega)⟩) rn rfl rfl rfl (GD_w1 (hG1) (r := 54) rfl (by omega) rfl (by omega) (by omega)) (FRM_w (hF1) (r := 54) rfl rfl) s0
  · refine x_iconst 24 hK rfl rfl ?_
    refine x_goto 28 hK rfl rfl ?_
    refine x_istore_n 29 hK rfl rfl [(3, .int (I 1)), (2, .int (I 1)), (1, .int (I n)), (0, .ref 171)] rfl ?_
    refine x_iload_n 30 hK rfl rfl rfl ?_
    refine x_if_eq 60 33 hK rfl rfl rfl (by first | omega | exact gi_r _ _ _) (fun c => by omega) (fun _ => ?_)
    have s22 : gi (wI h1 171 22 0) 171 22 = 0 := gi_same (by first | omega | exact gi_r _ _ _)
    have s0 : gi (wI h1 171 22 0) 171 0 = 0 := (gi_k (by decide) _).trans (f1_171_0)
    have sc : gi (wI h1 171 22 0) 171 6 = (gi h 171 6) := (gi_k (by decide) _).trans (f1_171_6)
    have gc := gri 0 16 hG (a := 171) (r := 54) (k := 6) rfl rfl
    exact loop1 _ n _ _ rfl (by omega) (fun j hj => by omega) rn rfl rfl (GD_w1 (hG1) (r := 54) rfl (by omega) rfl (by omega) (by omega)) (FRM_w (hF1) (r := 54) rfl rfl) s0
