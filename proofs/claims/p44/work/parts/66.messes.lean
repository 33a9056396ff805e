/-! MESSES TOLD (the reference): the whole call -/
theorem nmF_b {f : Int → Int} {n : Nat} {p : Int} (hn : n = 1 ∨ n = 2 ∨ n = 3) : -1 ≤ (nmF f n p).1 ∧ (n = 1 → (nmF f n p).1 ≤ 9) ∧ (n = 2 → (nmF f n p).1 ≤ 99) ∧ (nmF f n p).1 ≤ 999 := by
  unfold nmF
  rcases hn with rfl | rfl | rfl <;> simp only [tkv] <;> (repeat' split) <;> simp_all <;> omega
theorem rdMess_b {f : Int → Int} {p : Int} : (0 ≤ (rdMess f p).2.1 ∧ (rdMess f p).2.1 ≤ 99) ∧ 0 ≤ (rdMess f p).2.2 ∧ (rdMess f p).2.2 ≤ 9 := by
  have h1 := nmF_b (f := f) (p := p) (n := 2) (by omega)
  have h2 := nmF_b (f := f) (p := (nmF f 2 p).2 + 1) (n := 1) (by omega)
  unfold rdMess
  split
  · exact ⟨⟨Int.le_refl _, by show (0 : Int) ≤ 99; omega⟩, Int.le_refl _, by show (0 : Int) ≤ 9; omega⟩
  · split
    · exact ⟨⟨Int.le_refl _, by show (0 : Int) ≤ 99; omega⟩, Int.le_refl _, by show (0 : Int) ≤ 9; omega⟩
    · split
      · exact ⟨⟨Int.le_refl _, by show (0 : Int) ≤ 99; omega⟩, Int.le_refl _, by show (0 : Int) ≤ 9; omega⟩
      · have := h1.2.2.1 rfl
        have := h2.2.1 rfl
        show (0 ≤ (nmF f 2 p).1 ∧ (nmF f 2 p).1 ≤ 99) ∧ 0 ≤ (nmF f 1 ((nmF f 2 p).2 + 1)).1 ∧ (nmF f 1 ((nmF f 2 p).2 + 1)).1 ≤ 9
        exact ⟨⟨by omega, by omega⟩, by omega, by omega⟩
theorem rdMs_b {f : Int → Int} : ∀ (n : Nat) (p : Int), (rdMs f n p).2.length ≤ n ∧ ∀ q ∈ (rdMs f n p).2, (0 ≤ q.1 ∧ q.1 ≤ 99) ∧ 0 ≤ q.2 ∧ q.2 ≤ 9
  | 0, p => ⟨Nat.le_refl _, fun q hq => absurd hq List.not_mem_nil⟩
  | n + 1, p => by
    unfold rdMs
    split
    · split
      · obtain ⟨a, b⟩ := rdMs_b n ((rdMess f p).1.2 + 1)
        refine ⟨by simp; omega, fun q hq => ?_⟩
        rcases List.mem_cons.mp hq with rfl | hq
        · exact rdMess_b
        · exact b q hq
      · refine ⟨by simp, fun q hq => ?_⟩
        rw [List.mem_singleton.mp hq]
        exact rdMess_b
    · exact ⟨by simp, fun q hq => absurd hq List.not_mem_nil⟩
def msR (f : Int → Int) (sz ms : Int) : (Bool × Int) × List (Int × Int) := if sz = 0 then ((true, 0), []) else rdMs f (8 - ms).toNat 0
theorem msR_b {f : Int → Int} {sz ms : Int} : (msR f sz ms).2.length ≤ (8 - ms).toNat ∧ ∀ q ∈ (msR f sz ms).2, (0 ≤ q.1 ∧ q.1 ≤ 99) ∧ 0 ≤ q.2 ∧ q.2 ≤ 9 := by
  unfold msR
  split
  · exact ⟨Nat.zero_le _, fun q hq => absurd hq List.not_mem_nil⟩
  · exact rdMs_b _ _
/-- what was read, by twos -/
def rdL (h : aH) (n : Nat) : List (Int × Int) := (List.range n).map fun j => (gi h 181 (2 * j), gi h 181 (2 * j + 1))
theorem rdL_s (h : aH) (n : Nat) : rdL h (n + 1) = rdL h n ++ [(gi h 181 (2 * n), gi h 181 (2 * n + 1))] := by unfold rdL; rw [List.range_succ, List.map_append]; rfl
theorem rdL_congr {h h' : aH} {n : Nat} (e : ∀ j, j < 2 * n → gi h' 181 j = gi h 181 j) : rdL h' n = rdL h n := by
  unfold rdL
  refine List.map_congr_left fun j hj => ?_
  have := List.mem_range.mp hj
  rw [e _ (by omega), e (2 * j + 1) (by omega)]
theorem rdL_get {h : aH} {n : Nat} {L : List (Int × Int)} (e : rdL h n = L) {j : Nat} (hj : j < n) : gi h 181 (2 * j) = (L.getD j (0, 0)).1 ∧ gi h 181 (2 * j + 1) = (L.getD j (0, 0)).2 := by
  subst e
  unfold rdL
  rw [List.getD_eq_getElem?_getD, List.getElem?_map, List.getElem?_range hj]
  exact ⟨rfl, rfl⟩
theorem rdL_l {h : aH} {n : Nat} {L : List (Int × Int)} (e : rdL h n = L) : L.length = n := by rw [← e]; unfold rdL; rw [List.length_map, List.length_range]
theorem getD_all {L : List (Int × Int)} {P : Int × Int → Prop} (h : ∀ q ∈ L, P q) {j : Nat} (hj : j < L.length) : P (L.getD j (0, 0)) := by
  rw [List.getD_eq_getElem?_getD, List.getElem?_eq_getElem hj]
  exact h _ (List.getElem_mem hj)
/-- the state when new MESSES stand behind the others -/
def msW (ms : Int) (L : List (Int × Int)) (w : WS) : WS := (w.1, w.2.1, w.2.2.1, w.2.2.2.1, w.2.2.2.2.1, (fun j => if ms ≤ (j : Int) ∧ (j : Int) < ms + (L.length : Nat) then (L.getD (j - ms.toNat) (0, 0)).1 else w.2.2.2.2.2.1 j), fun j => if ms ≤ (j : Int) ∧ (j : Int) < ms + (L.length : Nat) then 0 else w.2.2.2.2.2.2 j)
theorem fltF_le {n most : Int} {r : Bool × Int} (hm : 0 ≤ most) (h0 : 0 ≤ r.2) : fltF n most r ≤ 0 := by unfold fltF; split; omega; split <;> omega
theorem fltF_0 {n most : Int} {r : Bool × Int} (hm : 0 ≤ most) (h0 : 0 ≤ r.2) (e : fltF n most r = 0) : r.1 = true ∧ r.2 = min n most := by
  unfold fltF at e
  split at e
  · omega
  · split at e
    · assumption
    · omega
theorem flt_i {n m : Int} {r : Bool × Int} : (if m < n ∧ ((b2i r.1 = 1 ∧ r.2 = min n m) ∨ m ≤ r.2) then -1 - m else if b2i r.1 = 1 ∧ r.2 = min n m then 0 else -1 - r.2) = fltF n m r := by
  unfold fltF
  have e : b2i r.1 = 1 ↔ r.1 = true := by cases r.1 <;> simp [b2i]
  simp only [e]
theorem if_c {α : Type} {p q : Prop} {dp : Decidable p} {dq : Decidable q} {a b : α} (h : p ↔ q) : (if p then a else b) = if q then a else b := by
  by_cases c : p
  · rw [if_pos c, if_pos (h.mp c)]
  · rw [if_neg c, if_neg (fun z => c (h.mpr z))]
set_option maxRecDepth 4000 in
theorem ctX11_messesF {SP : CT} (hSP : MONO SP) {sh : List (Nat × Nat)} {h : aH} (hG : GD gE gRL sh h) {b : Int} (hu : 0 ≤ gi h 171 29 ∧ gi h 171 29 ≤ 15) (aw : AW b h) : CLd SP 7 mX11_messes [.ref 171] h 0 0 (fun rv h' => (((fltF (gi h 171 17) 39 (msR (txF (gi h 180) (min (gi h 171 17) 39)) (gi h 171 17) (gi h 171 7)).1) < 0 ∧ rv = some (.int (I (fltF (gi h 171 17) 39 (msR (txF (gi h 180) (min (gi h 171 17) 39)) (gi h 171 17) (gi h 171 7)).1))) ∧ RC h' 178 0 = RC h 178 0 ∧ gi h' 171 7 = gi h 171 7 ∧ (∀ j, gi h' 177 j = gi h 177 j) ∧ gi h' 171 29 = gi h 171 29 ∧ gi h' 171 8 = gi h 171 8) ∨ ((fltF (gi h 171 17) 39 (msR (txF (gi h 180) (min (gi h 171 17) 39)) (gi h 171 17) (gi h 171 7)).1) = 0 ∧ rv = some (.int (I (((msR (txF (gi h 180) (min (gi h 171 17) 39)) (gi h 171 17) (gi h 171 7)).2).length : Nat))) ∧ vw (RC h' 178 0) = msW (gi h 171 7) (msR (txF (gi h 180) (min (gi h 171 17) 39)) (gi h 171 17) (gi h 171 7)).2 (vw (RC h 178 0)) ∧ gi h' 171 7 = gi h 171 7 + (((msR (txF (gi h 180) (min (gi h 171 17) 39)) (gi h 171 17) (gi h 171 7)).2).length : Nat) ∧ (∀ j : Nat, j < 8 → gi h' 177 j = if gi h 171 7 ≤ (j : Int) ∧ (j : Int) < gi h 171 7 + (((msR (txF (gi h 180) (min (gi h 171 17) 39)) (gi h 171 17) (gi h 171 7)).2).length : Nat) then (((msR (txF (gi h 180) (min (gi h 171 17) 39)) (gi h 171 17) (gi h 171 7)).2).getD (j - (gi h 171 7).toNat) (0, 0)).2 else gi h 177 j) ∧ (((msR (txF (gi h 180) (min (gi h 171 17) 39)) (gi h 171 17) (gi h 171 7)).2).length = 0 → gi h' 171 29 = gi h 171 29 ∧ gi h' 171 8 = gi h 171 8) ∧ (0 < ((msR (txF (gi h 180) (min (gi h 171 17) 39)) (gi h 171 17) (gi h 171 7)).2).length → gi h' 171 29 = 0 ∧ gi h' 171 8 = w32 (gi h 171 8 + 1)))) ∧ GD gE gRL sh h' ∧ FRM gRL [(0, 54, 0, 0), (0, 54, 7, 8), (0, 54, 17, 20), (0, 54, 22, 22), (0, 54, 29, 29), (0, 60, 0, 7), (0, 61, 41, 56), (0, 64, 0, 31)] h h' ∧ gi h' 171 0 = 0 ∧ gi h' 171 17 = 0 ∧ (0 ≤ gi h' 171 29 ∧ gi h' 171 29 ≤ 15) ∧ AW b h') := by
  refine x_met _ rfl (Nat.le_of_ble_eq_true rfl) (fun K hK => ?_)
  have hmono := MONO_CLd hSP 6
  have gc := gri 0 8 hG (a := 171) (r := 54) (k := 7) rfl rfl
  have gsz := gri 0 80 hG (a := 171) (r := 54) (k := 17) rfl rfl
  obtain ⟨T, hT⟩ : ∃ T, (txF (gi h 180) (min (gi h 171 17) 39)) = T := ⟨_, rfl⟩
  obtain ⟨RR, hRR⟩ : ∃ RR, msR T (gi h 171 17) (gi h 171 7) = RR := ⟨_, rfl⟩
  have rb := msR_b (f := T) (sz := gi h 171 17) (ms := gi h 171 7)
  rw [hRR] at rb
  rw [hT, hRR] at hK
  obtain ⟨w0, w1, w2, w3, w4, w5⟩ := aw.1
  rw [RC_0 (by omega)] at w0 w1 w2 w3 w4
  have w6 : ∀ m, m < 8 → (0 ≤ gi h 178 (41 + m) ∧ gi h 178 (41 + m) ≤ 99) ∧ 0 ≤ gi h 178 (49 + m) ∧ gi h 178 (49 + m) ≤ b := fun m hm => by have := w5 m hm; rw [RC_0 (by omega), RC_0 (by omega)] at this; exact this
  have loop2 : ∀ (mz : Nat) (k : Int) (h5 : aH) (ls : List (Nat × Value)), (((RR.2.length : Int) - k).toNat = mz) → (0 ≤ k ∧ k ≤ (RR.2.length : Nat)) → (fltF (gi h 171 17) 39 RR.1 = 0) → (gi h5 171 0 = 0) → (gi h5 171 17 = 0) → (gi h5 171 22 = (RR.2.length : Nat)) → (gi h5 171 7 = gi h 171 7 + k) → (gi h5 171 29 = gi h 171 29) → (gi h5 171 8 = gi h 171 8) → (∀ j : Nat, j < RR.2.length → gi h5 181 (2 * j) = (RR.2.getD j (0, 0)).1 ∧ gi h5 181 (2 * j + 1) = (RR.2.getD j (0, 0)).2) → (∀ j : Nat, j < 8 → (gi h5 178 (41 + j) = if gi h 171 7 ≤ (j : Int) ∧ (j : Int) < gi h 171 7 + k then (RR.2.getD (j - (gi h 171 7).toNat) (0, 0)).1 else gi h 178 (41 + j)) ∧ (gi h5 178 (49 + j) = if gi h 171 7 ≤ (j : Int) ∧ (j : Int) < gi h 171 7 + k then 0 else gi h 178 (49 + j)) ∧ gi h5 177 j = if gi h 171 7 ≤ (j : Int) ∧ (j : Int) < gi h 171 7 + k then (RR.2.getD (j - (gi h 171 7).toNat) (0, 0)).2 else gi h 177 j) → (∀ j : Nat, j < 41 → gi h5 178 j = gi h 178 j) → lk ls 0 = some (.ref 171) → lk ls 5 = some (.int (I k)) → GD gE gRL sh h5 → FRM gRL [(0, 54, 0, 0), (0, 54, 7, 8), (0, 54, 17, 20), (0, 54, 22, 22), (0, 54, 29, 29), (0, 60, 0, 7), (0, 61, 41, 56), (0, 64, 0, 31)] h h5 → K 81 ls [] h5 0 0 := by
    intro mz
    induction mz using Nat.strongRecOn with
    | ind mz ih =>
    intro k h5 ls hm k0 f0 t5 z5 r5 m5 u5 c5 rl fl lo l0 l5 hG5 hF5
    have rlk := fun z : k < (RR.2.length : Nat) => rl k.toNat (by omega)
    have rbk := fun z : k < (RR.2.length : Nat) => getD_all rb.2 (j := k.toNat) (by omega)
    refine x_iload 83 hK rfl rfl l5 ?_
    refine x_aload_n 84 hK rfl rfl l0 ?_
    refine x_getE 87 hK rfl (Or.inl rfl) rfl (sp_171 (h := h5) hG5) (e := ((RR.2.length : Nat) : Int)) (r5) ?_
    refine x_if_icmp_ge 160 90 hK rfl rfl rfl (by omega) (by omega) (fun c4 => ?_) (fun c4 => ?_)
    · refine x_aload_n 161 hK rfl rfl l0 ?_
      refine x_getE 164 hK rfl (Or.inl rfl) rfl (sp_171 (h := h5) hG5) (e := ((RR.2.length : Nat) : Int)) (r5) ?_
      refine x_if_le 182 167 hK rfl rfl rfl (by omega) (fun c7 => ?_) (fun c7 => ?_)
      · refine x_aload_n 183 hK rfl rfl l0 ?_
        refine x_getE 186 hK rfl (Or.inl rfl) rfl (sp_171 (h := h5) hG5) (e := ((RR.2.length : Nat) : Int)) (r5) ?_
        obtain rfl : k = (RR.2.length : Nat) := by omega
        have n3 : gi h5 178 3 = gi h 178 3 := lo 3 (by omega)
        have ew : wl (RC h5 178 0) = wl (RC h 178 0) := by rw [wl_RC (by rw [n3]; omega), wl_RC (by omega), n3]; exact wlK_congr fun j z1 z2 => lo j (by omega)
        have ev : vw (RC h5 178 0) = msW (gi h 171 7) RR.2 (vw (RC h 178 0)) := by
          refine WS_ext ?_ ?_ ?_ ?_ ew (fun j => ?_) (fun j => ?_)
          · show RC h5 178 0 0 = RC h 178 0 0; rw [RC_0 (by omega), RC_0 (by omega)]; exact lo 0 (by omega)
          · show RC h5 178 0 1 = RC h 178 0 1; rw [RC_0 (by omega), RC_0 (by omega)]; exact lo 1 (by omega)
          · show RC h5 178 0 2 = RC h 178 0 2; rw [RC_0 (by omega), RC_0 (by omega)]; exact lo 2 (by omega)
          · show RC h5 178 0 4 = RC h 178 0 4; rw [RC_0 (by omega), RC_0 (by omega)]; exact lo 4 (by omega)
          · show (if j < 8 then RC h5 178 0 (41 + j) else 0) = if gi h 171 7 ≤ (j : Int) ∧ (j : Int) < gi h 171 7 + (RR.2.length : Nat) then (RR.2.getD (j - (gi h 171 7).toNat) (0, 0)).1 else (if j < 8 then RC h 178 0 (41 + j) else 0)
            by_cases c : j < 8
            · rw [if_pos c, if_pos c, RC_0 (by omega), RC_0 (by omega)]; exact (fl j c).1
            · rw [if_neg c, if_neg c, if_neg (by omega)]
          · show (if j < 8 then RC h5 178 0 (49 + j) else 0) = if gi h 171 7 ≤ (j : Int) ∧ (j : Int) < gi h 171 7 + (RR.2.length : Nat) then 0 else (if j < 8 then RC h 178 0 (49 + j) else 0)
            by_cases c : j < 8
            · rw [if_pos c, if_pos c, RC_0 (by omega), RC_0 (by omega)]; exact (fl j c).2.1
            · rw [if_neg c, if_neg c, if_neg (by omega)]
        have ewb : WB b (RC h5 178 0) := by
          refine ⟨?_, ?_, ?_, ?_, ?_, fun j hj => ?_⟩
          · rw [RC_0 (by omega), lo 0 (by omega)]; exact w0
          · rw [RC_0 (by omega), lo 1 (by omega)]; exact w1
          · rw [RC_0 (by omega), lo 2 (by omega)]; exact w2
          · rw [RC_0 (by omega), lo 3 (by omega)]; exact w3
          · rw [RC_0 (by omega), lo 4 (by omega)]; exact w4
          · rw [RC_0 (by omega), RC_0 (by omega), (fl j hj).1, (fl j hj).2.1]
            have z := w6 j hj
            have z2 := fun q : gi h 171 7 ≤ (j : Int) ∧ (j : Int) < gi h 171 7 + (RR.2.length : Nat) => getD_all rb.2 (j := j - (gi h 171 7).toNat) (by omega)
            (repeat' split) <;> omega
        have x1 : RC h5 178 0 = RC h5 178 0 := rfl
        have x2 : ∀ j, gi h5 177 j = gi h5 177 j := fun j => rfl
        have x3 : AW b h5 := by
          refine ⟨by rw [x1]; exact ewb, fun v hv => ?_, fun v hv => ?_⟩
          · rw [RC_F hF5 (r := 69) rfl rfl]; exact aw.2.1 v hv
          · rw [RC_F hF5 (r := 83) rfl rfl]; exact aw.2.2 v hv
        exact x_iret hK rfl ⟨Or.inr ⟨f0, rfl, by rw [x1]; exact ev, (m5), fun j hj => (x2 j).trans (fl j hj).2.2, fun _ => ⟨u5, c5⟩, fun z => by omega⟩, hG5, hF5, t5, z5, by rw [u5]; exact hu, x3⟩
      · refine x_aload_n 168 hK rfl rfl l0 ?_
        refine x_iconst 169 hK rfl rfl ?_
        refine x_putI 172 hK rfl rfl (sp_171 (h := h5) hG5) ?_
        refine x_aload_n 173 hK rfl rfl l0 ?_
        refine x_dup 174 hK rfl rfl rfl ?_
        have g211 := gi_r h 171 8
        refine x_getE 177 hK rfl (Or.inl rfl) rfl (sp_171 (h := h5) hG5) (e := (gi h 171 8)) ((gi_k (by decide) _).trans (c5)) ?_
        refine x_iconst 178 hK rfl rfl ?_
        refine x_iadd 179 hK rfl rfl ?_
        refine x_putI 182 hK rfl rfl (sp_171 (h := h5) hG5) ?_
        refine x_aload_n 183 hK rfl rfl l0 ?_
        refine x_getE 186 hK rfl (Or.inl rfl) rfl (sp_171 (h := h5) hG5) (e := ((RR.2.length : Nat) : Int)) ((gi_k (by decide) _).trans ((gi_k (by decide) _).trans (r5))) ?_
        obtain rfl : k = (RR.2.length : Nat) := by omega
        have n3 : gi h5 178 3 = gi h 178 3 := lo 3 (by omega)
        have ew : wl (RC h5 178 0) = wl (RC h 178 0) := by rw [wl_RC (by rw [n3]; omega), wl_RC (by omega), n3]; exact wlK_congr fun j z1 z2 => lo j (by omega)
        have ev : vw (RC h5 178 0) = msW (gi h 171 7) RR.2 (vw (RC h 178 0)) := by
          refine WS_ext ?_ ?_ ?_ ?_ ew (fun j => ?_) (fun j => ?_)
          · show RC h5 178 0 0 = RC h 178 0 0; rw [RC_0 (by omega), RC_0 (by omega)]; exact lo 0 (by omega)
          · show RC h5 178 0 1 = RC h 178 0 1; rw [RC_0 (by omega), RC_0 (by omega)]; exact lo 1 (by omega)
          · show RC h5 178 0 2 = RC h 178 0 2; rw [RC_0 (by omega), RC_0 (by omega)]; exact lo 2 (by omega)
          · show RC h5 178 0 4 = RC h 178 0 4; rw [RC_0 (by omega), RC_0 (by omega)]; exact lo 4 (by omega)
          · show (if j < 8 then RC h5 178 0 (41 + j) else 0) = if gi h 171 7 ≤ (j : Int) ∧ (j : Int) < gi h 171 7 + (RR.2.length : Nat) then (RR.2.getD (j - (gi h 171 7).toNat) (0, 0)).1 else (if j < 8 then RC h 178 0 (41 + j) else 0)
            by_cases c : j < 8
            · rw [if_pos c, if_pos c, RC_0 (by omega), RC_0 (by omega)]; exact (fl j c).1
            · rw [if_neg c, if_neg c, if_neg (by omega)]
          · show (if j < 8 then RC h5 178 0 (49 + j) else 0) = if gi h 171 7 ≤ (j : Int) ∧ (j : Int) < gi h 171 7 + (RR.2.length : Nat) then 0 else (if j < 8 then RC h 178 0 (49 + j) else 0)
            by_cases c : j < 8
            · rw [if_pos c, if_pos c, RC_0 (by omega), RC_0 (by omega)]; exact (fl j c).2.1
            · rw [if_neg c, if_neg c, if_neg (by omega)]
        have ewb : WB b (RC h5 178 0) := by
          refine ⟨?_, ?_, ?_, ?_, ?_, fun j hj => ?_⟩
          · rw [RC_0 (by omega), lo 0 (by omega)]; exact w0
          · rw [RC_0 (by omega), lo 1 (by omega)]; exact w1
          · rw [RC_0 (by omega), lo 2 (by omega)]; exact w2
          · rw [RC_0 (by omega), lo 3 (by omega)]; exact w3
          · rw [RC_0 (by omega), lo 4 (by omega)]; exact w4
          · rw [RC_0 (by omega), RC_0 (by omega), (fl j hj).1, (fl j hj).2.1]
            have z := w6 j hj
            have z2 := fun q : gi h 171 7 ≤ (j : Int) ∧ (j : Int) < gi h 171 7 + (RR.2.length : Nat) => getD_all rb.2 (j := j - (gi h 171 7).toNat) (by omega)
            (repeat' split) <;> omega
        have x1 : RC (wI (wI h5 171 29 0) 171 8 ((gi h 171 8) + 1)) 178 0 = RC h5 178 0 := (RC_w (by decide)).trans (RC_w (by decide))
        have x2 : ∀ j, gi (wI (wI h5 171 29 0) 171 8 ((gi h 171 8) + 1)) 177 j = gi h5 177 j := fun j => (gi_a (by decide) _).trans (gi_a (by decide) _)
        have x3 : AW b (wI (wI h5 171 29 0) 171 8 ((gi h 171 8) + 1)) := by
          refine ⟨by rw [x1]; exact ewb, fun v hv => ?_, fun v hv => ?_⟩
          · rw [show RC (wI (wI h5 171 29 0) 171 8 ((gi h 171 8) + 1)) 186 (57 * v) = RC h 186 (57 * v) from ((RC_w (by decide)).trans (RC_w (by decide))).trans (RC_F hF5 (r := 69) rfl rfl _)]; exact aw.2.1 v hv
          · rw [show RC (wI (wI h5 171 29 0) 171 8 ((gi h 171 8) + 1)) 200 (57 * v) = RC h 200 (57 * v) from ((RC_w (by decide)).trans (RC_w (by decide))).trans (RC_F hF5 (r := 83) rfl rfl _)]; exact aw.2.2 v hv
        have y8 : gi (wI (wI h5 171 29 0) 171 8 ((gi h 171 8) + 1)) 171 8 = w32 (gi h 171 8 + 1) := gi_w
        have y29 : gi (wI (wI h5 171 29 0) 171 8 ((gi h 171 8) + 1)) 171 29 = 0 := (gi_k (by decide) _).trans (gi_same (by omega))
        exact x_iret hK rfl ⟨Or.inr ⟨f0, rfl, by rw [x1]; exact ev, ((gi_k (by decide) _).trans ((gi_k (by decide) _).trans (m5))), fun j hj => (x2 j).trans (fl j hj).2.2, fun z => by omega, fun _ => ⟨y29, y8⟩⟩, GD_w0 (GD_w1 (hG5) (r := 54) rfl (by omega) rfl (by omega) (by omega)) (r := 54) rfl rfl, FRM_w (FRM_w (hF5) (r := 54) rfl rfl) (r := 54) rfl rfl, (gi_k (by decide) _).trans ((gi_k (by decide) _).trans (t5)), (gi_k (by decide) _).trans ((gi_k (by decide) _).trans (z5)), by rw [y29]; omega, x3⟩
    · refine x_aload_n 91 hK rfl rfl l0 ?_
      refine x_getR 94 hK rfl rfl (sp_171 (h := h5) hG5) (rf_171_14 (h := h5) hG5) ?_
      refine x_bipush 96 hK rfl rfl rfl ?_
      refine x_aload_n 97 hK rfl rfl l0 ?_
      refine x_getE 100 hK rfl (Or.inl rfl) rfl (sp_171 (h := h5) hG5) (e := (gi h 171 7 + k)) (m5) ?_
      refine x_iadd 101 hK rfl rfl ?_
      refine x_aload_n 102 hK rfl rfl l0 ?_
      refine x_getR 105 hK rfl rfl (sp_171 (h := h5) hG5) (rf_171_21 (h := h5) hG5) ?_
      refine x_iconst 106 hK rfl rfl ?_
      refine x_iload 108 hK rfl rfl l5 ?_
      refine x_imul 109 hK rfl rfl ?_
      refine x_ialoadE 110 hK rfl rfl (sp_181 (h := h5) hG5) (by omega) (by omega) (by omega) (e' := (RR.2.getD k.toNat (0, 0)).1) (((gi_to (by omega)).trans (rlk (by omega)).1)) ?_
      refine x_iastore 111 hK rfl rfl (sp_178 (h := h5) hG5) (by omega) (by omega) (by omega) ?_
      refine x_aload_n 112 hK rfl rfl l0 ?_
      refine x_getR 115 hK rfl rfl (sp_171 (h := h5) hG5) (rf_171_14 (h := h5) hG5) ?_
      refine x_bipush 117 hK rfl rfl rfl ?_
      refine x_aload_n 118 hK rfl rfl l0 ?_
      refine x_getE 121 hK rfl (Or.inl rfl) rfl (sp_171 (h := h5) hG5) (e := (gi h 171 7 + k)) ((gi_a (by decide) _).trans (m5)) ?_
      refine x_iadd 122 hK rfl rfl ?_
      refine x_iconst 123 hK rfl rfl ?_
      refine x_iastore 124 hK rfl rfl (sp_178 (h := h5) hG5) (by omega) (by omega) (by omega) ?_
      refine x_aload_n 125 hK rfl rfl l0 ?_
      refine x_getR 128 hK rfl rfl (sp_171 (h := h5) hG5) (rf_171_13 (h := h5) hG5) ?_
      refine x_aload_n 129 hK rfl rfl l0 ?_
      refine x_getE 132 hK rfl (Or.inl rfl) rfl (sp_171 (h := h5) hG5) (e := (gi h 171 7 + k)) ((gi_a (by decide) _).trans ((gi_a (by decide) _).trans (m5))) ?_
      refine x_aload_n 133 hK rfl rfl l0 ?_
      refine x_getR 136 hK rfl rfl (sp_171 (h := h5) hG5) (rf_171_21 (h := h5) hG5) ?_
      refine x_iconst 137 hK rfl rfl ?_
      refine x_iload 139 hK rfl rfl l5 ?_
      refine x_imul 140 hK rfl rfl ?_
      refine x_iconst 141 hK rfl rfl ?_
      refine x_iadd 142 hK rfl rfl ?_
      refine x_ialoadE 143 hK rfl rfl (sp_181 (h := h5) hG5) (by omega) (by omega) (by omega) (e' := (RR.2.getD k.toNat (0, 0)).2) ((gi_a (by decide) _).trans ((gi_a (by decide) _).trans (((gi_to (by omega)).trans (rlk (by omega)).2)))) ?_
      refine x_iastore 144 hK rfl rfl (sp_177 (h := h5) hG5) (by omega) (by omega) (by omega) ?_
      refine x_aload_n 145 hK rfl rfl l0 ?_
      refine x_dup 146 hK rfl rfl rfl ?_
      refine x_getE 149 hK rfl (Or.inl rfl) rfl (sp_171 (h := h5) hG5) (e := (gi h 171 7 + k)) ((gi_a (by decide) _).trans ((gi_a (by decide) _).trans ((gi_a (by decide) _).trans (m5)))) ?_
      refine x_iconst 150 hK rfl rfl ?_
      refine x_iadd 151 hK rfl rfl ?_
      refine x_putI 154 hK rfl rfl (sp_171 (h := h5) hG5) ?_
      refine x_iinc 157 hK rfl rfl l5 _ rfl ?_
      refine x_goto 81 hK rfl rfl ?_
      have rbq := rbk (by omega)
      have y1 : gi (wI (wI (wI (wI h5 178 (41 + (gi h 171 7 + k)).toNat ((RR.2.getD k.toNat (0, 0)).1)) 178 (49 + (gi h 171 7 + k)).toNat 0) 177 (gi h 171 7 + k).toNat ((RR.2.getD k.toNat (0, 0)).2)) 171 7 ((gi h 171 7 + k) + 1)) 178 (41 + (gi h 171 7 + k)).toNat = ((RR.2.getD k.toNat (0, 0)).1) := (gi_a (by decide) _).trans ((gi_a (by decide) _).trans ((gi_k (by omega) _).trans (gi_same (by omega))))
      have y2 : gi (wI (wI (wI (wI h5 178 (41 + (gi h 171 7 + k)).toNat ((RR.2.getD k.toNat (0, 0)).1)) 178 (49 + (gi h 171 7 + k)).toNat 0) 177 (gi h 171 7 + k).toNat ((RR.2.getD k.toNat (0, 0)).2)) 171 7 ((gi h 171 7 + k) + 1)) 178 (49 + (gi h 171 7 + k)).toNat = 0 := (gi_a (by decide) _).trans ((gi_a (by decide) _).trans (gi_same (by omega)))
      have y3 : gi (wI (wI (wI (wI h5 178 (41 + (gi h 171 7 + k)).toNat ((RR.2.getD k.toNat (0, 0)).1)) 178 (49 + (gi h 171 7 + k)).toNat 0) 177 (gi h 171 7 + k).toNat ((RR.2.getD k.toNat (0, 0)).2)) 171 7 ((gi h 171 7 + k) + 1)) 177 (gi h 171 7 + k).toNat = ((RR.2.getD k.toNat (0, 0)).2) := (gi_a (by decide) _).trans (gi_same (by omega))
      have fn : ∀ j : Nat, j < 8 → (gi (wI (wI (wI (wI h5 178 (41 + (gi h 171 7 + k)).toNat ((RR.2.getD k.toNat (0, 0)).1)) 178 (49 + (gi h 171 7 + k)).toNat 0) 177 (gi h 171 7 + k).toNat ((RR.2.getD k.toNat (0, 0)).2)) 171 7 ((gi h 171 7 + k) + 1)) 178 (41 + j) = if gi h 171 7 ≤ (j : Int) ∧ (j : Int) < gi h 171 7 + (k + 1) then (RR.2.getD (j - (gi h 171 7).toNat) (0, 0)).1 else gi h 178 (41 + j)) ∧ (gi (wI (wI (wI (wI h5 178 (41 + (gi h 171 7 + k)).toNat ((RR.2.getD k.toNat (0, 0)).1)) 178 (49 + (gi h 171 7 + k)).toNat 0) 177 (gi h 171 7 + k).toNat ((RR.2.getD k.toNat (0, 0)).2)) 171 7 ((gi h 171 7 + k) + 1)) 178 (49 + j) = if gi h 171 7 ≤ (j : Int) ∧ (j : Int) < gi h 171 7 + (k + 1) then 0 else gi h 178 (49 + j)) ∧ gi (wI (wI (wI (wI h5 178 (41 + (gi h 171 7 + k)).toNat ((RR.2.getD k.toNat (0, 0)).1)) 178 (49 + (gi h 171 7 + k)).toNat 0) 177 (gi h 171 7 + k).toNat ((RR.2.getD k.toNat (0, 0)).2)) 171 7 ((gi h 171 7 + k) + 1)) 177 j = if gi h 171 7 ≤ (j : Int) ∧ (j : Int) < gi h 171 7 + (k + 1) then (RR.2.getD (j - (gi h 171 7).toNat) (0, 0)).2 else gi h 177 j := by
        intro j hj
        by_cases c : (j : Int) = (gi h 171 7 + k)
        · rw [if_pos (by omega), if_pos (by omega), if_pos (by omega), show j - (gi h 171 7).toNat = k.toNat by omega, (gi_to (show 41 + j = (41 + (gi h 171 7 + k)).toNat by omega)).trans y1, (gi_to (show 49 + j = (49 + (gi h 171 7 + k)).toNat by omega)).trans y2, (gi_to (show j = (gi h 171 7 + k).toNat by omega)).trans y3]
          exact ⟨rfl, rfl, rfl⟩
        · have z := fl j hj
          rw [show gi (wI (wI (wI (wI h5 178 (41 + (gi h 171 7 + k)).toNat ((RR.2.getD k.toNat (0, 0)).1)) 178 (49 + (gi h 171 7 + k)).toNat 0) 177 (gi h 171 7 + k).toNat ((RR.2.getD k.toNat (0, 0)).2)) 171 7 ((gi h 171 7 + k) + 1)) 178 (41 + j) = gi h5 178 (41 + j) from (gi_a (by decide) _).trans ((gi_a (by decide) _).trans ((gi_k (by omega) _).trans (gi_k (by omega) _))), show gi (wI (wI (wI (wI h5 178 (41 + (gi h 171 7 + k)).toNat ((RR.2.getD k.toNat (0, 0)).1)) 178 (49 + (gi h 171 7 + k)).toNat 0) 177 (gi h 171 7 + k).toNat ((RR.2.getD k.toNat (0, 0)).2)) 171 7 ((gi h 171 7 + k) + 1)) 178 (49 + j) = gi h5 178 (49 + j) from (gi_a (by decide) _).trans ((gi_a (by decide) _).trans ((gi_k (by omega) _).trans (gi_k (by omega) _))), show gi (wI (wI (wI (wI h5 178 (41 + (gi h 171 7 + k)).toNat ((RR.2.getD k.toNat (0, 0)).1)) 178 (49 + (gi h 171 7 + k)).toNat 0) 177 (gi h 171 7 + k).toNat ((RR.2.getD k.toNat (0, 0)).2)) 171 7 ((gi h 171 7 + k) + 1)) 177 j = gi h5 177 j from (gi_a (by decide) _).trans ((gi_k (by omega) _).trans ((gi_a (by decide) _).trans (gi_a (by decide) _))), z.1, z.2.1, z.2.2]
          refine ⟨if_c (by omega), if_c (by omega), if_c (by omega)⟩
      exact ih _ (by omega) (k + 1) _ _ rfl (by omega) (f0) ((gi_k (by decide) _).trans ((gi_a (by decide) _).trans ((gi_a (by decide) _).trans ((gi_a (by decide) _).trans (t5))))) ((gi_k (by decide) _).trans ((gi_a (by decide) _).trans ((gi_a (by decide) _).trans ((gi_a (by decide) _).trans (z5))))) ((gi_k (by decide) _).trans ((gi_a (by decide) _).trans ((gi_a (by decide) _).trans ((gi_a (by decide) _).trans (r5))))) (((gi_same (by omega)).trans (by omega))) ((gi_k (by decide) _).trans ((gi_a (by decide) _).trans ((gi_a (by decide) _).trans ((gi_a (by decide) _).trans (u5))))) ((gi_k (by decide) _).trans ((gi_a (by decide) _).trans ((gi_a (by decide) _).trans ((gi_a (by decide) _).trans (c5))))) ((fun j hj => by rw [show gi (wI (wI (wI (wI h5 178 (41 + (gi h 171 7 + k)).toNat ((RR.2.getD k.toNat (0, 0)).1)) 178 (49 + (gi h 171 7 + k)).toNat 0) 177 (gi h 171 7 + k).toNat ((RR.2.getD k.toNat (0, 0)).2)) 171 7 ((gi h 171 7 + k) + 1)) 181 (2 * j) = gi h5 181 (2 * j) from (gi_a (by decide) _).trans ((gi_a (by decide) _).trans ((gi_a (by decide) _).trans (gi_a (by decide) _))), show gi (wI (wI (wI (wI h5 178 (41 + (gi h 171 7 + k)).toNat ((RR.2.getD k.toNat (0, 0)).1)) 178 (49 + (gi h 171 7 + k)).toNat 0) 177 (gi h 171 7 + k).toNat ((RR.2.getD k.toNat (0, 0)).2)) 171 7 ((gi h 171 7 + k) + 1)) 181 (2 * j + 1) = gi h5 181 (2 * j + 1) from (gi_a (by decide) _).trans ((gi_a (by decide) _).trans ((gi_a (by decide) _).trans (gi_a (by decide) _)))]; exact rl j hj)) (fn) ((fun j hj => (by rw [show gi (wI (wI (wI (wI h5 178 (41 + (gi h 171 7 + k)).toNat ((RR.2.getD k.toNat (0, 0)).1)) 178 (49 + (gi h 171 7 + k)).toNat 0) 177 (gi h 171 7 + k).toNat ((RR.2.getD k.toNat (0, 0)).2)) 171 7 ((gi h 171 7 + k) + 1)) 178 j = gi h5 178 j from (gi_a (by decide) _).trans ((gi_a (by decide) _).trans ((gi_k (by omega) _).trans (gi_k (by omega) _)))]; exact lo j hj))) (lk1_n l0 (by decide) (Or.inl rfl)) lk1_s (GD_w1 (GD_wu (GD_st (GD_st (hG5) (r := 61) rfl rfl (fun z => by omega) (fun z => by omega) (fun j hj z => by omega)) (r := 61) rfl rfl (fun z => by omega) (fun z => by omega) (fun j hj z => by omega)) (r := 60) rfl (by omega) rfl (by omega) (by omega)) (r := 54) rfl (by omega) rfl (by omega) (by omega)) (FRM_w (FRM_wn 0 7 (FRM_wn 41 56 (FRM_wn 41 56 (hF5) (r := 61) rfl rfl rfl (by omega) (by omega)) (r := 61) rfl rfl rfl (by omega) (by omega)) (r := 60) rfl rfl rfl (by omega) (by omega)) (r := 54) rfl rfl)
  have end1 : ∀ (is : Int) (h4 : aH) (ls : List (Nat × Value)), (is = b2i RR.1.1) → (gi h4 171 18 = RR.1.2) → (0 ≤ RR.1.2 ∧ RR.1.2 ≤ 80) → (gi h4 171 19 = min (gi h 171 17) 39) → (gi h4 171 0 = 0) → (gi h4 171 17 = 0) → (RR.1.1 = true → rdL h4 (gi h4 171 22).toNat = RR.2) → lk ls 0 = some (.ref 171) → lk ls 1 = some (.int (I (gi h 171 17))) → lk ls 2 = some (.int (I is)) → GD gE gRL sh h4 → FRM gRL [(0, 54, 0, 0), (0, 54, 17, 20), (0, 54, 22, 22), (0, 64, 0, 31)] h h4 → K 60 ls [] h4 0 0 := by
    intro is h4 ls ib a4 a0 to4 t4 z4 rl l0 l1 l2 hG4 hF4
    have g22 := gri 0 16 hG4 (a := 171) (r := 54) (k := 22) rfl rfl
    have is01 := b2i_r RR.1.1
    have fb := fltF_le (n := gi h 171 17) (most := 39) (r := RR.1) (by omega) a0.1
    refine x_aload_n 61 hK rfl rfl l0 ?_
    refine x_iload_n 62 hK rfl rfl l1 ?_
    refine x_bipush 64 hK rfl rfl rfl ?_
    refine x_iload_n 65 hK rfl rfl l2 ?_
    refine x_callV 68 hK hmono rfl rfl [.ref 171, .int (I (gi h 171 17)), .int (I 39), .int (I is)] [] rfl rfl (Nat.le_of_ble_eq_true rfl) (Nat.le_of_ble_eq_true rfl) rfl (sp_171 (h := h4) hG4) (CLd_le (Nat.le_of_ble_eq_true rfl) (ctX11_faultOf hSP hG4 (by omega) (by omega) (by omega))) ?_
    rintro v9 h9 ⟨e9, rfl⟩
    rw [e9, a4, to4]
    clear e9
    rw [show (if 39 < gi h 171 17 ∧ ((is = 1 ∧ RR.1.2 = min (gi h 171 17) 39) ∨ 39 ≤ RR.1.2) then -1 - 39 else if is = 1 ∧ RR.1.2 = min (gi h 171 17) 39 then 0 else -1 - RR.1.2) = fltF (gi h 171 17) 39 RR.1 from by rw [ib]; exact flt_i]
    have fr : r32 (fltF (gi h 171 17) 39 RR.1) := by unfold fltF at fb ⊢; (repeat' split) <;> omega
    refine x_istore 70 hK rfl rfl _ rfl ?_
    refine x_iload 72 hK rfl rfl lk1_s ?_
    refine x_if_ge 78 75 hK rfl rfl rfl (by omega) (fun c8 => ?_) (fun c8 => ?_)
    · refine x_iconst 79 hK rfl rfl ?_
      refine x_istore 81 hK rfl rfl _ rfl ?_
      have rl4 := rl (fltF_0 (n := gi h 171 17) (most := 39) (by omega) a0.1 (by omega)).1
      have len4 := rdL_l rl4
      have lb := rb.1
      exact loop2 _ 0 _ _ rfl (⟨by omega, by omega⟩) (by omega) (t4) (z4) (by omega) (((FRM_gi hF4 (r := 54) rfl rfl).trans (by omega))) (FRM_gi hF4 (r := 54) rfl rfl) (FRM_gi hF4 (r := 54) rfl rfl) ((fun j hj => rdL_get rl4 (by omega))) ((fun j hj => by rw [if_neg (by omega), if_neg (by omega), if_neg (by omega)]; exact ⟨FRM_gi hF4 (r := 61) rfl rfl, FRM_gi hF4 (r := 61) rfl rfl, FRM_gi hF4 (r := 60) rfl rfl⟩)) ((fun j _ => FRM_gi hF4 (r := 61) rfl rfl)) (lk1_n (lk1_n l0 (by decide) (Or.inl rfl)) (by decide) (Or.inl rfl)) lk1_s (hG4) ((hF4).mono rfl)
    · refine x_iload 77 hK rfl rfl lk1_s ?_
      exact x_iret hK rfl ⟨Or.inl ⟨by omega, rfl, RC_F hF4 (r := 61) rfl rfl 0, FRM_gi hF4 (r := 54) rfl rfl, fun j => FRM_gi hF4 (r := 60) rfl rfl, FRM_gi hF4 (r := 54) rfl rfl, FRM_gi hF4 (r := 54) rfl rfl⟩, hG4, (hF4).mono rfl, t4, z4, by rw [show gi h4 171 29 = gi h 171 29 from FRM_gi hF4 (r := 54) rfl rfl]; exact hu, AW_F hF4 rfl aw⟩
  have loop1 : ∀ (mz : Nat) (h6 : aH) (ls : List (Nat × Value)), ((9 - gi h6 171 22).toNat = mz) → (gi h 171 17 ≠ 0) → (gi h 171 7 + gi h6 171 22 ≤ 8) → (gi h6 171 18 ≤ min (gi h 171 17) 39) → (gi h6 171 19 = min (gi h 171 17) 39) → (gi h6 171 0 = 0) → (gi h6 171 17 = 0) → (RR.1 = (rdMs T (8 - gi h 171 7 - gi h6 171 22).toNat (gi h6 171 18)).1) → (RR.2 = rdL h6 (gi h6 171 22).toNat ++ (rdMs T (8 - gi h 171 7 - gi h6 171 22).toNat (gi h6 171 18)).2) → lk ls 0 = some (.ref 171) → lk ls 1 = some (.int (I (gi h 171 17))) → GD gE gRL sh h6 → FRM gRL [(0, 54, 0, 0), (0, 54, 17, 20), (0, 54, 22, 22), (0, 64, 0, 31)] h h6 → K 33 ls [] h6 0 0 := by
    intro mz
    induction mz using Nat.strongRecOn with
    | ind mz ih =>
    intro  h6 ls hm n0 c8 a6 to6 t6 z6 e1 e2 l0 l1 hG6 hF6
    have g22 := gri 0 16 hG6 (a := 171) (r := 54) (k := 22) rfl rfl
    have g18 := gri 0 81 hG6 (a := 171) (r := 54) (k := 18) rfl rfl
    have ft6 : fm h6 = T := by rw [fm_tx, to6, ← hT, show gi h6 180 = gi h 180 from funext fun k => FRM_gi hF6 (r := 63) rfl rfl]
    have ms6 : gi h6 171 7 = gi h 171 7 := FRM_gi hF6 (r := 54) rfl rfl
    refine x_aload_n 34 hK rfl rfl l0 ?_
    refine x_callV 37 hK hmono rfl rfl [.ref 171] [] rfl rfl (Nat.le_of_ble_eq_true rfl) (Nat.le_of_ble_eq_true rfl) rfl (sp_171 (h := h6) hG6) (CLd_le (Nat.le_of_ble_eq_true rfl) (ctX11_readsMessF hSP hG6 (by omega) (by omega))) ?_
    rw [ft6, ms6, to6]
    rintro v7 h7 ⟨⟨y1, rfl, y2, y3⟩ | ⟨y1, y2, rfl, y3, y4⟩ | ⟨y1, y2, rfl, y3, y4, y5, y6, y7, y8, y9, y10⟩, ya, yb, hG7, hF7⟩
    · have q0 : (8 - gi h 171 7 - gi h6 171 22).toNat = 0 := by omega
      rw [q0] at e1 e2
      refine x_istore_n 38 hK rfl rfl _ rfl ?_
      refine x_iload_n 39 hK rfl rfl lk1_s ?_
      refine x_if_eq 55 42 hK rfl rfl rfl (by omega) (fun _ => ?_) (fun c => by omega)
      refine x_iconst 56 hK rfl rfl ?_
      refine x_istore_n 57 hK rfl rfl _ rfl ?_
      refine x_goto 29 hK rfl rfl ?_
      refine x_iload_n 30 hK rfl rfl lk1_s ?_
      refine x_if_eq 60 33 hK rfl rfl rfl (by omega) (fun _ => ?_) (fun c => by omega)
      exact end1 0 _ _ ((by rw [e1]; rfl)) ((by rw [e1]; exact y2)) ((by rw [e1]; show 0 ≤ gi h6 171 18 ∧ gi h6 171 18 ≤ 80; omega)) ((FRM_gi hF7 (r := 54) rfl rfl).trans (to6)) ((FRM_gi hF7 (r := 54) rfl rfl).trans (t6)) ((FRM_gi hF7 (r := 54) rfl rfl).trans (z6)) ((fun z => by rw [e1] at z; cases z)) (lk1_n (lk1_n l0 (by decide) (Or.inl rfl)) (by decide) (Or.inl rfl)) (lk1_n (lk1_n l1 (by decide) (Or.inl rfl)) (by decide) (Or.inl rfl)) (lk1_n lk1_s (by decide) (Or.inl rfl)) (hG7) ((hF6).trans ((hF7).mono rfl))
    · obtain ⟨n, hn⟩ : ∃ n : Nat, (8 - gi h 171 7 - gi h6 171 22).toNat = n + 1 := ⟨(8 - gi h 171 7 - gi h6 171 22).toNat - 1, by omega⟩
      rw [hn] at e1 e2
      unfold rdMs at e1 e2
      rw [if_neg (by rw [y2]; exact Bool.noConfusion)] at e1 e2
      refine x_istore_n 38 hK rfl rfl _ rfl ?_
      refine x_iload_n 39 hK rfl rfl lk1_s ?_
      refine x_if_eq 55 42 hK rfl rfl rfl (by omega) (fun _ => ?_) (fun c => by omega)
      refine x_iconst 56 hK rfl rfl ?_
      refine x_istore_n 57 hK rfl rfl _ rfl ?_
      refine x_goto 29 hK rfl rfl ?_
      refine x_iload_n 30 hK rfl rfl lk1_s ?_
      refine x_if_eq 60 33 hK rfl rfl rfl (by omega) (fun _ => ?_) (fun c => by omega)
      exact end1 0 _ _ ((by rw [e1]; rfl)) ((by rw [e1]; exact y3)) ((by rw [e1]; show 0 ≤ (rdMess T (gi h6 171 18)).1.2 ∧ (rdMess T (gi h6 171 18)).1.2 ≤ 80; omega)) ((FRM_gi hF7 (r := 54) rfl rfl).trans (to6)) ((FRM_gi hF7 (r := 54) rfl rfl).trans (t6)) ((FRM_gi hF7 (r := 54) rfl rfl).trans (z6)) ((fun z => by rw [e1] at z; cases z)) (lk1_n (lk1_n l0 (by decide) (Or.inl rfl)) (by decide) (Or.inl rfl)) (lk1_n (lk1_n l1 (by decide) (Or.inl rfl)) (by decide) (Or.inl rfl)) (lk1_n lk1_s (by decide) (Or.inl rfl)) (hG7) ((hF6).trans ((hF7).mono rfl))
    · obtain ⟨n, hn⟩ : ∃ n : Nat, (8 - gi h 171 7 - gi h6 171 22).toNat = n + 1 := ⟨(8 - gi h 171 7 - gi h6 171 22).toNat - 1, by omega⟩
      rw [hn] at e1 e2
      unfold rdMs at e1 e2
      rw [if_pos y2] at e1 e2
      have rq : rdL h7 (gi h7 171 22).toNat = rdL h6 (gi h6 171 22).toNat ++ [(rdMess T (gi h6 171 18)).2] := by
        rw [show (gi h7 171 22).toNat = (gi h6 171 22).toNat + 1 by omega, rdL_s]
        congr 1
        · exact rdL_congr fun j hj => y10 j (by omega) (by omega)
        · rw [(gi_to (show 2 * (gi h6 171 22).toNat = (2 * gi h6 171 22).toNat by omega)).trans y5, (gi_to (show 2 * (gi h6 171 22).toNat + 1 = (2 * gi h6 171 22 + 1).toNat by omega)).trans y6]
      refine x_istore_n 38 hK rfl rfl _ rfl ?_
      refine x_iload_n 39 hK rfl rfl lk1_s ?_
      refine x_if_eq 55 42 hK rfl rfl rfl (by omega) (fun c => by omega) (fun _ => ?_)
      refine x_aload_n 43 hK rfl rfl (lk1_n l0 (by decide) (Or.inl rfl)) ?_
      refine x_bipush 45 hK rfl rfl rfl ?_
      have ft7 : fm h7 = T := (fm_F hF7 rfl rfl).trans ft6
      have to7 : gi h7 171 19 = min (gi h 171 17) 39 := (FRM_gi hF7 (r := 54) rfl rfl).trans (to6)
      refine x_callV 48 hK hmono rfl rfl [.ref 171, .int (I 59)] [] rfl rfl (Nat.le_of_ble_eq_true rfl) (Nat.le_of_ble_eq_true rfl) rfl (sp_171 (h := h7) hG7) (CLd_le (Nat.le_of_ble_eq_true rfl) (ctX11_takes hSP hG7 (s := 59) (by omega))) ?_
      rw [ft7, to7, y3]
      rintro v8 h8 ⟨hG8, hF8, ⟨rfl, k1, k2, k3⟩ | ⟨rfl, k1, k3⟩⟩
      · have r8 : rdL h8 (gi h8 171 22).toNat = rdL h7 (gi h7 171 22).toNat := by rw [show gi h8 171 22 = gi h7 171 22 from FRM_gi hF8 (r := 54) rfl rfl]; exact rdL_congr fun j _ => FRM_gi hF8 (r := 64) rfl rfl
        have k22 : gi h8 171 22 = gi h7 171 22 := FRM_gi hF8 (r := 54) rfl rfl
        rw [if_pos k1] at e1 e2
        refine x_if_eq 55 51 hK rfl rfl rfl (by omega) (fun c => by omega) (fun _ => ?_)
        refine x_iconst 52 hK rfl rfl ?_
        refine x_goto 56 hK rfl rfl ?_
        refine x_istore_n 57 hK rfl rfl _ rfl ?_
        refine x_goto 29 hK rfl rfl ?_
        refine x_iload_n 30 hK rfl rfl lk1_s ?_
        refine x_if_eq 60 33 hK rfl rfl rfl (by omega) (fun c => by omega) (fun _ => ?_)
        exact ih _ (by omega)  _ _ rfl (n0) (by omega) (by rw [k3]; omega) ((FRM_gi hF8 (r := 54) rfl rfl).trans ((FRM_gi hF7 (r := 54) rfl rfl).trans (to6))) ((FRM_gi hF8 (r := 54) rfl rfl).trans ((FRM_gi hF7 (r := 54) rfl rfl).trans (t6))) ((FRM_gi hF8 (r := 54) rfl rfl).trans ((FRM_gi hF7 (r := 54) rfl rfl).trans (z6))) ((by rw [e1, k3, show (8 - gi h 171 7 - gi h8 171 22).toNat = n by omega])) ((by rw [e2, r8, rq, k3, show (8 - gi h 171 7 - gi h8 171 22).toNat = n by omega, List.append_assoc]; rfl)) (lk1_n (lk1_n l0 (by decide) (Or.inl rfl)) (by decide) (Or.inl rfl)) (lk1_n (lk1_n l1 (by decide) (Or.inl rfl)) (by decide) (Or.inl rfl)) (hG8) (((hF6).trans ((hF7).mono rfl)).trans ((hF8).mono rfl))
      · have r8 : rdL h8 (gi h8 171 22).toNat = rdL h7 (gi h7 171 22).toNat := by rw [show gi h8 171 22 = gi h7 171 22 from FRM_gi hF8 (r := 54) rfl rfl]; exact rdL_congr fun j _ => FRM_gi hF8 (r := 64) rfl rfl
        have k22 : gi h8 171 22 = gi h7 171 22 := FRM_gi hF8 (r := 54) rfl rfl
        rw [if_neg k1] at e1 e2
        refine x_if_eq 55 51 hK rfl rfl rfl (by omega) (fun _ => ?_) (fun c => by omega)
        refine x_iconst 56 hK rfl rfl ?_
        refine x_istore_n 57 hK rfl rfl _ rfl ?_
        refine x_goto 29 hK rfl rfl ?_
        refine x_iload_n 30 hK rfl rfl lk1_s ?_
        refine x_if_eq 60 33 hK rfl rfl rfl (by omega) (fun _ => ?_) (fun c => by omega)
        exact end1 1 _ _ ((by rw [e1]; rfl)) ((by rw [e1]; exact k3)) ((by rw [e1]; show 0 ≤ (rdMess T (gi h6 171 18)).1.2 ∧ (rdMess T (gi h6 171 18)).1.2 ≤ 80; omega)) ((FRM_gi hF8 (r := 54) rfl rfl).trans ((FRM_gi hF7 (r := 54) rfl rfl).trans (to6))) ((FRM_gi hF8 (r := 54) rfl rfl).trans ((FRM_gi hF7 (r := 54) rfl rfl).trans (t6))) ((FRM_gi hF8 (r := 54) rfl rfl).trans ((FRM_gi hF7 (r := 54) rfl rfl).trans (z6))) ((fun z => by rw [r8, rq, e2])) (lk1_n (lk1_n l0 (by decide) (Or.inl rfl)) (by decide) (Or.inl rfl)) (lk1_n (lk1_n l1 (by decide) (Or.inl rfl)) (by decide) (Or.inl rfl)) (lk1_n lk1_s (by decide) (Or.inl rfl)) (hG8) (((hF6).trans ((hF7).mono rfl)).trans ((hF8).mono rfl))
  refine x_aload_n 1 hK rfl rfl rfl ?_
  refine x_iconst 2 hK rfl rfl ?_
  refine x_putI 5 hK rfl rfl (sp_171 (h := h) hG) ?_
  refine x_aload_n 6 hK rfl rfl rfl ?_
  refine x_bipush 8 hK rfl rfl rfl ?_
  have hGp212 : GD gE gRL sh (wI h 171 0 0) := GD_w1 (hG) (r := 54) rfl (by omega) rfl (by omega) (by omega)
  have sz0 : gi (wI h 171 0 0) 171 17 = gi h 171 17 := gi_k (by decide) _
  refine x_callV 11 hK hmono rfl rfl [.ref 171, .int (I 39)] [] rfl rfl (Nat.le_of_ble_eq_true rfl) (Nat.le_of_ble_eq_true rfl) rfl (sp_171 (h := h) hG) (CLd_le (Nat.le_of_ble_eq_true rfl) (ctX11_begins hSP hGp212 (by omega))) ?_
  rintro v1 h1 ⟨rfl, hG1, hF1, b17, b18, b20, b19⟩
  rw [sz0] at b19 ⊢
  have f1 : fm h1 = txF (gi h 180) (min (gi h 171 17) 39) := by rw [fm_tx, b19, show gi h1 180 = gi h 180 from funext fun k => (FRM_gi hF1 (r := 63) rfl rfl).trans (gi_a (by decide) _)]
  refine x_istore_n 12 hK rfl rfl [(1, .int (I (gi h 171 17))), (0, .ref 171)] rfl ?_
  refine x_aload_n 13 hK rfl rfl rfl ?_
  refine x_iconst 14 hK rfl rfl ?_
  refine x_putI 17 hK rfl rfl (sp_171 (h := h1) hG1) ?_
  refine x_iconst 18 hK rfl rfl ?_
  refine x_istore_n 19 hK rfl rfl [(2, .int (I 1)), (1, .int (I (gi h 171 17))), (0, .ref 171)] rfl ?_
  refine x_iload_n 20 hK rfl rfl rfl ?_
  refine x_if_le 27 23 hK rfl rfl rfl (by omega) (fun c14 => ?_) (fun c14 => ?_)
  · refine x_iconst 28 hK rfl rfl ?_
    refine x_istore_n 29 hK rfl rfl [(3, .int (I 0)), (2, .int (I 1)), (1, .int (I (gi h 171 17))), (0, .ref 171)] rfl ?_
    refine x_iload_n 30 hK rfl rfl rfl ?_
    refine x_if_eq 60 33 hK rfl rfl rfl (by omega) (fun _ => ?_) (fun c => by omega)
    have r0 : RR = ((true, 0), []) := by rw [← hRR]; unfold msR; rw [if_pos (by omega)]
    exact end1 1 _ _ (by rw [r0]; rfl) (by rw [r0]; exact (gi_k (by decide) _).trans (b18)) (by rw [r0]; show (0 : Int) ≤ 0 ∧ (0 : Int) ≤ 80; omega) ((gi_k (by decide) _).trans (b19)) ((gi_k (by decide) _).trans ((FRM_gi hF1 (r := 54) rfl rfl).trans (gi_same (by omega)))) ((gi_k (by decide) _).trans (b17)) ((fun _ => by rw [r0, show gi (wI h1 171 22 0) 171 22 = 0 from gi_same (by omega)]; rfl)) rfl rfl rfl (GD_w1 (hG1) (r := 54) rfl (by omega) rfl (by omega) (by omega)) (FRM_w ((FRM_w ((FRM.rf : FRM gRL [(0, 54, 0, 0), (0, 54, 17, 20), (0, 54, 22, 22), (0, 64, 0, 31)] h h)) (r := 54) rfl rfl).trans ((hF1).mono rfl)) (r := 54) rfl rfl)
  · refine x_iconst 24 hK rfl rfl ?_
    refine x_goto 28 hK rfl rfl ?_
    refine x_istore_n 29 hK rfl rfl [(3, .int (I 1)), (2, .int (I 1)), (1, .int (I (gi h 171 17))), (0, .ref 171)] rfl ?_
    refine x_iload_n 30 hK rfl rfl rfl ?_
    refine x_if_eq 60 33 hK rfl rfl rfl (by omega) (fun c => by omega) (fun _ => ?_)
    exact loop1 _  _ _ rfl (by omega) ((by rw [show gi (wI h1 171 22 0) 171 22 = 0 from gi_same (by omega)]; omega)) ((by rw [show gi (wI h1 171 22 0) 171 18 = 0 from (gi_k (by decide) _).trans (b18)]; omega)) ((gi_k (by decide) _).trans (b19)) ((gi_k (by decide) _).trans ((FRM_gi hF1 (r := 54) rfl rfl).trans (gi_same (by omega)))) ((gi_k (by decide) _).trans (b17)) ((by rw [show gi (wI h1 171 22 0) 171 22 = 0 from gi_same (by omega), show gi (wI h1 171 22 0) 171 18 = 0 from (gi_k (by decide) _).trans (b18), Int.sub_zero, ← hRR]; unfold msR; rw [if_neg (by omega)])) ((by rw [show gi (wI h1 171 22 0) 171 22 = 0 from gi_same (by omega), show gi (wI h1 171 22 0) 171 18 = 0 from (gi_k (by decide) _).trans (b18), Int.sub_zero, ← hRR]; unfold msR; rw [if_neg (by omega)]; rfl)) rfl rfl (GD_w1 (hG1) (r := 54) rfl (by omega) rfl (by omega) (by omega)) (FRM_w ((FRM_w ((FRM.rf : FRM gRL [(0, 54, 0, 0), (0, 54, 17, 20), (0, 54, 22, 22), (0, 64, 0, 31)] h h)) (r := 54) rfl rfl).trans ((hF1).mono rfl)) (r := 54) rfl rfl)
