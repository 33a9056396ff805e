/-! THE LAW FROM ITS ENTRY -/
noncomputable def cs2 (i : Instr) (pc : Nat) (ls : List (Nat × Value)) (st : List Value) (c : cH) : cS := match i, st with
  | .astore_n k, .ref x :: r => some (pc + 1, so1 ls (k : Nat) (.ref x), r, c, 0, 0)
  | .istore k, .int x :: r => some (pc + 2, so1 ls k (.int x), r, c, 0, 0)
  | _, _ => none
noncomputable def cs3 (i : Instr) (r1 r2 : Nat) (r3 : Int) (pc : Nat) (ls : List (Nat × Value)) (st : List Value) (c : cH) : cS := match cs2 i pc ls st c with
  | some r => some r
  | none => cs1 (ccD 3000 5) i r1 r2 r3 pc ls st c
theorem cs3_ok {K : KT} {ac : AC} {ret : Option FieldType} {Q : QT} (hK : CLO (CLd SPt 310) ac ret Q K) {i : Instr} {r1 r2 : Nat} {r3 : Int} {pc : Nat} {ls : List (Nat × Value)} {st : List Value} {c : cH} {r : Nat × List (Nat × Value) × List Value × cH × Nat × Nat} (hq : fr ac pc = some (i, r1, r2, r3)) (hs : cs3 i r1 r2 r3 pc ls st c = some r) {h : aH} {bc bs : Nat} (hr : REL c h) (h1 : r.2.2.2.2.1 ≤ bc) (h2 : r.2.2.2.2.2 ≤ bs) (hk : ∀ h', REL r.2.2.2.1 h' → K r.1 r.2.1 r.2.2.1 h' (bc - r.2.2.2.2.1) (bs - r.2.2.2.2.2)) : K pc ls st h bc bs := by
  have hcc : CCOK (CLd SPt 310) (ccD 3000 5) := fun mid as c rv c' a b e h Q hr hq => CLd_le (Nat.le_of_ble_eq_true rfl) (ccD_ok 3000 5 mid as c rv c' a b e h Q hr hq)
  unfold cs3 at hs
  split at hs
  · rename_i z hz
    cases hs
    unfold cs2 at hz
    split at hz
    · cases hz
      exact x_astore_n _ hK hq rfl _ rfl (hk h hr)
    · cases hz
      exact x_istore _ hK hq rfl _ rfl (hk h hr)
    · cases hz
  · exact x_row hK hq (cs1_ok hcc (pc' := r.1) (ls' := r.2.1) (st' := r.2.2.1) (c' := r.2.2.2.1) (a := r.2.2.2.2.1) (b := r.2.2.2.2.2) hs hr h1 h2 hk)
/-- the first rows, on a concrete heap -/
noncomputable def cgo (ac : AC) (stop : Nat) : Nat → Nat → List (Nat × Value) → List Value → cH → Option (List (Nat × Value) × List Value × cH × Nat × Nat)
  | 0, _, _, _, _ => none
  | n + 1, pc, ls, st, c => if Nat.beq pc stop then some (ls, st, c, 0, 0) else match fr ac pc with
    | none => none
    | some q => match cs3 q.1 q.2.1 q.2.2.1 q.2.2.2 pc ls st c with
      | none => none
      | some r => match cgo ac stop n r.1 r.2.1 r.2.2.1 r.2.2.2.1 with
        | none => none
        | some z => some (z.1, z.2.1, z.2.2.1, r.2.2.2.2.1 + z.2.2.2.1, r.2.2.2.2.2 + z.2.2.2.2)
theorem cgo_ok {K : KT} {ac : AC} {ret : Option FieldType} {Q : QT} (hK : CLO (CLd SPt 310) ac ret Q K) {stop : Nat} : ∀ (n pc : Nat) (ls : List (Nat × Value)) (st : List Value) (c : cH) (z : List (Nat × Value) × List Value × cH × Nat × Nat), cgo ac stop n pc ls st c = some z → ∀ (h : aH) (bc bs : Nat), REL c h → z.2.2.2.1 ≤ bc → z.2.2.2.2 ≤ bs → (∀ h', REL z.2.2.1 h' → K stop z.1 z.2.1 h' (bc - z.2.2.2.1) (bs - z.2.2.2.2)) → K pc ls st h bc bs := by
  have hcc : CCOK (CLd SPt 310) (ccD 3000 5) := fun mid as c rv c' a b e h Q hr hq => CLd_le (Nat.le_of_ble_eq_true rfl) (ccD_ok 3000 5 mid as c rv c' a b e h Q hr hq)
  intro n
  induction n with
  | zero => intro pc ls st c z h; cases h
  | succ n ih =>
    intro pc ls st c z hz h bc bs hr h1 h2 hk
    unfold cgo at hz
    split at hz
    · rename_i hp
      obtain rfl := Nat.beq_eq.mp hp
      cases hz
      exact hk h hr
    · split at hz
      · cases hz
      · rename_i q hq
        split at hz
        · cases hz
        · rename_i r hs
          split at hz
          · cases hz
          · rename_i z' hz'
            cases hz
            have h1 : r.2.2.2.2.1 + z'.2.2.2.1 ≤ bc := h1
            have h2 : r.2.2.2.2.2 + z'.2.2.2.2 ≤ bs := h2
            refine cs3_ok hK (i := q.1) (r1 := q.2.1) (r2 := q.2.2.1) (r3 := q.2.2.2) hq hs hr (by omega) (by omega) (fun h' hr' => ?_)
            refine ih r.1 r.2.1 r.2.2.1 r.2.2.2.1 z' hz' h' _ _ hr' (by omega) (by omega) (fun h'' hr'' => ?_)
            rw [Nat.sub_sub, Nat.sub_sub]
            exact hk h'' hr''
noncomputable abbrev WBd (s : Nat → Int) : Prop := (0 ≤ s 0 ∧ s 0 ≤ 0) ∧ (0 ≤ s 1 ∧ s 1 ≤ 8) ∧ (0 ≤ s 2 ∧ s 2 ≤ 0) ∧ (0 ≤ s 3 ∧ s 3 ≤ 12) ∧ (-1 ≤ s 4 ∧ s 4 ≤ 0) ∧ ∀ m, m < 8 → (0 ≤ s (41 + m) ∧ s (41 + m) ≤ 99) ∧ 0 ≤ s (49 + m) ∧ s (49 + m) ≤ 0
noncomputable def wbC (c : cH) (a o : Nat) : Bool := decide (WBd fun k => (rI c.2.2.1 a (o + k)).toInt)
theorem wbC_ok {c : cH} {h : aH} (hr : REL c h) {a o : Nat} (hb : wbC c a o = true) : WB 0 (RC h a o) := by
  have hb : WBd fun k => (rI c.2.2.1 a (o + k)).toInt := of_decide_eq_true hb
  have e : ∀ k, k < 57 → RC h a o k = (rI c.2.2.1 a (o + k)).toInt := fun k hk => by
    rw [RC_at hk]
    show (aI h a (o + k)).toInt = _
    rw [hr.2.2.1]
  obtain ⟨b0, b1, b2, b3, b4, b5⟩ := hb
  refine ⟨by rw [e 0 (by omega)]; exact b0, by rw [e 1 (by omega)]; exact b1, by rw [e 2 (by omega)]; exact b2, by rw [e 3 (by omega)]; exact b3, by rw [e 4 (by omega)]; exact b4, fun m hm => ?_⟩
  rw [e (41 + m) (by omega), e (49 + m) (by omega)]
  exact b5 m hm

noncomputable def law_c := cgo aS0 23 40 0 [(0, .ref 1000006)] [] (0, [], [], [])
noncomputable def lawB (z : List (Nat × Value) × List Value × cH × Nat × Nat) : Bool := decide (lk z.1 0 = some (.ref 1000006)) && (decide (lk z.1 1 = some (.ref 0)) && (decide (lk z.1 2 = some (.ref 171)) && (decide (lk z.1 3 = some (.ref 201)) && (decide (lk z.1 4 = some (.int 0)) && (lok z.1 && (decide (z.2.1 = []) && (gdB gE gRL z.2.2.1 && (decide (rI z.2.2.1.2.2.1 171 25 = 0) && (decide (rI z.2.2.1.2.2.1 171 29 = 0) && (wbC z.2.2.1 178 0 && ((List.range 16).all (fun u => wbC z.2.2.1 186 (57 * u)) && ((List.range 3).all (fun u => wbC z.2.2.1 200 (57 * u)) && (Nat.ble z.2.2.2.1 300 && (Nat.ble z.2.2.2.2 50000 && crB z.2.2.1))))))))))))))
set_option maxRecDepth 100000 in
theorem law_c_t : (match law_c with
  | some z => lawB z
  | none => false) = true := by decide +kernel
theorem law_run {K : KT} {Lx : Nat} {xs : Nat → Int32} (hK : CLO (CLd SPt 310) ac9L_law (some .boolean) lwQ K) (hX : ∀ (pc : Nat) (ls : List (Nat × Value)) (st : List Value) (h : aH) (bc bs : Nat), lwXR Lx xs K pc ls st h bc bs → K pc ls st h bc bs) (hL : Lx ≤ 2560) {h : aH} (hr : REL (0, [], [], []) h) : K 0 [(0, .ref 1000006)] [] h 601024 7293034 := by
  have ht := law_c_t
  split at ht
  · rename_i z hz
    simp only [lawB, Bool.and_eq_true, decide_eq_true_eq] at ht
    obtain ⟨t0, t1, t2, t3, t4, t5, t6, t7, t8, t9, u0, u1, u2, u3, u4, u5⟩ := ht
    have v3 := Nat.le_of_ble_eq_true u3
    have v4 := Nat.le_of_ble_eq_true u4
    refine cgo_ok (sub_K hK 0 (S := aS0) rfl) 40 0 _ _ _ z hz h _ _ hr (by omega) (by omega) (fun h' hr' => ?_)
    rw [t6]
    have g25 : gi h' 171 25 = 0 := by show (aI h' 171 25).toInt = 0; rw [hr'.2.2.1, t8]; rfl
    have g29 : gi h' 171 29 = 0 := by show (aI h' 171 29).toInt = 0; rw [hr'.2.2.1, t9]; rfl
    refine law_loop (sh := h'.1) hK hX hL 512 0 0 h' z.1 _ _ (by omega) (by omega) (by omega) (by omega) (by omega) (by omega) ⟨gdB_ok hr' t7, ?_, by omega, wbC_ok hr' u0, fun u hu => wbC_ok hr' (List.all_eq_true.mp u1 u (List.mem_range.mpr hu)), fun u hu => wbC_ok hr' (List.all_eq_true.mp u2 u (List.mem_range.mpr hu))⟩ (CR_0 hr' u5) t0 t1 t2 t3 t4 t5
    have e25 : (aI h' 171 25).toInt = 0 := g25
    unfold XI
    rw [e25]
    exact ⟨by omega, fun k hk => absurd hk (by omega)⟩
  · cases ht
theorem R32_post {h : aH} {i j : Int} : ∀ v, postR h i j (some v) → r32 v := by
  rintro v ⟨b, -, ⟨h9, -⟩ | ⟨-, c, -, h9⟩⟩
  · cases h9
  · cases h9; exact r_I _
theorem R32_rock {h : aH} {i j : Int} : ∀ v, rockR h i j (some v) → r32 v := by
  rintro v ⟨b, -, ⟨h9, -⟩ | ⟨-, c, -, h9⟩⟩
  · cases h9
  · cases h9; exact r_I _
theorem R32_way {h : aH} {i j : Int} : ∀ v, wayR h i j (some v) → r32 v := by
  rintro v ⟨b, -, ⟨h9, -⟩ | ⟨-, c, -, h9⟩⟩
  · cases h9
  · cases h9
    split
    · exact r_I _
    · exact r_I _
theorem R32_mess {h : aH} {i j : Int} : ∀ v, messR h i j (some v) → r32 v := by
  rintro v (⟨h9, -⟩ | ⟨-, ⟨-, c, -, h9⟩ | ⟨-, b, c, -, -, h9⟩⟩)
  · cases h9
  · cases h9; exact r_I _
  · cases h9; exact r_I _
theorem dL9_360 : decode code 360 = .ok (.invokestatic 59, 3) := by decide +kernel
theorem j9mw_post : Jvm.Cond.methodLink RL 59 yL_post ∈ GW := atT_gw (i := 979) (by decide +kernel)
theorem dL9_400 : decode code 400 = .ok (.invokestatic 65, 3) := by decide +kernel
theorem j9mw_rock : Jvm.Cond.methodLink RL 65 yL_rock ∈ GW := atT_gw (i := 1048) (by decide +kernel)
theorem dL9_440 : decode code 440 = .ok (.invokestatic 68, 3) := by decide +kernel
theorem j9mw_mess : Jvm.Cond.methodLink RL 68 yL_mess ∈ GW := atT_gw (i := 1055) (by decide +kernel)
theorem dL9_480 : decode code 480 = .ok (.invokestatic 71, 3) := by decide +kernel
theorem j9mw_way : Jvm.Cond.methodLink RL 71 yL_way ∈ GW := atT_gw (i := 1062) (by decide +kernel)
theorem dL9_1535 : decode code 1535 = .ok (.invokestatic 224, 3) := by decide +kernel
theorem j9mw_row : Jvm.Cond.methodLink RL 224 yL_row ∈ GW := atT_gw (i := 1069) (by decide +kernel)
theorem jgW {own : String} {idx : Nat} {y : MethodName} {c : ByteArray} {n : Nat} {r : Option FieldType} {hh : List (Nat × Nat × Nat × Nat)} (w1 : Jvm.Cond.methodLink own idx y ∈ GW) (w2 : Jvm.Cond.static y ∈ GW) (w3 : Jvm.Cond.initialized y.cls ∈ GW) (w4 : Jvm.Cond.codeWith y c n r hh ∈ GW) : GoodIn GW (va_wsS own idx y (Jvm.Cond.codeWith y c n r hh :: GW)) := GW_good (fun w hw => by
  rcases List.mem_append.mp (show w ∈ ([.methodLink own idx y, .static y, .initialized y.cls] : List Jvm.Cond) ++ (Jvm.Cond.codeWith y c n r hh :: GW) from hw) with h9 | h9
  · simp only [List.mem_cons, List.not_mem_nil, or_false] at h9
    rcases h9 with rfl | rfl | rfl
    · exact w1
    · exact w2
    · exact w3
  · rcases List.mem_cons.mp h9 with rfl | h9
    · exact w4
    · exact h9)
set_option maxHeartbeats 8000000 in
set_option maxRecDepth 100000 in
/-- from the entry the law comes to its end with true -/
theorem whole_start {p : Program} {e : Env} {s : State} {m : MethodId} {below : List Frame} {meth : Method} {c : Code} (l : Launch) (hflags : l.flags = flags0) {b L : Nat} {xs : Nat → Int32} (hL : L ≤ 2560) (C0 : lw_At p s m meth c b L xs) : W p l e room_1 s m #[Value.ref b] below meth c s.heap [] 0 0 (lw_Z below #[Value.ref b] s) (entryFrame m ([Value.ref b] : List Value).toArray 8) := by
  obtain ⟨hx, hb, hr, hml, hown, hts, hX, hbl, hlocks, hgv⟩ := id C0
  obtain ⟨cy, dC, dI, adK, adV, hU1, hU2⟩ := start_U C0
  have hg : ∀ w ∈ GW, w.before #[Value.ref b] s = true := fun w hw => hts w (List.mem_filter.mp hw).1
  have hfl : l.stackTraces = false := by unfold Launch.stackTraces; rw [hflags]; rfl
  obtain ⟨ad0, had0⟩ : ∃ f : Nat → Nat, f = fun j => if j < 1000006 then adK (j - 1000000) else b := ⟨_, rfl⟩
  have hstr : ∀ i, i < 6 → ad0 (1000000 + i) = adK i := fun i hi => by rw [had0]; exact (if_pos (show 1000000 + i < 1000006 by omega)).trans (congrArg adK (Nat.add_sub_cancel_left 1000000 i))
  have hadb : ad0 1000006 = b := by rw [had0]; exact if_neg (by omega)
  have hA : ∀ q : Nat, s.heap.size ≤ q → (fun q : Nat => s.heap.size ≤ q) q := fun _ h => h
  have hbA : ¬ (fun q : Nat => s.heap.size ≤ q) b := Nat.not_le.mpr hbl
  obtain ⟨h0, eh0⟩ : ∃ h : aH, h = ([], fun _ _ => 0, fun _ _ => 0, fun _ _ => none) := ⟨_, rfl⟩
  have hr0 : REL (0, [], [], []) h0 := by
    rw [eh0]
    exact ⟨rfl, fun a s h => (by cases h), fun _ _ => rfl, fun _ _ => rfl, fun _ _ => rfl, fun q h => absurd h List.not_mem_nil, fun q h => absurd h List.not_mem_nil⟩
  have hS0 : Std cy dC dI (fun q => s.heap.size ≤ q) s.heap ad0 h0 s.heap [] := by
    rw [eh0]
    exact ⟨fun k q h => by simp [wd] at h, ⟨fun i j p q h => by simp [wd] at h, fun k q h => by simp [wd] at h⟩, va_S.rf, fun a k b h => by cases h⟩
  have hn0 : (0 : Nat) ≤ h0.1.length := Nat.zero_le _
  have hsm0 : h0.1.length < 1000000 := by rw [eh0]; exact Nat.le_of_ble_eq_true rfl
  have hl := lv_entry ([.ref b]) (n := 8) (Nat.le_of_ble_eq_true rfl)
  rw [lg_entry_eq]
  generalize (lg_sl ([.ref b]) ++ List.replicate (8 - (lg_sl ([.ref b])).length) Slot.unset).toArray = arr at hl ⊢
  have hl : lv_has arr 8 (cvl ad0 [(0, .ref 1000006)]) := by
    show lv_has arr 8 [(0, .ref (ad0 1000006))]
    rw [hadb]
    exact hl
  refine snd_runX (d := 310) (C := 601024) (S := 7293034) (bz := 601024) (n0 := 0) (ad0 := ad0) (ret := some .boolean) (own := RL) (isI := false) (ac := ac9L_law) (nL := 8) (CL := CLd SPt 310) (Q := lwQ) (A := fun q => s.heap.size ≤ q) (lwXR L xs) ?_ hx hb hml hown hg (fun h9 => nomatch h9) hU1 hU2 hA hstr (Nat.le_refl _) (Nat.le_refl _) (Nat.le_of_ble_eq_true rfl) (Nat.le_of_ble_eq_true rfl) hmath_t hmok_t (met_all l SPt hmath_t hmok_t hac_t (SPt_met l) 310) ok9L_law ?_ ?_ ?_ 0 [(0, .ref 1000006)] [] h0 601024 7293034 (fun K hK hX9 => law_run hK hX9 hL hr0) ad0 arr s.heap [] 0 0 ⟨fun _ _ => rfl, Nat.le_refl _, fun _ => rfl⟩ hn0 hsm0 hS0 hl (by omega) (by omega)
  · rintro pc ls st h bc bs (⟨r1, r2, r3, r, hm, rfl, hk⟩ | ⟨r1, r2, r3, e9, r, hm, rfl, h0, h1, hk⟩ | ⟨rfl, sh, i, j, hG, h201, ri, rj, rfl, hok, hbc, hbs, hk⟩ | ⟨rfl, sh, i, j, hG, h201, ri, rj, rfl, hok, hbc, hbs, hk⟩ | ⟨rfl, sh, i, j, hG, h201, ri, rj, rfl, hok, hbc, hbs, hk⟩ | ⟨rfl, sh, i, j, hG, h201, ri, rj, rfl, hok, hbc, hbs, hk⟩ | ⟨rfl, sh, i, hG, h201, ri, rfl, hok, hbc, hbs, hk⟩)
    · intro ad arr H locs cells slots had hn hsm hS hl hc hs
      obtain ⟨⟨len, hd, hlen⟩, -⟩ := ok9L_law _ hm
      obtain rfl : len = 1 := by simpa [isSw, lenI] using hlen
      have eb : ad 1000006 = b := by rw [had.1 _ (Or.inr (by omega)), hadb]
      show W p l e _ s m _ below meth c H locs cells slots _ (F0 m pc arr (.ref (ad 1000006) :: r.map (cv ad)))
      rw [eb]
      exact va_slen hx hb hX hbl hbA hS.2.2.1 hd (hk ad arr H locs cells slots had hn hsm hS hl hc hs)
    · intro ad arr H locs cells slots had hn hsm hS hl hc hs
      obtain ⟨⟨len, hd, hlen⟩, -⟩ := ok9L_law _ hm
      obtain rfl : len = 1 := by simpa [isSw, lenI] using hlen
      have eb : ad 1000006 = b := by rw [had.1 _ (Or.inr (by omega)), hadb]
      show W p l e _ s m _ below meth c H locs cells slots _ (F0 m pc arr (.int (I e9) :: .ref (ad 1000006) :: r.map (cv ad)))
      rw [eb]
      refine va_sld hx hb hX hbl hbA hS.2.2.1 (vp_I h0 h1 (by omega)) hd ?_
      have hk2 := hk ad arr H locs cells slots had hn hsm hS hl hc hs
      rw [t_I] at hk2
      rw [I_nat h0 (by omega)]
      exact hk2
    · intro ad arr H locs cells slots had hn hsm hS hl hc hs
      have hM := wm9post l hfl hG h201 ri rj R32_post cy dC dI adK adV ad H.size (fun i hi => by rw [had.1 _ (Or.inr (by omega)), hstr i hi]) hsm hS.2.2.2
      have hfree := wd_free hS.2.1 hS.2.2.1 hA
      refine mQc_kkX (K := GK p l e _ s m _ below meth c _ 8 cy dC dI _ ad0 601024 0 601024 7293034) (mc := 1) (ms := 6) (mz := 1) (bc := bc) (bs := bs) (h := h) (rest := []) hU1 hA (fun _ _ _ _ _ _ hk => hk) hbc hbs (Nat.le_refl _) ⟨hok, rfl⟩ (Nat.le_refl _) had hn hS hl hc hs (fun q h9 => hfree q h9) (fun E st t h9 => h9.elim) (vx_Run_mono (fun st o t hm => mQc_mono (fun rv h9 hq9 => hk rv h9 hq9) hm) (vx_runSX (As := ([.ref 0, .int (I i), .int (I j), .ref 201] : List Value).map (cv ad)) (n := 4) ⟨hx, hb, hml, hown, hg⟩ hM (vx_cwSW 4 hg (jgW j9mw_post j9ml_post j9ini_L j9cw_post) rfl rfl rfl (by decide +kernel) ⟨Nat.le_of_ble_eq_true rfl, Nat.le_of_ble_eq_true rfl⟩) ⟨mPc_blind, fun U hU hW => mPc_here (as := [.ref 0, .int (I i), .int (I j), .ref 201]) hU1 hU2 hA hS U hU hW⟩ rfl rfl hl.1 rfl (lv_room (Nat.le_of_ble_eq_true rfl)) dL9_360 ⟨by show cells + 1 ≤ 601024; omega, by show slots + 6 ≤ 7293034; omega⟩)) (fun E ce q9 st0 t H1 locs1 e0 e1 h9 => h9.elim)
    · intro ad arr H locs cells slots had hn hsm hS hl hc hs
      have hM := wm9rock l hfl hG h201 ri rj R32_rock cy dC dI adK adV ad H.size (fun i hi => by rw [had.1 _ (Or.inr (by omega)), hstr i hi]) hsm hS.2.2.2
      have hfree := wd_free hS.2.1 hS.2.2.1 hA
      refine mQc_kkX (K := GK p l e _ s m _ below meth c _ 8 cy dC dI _ ad0 601024 0 601024 7293034) (mc := 1) (ms := 6) (mz := 1) (bc := bc) (bs := bs) (h := h) (rest := []) hU1 hA (fun _ _ _ _ _ _ hk => hk) hbc hbs (Nat.le_refl _) ⟨hok, rfl⟩ (Nat.le_refl _) had hn hS hl hc hs (fun q h9 => hfree q h9) (fun E st t h9 => h9.elim) (vx_Run_mono (fun st o t hm => mQc_mono (fun rv h9 hq9 => hk rv h9 hq9) hm) (vx_runSX (As := ([.ref 0, .int (I i), .int (I j), .ref 201] : List Value).map (cv ad)) (n := 4) ⟨hx, hb, hml, hown, hg⟩ hM (vx_cwSW 4 hg (jgW j9mw_rock j9ml_rock j9ini_L j9cw_rock) rfl rfl rfl (by decide +kernel) ⟨Nat.le_of_ble_eq_true rfl, Nat.le_of_ble_eq_true rfl⟩) ⟨mPc_blind, fun U hU hW => mPc_here (as := [.ref 0, .int (I i), .int (I j), .ref 201]) hU1 hU2 hA hS U hU hW⟩ rfl rfl hl.1 rfl (lv_room (Nat.le_of_ble_eq_true rfl)) dL9_400 ⟨by show cells + 1 ≤ 601024; omega, by show slots + 6 ≤ 7293034; omega⟩)) (fun E ce q9 st0 t H1 locs1 e0 e1 h9 => h9.elim)
    · intro ad arr H locs cells slots had hn hsm hS hl hc hs
      have hM := wm9mess l hfl hG h201 ri rj R32_mess cy dC dI adK adV ad H.size (fun i hi => by rw [had.1 _ (Or.inr (by omega)), hstr i hi]) hsm hS.2.2.2
      have hfree := wd_free hS.2.1 hS.2.2.1 hA
      refine mQc_kkX (K := GK p l e _ s m _ below meth c _ 8 cy dC dI _ ad0 601024 0 601024 7293034) (mc := 1) (ms := 6) (mz := 1) (bc := bc) (bs := bs) (h := h) (rest := []) hU1 hA (fun _ _ _ _ _ _ hk => hk) hbc hbs (Nat.le_refl _) ⟨hok, rfl⟩ (Nat.le_refl _) had hn hS hl hc hs (fun q h9 => hfree q h9) (fun E st t h9 => h9.elim) (vx_Run_mono (fun st o t hm => mQc_mono (fun rv h9 hq9 => hk rv h9 hq9) hm) (vx_runSX (As := ([.ref 0, .int (I i), .int (I j), .ref 201] : List Value).map (cv ad)) (n := 4) ⟨hx, hb, hml, hown, hg⟩ hM (vx_cwSW 4 hg (jgW j9mw_mess j9ml_mess j9ini_L j9cw_mess) rfl rfl rfl (by decide +kernel) ⟨Nat.le_of_ble_eq_true rfl, Nat.le_of_ble_eq_true rfl⟩) ⟨mPc_blind, fun U hU hW => mPc_here (as := [.ref 0, .int (I i), .int (I j), .ref 201]) hU1 hU2 hA hS U hU hW⟩ rfl rfl hl.1 rfl (lv_room (Nat.le_of_ble_eq_true rfl)) dL9_440 ⟨by show cells + 1 ≤ 601024; omega, by show slots + 6 ≤ 7293034; omega⟩)) (fun E ce q9 st0 t H1 locs1 e0 e1 h9 => h9.elim)
    · intro ad arr H locs cells slots had hn hsm hS hl hc hs
      have hM := wm9way l hfl hG h201 ri rj R32_way cy dC dI adK adV ad H.size (fun i hi => by rw [had.1 _ (Or.inr (by omega)), hstr i hi]) hsm hS.2.2.2
      have hfree := wd_free hS.2.1 hS.2.2.1 hA
      refine mQc_kkX (K := GK p l e _ s m _ below meth c _ 8 cy dC dI _ ad0 601024 0 601024 7293034) (mc := 1) (ms := 6) (mz := 1) (bc := bc) (bs := bs) (h := h) (rest := []) hU1 hA (fun _ _ _ _ _ _ hk => hk) hbc hbs (Nat.le_refl _) ⟨hok, rfl⟩ (Nat.le_refl _) had hn hS hl hc hs (fun q h9 => hfree q h9) (fun E st t h9 => h9.elim) (vx_Run_mono (fun st o t hm => mQc_mono (fun rv h9 hq9 => hk rv h9 hq9) hm) (vx_runSX (As := ([.ref 0, .int (I i), .int (I j), .ref 201] : List Value).map (cv ad)) (n := 4) ⟨hx, hb, hml, hown, hg⟩ hM (vx_cwSW 4 hg (jgW j9mw_way j9ml_way j9ini_L j9cw_way) rfl rfl rfl (by decide +kernel) ⟨Nat.le_of_ble_eq_true rfl, Nat.le_of_ble_eq_true rfl⟩) ⟨mPc_blind, fun U hU hW => mPc_here (as := [.ref 0, .int (I i), .int (I j), .ref 201]) hU1 hU2 hA hS U hU hW⟩ rfl rfl hl.1 rfl (lv_room (Nat.le_of_ble_eq_true rfl)) dL9_480 ⟨by show cells + 1 ≤ 601024; omega, by show slots + 6 ≤ 7293034; omega⟩)) (fun E ce q9 st0 t H1 locs1 e0 e1 h9 => h9.elim)
    · intro ad arr H locs cells slots had hn hsm hS hl hc hs
      have hM := wm9row l hfl hG h201 ri cy dC dI adK adV ad H.size (fun i hi => by rw [had.1 _ (Or.inr (by omega)), hstr i hi]) hsm hS.2.2.2
      have hfree := wd_free hS.2.1 hS.2.2.1 hA
      refine mQc_kkX (K := GK p l e _ s m _ below meth c _ 8 cy dC dI _ ad0 601024 0 601024 7293034) (mc := 1) (ms := 6) (mz := 1) (bc := bc) (bs := bs) (h := h) (rest := []) hU1 hA (fun _ _ _ _ _ _ hk => hk) hbc hbs (Nat.le_refl _) ⟨hok, rfl⟩ (Nat.le_refl _) had hn hS hl hc hs (fun q h9 => hfree q h9) (fun E st t h9 => h9.elim) (vx_Run_mono (fun st o t hm => mQc_mono (fun rv h9 hq9 => hk rv h9 hq9) hm) (vx_runSX (As := ([.ref 0, .int (I i), .ref 201] : List Value).map (cv ad)) (n := 3) ⟨hx, hb, hml, hown, hg⟩ hM (vx_cwSW 3 hg (jgW j9mw_row j9ml_row j9ini_L j9cw_row) rfl rfl rfl (by decide +kernel) ⟨Nat.le_of_ble_eq_true rfl, Nat.le_of_ble_eq_true rfl⟩) ⟨mPc_blind, fun U hU hW => mPc_here (as := [.ref 0, .int (I i), .ref 201]) hU1 hU2 hA hS U hU hW⟩ rfl rfl hl.1 rfl (lv_room (Nat.le_of_ble_eq_true rfl)) dL9_1535 ⟨by show cells + 1 ≤ 601024; omega, by show slots + 6 ≤ 7293034; omega⟩)) (fun E ce q9 st0 t H1 locs1 e0 e1 h9 => h9.elim)
  · intro v ty h' ad' H locs cells slots pc arr' hd hr9 hn hqq had hle hsm' hS hc hs
    have ev : v = 1 := by
      have := Option.some.inj hqq
      cases this
      rfl
    subst ev
    refine va_forget (fun q hq => hS.2.2.1.2.2 q hq) ?_
    refine W.widen hc hs ?_
    exact lw_ret hx hb hr hlocks hd
  · intro v h' ad' H locs cells slots pc arr' hd hr9 hqq had hle hsm' hS hc hs
    exact nomatch hr9
  · intro h' ad' H locs cells slots pc arr' hd hr9 hqq had hle hsm' hS hc hs
    exact nomatch hr9
set_option maxHeartbeats 4000000 in
theorem lw_walk (l : Launch) (hflags : l.flags = flags0) (b : Addr) (xs : List Int32) : MetFree l x (headSpec (Jvm.Cond.code x code maxLocals ret :: tables_1) room_1) (lw_P b xs) (fun _ _ _ _ _ => True) lw_Q := by
  refine MetFree.of_bodyS (code := code) (maxLocals := maxLocals) (ret := ret) (by decide) ?_ ?_
  · intro args s m h hn
    obtain ⟨meth, c, h1, h2, h3, h4, h5, h6, -, -⟩ := Cond.code_spec hn (atoms_spec (ws := Jvm.Cond.code x code maxLocals ret :: tables_1) h _ List.mem_cons_self)
    exact ⟨meth, c, h1, h2, h3, h4, h5, h6⟩
  · intro p e s m args below meth c s₁ B hml0 hP _
    obtain ⟨rfl, hx, hbd, hgv⟩ := hP
    obtain ⟨scr, harrAt, hlist, hof, hsmall⟩ := hx
    obtain ⟨hcb, hkn, -, -⟩ := State.arrayAt?_spec harrAt
    have hown : s.vm.findClass R_law = some m.cls := findClass_of_methodNamed B.named
    have hts0 : ∀ c ∈ (Jvm.Cond.code x code maxLocals ret :: tables_1), c.before #[Value.ref b] s = true := atoms_spec (ws := Jvm.Cond.code x code maxLocals ret :: tables_1) B.pre
    have hts : ∀ w ∈ lw_tbl, w.before #[Value.ref b] s = true := k2_hts_sels lw_privs (fun w hw => hts0 w (List.mem_cons_of_mem _ hw)) lw_privs_ok
    have hml : c.maxLocals = 8 := B.maxLocals_eq (hts0 _ List.mem_cons_self)
    have X₀ : Stand p l e room_1 s m #[Value.ref b] below meth c s₁ [] 0 0 := Stand.of_body B
    have hh0 : s₁.heap = s.heap := by rw [B.state]; rfl
    have hsz : scr.slots.size = xs.length := by rw [← Array.length_toList, hlist, List.length_map]
    have hval : ∀ j : Nat, j < xs.length → scr.slots[j]? = some (.int (xs.getD j 0)) := fun j hj => by
      rw [← Array.getElem?_toList, hlist]
      simp [hj]
    have hbl : b < s.heap.size := (Array.getElem?_eq_some_iff.mp hcb).1
    have hX : va_X b xs.length (fun j => xs.getD j 0) s s.heap := ⟨scr, hcb, hof, hkn, hsz, hval⟩
    have K : W p l e room_1 s m #[Value.ref b] below meth c s₁.heap [] 0 0 (lw_Z below #[Value.ref b] s) (entryFrame m ([Value.ref b] : List Value).toArray 8) := by
      rw [hh0]
      exact whole_start l hflags hbd ⟨B.exec, B.bytes, B.returns, hml, hown, hts, hX, hbl, B.notSynchronized, hgv⟩
    obtain ⟨t, a1, o, b1, b2, b3⟩ := K s₁ rfl X₀
    exact ⟨t, o, a1, b1, b2, b3⟩
theorem lw_pre_spec {args : Array Value} {s : State} (h : (Jvm.Cond.and given_1 narrow_1).before args s = true) (hr : rest_1_c.before args s = true) : ∃ (b : Addr) (xs : List Int32), lw_P b xs args s := by
  have hs := flat_of_before _ h
  have hq := flat_of_before _ hr
  have hc : (Cond.count 1).before args s = true := hs _ (by decide +kernel)
  have harr : (Cond.arrayOf (.arg 0) .int).before args s = true := hs _ (by decide +kernel)
  have hle : (Cond.le (.length (.arg 0)) (.int 2560)).before args s = true := hs _ (by decide +kernel)
  have hlen : (Cond.isInt (.length (.arg 0))).before args s = true := hq _ (by decide +kernel)
  have hall : (Cond.all (.arg 0) (.isInt (.elem (.arg 0) (.index 0)))).before args s = true := hq _ (by decide +kernel)
  obtain ⟨b, xs, hb, hx⟩ := State.ints_of_pre rfl harr hlen hall
  have hsm : xs.length < 2 ^ 31 := hx.choose_spec.2.2.2
  have hev : (Term.length (.arg 0)).eval args s none [] s = some (.int xs.length.toInt32) := hx.length_eval hb
  have hv := Cond.le_ints hev (show (Term.int 2560).eval args s none [] s = some (.int 2560) from rfl)
  have hd : xs.length.toInt32 ≤ 2560 := by
    simpa [Cond.before, Cond.holds, hv] using hle
  have hN : xs.length ≤ 2560 := (Int32.ofNat_le_ofNat hsm (by decide)).mp (show Int32.ofNat xs.length ≤ Int32.ofNat 2560 from hd)
  exact ⟨b, xs, Cond.one_arg hc (show args[0]? = some (.ref b) from hb), hx, hN, h⟩
theorem lw_comes (l : Launch) (hflags : l.flags = flags0) : Comes l x (Jvm.Cond.code x code maxLocals ret :: tables_1) room_1 (fun tb e args s => Calls_1 tb e args s ∧ rest_1 tb e args s ∧ Pre_1 tb e args s)
    (fun _ _ args s o t => lw_Q args s o t) := by
  intro p e ha hc hk s m args below hf hfit hheap happ hpre
  obtain ⟨b, xs, hP⟩ := lw_pre_spec hpre.2.2 hpre.2.1
  obtain ⟨k, o, h1, h2, h3, hQ⟩ := lw_walk l hflags b xs p e ha hc hk s m args below hf ((Spec.applies_iff_loose hf).mp happ).1 hP trivial
  exact ⟨k, o, h1, h2, h3, hQ⟩
theorem lw_frame {s t : State} {o : Outcome} {args : Array Value} (h : Framed s o t [] 601024 7293034) :
    Framed s o t (fieldLocs frame_1_writes args s ++ arrayLocs frame_1_arrays args s ++ staticLocs frame_1_statics s) 601024 7293034 := h
theorem lw_limb (L : Cond) (hL : ∀ (args : Array Value) (s t : State), L.after args s (.returned (some (.int 1))) t = true) :
    ArmFor flags0 classFile x code maxLocals ret World_1 tables_1 room_1 Calls_1 rest_1 Pre_1
      (fun tb e a s o t => postC L tb e a s o t ∧ Framed s o t (fieldLocs frame_1_writes a s ++ arrayLocs frame_1_arrays a s ++ staticLocs frame_1_statics s) 601024 7293034) := by
  intro l hflags _ _ p e ha hc hk s m args below hf hfit hheap happ hpre
  obtain ⟨k, o, h1, h2, h3, rfl, hF⟩ := lw_comes l hflags p e ha hc hk s m args below hf hfit hheap happ hpre
  exact ⟨k, _, h1, h2, h3, hL args s _, lw_frame hF⟩
