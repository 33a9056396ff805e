/-! THE CHECKER'S WALK IS RIGHT -/
/-- K is closed under the rows -/
def CLO (CL : CT) (ac : AC) (ret : Option FieldType) (Q : QT) (K : KT) : Prop := ∀ (pc : Nat) (ls : List (Nat × Value)) (st : List Value) (h : aH) (bc bs : Nat), (∃ (i : Instr) (r1 r2 : Nat) (r3 : Int), (pc, i, r1, r2, r3) ∈ ac ∧ stp CL ret Q K i r1 r2 r3 pc ls st h bc bs) → K pc ls st h bc bs
theorem narrow_int (z : Int32) : narrow .int (.int z) = .int z := rfl
theorem narrow_bool {z : Int32} (h1 : 0 ≤ z.toInt) (h2 : z.toInt ≤ 1) : narrow .boolean (.int z) = .int z := by
  rcases (show z.toInt = 0 ∨ z.toInt = 1 by omega) with e | e
  · have : z = 0 := Int32.toInt_inj.mp e
    subst this; rfl
  · have : z = 1 := Int32.toInt_inj.mp e
    subst this; rfl
section CKT
variable {E : ET} {rl : List Nat} {sg : Nat → Option Nat} {sh : List (Nat × Nat)} {h0 : aH} {ρ : Nat → Int}
theorem ck_ok (hE : EOK E rl sg) (hL : ELow E) {CL : CT} {sms : List SM} {sm : SM} (hwf : ∀ sm ∈ sms, smwf sm = true) (hsm : ∀ sm' ∈ sms, SMOKl E rl sh sm.2.2.2.2 h0 CL sm') (hmono : MONO CL) {ac : AC} {ret : Option FieldType} {K : KT} {as : List Value} (hw : smwf sm = true) (hK : CLO CL ac ret (QS E rl sh sm as h0) K) {cs : List CU} {from_ : Option (List (Nat × Nat × Int))} (hcs : cs.all cuOk = true)
    (hcut : ∀ c ∈ cs, ∀ (ls : List (Nat × Value)) (st : List Value) (h : aH), IV E rl sg sh sm.2.2.2.2 h0 (lval ls) (cuS c) ls st h → (∀ m, from_ = some m → decr (ev ρ m) (ev (lval ls) c.2.2.2.2)) → K c.1 ls st h 0 0) :
    ∀ (n : Nat) (cur : AC) (S : AS) (pc : Nat) (ls : List (Nat × Value)) (st : List Value) (h : aH), ck E sms ac ret sm cs from_ n cur S = true → (∀ q ∈ cur, q ∈ ac) → (∀ q t, cur = q :: t → q.1 = pc) → IV E rl sg sh sm.2.2.2.2 h0 ρ S ls st h → K pc ls st h 0 0 := by
  intro n
  induction n with
  | zero => intro cur S pc ls st h hc; cases hc
  | succ n ih =>
    intro cur S pc ls st h hc hsub hpc hv
    unfold ck at hc
    split at hc
    · cases hc
    · rename_i pc' i r1 r2 r3 t
      have e : pc' = pc := hpc _ _ rfl
      subst e
      refine hK _ _ _ _ _ _ ⟨i, r1, r2, r3, hsub _ List.mem_cons_self, ?_⟩
      have hv0 := hv
      obtain ⟨a1, a2, a3, a4, a5, a6⟩ := hv
      split at hc
      · split at hc
        · rename_i v hs
          simp only [Bool.and_eq_true] at hc
          obtain ⟨⟨c1, c2⟩, c3⟩ := hc
          rw [hs] at a4
          obtain ⟨x, rs, rfl, g, gr⟩ := gst_c a4
          obtain ⟨z, rfl, b⟩ := k0 g c1
          cases rs with
          | cons _ _ => exact False.elim gr
          | nil =>
            refine ⟨rfl, ?_, outOk_ok hE hw a1 a2 a5 (rv := some (.int z)) (show gst rl sg ls h [noP v] [.int z] from ⟨gv_noP g, trivial⟩) c3⟩
            split at c2
            · exact ⟨.int, rfl, narrow_int z⟩
            · rw [Bool.and_eq_true] at c2
              have q1 := ile_t c2.1
              have q2 := ile_t c2.2
              have b1 := b.1
              have b2 := b.2.1
              exact ⟨.boolean, rfl, narrow_bool (by omega) (by omega)⟩
            · cases c2
        · cases hc
      · split at hc
        · rename_i v hs
          simp only [Bool.and_eq_true] at hc
          obtain ⟨⟨c1, c2⟩, c3⟩ := hc
          rw [hs] at a4
          obtain ⟨x, rs, rfl, g, gr⟩ := gst_c a4
          obtain ⟨z, rfl, b⟩ := k1 g c1
          cases rs with
          | cons _ _ => exact False.elim gr
          | nil =>
            refine ⟨rfl, ?_, outOk_ok hE hw a1 a2 a5 (rv := some (.long z)) (show gst rl sg ls h [noP v] [.long z] from ⟨gv_noP g, trivial⟩) c3⟩
            split at c2
            · rfl
            · cases c2
        · cases hc
      · split at hc
        · rename_i hs
          simp only [Bool.and_eq_true] at hc
          obtain ⟨c2, c3⟩ := hc
          rw [hs] at a4
          cases st with
          | cons _ _ => exact False.elim a4
          | nil =>
            refine ⟨rfl, ?_, outOk_ok (v := []) (ls := ls) hE hw a1 a2 a5 (rv := none) trivial c3⟩
            split at c2
            · rfl
            · cases c2
        · cases hc
      · rw [Bool.and_eq_true] at hc
        obtain ⟨hd, hc⟩ := hc
        split at hc
        · cases hc
        · rename_i l hx
          refine row_ok hE hL hwf hsm hmono hx hv0 (hdlB_ok hd) ?_
          intro pc2 S' hm ls' st' h' hv'
          have hq := List.all_eq_true.mp hc _ hm
          split at hq
          · obtain ⟨c, hcm, hq⟩ := List.any_eq_true.mp hq
            rw [Bool.and_eq_true] at hq
            have he := Nat.beq_eq.mp hq.1
            obtain ⟨i1, i2⟩ := arrv_ok hE (List.all_eq_true.mp hcs c hcm) hq.2 hv'
            have := hcut c hcm ls' st' h' i1 i2
            rw [he] at this
            exact this
          · obtain ⟨n1, n2⟩ := nxt_ok (ac := ac) (pc := pc2) hsub
            exact ih _ _ _ _ _ _ hq n1 n2 hv'
end CKT
theorem gst_gls {rl : List Nat} {sg : Nat → Option Nat} {h : aH} : ∀ {vs : List AV} {as : List Value} {i : Nat}, gst rl sg [] h vs as → ∀ q ∈ aargs i vs, i ≤ q.1 ∧ ∃ x, lk (lv_args i as) q.1 = some x ∧ ∀ ls, gv rl sg ls h (noP q.2) x
  | [], as, i, _, q, hq => by cases hq
  | v :: vs, [], i, g, q, hq => False.elim g
  | v :: vs, x :: xs, i, g, q, hq => by
    rcases List.mem_cons.mp hq with rfl | hq
    · refine ⟨Nat.le_refl _, x, ?_, fun ls => gv_any (gv_noP g.1)⟩
      unfold lv_args lk
      rw [if_pos rfl]
    · have hc := gv_cat g.1
      by_cases hl : Nat.beq v.1 1 = true
      · rw [if_pos hl] at hc
        rw [if_pos hl] at hq
        obtain ⟨h1, y, h2, h3⟩ := gst_gls g.2 q hq
        refine ⟨by omega, y, ?_, h3⟩
        unfold lv_args lk
        rw [if_neg (by omega), if_pos hc]
        exact h2
      · rw [if_neg hl] at hc
        rw [if_neg hl] at hq
        obtain ⟨h1, y, h2, h3⟩ := gst_gls g.2 q hq
        refine ⟨by omega, y, ?_, h3⟩
        unfold lv_args lk
        rw [if_neg (by omega), if_neg (by rw [hc]; decide)]
        exact h2
/-- the named cell of a receiver -/
def sgA (b : Bool) (as : List AV) (vs : List Value) : Nat → Option Nat := match b, as, vs with
  | true, (2, r, _) :: _, .ref a :: _ => fun q => if q = 500 + r then some a else none
  | _, _, _ => fun _ => none
theorem gv_plain {rl : List Nat} {sg sg' : Nat → Option Nat} {ls ls' : List (Nat × Value)} {h h' : aH} {v : AV} {x : Value} (hp : plainV v = true) (g : gv rl sg ls h v x) : gv rl sg' ls' h' v x := by
  obtain ⟨k, p, z⟩ := v
  unfold plainV at hp
  rw [Bool.and_eq_true, Nat.beq_eq] at hp
  match k, g, hp with
  | 0, g, hp =>
    obtain ⟨w, e, a, b, -⟩ := g
    have hp0 : p = 0 := hp.1.symm
    subst hp0
    exact ⟨w, e, a, b, trivial⟩
  | 1, g, hp =>
    obtain ⟨w, e, a, b, -⟩ := g
    have hp0 : p = 0 := hp.1.symm
    subst hp0
    exact ⟨w, e, a, b, trivial⟩
  | 2, g, hp =>
    obtain ⟨a, e, hr⟩ := g
    have hp5 : p < 500 := by simpa [Nat.blt_eq] using hp.2
    refine ⟨a, e, ?_⟩
    have hr : isr rl sg p a := hr
    show isr rl sg' p a
    unfold isr at hr ⊢
    rw [if_pos hp5] at hr ⊢
    exact hr
  | 3, g, hp => exact g
  | k + 4, g, _ => exact False.elim g
theorem gst_plain {rl : List Nat} {sg sg' : Nat → Option Nat} {ls ls' : List (Nat × Value)} {h h' : aH} : ∀ {vs : List AV} {xs : List Value}, vs.all plainV = true → gst rl sg ls h vs xs → gst rl sg' ls' h' vs xs
  | [], [], _, _ => trivial
  | v :: vs, x :: xs, hp, g => by
    rw [List.all_cons, Bool.and_eq_true] at hp
    exact ⟨gv_plain hp.1 g.1, gst_plain hp.2 g.2⟩
theorem gst_cats {rl : List Nat} {sg : Nat → Option Nat} {ls : List (Nat × Value)} {h : aH} {vs : List AV} {xs : List Value} (g : gst rl sg ls h vs xs) : catsum xs = acats vs := acats_ok g
/-- the tables fit also when a receiver is named -/
theorem EOK_sgA {E : ET} {rl : List Nat} (hE : EOK E rl (fun _ => none)) {b : Bool} {as : List AV} {vs : List Value} {h : aH} (hp : as.all plainV = true) (g : gst rl (fun _ => none) [] h as vs) : EOK E rl (sgA b as vs) ∧ gst rl (sgA b as vs) [] h (slfA b as) vs := by
  have base : EOK E rl (fun _ => none) ∧ gst rl (fun _ => none) [] h as vs := ⟨hE, g⟩
  match b, as, vs, hp, g with
  | false, as, vs, hp, g => exact ⟨hE, g⟩
  | true, [], vs, hp, g => exact ⟨hE, g⟩
  | true, (0, r, z) :: t, vs, hp, g => exact ⟨hE, g⟩
  | true, (1, r, z) :: t, vs, hp, g => exact ⟨hE, g⟩
  | true, (k + 3, r, z) :: t, vs, hp, g => exact ⟨hE, g⟩
  | true, (2, r, z) :: t, [], hp, g => exact False.elim g
  | true, (2, r, z) :: t, v :: vs, hp, g =>
    rw [List.all_cons, Bool.and_eq_true] at hp
    obtain ⟨⟨a, rfl, hr⟩, gt⟩ := g
    have h5 : r < 500 := by
      have := hp.1
      unfold plainV at this
      rw [Bool.and_eq_true] at this
      simpa [Nat.blt_eq] using this.2
    have hr' : rl[a]? = some r := by
      have hr : isr rl (fun _ => none) r a := hr
      unfold isr at hr
      rw [if_pos h5] at hr
      exact hr
    refine ⟨⟨?_, ?_⟩, ⟨a, rfl, ?_⟩, gst_plain hp.2 gt⟩
    · intro q a1 a2 ho i1 i2
      by_cases hq : q < 500
      · unfold isr at i1 i2
        rw [if_pos hq] at i1 i2
        exact hE.1 q a1 a2 ho (by unfold isr; rw [if_pos hq]; exact i1) (by unfold isr; rw [if_pos hq]; exact i2)
      · unfold isr at i1 i2
        rw [if_neg hq] at i1 i2
        exact Option.some.inj (i1.symm.trans i2)
    · intro q a1 hq e
      have e : (if q = 500 + r then some a else none) = some a1 := e
      split at e
      · rename_i e2
        cases e
        rw [e2]
        exact ⟨by rw [show 500 + r - 500 = r by omega]; exact hr', by omega⟩
      · cases e
    · show isr rl _ (500 + r) a
      unfold isr
      rw [if_neg (by omega)]
      show (if 500 + r = 500 + r then some a else none) = some a
      rw [if_pos rfl]
section CKM
variable {E : ET} {rl : List Nat} {sh : List (Nat × Nat)}
/-- A CHECKED METHOD KEEPS WHAT IS SAID OF IT -/
theorem chk_ok (hE : EOK E rl (fun _ => none)) (hL : ELow E) {SP : CT} {d : Nat} {sms : List SM} (hwf : ∀ sm ∈ sms, smwf sm = true) (hsm : ∀ sm ∈ sms, SMOK E rl sh (CLd SP d) sm) (hmono : MONO (CLd SP d)) {mi : MI} {slf : Bool} {sm : SM} (hXM : ∀ h h', FRM rl sm.2.2.2.2 h h' → XI h → XI h') {cs : List CE} {es : List (Bool × Nat)} {fuel : Nat} (hmi : mtab[sm.1]? = some mi) (hc : chk E sms mi slf sm cs es fuel = true) : SMOK E rl sh (CLd SP (d + 1)) sm := by
  intro as h hX ga hG hov
  have hsm : ∀ sm' ∈ sms, SMOKl E rl sh sm.2.2.2.2 h (CLd SP d) sm' := fun s' hs' as' h' hf => hsm s' hs' as' h' (hXM _ _ hf hX)
  unfold chk at hc
  simp only [Bool.and_eq_true] at hc
  obtain ⟨⟨⟨⟨w1, w2⟩, w3⟩, w4⟩, w5⟩ := hc
  have w1' := w1
  unfold smwf at w1'
  simp only [Bool.and_eq_true] at w1'
  obtain ⟨⟨p1, p2⟩, p3⟩ := w1'
  obtain ⟨hE', gs⟩ := EOK_sgA (b := slf) hE p1 ga
  refine Or.inr ⟨mi, hmi, by rw [gst_cats ga]; exact Nat.ble_eq.mp w2, fun K hK0 => ?_⟩
  have hK : CLO (CLd SP d) mi.2.2.2.2.1 mi.2.2.2.1 (QS E rl sh sm as h) K := hK0
  have w5' := chkC_ok (cs := cs) cs [] (fun _ q => absurd q List.not_mem_nil) (fun _ q => q) w5
  have okc9 : ∀ (sub : List CU), (∀ c ∈ sub, ∃ e' ∈ cs, e'.1 = c) → sub.all cuOk = true := fun sub hs => List.all_eq_true.mpr fun c hc => by
    obtain ⟨e', he', h9⟩ := hs c hc
    rw [← h9]
    exact List.all_eq_true.mp w3 e' he'
  have cuts : ∀ (L : Nat), (∀ e ∈ cs, e.1.2.2.2.2.length ≤ L) → ∀ (m : List Nat), Acc (fun m' m => decr m m' ∧ m'.length ≤ L) m → ∀ e ∈ cs, ∀ (ls : List (Nat × Value)) (st : List Value) (h' : aH), IV E rl (sgA slf sm.2.1 as) sh sm.2.2.2.2 h (lval ls) (cuS e.1) ls st h' → ev (lval ls) e.1.2.2.2.2 = m → K e.1.1 ls st h' 0 0 := by
    intro L hL9 m hacc
    induction hacc with
    | intro m _ ih =>
      intro e hcm ls st h' hv he
      obtain ⟨sub, hsub, hck⟩ := w5' e hcm
      refine ck_ok hE' hL hwf hsm hmono w1 hK (okc9 sub hsub) ?_ _ _ _ _ _ _ _ hck dropTo_ok.1 dropTo_ok.2 hv
      intro c' hc' ls' st' h2 hv' hdec
      obtain ⟨e2, he2, rfl⟩ := hsub c' hc'
      refine ih (ev (lval ls') e2.1.2.2.2.2) ⟨?_, ?_⟩ e2 he2 ls' st' h2 hv' rfl
      · rw [← he]; exact hdec _ rfl
      · unfold ev; rw [List.length_map]; exact hL9 e2 he2
  obtain ⟨L, hL9⟩ : ∃ L, ∀ e ∈ cs, e.1.2.2.2.2.length ≤ L := by
    clear w3 w4 w5 w5' okc9 cuts
    induction cs with
    | nil => exact ⟨0, fun c h => by cases h⟩
    | cons c t ih =>
      obtain ⟨L, hL⟩ := ih
      refine ⟨max L c.1.2.2.2.2.length, fun c' hc' => ?_⟩
      rcases List.mem_cons.mp hc' with rfl | hc'
      · exact Nat.le_max_right _ _
      · exact Nat.le_trans (hL c' hc') (Nat.le_max_left _ _)
  have hsub0 : ∀ c ∈ selC [] cs es, ∃ e' ∈ cs, e'.1 = c := fun c hc => by
    obtain ⟨e, he, h9⟩ := selC_mem hc
    exact ⟨e, he.elim (fun q => absurd q List.not_mem_nil) id, h9⟩
  refine ck_ok (ρ := fun _ => 0) hE' hL hwf hsm hmono w1 hK (okc9 _ hsub0) ?_ _ _ _ _ _ _ _ w4 dropTo_ok.1 dropTo_ok.2 ?_
  · intro c hc ls st h' hv _
    obtain ⟨e, hcm, rfl⟩ := hsub0 c hc
    exact cuts L hL9 _ (decr_acc L _ (by unfold ev; rw [List.length_map]; exact hL9 e hcm)) e hcm ls st h' hv rfl
  · refine ⟨hG, FRM.rf, fun q hq => ?_, trivial, ?_, fun q hq => by cases hq⟩
    · obtain ⟨-, x, e1, e2⟩ := gst_gls gs q hq
      exact ⟨x, e1, e2 _⟩
    · intro q hq a ha
      refine hov q hq a ?_
      have hq5 : q.1 < 500 := by simpa [Nat.blt_eq] using List.all_eq_true.mp p2 q hq
      unfold isr at ha ⊢
      rw [if_pos hq5] at ha ⊢
      exact ha
end CKM
/-! WHAT IS SAID OF A RUN'S END MAY BE WEAKENED; the depth may grow -/
theorem stp_Q {CL : CT} {ret : Option FieldType} {Q Q' : QT} {K : KT} {i : Instr} {r1 r2 : Nat} {r3 : Int} {pc : Nat} {ls : List (Nat × Value)} {st : List Value} {h : aH} {bc bs : Nat} (hq : ∀ v h', Q v h' → Q' v h') (hs : stp CL ret Q K i r1 r2 r3 pc ls st h bc bs) : stp CL ret Q' K i r1 r2 r3 pc ls st h bc bs := by
  cases i
  case ireturn =>
    obtain ⟨x, r, rfl, h1, h2, h3⟩ := pi_inv hs
    exact ⟨h1, h2, hq _ _ h3⟩
  case lreturn =>
    obtain ⟨x, r, rfl, h1, h2, h3⟩ := pl_inv hs
    exact ⟨h1, h2, hq _ _ h3⟩
  case return_ => exact ⟨hs.1, hs.2.1, hq _ _ hs.2.2⟩
  all_goals exact hs
theorem s_call_CL {CL CL' : CT} {K : KT} {r1 r2 : Nat} {r3 : Int} {pc : Nat} {ls : List (Nat × Value)} {st : List Value} {h : aH} {bc bs : Nat} (hcl : ∀ mid as h mc ms Q, CL mid as h mc ms Q → CL' mid as h mc ms Q) (hs : s_call CL K r1 r2 r3 pc ls st h bc bs) : s_call CL' K r1 r2 r3 pc ls st h bc bs := by
  unfold s_call at hs ⊢
  split at hs
  · exact hs
  · exact hs
  · exact hs
  · exact hs
  · exact hs
  · obtain ⟨h1, h2, h3, mc, ms, h4, h5, h6, h7⟩ := hs
    exact ⟨h1, h2, h3, mc, ms, h4, h5, h6, hcl _ _ _ _ _ _ h7⟩
theorem stp_CL {CL CL' : CT} {ret : Option FieldType} {Q : QT} {K : KT} {i : Instr} {r1 r2 : Nat} {r3 : Int} {pc : Nat} {ls : List (Nat × Value)} {st : List Value} {h : aH} {bc bs : Nat} (hcl : ∀ mid as h mc ms Q, CL mid as h mc ms Q → CL' mid as h mc ms Q) (hs : stp CL ret Q K i r1 r2 r3 pc ls st h bc bs) : stp CL' ret Q K i r1 r2 r3 pc ls st h bc bs := by
  cases i
  case invokevirtual => exact s_call_CL hcl hs
  case invokespecial => exact s_call_CL hcl hs
  case invokestatic => exact s_call_CL hcl hs
  all_goals exact hs
theorem MONO_CLd {SP : CT} (hSP : MONO SP) : ∀ d, MONO (CLd SP d)
  | 0 => fun _ _ _ _ _ _ _ _ h => h
  | d + 1 => fun mid as h mc ms Q Q' hq hc => by
    rcases hc with hc | ⟨mi, h1, h2, h3⟩
    · exact Or.inl (hSP mid as h mc ms Q Q' hq hc)
    · exact Or.inr ⟨mi, h1, h2, fun K hK => h3 K fun pc ls st h bc bs ⟨i, r1, r2, r3, hm, hs⟩ => hK pc ls st h bc bs ⟨i, r1, r2, r3, hm, stp_Q hq hs⟩⟩
theorem CLd_up {SP : CT} : ∀ d mid as h mc ms Q, CLd SP d mid as h mc ms Q → CLd SP (d + 1) mid as h mc ms Q
  | 0, _, _, _, _, _, _, h => False.elim h
  | d + 1, mid, as, h, mc, ms, Q, hc => by
    rcases hc with hc | ⟨mi, h1, h2, h3⟩
    · exact Or.inl hc
    · exact Or.inr ⟨mi, h1, h2, fun K hK => h3 K fun pc ls st h bc bs ⟨i, r1, r2, r3, hm, hs⟩ => hK pc ls st h bc bs ⟨i, r1, r2, r3, hm, stp_CL (CLd_up d) hs⟩⟩
theorem SMOK_up {E : ET} {rl : List Nat} {sh : List (Nat × Nat)} {SP : CT} {d : Nat} {sm : SM} (h : SMOK E rl sh (CLd SP d) sm) : SMOK E rl sh (CLd SP (d + 1)) sm := fun as h1 x a b c => CLd_up d _ _ _ _ _ _ (h as h1 x a b c)
theorem SMOK_le {E : ET} {rl : List Nat} {sh : List (Nat × Nat)} {SP : CT} {d d' : Nat} {sm : SM} (hd : d ≤ d') (h : SMOK E rl sh (CLd SP d) sm) : SMOK E rl sh (CLd SP d') sm := by
  induction hd with
  | refl => exact h
  | step _ ih => exact SMOK_up ih
