/-! CONSTANTS AND CONVERSIONS AS INTS -/
theorem ofInt_int {n : Int} (h1 : i0 ≤ n) (h2 : n ≤ i1) : (n, n).1 ≤ (Int32.ofInt n).toInt ∧ (Int32.ofInt n).toInt ≤ (n, n).2 := by
  rw [Int32.toInt_ofInt, bm32 h1 h2]
  exact ⟨Int.le_refl _, Int.le_refl _⟩
theorem iconst_int {n : Int} (h1 : -128 ≤ n) (h2 : n ≤ 127) : (n, n).1 ≤ (Int32.ofInt n).toInt ∧ (Int32.ofInt n).toInt ≤ (n, n).2 := ofInt_int (by unfold i0; omega) (by unfold i1; omega)
theorem bipush_int {n : Int} (h1 : -128 ≤ n) (h2 : n ≤ 127) : (n, n).1 ≤ ((Int8.ofInt n).toInt32).toInt ∧ ((Int8.ofInt n).toInt32).toInt ≤ (n, n).2 := by
  have e : (n.bmod (2 ^ 8)) = n := by rw [Int.bmod_def]; split <;> omega
  rw [Int8.toInt_toInt32, Int8.toInt_ofInt, e]
  exact ⟨Int.le_refl _, Int.le_refl _⟩
theorem sipush_int {n : Int} (h1 : -32768 ≤ n) (h2 : n ≤ 32767) : (n, n).1 ≤ ((Int16.ofInt n).toInt32).toInt ∧ ((Int16.ofInt n).toInt32).toInt ≤ (n, n).2 := by
  have e : (n.bmod (2 ^ 16)) = n := by rw [Int.bmod_def]; split <;> omega
  rw [Int16.toInt_toInt32, Int16.toInt_ofInt, e]
  exact ⟨Int.le_refl _, Int.le_refl _⟩
theorem ofInt_long {n : Int} (h1 : j0 ≤ n) (h2 : n ≤ j1) : (n, n).1 ≤ (Int64.ofInt n).toInt ∧ (Int64.ofInt n).toInt ≤ (n, n).2 := by
  have e : (n.bmod (2 ^ 64)) = n := by unfold j0 at h1; unfold j1 at h2; rw [Int.bmod_def]; split <;> omega
  rw [Int64.toInt_ofInt, e]
  exact ⟨Int.le_refl _, Int.le_refl _⟩
theorem iinc_int (w : Int32) (n : Int) : (w + Int32.ofInt n).toInt = (w.toInt + n).bmod (2 ^ 32) := by
  rw [Int32.toInt_add, Int32.toInt_ofInt, Int.add_bmod_bmod]
theorem i2b_int (u : Int32) : ((-128, 127) : Int × Int).1 ≤ (u.toInt8.toInt32).toInt ∧ (u.toInt8.toInt32).toInt ≤ ((-128, 127) : Int × Int).2 := by
  rw [Int8.toInt_toInt32]
  have a := Int8.le_toInt u.toInt8
  have b := Int8.toInt_lt u.toInt8
  exact ⟨by simpa using a, by show _ ≤ (127 : Int); omega⟩
theorem i2s_int (u : Int32) : ((-32768, 32767) : Int × Int).1 ≤ (u.toInt16.toInt32).toInt ∧ (u.toInt16.toInt32).toInt ≤ ((-32768, 32767) : Int × Int).2 := by
  rw [Int16.toInt_toInt32]
  have a := Int16.le_toInt u.toInt16
  have b := Int16.toInt_lt u.toInt16
  exact ⟨by simpa using a, by show _ ≤ (32767 : Int); omega⟩
theorem ofNat_int {n : Nat} (h : n < 100000) : (Int32.ofNat n).toInt = (n : Int) := nI_toInt (by omega)
theorem i2c_int (u : Int32) : ((0, 65535) : Int × Int).1 ≤ ((u.toUInt32 % 65536).toInt32).toInt ∧ ((u.toUInt32 % 65536).toInt32).toInt ≤ ((0, 65535) : Int × Int).2 := by
  rw [pk_char]
  have h : u.toBitVec.toNat % 65536 < 65536 := Nat.mod_lt _ (by decide)
  rw [nI_toInt (by omega)]
  exact ⟨by omega, by show _ ≤ (65535 : Int); omega⟩
theorem vnc_int (u : Int32) : 0 ≤ (vp_nar .char u).toInt ∧ (vp_nar .char u).toInt ≤ 65535 := by
  rw [vp_nar_char]
  have e : (u.toUInt32.toUInt16.toUInt32.toInt32) = (u.toUInt32 % 65536).toInt32 := by
    congr 1
  rw [e]
  exact i2c_int u
theorem vnb_int (u : Int32) : 0 ≤ (vp_nar .boolean u).toInt ∧ (vp_nar .boolean u).toInt ≤ 1 := by
  show 0 ≤ (u &&& 1).toInt ∧ (u &&& 1).toInt ≤ 1
  exact and_r (x := u) (y := 1) (by decide)
theorem vnb_id {u : Int32} (h1 : 0 ≤ u.toInt) (h2 : u.toInt ≤ 1) : vp_nar .boolean u = u := by
  rcases (show u.toInt = 0 ∨ u.toInt = 1 by omega) with e | e
  · have : u = 0 := Int32.toInt_inj.mp e
    subst this; rfl
  · have : u = 1 := Int32.toInt_inj.mp e
    subst this; rfl
theorem iinc_aso {S1 : List (Nat × AV)} {k : Nat} {z : Int × Int} : (k, 0, 0, z) :: S1.filter (fun q => !(Nat.beq q.1 k) && !(Nat.beq (q.1 + 1) k && Nat.beq q.2.1 1)) = aso false S1 k (0, 0, z) := by
  unfold aso noP
  congr 1
  apply List.filter_congr
  intro q _
  simp
/-! EVERY ROW OF THE CHECKER IS RIGHT -/
section AIW
variable {E : ET} {rl : List Nat} {sg : Nat → Option Nat} {sh : List (Nat × Nat)} {M : MD} {h0 : aH} {ρ : Nat → Int}
set_option maxHeartbeats 4000000 in
theorem call_ok (hE : EOK E rl sg) {CL : CT} {sms : List SM} (hwf : ∀ sm ∈ sms, smwf sm = true) (hsm : ∀ sm ∈ sms, SMOKl E rl sh M h0 CL sm) (hmono : MONO CL) {K : KT} {r1 r2 : Nat} {r3 : Int} {pc : Nat} {S : AS} {l : List (Nat × AS)} {ls : List (Nat × Value)} {st : List Value} {h : aH}
    (hx : xcall E sms M r1 r2 r3 pc S = some l) (hv : IV E rl sg sh M h0 ρ S ls st h) (hk : ∀ pc' S', (pc', S') ∈ l → ∀ ls' st' h', IV E rl sg sh M h0 ρ S' ls' st' h' → K pc' ls' st' h' 0 0) : s_call CL K r1 r2 r3 pc ls st h 0 0 := by
  have hv0 := hv
  obtain ⟨a1, a2, a3, a4, a5, a6⟩ := hv
  unfold xcall at hx
  unfold s_call
  split at hx
  · obtain ⟨x, y, r, u, v, rs, rfl, hx, bx, by_, gr⟩ := U2' hx a4
    split at hx
    · rename_i hc
      cases hx
      refine ⟨by rw [acats_ok gr]; exact Nat.ble_eq.mp hc, hk _ _ (List.mem_singleton.mpr rfl) _ _ _ (hv0.stk ⟨gv_ai (mx_ok bx.1 bx.2.1 by_.1 by_.2.1) gp0, gr⟩)⟩
    · cases hx
  · obtain ⟨x, y, r, u, v, rs, rfl, hx, bx, by_, gr⟩ := U2' hx a4
    split at hx
    · rename_i hc
      cases hx
      refine ⟨by rw [acats_ok gr]; exact Nat.ble_eq.mp hc, hk _ _ (List.mem_singleton.mpr rfl) _ _ _ (hv0.stk ⟨gv_ai (mn_ok bx.1 bx.2.1 by_.1 by_.2.1) gp0, gr⟩)⟩
    · cases hx
  · obtain ⟨x, r, u, rs, rfl, hx, bx, gr⟩ := U1' hx a4
    split at hx
    · rename_i hc
      cases hx
      refine ⟨by rw [acats_ok gr]; exact Nat.ble_eq.mp hc, hk _ _ (List.mem_singleton.mpr rfl) _ _ _ (hv0.stk ⟨gv_ai ?_ gp0, gr⟩)⟩
      split
      · rename_i h9
        exact ab_ok h9 bx.1 bx.2.1
      · exact ai_any _
    · cases hx
  · split at hx
    · rename_i n dp ra z1 sp rb z2 r he
      rw [he] at a4
      split at hx
      · rename_i hc
        simp only [Bool.and_eq_true] at hc
        obtain ⟨⟨⟨⟨⟨⟨⟨⟨⟨⟨⟨⟨⟨⟨c1, c2⟩, c3⟩, c4⟩, c5⟩, c6⟩, c7⟩, c8⟩, c9⟩, c10⟩, c11⟩, c12⟩, c13⟩, c14⟩, c15⟩ := hc
        cases hx
        obtain ⟨v1, rs, rfl, g1, g⟩ := gst_c a4
        obtain ⟨v2, rs, rfl, g2, g⟩ := gst_c g
        obtain ⟨v3, rs, rfl, g3, g⟩ := gst_c g
        obtain ⟨v4, rs, rfl, g4, g⟩ := gst_c g
        obtain ⟨v5, rs, rfl, g5, gr⟩ := gst_c g
        obtain ⟨n', rfl, b1⟩ := k0 g1 c1
        obtain ⟨dp', rfl, b2⟩ := k0 g2 c2
        obtain ⟨d, rfl, hd⟩ := g3
        obtain ⟨sp', rfl, b4⟩ := k0 g4 c3
        obtain ⟨b, rfl, hb⟩ := g5
        have q6 := ile_t c6
        have q7 := ile_t c7
        have q8 := ile_t c8
        have q9 := ile_t c9
        have q10 := ile_t c10
        have nn : ∀ x : Int32, 0 ≤ x.toInt → ¬ x < 0 := fun x hx h9 => by have := Int32.lt_iff_toInt_lt.mp h9; simp at this; omega
        have cl : ∀ x : Int32, 0 ≤ x.toInt → (x.toNatClampNeg : Int) = x.toInt := fun x hx => Int.toNat_of_nonneg hx
        have e1 := b1.1; have e2 := b1.2.1; have e3 := b2.1; have e4 := b2.2.1; have e5 := b4.1; have e6 := b4.2.1
        have f1 := cl n' (by omega)
        have f2 := cl dp' (by omega)
        have f3 := cl sp' (by omega)
        refine ⟨by rw [acats_ok gr]; exact Nat.ble_eq.mp c11, ⟨(eS E rb).2, (eS E ra).2, ?_, ?_, nn _ (by omega), nn _ (by omega), nn _ (by omega), by omega, by omega⟩, ?_⟩
        · rw [shp hE a1 hb, ← Nat.beq_eq.mp c5]
        · rw [shp hE a1 hd, ← Nat.beq_eq.mp c4]
        · refine hk _ _ (List.mem_singleton.mpr rfl) _ _ _ ?_
          have m14 := Nat.ble_eq.mp c14
          have m15 := Nat.ble_eq.mp c15
          obtain ⟨w1, w2, w3⟩ := wr_ok (h' := sC h b sp'.toNatClampNeg d dp'.toNatClampNeg n'.toNatClampNeg) (c := d) hE a1 a2 a5 hd rfl rfl rfl (fun x j hx => by
            show a_up h.2.1 d _ x j = _
            by_cases ex : x = d
            · subst ex
              rw [up_s]
              unfold va_cpy
              rw [if_neg]
              · rfl
              · intro h9
                rcases hx with hx | hx
                · exact hx rfl
                · exact hx ⟨by omega, by omega⟩
            · rw [up_n ex]; rfl) (fun j h1 h2 => by
            have ev : aI (sC h b sp'.toNatClampNeg d dp'.toNatClampNeg n'.toNatClampNeg) d j = va_cpy (h.2.1 b) (h.2.1 d) sp'.toNatClampNeg dp'.toNatClampNeg n'.toNatClampNeg j := congrFun up_s j
            rw [ev]
            unfold va_cpy
            split
            · left
              rename_i h9
              have := gI_ok (k := sp'.toNatClampNeg + (j - dp'.toNatClampNeg)) (i := 0) (j := (eS E rb).2 - 1) (a1.2.2.1 b _ (isr_rl hE hb)) (by omega) (by omega)
              rw [eG_b (isr_lt hE hb)] at this
              exact this
            · right; rfl) c12 c13
          refine ⟨w1, w2, fun q hq => ?_, gst_kH gr, w3, a6⟩
          obtain ⟨x, e1, e2⟩ := a3 q hq
          exact ⟨x, e1, gv_any e2⟩
      · cases hx
    · cases hx
  · cases hx
  · rename_i n1 n2 n3 n4 n5
    simp only at hx
    split at hx
    · rename_i hc
      simp only [Bool.and_eq_true] at hc
      obtain ⟨⟨c1, c2⟩, c3⟩ := hc
      split at hx
      · rename_i sm hf
        split at hx
        · rename_i hM
          cases hx
          obtain ⟨hm, hmid, hav, hov⟩ := fnd_ok hf
          have gr : gst rl sg ls h (S.2.1.drop (r3 % 100).toNat) (st.drop (r3 % 100).toNat) := gst_dropL a4
          have ga : gst rl sg ls h ((S.2.1.take (r3 % 100).toNat).reverse) (argc (r3 % 100).toNat st) := gst_reverse (gst_take a4)
          have hw := hwf sm hm
          have hw2 := hw
          unfold smwf at hw2
          simp only [Bool.and_eq_true] at hw2
          split
          · exact absurd rfl n1
          · exact absurd rfl n2
          · exact absurd rfl n3
          · exact absurd rfl n4
          · exact absurd rfl n5
          refine ⟨by rw [acats_ok gr]; exact Nat.ble_eq.mp c1, by rw [gst_len a4]; exact Nat.ble_eq.mp c2, ?_, 0, 0, Nat.le_refl _, Nat.le_refl _, Or.inl rfl, ?_⟩
          · unfold arcv at c3
            unfold rcv
            split at c3
            · split at c3
              · rename_i r z t he
                rw [Bool.and_eq_true] at c3
                rw [he] at ga
                obtain ⟨v, rs, e1, g1, -⟩ := gst_c ga
                obtain ⟨b, rfl, hb⟩ := g1
                refine ⟨b, rs, e1, ?_⟩
                rw [shp hE a1 hb, ← Nat.beq_eq.mp c3.1, ← Nat.beq_eq.mp c3.2]
              · cases c3
            · trivial
            · trivial
            · split at c3
              · rename_i r z t he
                rw [he] at ga
                obtain ⟨v, rs, e1, g1, -⟩ := gst_c ga
                obtain ⟨b, e2, h6, -⟩ := g1
                exact ⟨b, rs, by rw [e1, e2], h6⟩
              · cases c3
            · cases c3
          · have hs := hsm sm hm (argc (r3 % 100).toNat st) h a2 (avles_ok hE ga hav hw2.1.1) a1 (ovle_ok hE a1 a5 hw2.1.2 hov)
            rw [hmid] at hs
            refine hmono _ _ _ _ _ _ _ (fun v h' hq => ?_) hs
            obtain ⟨S', hS', hv'⟩ := aft_ok hE (pc := pc + 3) hw hv0 ga gr hM hq.1 hq.2.1 hq.2.2
            exact hk _ _ hS' _ _ _ hv'
        · cases hx
      · cases hx
    · cases hx
set_option maxHeartbeats 8000000 in
theorem row_ok (hE : EOK E rl sg) (hL : ELow E) {CL : CT} {sms : List SM} (hwf : ∀ sm ∈ sms, smwf sm = true) (hsm : ∀ sm ∈ sms, SMOKl E rl sh M h0 CL sm) (hmono : MONO CL) {ret : Option FieldType} {Q : QT} {K : KT} {i : Instr} {r1 r2 : Nat} {r3 : Int} {pc : Nat} {S : AS} {l : List (Nat × AS)} {ls : List (Nat × Value)} {st : List Value} {h : aH}
    (hx : xrow E sms M i r1 r2 r3 pc S = some l) (hv : IV E rl sg sh M h0 ρ S ls st h) (hdl : ∀ k, (i = .lstore k ∨ ∃ f : Fin 4, (f : Nat) = k ∧ i = .lstore_n f) → ∀ q ∈ S.2.2.2, q.1 ≠ k + 1) (hk : ∀ pc' S', (pc', S') ∈ l → ∀ ls' st' h', IV E rl sg sh M h0 ρ S' ls' st' h' → K pc' ls' st' h' 0 0) : stp CL ret Q K i r1 r2 r3 pc ls st h 0 0 := by
  have hv0 := hv
  obtain ⟨a1, a2, a3, a4, a5, a6⟩ := hv
  have fin : ∀ {pc' : Nat} {S' : AS} {ls' : List (Nat × Value)} {st' : List Value} {h' : aH}, (pc', S') ∈ l → IV E rl sg sh M h0 ρ S' ls' st' h' → K pc' ls' st' h' 0 0 := fun a b => hk _ _ a _ _ _ b
  cases i

  case iconst n =>
    simp only [xrow] at hx
    split at hx
    · rename_i hc
      rw [Bool.and_eq_true] at hc
      cases hx
      exact fin (List.mem_singleton.mpr rfl) (hv0.stk ⟨gv_ai (iconst_int (ile_t hc.1) (ile_t hc.2)) gp0, a4⟩)
    · cases hx
  case bipush n =>
    simp only [xrow] at hx
    split at hx
    · rename_i hc
      rw [Bool.and_eq_true] at hc
      cases hx
      exact fin (List.mem_singleton.mpr rfl) (hv0.stk ⟨gv_ai (bipush_int (ile_t hc.1) (ile_t hc.2)) gp0, a4⟩)
    · cases hx
  case sipush n =>
    simp only [xrow] at hx
    split at hx
    · rename_i hc
      rw [Bool.and_eq_true] at hc
      cases hx
      exact fin (List.mem_singleton.mpr rfl) (hv0.stk ⟨gv_ai (sipush_int (ile_t hc.1) (ile_t hc.2)) gp0, a4⟩)
    · cases hx
  case lconst n =>
    cases hx
    refine fin (List.mem_singleton.mpr rfl) (hv0.stk ⟨gv_aj ?_ gp0, a4⟩)
    match n with
    | 0 => exact ⟨Int.le_refl _, Int.le_refl _⟩
    | 1 => exact ⟨Int.le_refl _, Int.le_refl _⟩
  case ldc n =>
    simp only [xrow] at hx
    split at hx
    · split at hx
      · rename_i hc
        rw [Bool.and_eq_true] at hc
        cases hx
        exact fin (List.mem_singleton.mpr rfl) (hv0.stk ⟨gv_ai (ofInt_int (ile_t hc.1) (ile_t hc.2)) gp0, a4⟩)
      · cases hx
    · rename_i hr
      split at hx
      · rename_i hc
        cases hx
        simp only [stp]
        exact fin (List.mem_singleton.mpr rfl) (hv0.stk ⟨⟨r2, rfl, by simpa [Nat.blt_eq] using hc, Or.inr rfl⟩, a4⟩)
      · cases hx
  case ldc_w n =>
    simp only [xrow] at hx
    split at hx
    · split at hx
      · rename_i hc
        rw [Bool.and_eq_true] at hc
        cases hx
        exact fin (List.mem_singleton.mpr rfl) (hv0.stk ⟨gv_ai (ofInt_int (ile_t hc.1) (ile_t hc.2)) gp0, a4⟩)
      · cases hx
    · rename_i hr
      split at hx
      · rename_i hc
        cases hx
        simp only [stp]
        exact fin (List.mem_singleton.mpr rfl) (hv0.stk ⟨⟨r2, rfl, by simpa [Nat.blt_eq] using hc, Or.inr rfl⟩, a4⟩)
      · cases hx
  case ldc2_w n =>
    simp only [xrow] at hx
    split at hx
    · rename_i hc
      rw [Bool.and_eq_true] at hc
      cases hx
      exact fin (List.mem_singleton.mpr rfl) (hv0.stk ⟨gv_aj (ofInt_long (ile_t hc.1) (ile_t hc.2)) gp0, a4⟩)
    · cases hx
  case iload_n j =>
    obtain ⟨v, S', e1, e2, e3, p0, p1, p2⟩ := ld_ok hv0 hx
    obtain ⟨u, rfl⟩ := p0 rfl
    show l_i (lk ls (j : Nat)) _
    rw [e1]
    exact fin e2 e3
  case iload j =>
    obtain ⟨v, S', e1, e2, e3, p0, p1, p2⟩ := ld_ok hv0 hx
    obtain ⟨u, rfl⟩ := p0 rfl
    show l_i (lk ls j) _
    rw [e1]
    exact fin e2 e3
  case lload_n j =>
    obtain ⟨v, S', e1, e2, e3, p0, p1, p2⟩ := ld_ok hv0 hx
    obtain ⟨u, rfl⟩ := p1 rfl
    show l_l (lk ls (j : Nat)) _
    rw [e1]
    exact fin e2 e3
  case lload j =>
    obtain ⟨v, S', e1, e2, e3, p0, p1, p2⟩ := ld_ok hv0 hx
    obtain ⟨u, rfl⟩ := p1 rfl
    show l_l (lk ls j) _
    rw [e1]
    exact fin e2 e3
  case aload_n j =>
    obtain ⟨v, S', e1, e2, e3, p0, p1, p2⟩ := ld_ok hv0 hx
    obtain ⟨u, rfl⟩ := p2 rfl
    show l_r (lk ls (j : Nat)) _
    rw [e1]
    exact fin e2 e3
  case aload j =>
    obtain ⟨v, S', e1, e2, e3, p0, p1, p2⟩ := ld_ok hv0 hx
    obtain ⟨u, rfl⟩ := p2 rfl
    show l_r (lk ls j) _
    rw [e1]
    exact fin e2 e3
  case istore_n j =>
    obtain ⟨v, st', S', rfl, e2, p0, p1, p2, e3⟩ := sv_ok hv0 hx (by decide) (fun q => absurd q (by decide))
    obtain ⟨u, rfl⟩ := p0 rfl
    exact fin e2 e3
  case istore j =>
    obtain ⟨v, st', S', rfl, e2, p0, p1, p2, e3⟩ := sv_ok hv0 hx (by decide) (fun q => absurd q (by decide))
    obtain ⟨u, rfl⟩ := p0 rfl
    exact fin e2 e3
  case lstore_n j =>
    obtain ⟨v, st', S', rfl, e2, p0, p1, p2, e3⟩ := sv_ok hv0 hx (by decide) (fun _ => hdl _ (Or.inr ⟨j, rfl, rfl⟩))
    obtain ⟨u, rfl⟩ := p1 rfl
    exact fin e2 e3
  case lstore j =>
    obtain ⟨v, st', S', rfl, e2, p0, p1, p2, e3⟩ := sv_ok hv0 hx (by decide) (fun _ => hdl _ (Or.inl rfl))
    obtain ⟨u, rfl⟩ := p1 rfl
    exact fin e2 e3
  case astore_n j =>
    obtain ⟨v, st', S', rfl, e2, p0, p1, p2, e3⟩ := sv_ok hv0 hx (by decide) (fun q => absurd q (by decide))
    obtain ⟨u, rfl⟩ := p2 rfl
    exact fin e2 e3
  case astore j =>
    obtain ⟨v, st', S', rfl, e2, p0, p1, p2, e3⟩ := sv_ok hv0 hx (by decide) (fun q => absurd q (by decide))
    obtain ⟨u, rfl⟩ := p2 rfl
    exact fin e2 e3
  case iinc k n =>
    simp only [xrow] at hx
    split at hx
    · rename_i p lo hi he
      cases hx
      obtain ⟨x, e1, e2⟩ := a3 _ (alk_mem he)
      obtain ⟨w, rfl, b1, b2, -⟩ := e2
      have b1 : lo ≤ w.toInt := b1
      have b2 : w.toInt ≤ hi := b2
      show l_i (lk ls k) _
      rw [e1]
      refine fin (List.mem_singleton.mpr rfl) ?_
      have hn := iinc_int w n
      refine ⟨a1, a2, ?_, gst_kL (fun j y h8 e => lk_so1 e h8 (Or.inl rfl)) a4, a5, ?_⟩
      · rw [show _ = aso false S.1 k (0, 0, fi (lo + n) (hi + n)) from iinc_aso]
        exact gls_aso1 (v := (0, 0, fi (lo + n) (hi + n))) a3 ⟨_, rfl, (fi_ok hn (by omega) (by omega)).1, (fi_ok hn (by omega) (by omega)).2, gp0⟩
      · intro q hq
        obtain ⟨z, hz, hq2⟩ := List.mem_filterMap.mp hq
        by_cases hzk : Nat.beq z.1 k = true
        · rw [if_pos hzk] at hq2
          split at hq2
          · rename_i hr
            rw [Bool.and_eq_true] at hr
            cases hq2
            obtain ⟨x, e3, e4⟩ := a6 z hz
            rw [Nat.beq_eq.mp hzk, e1] at e3
            cases e3
            refine ⟨_, lk_so1_eq _ _ _, ?_⟩
            rw [fi_ex hr.1 hr.2 hn (by omega) (by omega), e4, Nat.beq_eq.mp hzk]
            show ρ k + z.2 + n = ρ k + (z.2 + n)
            omega
          · cases hq2
        · rw [if_neg hzk] at hq2
          have e9 : z = q := Option.some.inj hq2
          subst e9
          obtain ⟨x, e3, e4⟩ := a6 z hz
          exact ⟨x, lk_so1 e3 (fun q => hzk (Nat.beq_eq.mpr q)) (Or.inl rfl), e4⟩
    · cases hx
  case iadd =>
    obtain ⟨x, y, r, u, v, rs, rfl, hx, bx, by_, gr⟩ := U2' hx a4
    cases hx
    exact fin (List.mem_singleton.mpr rfl) (hv0.stk ⟨gv_ai (fi_ok (Int32.toInt_add u v) (Int.add_le_add bx.1 by_.1) (Int.add_le_add bx.2.1 by_.2.1)) gp0, gr⟩)
  case isub =>
    obtain ⟨x, y, r, u, v, rs, rfl, hx, bx, by_, gr⟩ := U2' hx a4
    cases hx
    exact fin (List.mem_singleton.mpr rfl) (hv0.stk ⟨gv_ai (fi_ok (Int32.toInt_sub u v) (Int.sub_le_sub bx.1 by_.2.1) (Int.sub_le_sub bx.2.1 by_.1)) gp0, gr⟩)
  case imul =>
    obtain ⟨x, y, r, u, v, rs, rfl, hx, bx, by_, gr⟩ := U2' hx a4
    cases hx
    exact fin (List.mem_singleton.mpr rfl) (hv0.stk ⟨gv_ai (fi_ok (Int32.toInt_mul u v) (mulI_ok bx.1 bx.2.1 by_.1 by_.2.1).1 (mulI_ok bx.1 bx.2.1 by_.1 by_.2.1).2) gp0, gr⟩)
  case iand =>
    obtain ⟨x, y, r, u, v, rs, rfl, hx, bx, by_, gr⟩ := U2' hx a4
    cases hx
    exact fin (List.mem_singleton.mpr rfl) (hv0.stk ⟨gv_ai (ex2_ok (f := fun u v => u &&& v) bx.1 bx.2.1 by_.1 by_.2.1 (andI_ok bx.1 bx.2.1 by_.1 by_.2.1)) gp0, gr⟩)
  case ior =>
    obtain ⟨x, y, r, u, v, rs, rfl, hx, bx, by_, gr⟩ := U2' hx a4
    cases hx
    exact fin (List.mem_singleton.mpr rfl) (hv0.stk ⟨gv_ai (ex2_ok (f := fun u v => u ||| v) bx.1 bx.2.1 by_.1 by_.2.1 (ai_any _)) gp0, gr⟩)
  case ixor =>
    obtain ⟨x, y, r, u, v, rs, rfl, hx, bx, by_, gr⟩ := U2' hx a4
    cases hx
    exact fin (List.mem_singleton.mpr rfl) (hv0.stk ⟨gv_ai (ex2_ok (f := fun u v => u ^^^ v) bx.1 bx.2.1 by_.1 by_.2.1 (ai_any _)) gp0, gr⟩)
  case ishl =>
    obtain ⟨x, y, r, u, v, rs, rfl, hx, bx, by_, gr⟩ := U2' hx a4
    cases hx
    exact fin (List.mem_singleton.mpr rfl) (hv0.stk ⟨gv_ai (ex2_ok (f := fun u v => u <<< (v &&& 31)) bx.1 bx.2.1 by_.1 by_.2.1 (ai_any _)) gp0, gr⟩)
  case ishr =>
    obtain ⟨x, y, r, u, v, rs, rfl, hx, bx, by_, gr⟩ := U2' hx a4
    cases hx
    exact fin (List.mem_singleton.mpr rfl) (hv0.stk ⟨gv_ai (ex2_ok (f := fun u v => u >>> (v &&& 31)) bx.1 bx.2.1 by_.1 by_.2.1 (ai_any _)) gp0, gr⟩)
  case iushr =>
    obtain ⟨x, y, r, u, v, rs, rfl, hx, bx, by_, gr⟩ := U2' hx a4
    cases hx
    exact fin (List.mem_singleton.mpr rfl) (hv0.stk ⟨gv_ai (ex2_ok (f := fun u v => (u.toUInt32 >>> (v.toUInt32 &&& Int32.toUInt32 31)).toInt32) bx.1 bx.2.1 by_.1 by_.2.1 (ai_any _)) gp0, gr⟩)
  case idiv =>
    obtain ⟨x, y, r, u, v, rs, rfl, hx, bx, by_, gr⟩ := U2' hx a4
    split at hx
    · rename_i hc
      cases hx
      exact ⟨ne0_32 (div_ok2 hc by_.1 by_.2.1), fin (List.mem_singleton.mpr rfl) (hv0.stk ⟨gv_ai (ex2_ok (f := fun u v => u / v) bx.1 bx.2.1 by_.1 by_.2.1 (divI_ok bx.1 bx.2.1 by_.1 by_.2.1)) gp0, gr⟩)⟩
    · cases hx
  case irem =>
    obtain ⟨x, y, r, u, v, rs, rfl, hx, bx, by_, gr⟩ := U2' hx a4
    split at hx
    · rename_i hc
      cases hx
      exact ⟨ne0_32 (div_ok2 hc by_.1 by_.2.1), fin (List.mem_singleton.mpr rfl) (hv0.stk ⟨gv_ai (ex2_ok (f := fun u v => u - u / v * v) bx.1 bx.2.1 by_.1 by_.2.1 (remI_ok bx.1 by_.1 by_.2.1)) gp0, gr⟩)⟩
    · cases hx
  case ineg =>
    obtain ⟨x, r, u, rs, rfl, hx, bx, gr⟩ := U1' hx a4
    cases hx
    exact fin (List.mem_singleton.mpr rfl) (hv0.stk ⟨gv_ai (fi_ok (Int32.toInt_neg u) (Int.neg_le_neg bx.2.1) (Int.neg_le_neg bx.1)) gp0, gr⟩)
  case ladd =>
    obtain ⟨x, y, r, u, v, rs, rfl, hx, bx, by_, gr⟩ := W2' hx a4
    cases hx
    exact fin (List.mem_singleton.mpr rfl) (hv0.stk ⟨gv_aj (fj_ok (Int64.toInt_add u v) (Int.add_le_add bx.1 by_.1) (Int.add_le_add bx.2.1 by_.2.1)) gp0, gr⟩)
  case lsub =>
    obtain ⟨x, y, r, u, v, rs, rfl, hx, bx, by_, gr⟩ := W2' hx a4
    cases hx
    exact fin (List.mem_singleton.mpr rfl) (hv0.stk ⟨gv_aj (fj_ok (Int64.toInt_sub u v) (Int.sub_le_sub bx.1 by_.2.1) (Int.sub_le_sub bx.2.1 by_.1)) gp0, gr⟩)
  case lmul =>
    obtain ⟨x, y, r, u, v, rs, rfl, hx, bx, by_, gr⟩ := W2' hx a4
    cases hx
    exact fin (List.mem_singleton.mpr rfl) (hv0.stk ⟨gv_aj (fj_ok (Int64.toInt_mul u v) (mulI_ok bx.1 bx.2.1 by_.1 by_.2.1).1 (mulI_ok bx.1 bx.2.1 by_.1 by_.2.1).2) gp0, gr⟩)
  case ldiv =>
    obtain ⟨x, y, r, u, v, rs, rfl, hx, bx, by_, gr⟩ := W2' hx a4
    split at hx
    · rename_i hc
      cases hx
      exact ⟨ne0_64 (div_ok2 hc by_.1 by_.2.1), fin (List.mem_singleton.mpr rfl) (hv0.stk ⟨gv_aj (ex2L_ok (f := fun u v => u / v) bx.1 bx.2.1 by_.1 by_.2.1 (aj_any _)) gp0, gr⟩)⟩
    · cases hx
  case lrem =>
    obtain ⟨x, y, r, u, v, rs, rfl, hx, bx, by_, gr⟩ := W2' hx a4
    split at hx
    · rename_i hc
      cases hx
      exact ⟨ne0_64 (div_ok2 hc by_.1 by_.2.1), fin (List.mem_singleton.mpr rfl) (hv0.stk ⟨gv_aj (ex2L_ok (f := fun u v => u - u / v * v) bx.1 bx.2.1 by_.1 by_.2.1 (aj_any _)) gp0, gr⟩)⟩
    · cases hx
  case lcmp =>
    obtain ⟨x, y, r, u, v, rs, rfl, hx, bx, by_, gr⟩ := W2' hx a4
    cases hx
    exact fin (List.mem_singleton.mpr rfl) (hv0.stk ⟨gv_ai (lcI_ok bx.1 bx.2.1 by_.1 by_.2.1) gp0, gr⟩)
  case i2l =>
    obtain ⟨x, r, u, rs, rfl, hx, bx, gr⟩ := U1' hx a4
    cases hx
    refine fin (List.mem_singleton.mpr rfl) (hv0.stk ⟨gv_aj (z := x.2.2) ?_ ?_, gr⟩)
    · rw [Int32.toInt_toInt64]; exact ⟨bx.1, bx.2.1⟩
    · rw [Int32.toInt_toInt64]; exact bx.2.2
  case l2i =>
    simp only [xrow] at hx
    split at hx
    · rename_i p lo hi r he
      rw [he] at a4
      obtain ⟨v, rs, rfl, g1, gr⟩ := gst_c a4
      obtain ⟨w, rfl, b1, b2, -⟩ := g1
      cases hx
      exact fin (List.mem_singleton.mpr rfl) (hv0.stk ⟨gv_ai (fi_ok (Int64.toInt_toInt32 w) b1 b2) gp0, gr⟩)
    · cases hx
  case i2b =>
    obtain ⟨x, r, u, rs, rfl, hx, bx, gr⟩ := U1' hx a4
    cases hx
    exact fin (List.mem_singleton.mpr rfl) (hv0.stk ⟨gv_ai (i2b_int u) gp0, gr⟩)
  case i2s =>
    obtain ⟨x, r, u, rs, rfl, hx, bx, gr⟩ := U1' hx a4
    cases hx
    exact fin (List.mem_singleton.mpr rfl) (hv0.stk ⟨gv_ai (i2s_int u) gp0, gr⟩)
  case i2c =>
    obtain ⟨x, r, u, rs, rfl, hx, bx, gr⟩ := U1' hx a4
    cases hx
    exact fin (List.mem_singleton.mpr rfl) (hv0.stk ⟨gv_ai (i2c_int u) gp0, gr⟩)
  case dup =>
    simp only [xrow] at hx
    split at hx
    · rename_i w r he
      rw [he] at a4
      obtain ⟨v, rs, rfl, g1, gr⟩ := gst_c a4
      split at hx
      · cases hx
      · rename_i hc
        split at hx
        · cases hx
          refine ⟨by rw [gv_cat g1, if_neg hc], fin (List.mem_singleton.mpr rfl) (hv0.stk ⟨g1, g1, gr⟩)⟩
        · cases hx
    · cases hx
  case pop =>
    simp only [xrow] at hx
    split at hx
    · rename_i w r he
      rw [he] at a4
      obtain ⟨v, rs, rfl, g1, gr⟩ := gst_c a4
      split at hx
      · cases hx
      · rename_i hc
        split at hx
        · cases hx
          refine ⟨by rw [gv_cat g1, if_neg hc], fin (List.mem_singleton.mpr rfl) (hv0.stk gr)⟩
        · cases hx
    · cases hx
  case dup2 =>
    simp only [xrow] at hx
    split at hx
    · rename_i w w2 r he
      rw [he] at a4
      obtain ⟨v, rs, rfl, g1, gr⟩ := gst_c a4
      obtain ⟨v2, rs, rfl, g2, gr⟩ := gst_c gr
      split at hx
      · cases hx
      · rename_i hc
        rw [Bool.or_eq_true, not_or] at hc
        split at hx
        · cases hx
          refine ⟨by rw [gv_cat g1, if_neg hc.1], by rw [gv_cat g2, if_neg hc.2], fin (List.mem_singleton.mpr rfl) (hv0.stk ⟨g1, g2, g1, g2, gr⟩)⟩
        · cases hx
    · cases hx
  case ifCond cd off =>
    obtain ⟨x, r, u, rs, rfl, hx, bx, gr⟩ := U1' hx a4
    cases hx
    have hy : (ai 0 (0, 0)).2.2.1 ≤ (0 : Int32).toInt ∧ (0 : Int32).toInt ≤ (ai 0 (0, 0)).2.2.2 ∧ gp rl sg ls h (ai 0 (0, 0)).2.1 (0 : Int32).toInt := ⟨Int.le_refl _, Int.le_refl _, gp0⟩
    constructor
    · intro hc
      obtain ⟨S', m1, v1⟩ := side_ok hE (hv0.stk gr) bx hy hc (tg pc off)
      exact fin (List.mem_append_left _ m1) v1
    · intro hc
      obtain ⟨S', m1, v1⟩ := side_ok hE (hv0.stk gr) bx hy (icd_neg hc) (pc + 3)
      exact fin (List.mem_append_right _ m1) v1
  case if_icmp cd off =>
    obtain ⟨x, y, r, u, v, rs, rfl, hx, bx, by_, gr⟩ := U2' hx a4
    cases hx
    constructor
    · intro hc
      obtain ⟨S', m1, v1⟩ := side_ok hE (hv0.stk gr) bx by_ hc (tg pc off)
      exact fin (List.mem_append_left _ m1) v1
    · intro hc
      obtain ⟨S', m1, v1⟩ := side_ok hE (hv0.stk gr) bx by_ (icd_neg hc) (pc + 3)
      exact fin (List.mem_append_right _ m1) v1
  case goto off =>
    cases hx
    exact fin (List.mem_singleton.mpr rfl) hv0
  case tableswitch dflt lo hi offs =>
    obtain ⟨x, r, u, rs, rfl, hx, bx, gr⟩ := U1' hx a4
    cases hx
    show K (tg pc (swo dflt lo offs.toList u)) ls rs h 0 0
    by_cases hlo : u.toInt < lo
    · unfold swo
      rw [if_pos hlo]
      exact fin List.mem_cons_self (hv0.stk gr)
    · by_cases hin : (u.toInt - lo).toNat < offs.toList.length
      · have e0 : offs.toList[(u.toInt - lo).toNat]? = some offs.toList[(u.toInt - lo).toNat] := List.getElem?_eq_getElem hin
        have e : swo dflt lo offs.toList u = offs.toList[(u.toInt - lo).toNat] := by
          unfold swo
          rw [if_neg hlo, e0]
          rfl
        rw [e]
        refine fin (S' := (S.1, r, S.2.2)) (List.mem_cons_of_mem _ (List.mem_map.mpr ⟨(offs.toList[(u.toInt - lo).toNat], (u.toInt - lo).toNat), List.mem_filter.mpr ⟨?_, ?_⟩, rfl⟩)) (hv0.stk gr)
        · rw [List.mem_zipIdx_iff_getElem?]
          exact e0
        · have e9 : ((u.toInt - lo).toNat : Int) = u.toInt - lo := Int.toNat_of_nonneg (by omega)
          rw [Bool.and_eq_true]
          exact ⟨decide_eq_true (by have := bx.1; show x.2.2.1 ≤ lo + ((u.toInt - lo).toNat : Int); omega), decide_eq_true (by have := bx.2.1; show lo + ((u.toInt - lo).toNat : Int) ≤ x.2.2.2; omega)⟩
      · unfold swo
        rw [if_neg hlo, List.getElem?_eq_none (by omega)]
        exact fin List.mem_cons_self (hv0.stk gr)
  case lookupswitch dflt ps =>
    obtain ⟨x, r, u, rs, rfl, hx, bx, gr⟩ := U1' hx a4
    cases hx
    show K (tg pc (Op.lookupswitch.offset ps.toList dflt u.toInt)) ls rs h 0 0
    have : ∀ (l9 : List (Int × Int)) (d z : Int), Op.lookupswitch.offset l9 d z = d ∨ ∃ q ∈ l9, Op.lookupswitch.offset l9 d z = q.2 := by
      intro l9
      induction l9 with
      | nil => intro d z; exact Or.inl rfl
      | cons q t ih =>
        intro d z
        obtain ⟨a, b⟩ := q
        unfold Op.lookupswitch.offset
        split
        · exact Or.inr ⟨_, List.mem_cons_self, rfl⟩
        · rcases ih d z with h9 | ⟨q, h9, h8⟩
          · exact Or.inl h9
          · exact Or.inr ⟨q, List.mem_cons_of_mem _ h9, h8⟩
    rcases this ps.toList dflt u.toInt with h9 | ⟨q, h9, h8⟩
    · rw [h9]; exact fin List.mem_cons_self (hv0.stk gr)
    · rw [h8]; exact fin (List.mem_cons_of_mem _ (List.mem_map.mpr ⟨q, h9, rfl⟩)) (hv0.stk gr)
  case getfield n =>
    simp only [xrow] at hx
    split at hx
    · rename_i r z rest he
      rw [he] at a4
      obtain ⟨v, rs, rfl, g1, gr⟩ := gst_c a4
      obtain ⟨c, rfl, hr⟩ := g1
      split at hx
      · rename_i hc
        rw [Bool.and_eq_true] at hc
        refine ⟨?_, ?_⟩
        · rw [shp hE a1 hr, ← Nat.beq_eq.mp hc.1, ← Nat.beq_eq.mp hc.2]
        · unfold fv
          split at hx
          · rename_i e3
            cases hx
            rw [e3]
            exact fin (List.mem_singleton.mpr rfl) (hv0.stk ⟨gv_aj (aj_any _) gp0, gr⟩)
          · rename_i e3
            split at hx
            · rename_i q hq
              cases hx
              rw [e3]
              exact fin (List.mem_singleton.mpr rfl) (hv0.stk ⟨rdR_ok hE a1 hr hq (Nat.le_refl _) (Nat.le_refl _) (gR_low hL hq), gr⟩)
            · cases hx
          · rename_i e1 e2
            cases hx
            split
            · rename_i e3; exact absurd e3 e1
            · rename_i e3; exact absurd e3 e2
            · exact fin (List.mem_singleton.mpr rfl) (hv0.stk ⟨rdI_ok hE a1 a5 hr (Nat.le_refl _) (Nat.le_refl _), gr⟩)
      · cases hx
    · cases hx
  case putfield n =>
    simp only [xrow] at hx
    split at hx
    · rename_i w r z rest he
      rw [he] at a4
      obtain ⟨v, rs1, rfl, g1, g0⟩ := gst_c a4
      obtain ⟨v2, rs, rfl, g2, gr⟩ := gst_c g0
      obtain ⟨c, rfl, hr⟩ := g2
      split at hx
      · rename_i hc
        rw [Bool.and_eq_true] at hc
        have hsh : h.1[c]? = some (100 + r1, nf r1) := by rw [shp hE a1 hr, ← Nat.beq_eq.mp hc.1, ← Nat.beq_eq.mp hc.2]
        simp only [stp]
        split at hx
        · split at hx
          · rename_i hk0
            obtain ⟨u, rfl, b⟩ := k0 g1 hk0
            obtain ⟨S', m1, v1⟩ := wrI_ok hE hv0 hr gr (Nat.le_refl _) (Nat.le_refl _) b.1 b.2.1 hx
            exact ⟨hsh, fin m1 v1⟩
          · cases hx
        · split at hx
          · rename_i hk0
            simp only [Bool.and_eq_true] at hk0
            obtain ⟨u, rfl, b⟩ := k0 g1 hk0.1.1
            obtain ⟨S', m1, v1⟩ := wrI_ok hE hv0 hr gr (Nat.le_refl _) (Nat.le_refl _) b.1 b.2.1 hx
            refine ⟨hsh, ?_, fin m1 v1⟩
            have q1 := ile_t hk0.1.2
            have q2 := ile_t hk0.2
            have b1 := b.1
            have b2 := b.2.1
            rcases (show u.toInt = 0 ∨ u.toInt = 1 by omega) with e | e
            · left; exact Int32.toInt_inj.mp e
            · right; exact Int32.toInt_inj.mp e
          · cases hx
        · split at hx
          · rename_i hk0
            rw [Bool.and_eq_true] at hk0
            obtain ⟨u, rfl, b⟩ := k1 g1 hk0.1
            cases hx
            exact ⟨hsh, fin (List.mem_singleton.mpr rfl) (ivJ hE hv0 hr gr hk0.2 (Nat.le_refl _) (Nat.le_refl _))⟩
          · cases hx
        · split at hx
          · rename_i hk0
            simp only [Bool.and_eq_true] at hk0
            obtain ⟨kk, p, z9⟩ := w
            obtain rfl : kk = 2 := Nat.beq_eq.mp hk0.1.1
            obtain ⟨d, rfl, hd⟩ := g1
            cases hx
            refine ⟨hsh, (List.getElem?_eq_some_iff.mp (shp hE a1 hd)).1, fin (List.mem_singleton.mpr rfl) (ivR hE hv0 hr hd gr hk0.2 hk0.1.2)⟩
          · cases hx
        · cases hx
      · cases hx
    · cases hx
  case iaload =>
    simp only [xrow] at hx
    obtain ⟨r, a, b, rest, c, x, st', rfl, hx, hr, hin, q1, q2, gr⟩ := ac1_ok hE a1 hx a4
    cases hx
    exact ⟨hin, fin (List.mem_singleton.mpr rfl) (hv0.stk ⟨rdI_ok hE a1 a5 hr q1 q2, gr⟩)⟩
  case caload =>
    simp only [xrow] at hx
    obtain ⟨r, a, b, rest, c, x, st', rfl, hx, hr, hin, q1, q2, gr⟩ := ac1_ok hE a1 hx a4
    cases hx
    exact ⟨hin, fin (List.mem_singleton.mpr rfl) (hv0.stk ⟨rdI_ok hE a1 a5 hr q1 q2, gr⟩)⟩
  case baload =>
    simp only [xrow] at hx
    obtain ⟨r, a, b, rest, c, x, st', rfl, hx, hr, hin, q1, q2, gr⟩ := ac1_ok hE a1 hx a4
    cases hx
    exact ⟨hin, fin (List.mem_singleton.mpr rfl) (hv0.stk ⟨rdI_ok hE a1 a5 hr q1 q2, gr⟩)⟩
  case laload =>
    simp only [xrow] at hx
    obtain ⟨r, a, b, rest, c, x, st', rfl, hx, hr, hin, q1, q2, gr⟩ := ac1_ok hE a1 hx a4
    cases hx
    exact ⟨hin, fin (List.mem_singleton.mpr rfl) (hv0.stk ⟨gv_aj (aj_any _) gp0, gr⟩)⟩
  case aaload =>
    simp only [xrow] at hx
    split at hx
    · rename_i i r z rest he
      rw [he] at a4
      split at hx
      · rename_i hc
        simp only [Bool.and_eq_true] at hc
        obtain ⟨⟨⟨⟨h1, h2⟩, h3⟩, h4⟩, h5⟩ := hc
        split at hx
        · rename_i q hq
          cases hx
          obtain ⟨v, rs, rfl, g1, g2⟩ := gst_c a4
          obtain ⟨w, rs, rfl, g3, gr⟩ := gst_c g2
          obtain ⟨x, rfl, b1, b2, -⟩ := k0 g1 h1
          obtain ⟨c, rfl, hr⟩ := g3
          have q9 := iix b1 b2 h4 h5
          have w := vin_of (x := x) (n := (eS E r).2) (by have := ile_t h4; omega) q9.2.2.2
          refine ⟨⟨(eS E r).1, (eS E r).2, shp hE a1 hr, Nat.ble_eq.mp h2, Nat.ble_eq.mp h3, w.1⟩, fin (List.mem_singleton.mpr rfl) (hv0.stk ⟨rdR_ok hE a1 hr hq ?_ ?_ (gR_low hL hq), gr⟩)⟩
          · rw [w.2]; exact q9.2.1
          · rw [w.2]; exact q9.2.2.1
        · cases hx
      · cases hx
    · cases hx
  case iastore =>
    simp only [xrow] at hx
    split at hx
    · rename_i w vs he
      rw [he] at a4
      obtain ⟨v, rs, rfl, g1, g2⟩ := gst_c a4
      split at hx
      · rename_i hk0
        obtain ⟨u, rfl, b9⟩ := k0 g1 hk0
        obtain ⟨r, a, b, rest, c, x, st', rfl, hx, hr, hin, q1, q2, gr⟩ := ac1_ok hE a1 hx g2
        obtain ⟨S', m1, v1⟩ := wrI_ok hE hv0 hr gr q1 q2 b9.1 b9.2.1 hx
        exact ⟨hin, fin m1 v1⟩
      · cases hx
    · cases hx
  case castore =>
    simp only [xrow] at hx
    split at hx
    · rename_i w vs he
      rw [he] at a4
      obtain ⟨v, rs, rfl, g1, g2⟩ := gst_c a4
      split at hx
      · rename_i hk0
        obtain ⟨u, rfl, b9⟩ := k0 g1 hk0
        obtain ⟨r, a, b, rest, c, x, st', rfl, hx, hr, hin, q1, q2, gr⟩ := ac1_ok hE a1 hx g2
        obtain ⟨S', m1, v1⟩ := wrI_ok hE hv0 hr gr q1 q2 (vnc_int u).1 (vnc_int u).2 hx
        exact ⟨hin, fin m1 v1⟩
      · cases hx
    · cases hx
  case bastore =>
    simp only [xrow] at hx
    split at hx
    · rename_i w vs he
      rw [he] at a4
      obtain ⟨v, rs, rfl, g1, g2⟩ := gst_c a4
      split at hx
      · rename_i hk0
        obtain ⟨u, rfl, b9⟩ := k0 g1 hk0
        obtain ⟨r, a, b, rest, c, x, st', rfl, hx, hr, hin, q1, q2, gr⟩ := ac1_ok hE a1 hx g2
        split at hx
        · rename_i h01
          rw [Bool.and_eq_true] at h01
          have e1 := ile_t h01.1
          have e2 := ile_t h01.2
          have e3 := b9.1
          have e4 := b9.2.1
          have e5 := vnb_id (u := u) (by omega) (by omega)
          have e6 : w.2.2.1 ≤ (vp_nar .boolean u).toInt := by rw [e5]; exact e3
          have e7 : (vp_nar .boolean u).toInt ≤ w.2.2.2 := by rw [e5]; exact e4
          obtain ⟨S', m1, v1⟩ := wrI_ok hE hv0 hr gr q1 q2 e6 e7 hx
          exact ⟨hin, fin m1 v1⟩
        · obtain ⟨S', m1, v1⟩ := wrI_ok hE hv0 hr gr q1 q2 (vnb_int u).1 (vnb_int u).2 hx
          exact ⟨hin, fin m1 v1⟩
      · cases hx
    · cases hx
  case lastore =>
    simp only [xrow] at hx
    split at hx
    · rename_i w vs he
      rw [he] at a4
      obtain ⟨v, rs, rfl, g1, g2⟩ := gst_c a4
      split at hx
      · rename_i hk0
        obtain ⟨u, rfl, b9⟩ := k1 g1 hk0
        obtain ⟨r, a, b, rest, c, x, st', rfl, hx, hr, hin, q1, q2, gr⟩ := ac1_ok hE a1 hx g2
        split at hx
        · rename_i hm
          cases hx
          exact ⟨hin, fin (List.mem_singleton.mpr rfl) (ivJ hE hv0 hr gr hm q1 q2)⟩
        · cases hx
      · cases hx
    · cases hx
  case arraylength =>
    simp only [xrow] at hx
    split at hx
    · rename_i r z rest he
      rw [he] at a4
      obtain ⟨v, rs, rfl, g1, gr⟩ := gst_c a4
      obtain ⟨c, rfl, hr⟩ := g1
      split at hx
      · rename_i hc
        rw [Bool.and_eq_true] at hc
        cases hx
        refine ⟨(eS E r).1, (eS E r).2, shp hE a1 hr, by simpa [Nat.blt_eq] using hc.1, fin (List.mem_singleton.mpr rfl) (hv0.stk ⟨gv_ai ?_ gp0, gr⟩)⟩
        have := ofNat_int (n := (eS E r).2) (by simpa [Nat.blt_eq] using hc.2)
        rw [this]
        exact ⟨Int.le_refl _, Int.le_refl _⟩
      · cases hx
    · cases hx
  case invokevirtual n =>
    exact call_ok hE hwf hsm hmono hx hv0 hk
  case invokestatic n =>
    exact call_ok hE hwf hsm hmono hx hv0 hk
  all_goals exact absurd hx (fun q => by cases q)
end AIW
