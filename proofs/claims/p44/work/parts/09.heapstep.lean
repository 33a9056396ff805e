/-! STEPS THAT READ OR WRITE CELLS -/
def nestW : List Jvm.Cond := [.methodLinkNest RX10 9 yX9_init RX10, .methodLinkNest RX10 18 yX3_init RX10, .methodLinkNest RX10 25 yX6_init RX10, .methodLinkNest RX10 35 yX4_init RX10, .methodLinkNest RX10 45 yX5_init RX10, .methodLinkNest RX10 52 yX2_init RX10, .methodLinkNest RX10 67 yX8_init RX10, .methodLinkNest RX1 24 yX8_init RX10, .methodLinkNest RX10 84 yX0_init RX10, .methodLinkNest RX9 42 yX10_isDigit RX10, .methodLinkNest RX5 61 yX10_isDigit RX10, .methodLinkNest RX8 46 yX10_keepOnSea RX10, .methodLinkNest RX0 54 yX10_widened RX10, .methodLinkNest RX7 34 yX10_keepOnSea RX10]
/-- what the tables alone say -/
def U1 (cy : Nat → ClassId) (dC : Nat → ClassId) (dI : Nat → Nat → Nat) (adK : Nat → Nat) (U : State) : Prop :=
  va_K (dC, dI) vwCl (tysF cy) U ∧ va_AO RX8 U ∧ va_AOA .int U ∧ va_AOA .long U ∧ (∀ w ∈ nestW, va_Nw w U) ∧ ∀ i, i < 6 → vk_R RX11 (sidx.getD i 0) (stxt.getD i "") (adK i) U
theorem nestW_link : ∀ w ∈ nestW, ∃ a i x h, w = Jvm.Cond.methodLinkNest a i x h := by
  intro w hw
  simp only [nestW, List.mem_cons, List.not_mem_nil, or_false] at hw
  rcases hw with h | h | h | h | h | h | h | h | h | h | h | h | h | h <;> exact ⟨_, _, _, _, h⟩
theorem U1.warm {cy : Nat → ClassId} {dC : Nat → ClassId} {dI : Nat → Nat → Nat} {adK : Nat → Nat} {s U : State} (hW : s.WarmedH U.vm) (h : U1 cy dC dI adK s) : U1 cy dC dI adK U := by
  obtain ⟨h1, h2, h3, h4, h5, h6⟩ := h
  refine ⟨va_K.moved hW.alike h1, va_AO.moved hW.alike h2, va_AOA.moved hW.alike h3, va_AOA.moved hW.alike h4, fun w hw => ?_, fun i hi => vk_R.warm hW (h6 i hi)⟩
  obtain ⟨a, i, x, q, rfl⟩ := nestW_link w hw
  exact va_Nw.warmM hW (h5 _ hw)
theorem U1.same {cy : Nat → ClassId} {dC : Nat → ClassId} {dI : Nat → Nat → Nat} {adK : Nat → Nat} {u U : State} (hv : U.vm = u.vm) (h : U1 cy dC dI adK u) : U1 cy dC dI adK U := by
  obtain ⟨h1, h2, h3, h4, h5, h6⟩ := h
  have ha : u.vm.Alike U.vm := by rw [hv]; exact Vm.Alike.refl _
  refine ⟨va_K.moved ha h1, va_AO.moved ha h2, va_AOA.moved ha h3, va_AOA.moved ha h4, fun w hw => ?_, fun i hi => vk_R.same hv (h6 i hi)⟩
  obtain ⟨a, i, x, q, rfl⟩ := nestW_link w hw
  exact va_Nw.same rfl hv.symm (h5 _ hw)
section SND2
variable {p : Program} {l : Launch} {e : Env} {R : Room} {s : State} {m : MethodId} {args : Array Value} {below : List Frame} {meth : Method} {c : Code} {Z : State → Prop}
variable {cc : ByteArray} {nL : Nat} {own : String} {isI : Bool} {ret : Option FieldType}
variable {cy : Nat → ClassId} {dC : Nat → ClassId} {dI : Nat → Nat → Nat} {A : Nat → Prop} {ad0 : Nat → Nat} {bz n0 C S : Nat} {adK : Nat → Nat}
theorem va_aldA {H : Heap} {locs : List Loc} {cells slots : Nat} {Q : State → Prop} {pc : Nat} {ls : Array Slot} {rest : List Value} {D : va_G} {cl : List vw_C} {a : Nat} {tys : List (ClassId × FieldType)} {ws : va_W} (hexec : p.tables.exec = Jvm.exec) (hb : c.code = cc) (hK : va_K D cl tys s) (hP : va_P D cl ws H) (q0 t0 : Nat) {cA : ClassId} {ty : FieldType} (hty : ty.isReference = true) {n : Nat} {f : Nat → Option Nat} (ha : ws[q0]? = some (a, .inl (cA, n, .inr (.inr (.inr (.inr f)))))) (ht : tys[t0]? = some (cA, ty)) {i : Int32} (hin : vp_in i n) (hdg : decode cc pc = .ok (.aaload, 1))
    (kk : W p l e R s m args below meth c H locs cells slots Q (F0 m (pc + 1) ls (va_rf (f i.toNatClampNeg) :: rest))) : W p l e R s m args below meth c H locs cells slots Q (F0 m pc ls (.int i :: .ref a :: rest)) := by
  have hlt : i.toNatClampNeg < n := Nat.not_le.mp fun q => hin (Or.inr q)
  exact W.aald (v := va_rf (f i.toNatClampNeg)) (ty := ty) hexec hb (hP q0 _ ha) ((hK.2 t0 _ ht).1 n (fun j => va_rf (f j))) hty (fun q => by cases q) (by show ¬ (i < 0 ∨ (arrV _ _ _).slots.size ≤ _); rw [arrV_size]; exact hin) (by show (arrV _ _ _).slots[_]? = _; rw [arrV_read _ _ hlt]) rfl rfl hdg kk
theorem cy_prim {t : Nat} {cA : ClassId} {ty : FieldType} (hK : va_K (dC, dI) vwCl (tysF cy ++ [(cA, ty)]) s) (ht : t < 7) (hty : fty t = ty) : cA = cy t := by
  have h1 := (hK.2 7 (cA, ty) rfl).2
  have h2 := (hK.2 t (cy t, fty t) (by
    have := tys_at cy ht
    rw [List.getElem?_append_left (by have := (List.getElem?_eq_some_iff.mp this).1; exact this)]
    exact this)).2
  rw [hty] at h2
  cases ty with
  | object C =>
    obtain ⟨_, _, _, _, _, g1⟩ := h1
    obtain ⟨_, _, _, _, _, g2⟩ := h2
    rw [g1] at g2
    exact Option.some.inj g2
  | _ =>
    have g1 : s.vm.findClass _ = some cA := h1
    have g2 : s.vm.findClass _ = some (cy t) := h2
    rw [g1] at g2
    exact Option.some.inj g2
/-- the places of new T[n][m]: the outer array, then its rows -/
def nMad (ad : Nat → Nat) (L q : Nat) (r : Nat → Nat) : Nat → Nat := fun j => if j < L ∨ 1000000 ≤ j then ad j else if j = L then q else r (j - L - 1)
theorem nOs_len (h : aH) (s' : Nat × Nat) : ∀ n, (nOs h s' n).1.length = h.1.length + n
  | 0 => rfl
  | n + 1 => by show (nO (nOs h s' n) s').1.length = _; rw [nO_len, nOs_len h s' n]; omega
theorem nOs_RV {h : aH} {s' : Nat × Nat} (hv : RV h) : ∀ n, RV (nOs h s' n)
  | 0 => hv
  | n + 1 => nO_RV (nOs_RV hv n)
theorem wd_nOs {cy : Nat → ClassId} {h : aH} {s' : Nat × Nat} (hv : RV h) : ∀ (n : Nat) (ad : Nat → Nat), wd cy ad (nOs h s' n) = wd cy ad h ++ (List.range n).map (fun i => (ad (h.1.length + i), enN cy s'))
  | 0, ad => by simp [nOs]
  | n + 1, ad => by
    have e := wd_nO (cy := cy) (ad := ad) (s := s') (nOs_RV (s' := s') hv n) (ad (h.1.length + n))
    have e2 : a_up ad (nOs h s' n).1.length (ad (h.1.length + n)) = ad := by
      funext j
      unfold a_up
      split
      · rename_i hj; rw [hj, nOs_len]
      · rfl
    rw [e2] at e
    show wd cy ad (nO (nOs h s' n) s') = _
    rw [e, wd_nOs hv n ad, List.range_succ, List.map_append, List.append_assoc]
    rfl
theorem nM_aR (h : aH) (t0 t1 n k : Nat) : aR (nM h t0 t1 n k) = a_up (aR (nOs (nO h (t0, n)) (t1, k) n)) h.1.length (fun i => if i < n then some (h.1.length + 1 + i) else none) := rfl
theorem wd_nM {cy : Nat → ClassId} {ad : Nat → Nat} {h : aH} {t0 t1 n k : Nat} (hv : RV h) (ht : 4 ≤ t0) (ht2 : t0 < 100) (q : Nat) (r : Nat → Nat) (hlt : h.1.length + 1 + n < 1000000) :
    wd cy (nMad ad h.1.length q r) (nM h t0 t1 n k) = (wd cy ad h ++ [(q, .inl (cy t0, n, .inr (.inr (.inr (.inr (fun i => if i < n then some (r i) else none))))))]) ++ (List.range n).map (fun i => (r i, enN cy (t1, k))) := by
  have e1 := wd_nOs (cy := cy) (h := nO h (t0, n)) (s' := (t1, k)) (nO_RV hv) n (nMad ad h.1.length q r)
  have hL : (nO h (t0, n)).1.length = h.1.length + 1 := nO_len _ _
  have en : ∀ i, i < n → nMad ad h.1.length q r (h.1.length + 1 + i) = r i := fun i hi => by
    unfold nMad
    rw [if_neg (by omega), if_neg (by omega)]
    congr 1; omega
  have eo : nMad ad h.1.length q r h.1.length = q := by
    unfold nMad
    rw [if_neg (by omega), if_pos rfl]
  have ead : a_up (nMad ad h.1.length q r) h.1.length q = nMad ad h.1.length q r := by
    funext j
    unfold a_up
    split
    · rename_i hj; rw [hj, eo]
    · rfl
  have e2 := wd_nO (cy := cy) (ad := nMad ad h.1.length q r) (s := (t0, n)) hv q
  rw [ead, wd_ad hv (ad := ad) (ad' := nMad ad h.1.length q r) (fun j hj => by unfold nMad; rw [if_pos (Or.inl hj)])] at e2
  rw [e2, hL] at e1
  have e3 : (List.range n).map (fun i => (nMad ad h.1.length q r (h.1.length + 1 + i), enN cy (t1, k))) = (List.range n).map (fun i => (r i, enN cy (t1, k))) := List.map_congr_left fun i hi => by rw [en i (List.mem_range.mp hi)]
  rw [e3] at e1
  -- the outer row, set
  have hsL : (nOs (nO h (t0, n)) (t1, k) n).1[h.1.length]? = some (t0, n) := by
    have : ∀ z, (nOs (nO h (t0, n)) (t1, k) z).1[h.1.length]? = some (t0, n) := by
      intro z
      induction z with
      | zero => simp [nOs, nO]
      | succ z ih =>
        show ((nOs (nO h (t0, n)) (t1, k) z).1 ++ [(t1, k)])[h.1.length]? = _
        rw [List.getElem?_append_left (by rw [nOs_len, hL]; omega)]
        exact ih
    exact this n
  have e4 := wd_set (cy := cy) (ad := nMad ad h.1.length q r) (h := nOs (nO h (t0, n)) (t1, k) n) (h' := nM h t0 t1 n k) (a := h.1.length) (s := (t0, n)) (e := .inl (cy t0, n, .inr (.inr (.inr (.inr (fun i => if i < n then some (r i) else none)))))) hsL rfl (by
    rw [enS_arr _ _ _ _ ht2]
    unfold arc
    rw [if_neg (by omega), if_pos ht]
    congr 7
    funext i
    have : aR (nM h t0 t1 n k) h.1.length i = if i < n then some (h.1.length + 1 + i) else none := by
      rw [nM_aR, up_s]
    rw [this]
    split
    · rename_i hi; show some _ = _; rw [en i hi]
    · rfl) (fun i s' hi => enS_congr rfl rfl (up_n hi))
  rw [← e4, e1, eo]
  have hlen : (wd cy ad h).length = h.1.length := wd_len _ _ _
  rw [List.append_assoc, List.set_append_right _ _ (by rw [hlen]; exact Nat.le_refl _), hlen, Nat.sub_self]
  simp
theorem nM_len (h : aH) (t0 t1 n k : Nat) : (nM h t0 t1 n k).1.length = h.1.length + 1 + n := by
  show (nOs (nO h (t0, n)) (t1, k) n).1.length = _
  rw [nOs_len, nO_len]
theorem nM_RV {h : aH} {t0 t1 n k : Nat} (hv : RV h) : RV (nM h t0 t1 n k) := by
  intro a j b hb
  rw [nM_len]
  by_cases e : a = h.1.length
  · subst e
    have : aR (nM h t0 t1 n k) h.1.length j = if j < n then some (h.1.length + 1 + j) else none := by
      rw [nM_aR, up_s]
    rw [this] at hb
    split at hb
    · cases hb; omega
    · cases hb
  · have : aR (nM h t0 t1 n k) a j = aR (nOs (nO h (t0, n)) (t1, k) n) a j := by
      rw [nM_aR, up_n e]
    rw [this] at hb
    have := nOs_RV (s' := (t1, k)) (nO_RV (s := (t0, n)) hv) n a j b hb
    rw [nOs_len, nO_len] at this
    exact this
set_option maxHeartbeats 4000000 in
theorem snd_cell {CL : CT} {Q : QT} {K : KT} (hx : p.tables.exec = Jvm.exec) (hb : c.code = cc) (hown : s.vm.findClass own = some m.cls) (hts : ∀ w ∈ GW, w.before args s = true) (hini : isI = true → meth.name = "<init>") (hU : U1 cy dC dI adK s) (hA : ∀ q, s.heap.size ≤ q → A q) (hstr : ∀ i, i < 6 → ad0 (1000000 + i) = adK i) (hCR : C ≤ R.cells) (hSR : S ≤ R.slots) (hK : GO p l e R s m args below meth c Z nL cy dC dI A ad0 bz n0 C S K)
    {i : Instr} {r1 r2 : Nat} {r3 : Int} {pc : Nat} {ls : List (Nat × Value)} {st : List Value} {h : aH} {bc bs : Nat} {len : Nat} (hd : decode cc pc = .ok (i, len)) (hlen : isSw i = true ∨ len = lenI i) (hcf : cfx own isI pc i r1 r2 r3) (hst : stp CL ret Q K i r1 r2 r3 pc ls st h bc bs)
    {ad : Nat → Nat} {arr : Array Slot} {H : Heap} {locs : List Loc} {cells slots : Nat} (had : HAD bz n0 ad0 ad bc) (hn0 : n0 ≤ h.1.length) (hsm : h.1.length < 1000000) (hS : Std cy dC dI A s.heap ad h H locs) (hl : lv_has arr nL (cvl ad ls)) (hc : cells + bc ≤ C) (hs : slots + bs ≤ S)
    (hpl : pln i = false) (hni : (match i with
      | .invokevirtual _ => false
      | .invokespecial _ => false
      | .invokestatic _ => false
      | .ireturn => false
      | .lreturn => false
      | .return_ => false
      | _ => true) = true) :
    W p l e R s m args below meth c H locs cells slots Z (F0 m pc arr (st.map (cv ad))) := by
  have go : ∀ {pc' : Nat} {ls' : List (Nat × Value)} {st' : List Value}, K pc' ls' st' h bc bs → ∀ {arr' : Array Slot}, lv_has arr' nL (cvl ad ls') → W p l e R s m args below meth c H locs cells slots Z (F0 m pc' arr' (st'.map (cv ad))) := fun k _ hl' => hK _ _ _ _ _ _ k ad _ H locs cells slots had hn0 hsm hS hl' hc hs
  obtain ⟨hP, hD, hSS, hRV⟩ := hS
  obtain ⟨uK, uO, uA1, uA2, uN, uR⟩ := hU
  cases i
  case ldc n =>
    obtain rfl : len = 2 := by simpa [isSw, lenI] using hlen
    rcases hcf with ⟨rfl, hw⟩ | ⟨rfl, h2, rfl, h3⟩
    · exact lv_ldc hx hb hown (hts _ hw) hd (go hst hl)
    · have hk := go hst hl
      have e : ad (1000000 + r2) = adK r2 := by rw [had.1 _ (Or.inr (by omega)), hstr r2 h2]
      have hz := uR r2 h2
      rw [h3] at hz
      refine va_ldcS hx hb hown hz hd ?_
      rw [← e]
      exact hk
  case ldc_w n =>
    obtain rfl : len = 3 := by simpa [isSw, lenI] using hlen
    rcases hcf with ⟨rfl, hw⟩ | ⟨rfl, h2, rfl, h3⟩
    · exact lv_ldcw hx hb hown (hts _ hw) hd (go hst hl)
    · have hk := go hst hl
      have e : ad (1000000 + r2) = adK r2 := by rw [had.1 _ (Or.inr (by omega)), hstr r2 h2]
      have hz := uR r2 h2
      rw [h3] at hz
      refine va_ldcwS hx hb hown hz hd ?_
      rw [← e]
      exact hk
  case getfield n =>
    obtain rfl : len = 3 := by simpa [isSw, lenI] using hlen
    obtain ⟨a, r, rfl, hsh, k⟩ := pr_inv hst
    obtain ⟨h1, h2, h3, hw⟩ := hcf
    obtain ⟨C', T, N, ty, k1, k2, k3, k4, k5, k6, k7, k8⟩ := cls_ok h1
    have he := wd_get (cy := cy) (ad := ad) hsh
    rw [enS_obj] at he
    rw [k8] at hw
    refine va_get (D := (dC, dI)) (ci := r1) hx hb hts k2 hown uK hP a he k1 r2 (by rw [k6]; exact h2) (hts _ hw) (fun _ h9 => h9) (rng_get _ h2) hd ?_
    rw [wv_cv]
    have e3 : r3.toNat = fkd r1 r2 := by rw [h3]; rfl
    rw [← e3]
    exact go k hl
  case putfield n =>
    obtain rfl : len = 3 := by simpa [isSw, lenI] using hlen
    obtain ⟨h1, h2, h3, hw, hfin⟩ := hcf
    obtain ⟨C', T, N, ty, k1, k2, k3, k4, k5, k6, k7, k8⟩ := cls_ok h1
    rw [k8] at hw hfin
    have hkd := k5 r2 (by rw [k6]; exact h2)
    -- one store, whatever the kind
    have one : ∀ (a : Nat) (v : Value) (r : List Value) (h' : aH), h.1[a]? = some (100 + r1, nf r1) → narrow (ty r2) v = v → fits (ty r2) v = true →
        (wd cy ad h).set a (ad a, .inr (r1, ((List.range (nf r1)).map (fun k => wv ad h a k (fkd r1 k))).set r2 v)) = wd cy ad h' → RV h' → h'.1.length = h.1.length → K (pc + 3) ls r h' bc bs →
        W p l e R s m args below meth c H locs cells slots Z (F0 m pc arr (v :: .ref (ad a) :: r.map (cv ad))) := by
      intro a v r h' hsh hn hf hset hv' hl' k
      have he := wd_get (cy := cy) (ad := ad) hsh
      rw [enS_obj] at he
      rcases hfin with hfin | ⟨hfi, hdecl⟩
      · by_cases hff : (T r2).2.2.2 = true
        · exact absurd hff (by rw [hfin]; decide)
        · refine va_put (D := (dC, dI)) (ci := r1) hx hb hts k2 ty k4 k3 hown uK hP hD hSS a he k1 r2 (by rw [k6]; exact h2) (hts _ hw) (fun _ h9 => h9) hfin (k4 r2 (by rw [k6]; exact h2)) hn hf (by simpa using h2) hd (fun H1 locs1 hP1 hD1 hS1 => ?_)
          rw [hset] at hP1 hD1
          exact hK _ _ _ _ _ _ k ad _ H1 locs1 cells slots had (by rw [hl']; exact hn0) (by rw [hl']; exact hsm) ⟨hP1, hD1, hS1, hv'⟩ hl hc hs
      · by_cases hff : (T r2).2.2.2 = true
        · refine va_putF (D := (dC, dI)) (ci := r1) hx hb hts k2 ty k4 k3 hown uK hP hD hSS a he k1 r2 (by rw [k6]; exact h2) (hts _ hw) (fun _ h9 => h9) hff (hini hfi) hdecl (k4 r2 (by rw [k6]; exact h2)) hn hf (by simpa using h2) hd (fun H1 locs1 hP1 hD1 hS1 => ?_)
          rw [hset] at hP1 hD1
          exact hK _ _ _ _ _ _ k ad _ H1 locs1 cells slots had (by rw [hl']; exact hn0) (by rw [hl']; exact hsm) ⟨hP1, hD1, hS1, hv'⟩ hl hc hs
        · refine va_put (D := (dC, dI)) (ci := r1) hx hb hts k2 ty k4 k3 hown uK hP hD hSS a he k1 r2 (by rw [k6]; exact h2) (hts _ hw) (fun _ h9 => h9) (by simpa using hff) (k4 r2 (by rw [k6]; exact h2)) hn hf (by simpa using h2) hd (fun H1 locs1 hP1 hD1 hS1 => ?_)
          rw [hset] at hP1 hD1
          exact hK _ _ _ _ _ _ k ad _ H1 locs1 cells slots had (by rw [hl']; exact hn0) (by rw [hl']; exact hsm) ⟨hP1, hD1, hS1, hv'⟩ hl hc hs
    rcases (show fkd r1 r2 = 0 ∨ fkd r1 r2 = 1 ∨ fkd r1 r2 = 2 ∨ fkd r1 r2 = 3 by
      revert hkd
      generalize fkd r1 r2 = z
      intro hkd
      match z, hkd with
      | 0, _ => exact Or.inl rfl
      | 1, _ => exact Or.inr (Or.inl rfl)
      | 2, _ => exact Or.inr (Or.inr (Or.inl rfl))
      | 3, _ => exact Or.inr (Or.inr (Or.inr rfl))
      | z + 4, hkd => exact False.elim hkd) with hz | hz | hz | hz <;> rw [hz] at h3 hkd <;> subst h3
    · obtain ⟨a, x, r, rfl, hsh, k⟩ := pir_inv hst
      exact one a (.int x) r _ hsh (by rw [show ty r2 = .int from hkd]; rfl) (by rw [show ty r2 = .int from hkd]; rfl) (wd_sI_obj hsh (by rw [hz]; decide)) (RV_sI hRV) rfl k
    · obtain ⟨a, x, r, rfl, hsh, k⟩ := plr_inv hst
      exact one a (.long x) r _ hsh (by rw [show ty r2 = .long from hkd]; rfl) (by rw [show ty r2 = .long from hkd]; rfl) (wd_sJ_obj hsh hz) (RV_sJ hRV) rfl k
    · obtain ⟨a, x, r, rfl, hsh, hlt, k⟩ := prr_inv hst
      have hrf : (ty r2).isReference = true := hkd
      exact one a (.ref (ad x)) r _ hsh (by cases hq : ty r2 <;> rw [hq] at hrf <;> first | rfl | cases hrf) (by cases hq : ty r2 <;> rw [hq] at hrf <;> first | rfl | cases hrf) (wd_sR_obj hsh hz) (RV_sR hRV hlt) rfl k
    · obtain ⟨a, x, r, rfl, hsh, h01, k⟩ := pir_inv hst
      have hbo : ty r2 = .boolean := hkd
      exact one a (.int x) r _ hsh (by rw [hbo]; rcases h01 with rfl | rfl <;> rfl) (by rw [hbo]; rcases h01 with rfl | rfl <;> rfl) (wd_sI_obj hsh (by rw [hz]; decide)) (RV_sI hRV) rfl k
  case iaload =>
    obtain rfl : len = 1 := by simpa [isSw, lenI] using hlen
    obtain ⟨a, x, r, rfl, ⟨n, hsh, hin⟩, k⟩ := pir_inv hst
    have he := wd_get (cy := cy) (ad := ad) hsh
    rw [enS_arr _ _ _ _ (by omega)] at he
    exact va_iald hx hb uK hP a 0 he rfl hin hd (go k hl)
  case caload =>
    obtain rfl : len = 1 := by simpa [isSw, lenI] using hlen
    obtain ⟨a, x, r, rfl, ⟨n, hsh, hin⟩, k⟩ := pir_inv hst
    have he := wd_get (cy := cy) (ad := ad) hsh
    rw [enS_arr _ _ _ _ (by omega)] at he
    exact va_cald hx hb uK hP a 2 he rfl hin hd (go k hl)
  case baload =>
    obtain rfl : len = 1 := by simpa [isSw, lenI] using hlen
    obtain ⟨a, x, r, rfl, ⟨n, hsh, hin⟩, k⟩ := pir_inv hst
    have he := wd_get (cy := cy) (ad := ad) hsh
    rw [enS_arr _ _ _ _ (by omega)] at he
    exact va_zald hx hb uK hP a 3 he rfl hin hd (go k hl)
  case laload =>
    obtain rfl : len = 1 := by simpa [isSw, lenI] using hlen
    obtain ⟨a, x, r, rfl, ⟨n, hsh, hin⟩, k⟩ := pir_inv hst
    have he := wd_get (cy := cy) (ad := ad) hsh
    rw [enS_arr _ _ _ _ (by omega)] at he
    exact va_lald hx hb uK hP a 1 he rfl hin hd (go k hl)
  case aaload =>
    obtain rfl : len = 1 := by simpa [isSw, lenI] using hlen
    obtain ⟨a, x, r, rfl, ⟨t, n, hsh, h4, h6, hin⟩, k⟩ := pir_inv hst
    have he := wd_get (cy := cy) (ad := ad) hsh
    rw [enS_arr _ _ _ _ (by omega)] at he
    unfold arc at he
    rw [if_neg (by omega), if_pos h4] at he
    refine va_aldA hx hb uK hP a t (ty := fty t) ?_ he (tys_at cy (by omega)) hin hd ?_
    · rcases (show t = 4 ∨ t = 5 ∨ t = 6 by omega) with rfl | rfl | rfl <;> rfl
    · have := go k hl
      rw [List.map_cons, cv_rf] at this
      exact this
  case iastore =>
    obtain rfl : len = 1 := by simpa [isSw, lenI] using hlen
    obtain ⟨a, x, v, r, rfl, ⟨n, hsh, hin⟩, k⟩ := piir_inv hst
    have he := wd_get (cy := cy) (ad := ad) hsh
    rw [enS_arr _ _ _ _ (by omega)] at he
    refine va_iast hx hb uK hP hD hSS a 0 he rfl hin hd (fun H1 locs1 hP1 hD1 hS1 => ?_)
    rw [wd_sI_arr hsh (Or.inl rfl)] at hP1 hD1
    exact hK _ _ _ _ _ _ k ad _ H1 locs1 cells slots had hn0 hsm ⟨hP1, hD1, hS1, RV_sI hRV⟩ hl hc hs
  case castore =>
    obtain rfl : len = 1 := by simpa [isSw, lenI] using hlen
    obtain ⟨a, x, v, r, rfl, ⟨n, hsh, hin⟩, k⟩ := piir_inv hst
    have he := wd_get (cy := cy) (ad := ad) hsh
    rw [enS_arr _ _ _ _ (by omega)] at he
    refine va_cast hx hb uK hP hD hSS a 2 he rfl hin hd (fun H1 locs1 hP1 hD1 hS1 => ?_)
    rw [wd_sI_arr hsh (Or.inr (Or.inl rfl))] at hP1 hD1
    exact hK _ _ _ _ _ _ k ad _ H1 locs1 cells slots had hn0 hsm ⟨hP1, hD1, hS1, RV_sI hRV⟩ hl hc hs
  case bastore =>
    obtain rfl : len = 1 := by simpa [isSw, lenI] using hlen
    obtain ⟨a, x, v, r, rfl, ⟨n, hsh, hin⟩, k⟩ := piir_inv hst
    have he := wd_get (cy := cy) (ad := ad) hsh
    rw [enS_arr _ _ _ _ (by omega)] at he
    refine va_zast hx hb uK hP hD hSS a 3 he rfl hin hd (fun H1 locs1 hP1 hD1 hS1 => ?_)
    rw [wd_sI_arr hsh (Or.inr (Or.inr rfl))] at hP1 hD1
    exact hK _ _ _ _ _ _ k ad _ H1 locs1 cells slots had hn0 hsm ⟨hP1, hD1, hS1, RV_sI hRV⟩ hl hc hs
  case lastore =>
    obtain rfl : len = 1 := by simpa [isSw, lenI] using hlen
    obtain ⟨a, x, v, r, rfl, ⟨n, hsh, hin⟩, k⟩ := plir_inv hst
    have he := wd_get (cy := cy) (ad := ad) hsh
    rw [enS_arr _ _ _ _ (by omega)] at he
    refine va_last hx hb uK hP hD hSS a 1 he rfl hin hd (fun H1 locs1 hP1 hD1 hS1 => ?_)
    rw [wd_sJ_arr hsh] at hP1 hD1
    exact hK _ _ _ _ _ _ k ad _ H1 locs1 cells slots had hn0 hsm ⟨hP1, hD1, hS1, RV_sJ hRV⟩ hl hc hs
  case aastore =>
    obtain rfl : len = 1 := by simpa [isSw, lenI] using hlen
    obtain ⟨a, x, v, r, rfl, ⟨n, hsh, hin⟩, hv, k⟩ := prir_inv hst
    have he := wd_get (cy := cy) (ad := ad) hsh
    rw [enS_arr _ _ _ _ (by omega)] at he
    unfold arc at he
    rw [if_neg (by omega), if_pos (by omega)] at he
    have hev := wd_get (cy := cy) (ad := ad) hv
    rw [show (108 : Nat) = 100 + 8 from rfl, enS_obj] at hev
    refine va_astq (r := (RX8, TX8, 9)) hx hb uK hP hD hSS a 4 v 8 he rfl hev rfl hin hd (fun H1 locs1 hP1 hD1 hS1 => ?_)
    rw [wd_sR_arr hsh] at hP1 hD1
    exact hK _ _ _ _ _ _ k ad _ H1 locs1 cells slots had hn0 hsm ⟨hP1, hD1, hS1, RV_sR hRV (List.getElem?_eq_some_iff.mp hv).1⟩ hl hc hs
  case arraylength =>
    obtain rfl : len = 1 := by simpa [isSw, lenI] using hlen
    obtain ⟨a, r, rfl, t, n, hsh, ht, k⟩ := pr_inv hst
    have he := wd_get (cy := cy) (ad := ad) hsh
    rw [enS_arr _ _ _ _ (by omega)] at he
    exact va_alen hx hb uK hP a t he (tys_at cy ht) rfl hd (go k hl)
  case new n =>
    obtain rfl : len = 3 := by simpa [isSw, lenI] using hlen
    obtain ⟨h5, hbc, hbs, h1, hol, hos, k⟩ := hst
    obtain ⟨w1, w2, w3⟩ := hcf
    obtain ⟨C', T, N, ty, k1, k2, k3, k4, k5, k6, k7, k8⟩ := cls_ok h1
    subst k6; subst k7
    refine va_new (ci := r1) (C := wdN r1) (T := T) (N := nf r1) (fs := (List.range (nf r1)).map (fun k => dfv (fkd r1 k))) hx hb hts k2 ty k4 hown (hts _ w1) (hts _ w2) (hts _ w3) uK hP hD hSS hA k1 (fun j hj => ?_) (by omega) (by omega) hd (fun q H1 hP1 hD1 hS1 => ?_)
    · have hkd := k5 j hj
      unfold vp_V
      rw [List.getD_eq_getElem?_getD, rng_get _ hj]
      revert hkd
      generalize fkd r1 j = z
      intro hkd
      match z, hkd with
      | 0, hkd => rw [show ty j = .int from hkd]; rfl
      | 1, hkd => rw [show ty j = .long from hkd]; rfl
      | 2, hkd => have hrf : (ty j).isReference = true := hkd
                  cases hq : ty j <;> rw [hq] at hrf <;> first | rfl | cases hrf
      | 3, hkd => rw [show ty j = .boolean from hkd]; rfl
      | z + 4, hkd => exact False.elim hkd
    · have e := wd_nO (cy := cy) (ad := ad) (s := (100 + r1, nf r1)) hRV q
      have en : enN cy (100 + r1, nf r1) = .inr (r1, (List.range (nf r1)).map (fun k => dfv (fkd r1 k))) := by
        unfold enN
        rw [if_neg (by show ¬ 100 + r1 < 100; omega)]
        simp only [Nat.add_sub_cancel_left]
      rw [en] at e
      rw [← e] at hP1 hD1
      have hd' : ∀ j, j < h.1.length ∨ 1000000 ≤ j → a_up ad h.1.length q j = ad j := fun j hj => up_n (by omega)
      have := hK _ _ _ _ _ _ k (a_up ad h.1.length q) arr H1 locs (cells + 1) (slots + nf r1) ⟨fun j hj => by rw [hd' j (by omega)]; exact had.1 j hj, by have := had.2.1; omega, fun hz => by have := had.2.1; omega⟩ (by rw [nO_len]; omega) (by rw [nO_len]; omega) ⟨hP1, hD1, hS1, nO_RV hRV⟩ (by rw [cvl_ok hol hd']; exact hl) (by omega) (by omega)
      rw [List.map_cons, cvs_ok hos hd', show cv (a_up ad h.1.length q) (.ref h.1.length) = .ref q from congrArg Value.ref up_s] at this
      exact this
  case newarray at_ =>
    obtain rfl : len = 2 := by simpa [isSw, lenI] using hlen
    obtain ⟨x, r, rfl, h5, hx0, hx1, hbc, hbs, hol, hos, k⟩ := pi_inv hst
    obtain ⟨ht4, hty, hw⟩ := hcf
    refine va_newa (a0 := (x.toNatClampNeg, if r1 = 1 then .inr (.inl (fun _ => 0)) else .inl (fun _ => 0))) hx hb (hts _ hw) hty.symm uK hP hD hSS hA ?_ hx0 rfl ?_ (by omega) (by omega) hd (fun q cA H1 hK1 hP1 hD1 hS1 => ?_)
    · intro cA
      rcases (show r1 = 0 ∨ r1 = 1 ∨ r1 = 2 ∨ r1 = 3 by omega) with rfl | rfl | rfl | rfl <;> rfl
    · have : componentBytes (fty r1) ≤ 8 := by rcases (show r1 = 0 ∨ r1 = 1 ∨ r1 = 2 ∨ r1 = 3 by omega) with rfl | rfl | rfl | rfl <;> decide
      calc x.toNatClampNeg * componentBytes (fty r1) ≤ 100000 * 8 := Nat.mul_le_mul hx1 this
        _ ≤ 536870912 := by decide
    · have ec := cy_prim hK1 (t := r1) (by omega) rfl
      subst ec
      have e := wd_nO (cy := cy) (ad := ad) (s := (r1, x.toNatClampNeg)) hRV q
      have en : enN cy (r1, x.toNatClampNeg) = .inl (cy r1, x.toNatClampNeg, if r1 = 1 then .inr (.inl (fun _ => 0)) else .inl (fun _ => 0)) := by
        unfold enN
        rw [if_pos (by show r1 < 100; omega)]
        rcases (show r1 = 0 ∨ r1 = 1 ∨ r1 = 2 ∨ r1 = 3 by omega) with rfl | rfl | rfl | rfl <;> rfl
      rw [en] at e
      rw [← e] at hP1 hD1
      have hd' : ∀ j, j < h.1.length ∨ 1000000 ≤ j → a_up ad h.1.length q j = ad j := fun j hj => up_n (by omega)
      have := hK _ _ _ _ _ _ k (a_up ad h.1.length q) arr H1 locs (cells + 1) (slots + x.toNatClampNeg) ⟨fun j hj => by rw [hd' j (by omega)]; exact had.1 j hj, by have := had.2.1; omega, fun hz => by have := had.2.1; omega⟩ (by rw [nO_len]; omega) (by rw [nO_len]; omega) ⟨hP1, hD1, hS1, nO_RV hRV⟩ (by rw [cvl_ok hol hd']; exact hl) (by omega) (by omega)
      rw [List.map_cons, cvs_ok hos hd', show cv (a_up ad h.1.length q) (.ref h.1.length) = .ref q from congrArg Value.ref up_s] at this
      exact this
  case anewarray n =>
    obtain rfl : len = 3 := by simpa [isSw, lenI] using hlen
    obtain ⟨x, r, rfl, h5, hx0, hx1, hbc, hbs, hol, hos, k⟩ := pi_inv hst
    refine va_newq hx hb hown (hts _ hcf) uO uK hP hD hSS hA hx0 rfl (by omega) (by omega) (by omega) hd (fun q cA H1 hK1 hP1 hD1 hS1 => ?_)
    have ec := cy_prim hK1 (t := 4) (by omega) rfl
    subst ec
    have e := wd_nO (cy := cy) (ad := ad) (s := (4, x.toNatClampNeg)) hRV q
    have en : enN cy (4, x.toNatClampNeg) = .inl (cy 4, x.toNatClampNeg, .inr (.inr (.inr (.inr (fun _ => none))))) := rfl
    rw [en] at e
    rw [← e] at hP1 hD1
    have hd' : ∀ j, j < h.1.length ∨ 1000000 ≤ j → a_up ad h.1.length q j = ad j := fun j hj => up_n (by omega)
    have := hK _ _ _ _ _ _ k (a_up ad h.1.length q) arr H1 locs (cells + 1) (slots + x.toNatClampNeg) ⟨fun j hj => by rw [hd' j (by omega)]; exact had.1 j hj, by have := had.2.1; omega, fun hz => by have := had.2.1; omega⟩ (by rw [nO_len]; omega) (by rw [nO_len]; omega) ⟨hP1, hD1, hS1, nO_RV hRV⟩ (by rw [cvl_ok hol hd']; exact hl) (by omega) (by omega)
    rw [List.map_cons, cvs_ok hos hd', show cv (a_up ad h.1.length q) (.ref h.1.length) = .ref q from congrArg Value.ref up_s] at this
    exact this
  case multianewarray n d =>
    obtain rfl : len = 4 := by simpa [isSw, lenI] using hlen
    obtain ⟨x, y, r, rfl, h5, hx0, hy0, hx1, hy1, hbc, hbs, hol, hos, k⟩ := pii_inv hst
    obtain ⟨rfl, h56, hw1, hw2⟩ := hcf
    have hX : wd cy ad h ++ va_pl [] (fun _ => (.inr (0, []) : va_E)) = wd cy ad h := List.append_nil _
    have hcyn : s.vm.findClass (FieldType.array (fty (r1 - 5))).toString = some (cy (r1 - 5)) := by
      have h9 := (uK.2 (r1 - 5) _ (tys_at cy (by omega))).2
      rcases h56 with rfl | rfl <;> exact h9
    have hAO : va_AOA (fty (r1 - 5)) s := by rcases h56 with rfl | rfl; exact uA1; exact uA2
    have hcb : componentBytes (fty (r1 - 5)) ≤ 8 := by rcases h56 with rfl | rfl <;> decide
    refine va_mna (X := wd cy ad h) (L := []) (f := fun _ => (.inr (0, []) : va_E)) (ty := fty (r1 - 5)) (z := (y.toNatClampNeg, if r1 - 5 = 1 then .inr (.inl (fun _ => 0)) else .inl (fun _ => 0))) hx hb hown (hts _ hw1) hAO (hts _ hw2) hcyn uK (by rw [hX]; exact hP) (by rw [hX]; exact hD) hSS hA hx0 hy0 rfl rfl (by omega) ?_ (by omega) ?_ ?_ (by omega) (by omega) ?_ hd (fun q rr cA H1 hinj hnl hK1 hP1 hD1 hS1 => ?_)
    · calc y.toNatClampNeg * componentBytes (fty (r1 - 5)) ≤ 1000 * 8 := Nat.mul_le_mul hy1 hcb
        _ ≤ 536870912 := by decide
    · rcases h56 with rfl | rfl <;> rfl
    · rcases h56 with rfl | rfl <;> decide
    · intro c9
      rcases h56 with rfl | rfl
      · exact arrV_new c9 y.toNatClampNeg (.int 0)
      · exact arrV_new c9 y.toNatClampNeg (.long 0)
    · have ec := cy_prim hK1 (t := r1) (by omega) (by rcases h56 with rfl | rfl <;> rfl)
      subst ec
      have epl : va_pl ([] ++ (List.range x.toNatClampNeg).map rr) (vr_up (fun _ => (.inr (0, []) : va_E)) ((List.range x.toNatClampNeg).map rr) (.inl (cy (r1 - 5), y.toNatClampNeg, if r1 - 5 = 1 then .inr (.inl (fun _ => 0)) else .inl (fun _ => 0)))) = (List.range x.toNatClampNeg).map (fun i => (rr i, enN cy (r1 - 5, y.toNatClampNeg))) := by
        unfold va_pl
        rw [List.nil_append, List.map_map]
        apply List.map_congr_left
        intro i hi
        have hm : rr i ∈ (List.range x.toNatClampNeg).map rr := List.mem_map.mpr ⟨i, hi, rfl⟩
        show (rr i, vr_up _ _ _ (rr i)) = _
        rw [vr_up_in hm]
        congr 1
        rcases h56 with rfl | rfl <;> simp [enN]
      have e := wd_nM (cy := cy) (ad := ad) (t0 := r1) (t1 := r1 - 5) (n := x.toNatClampNeg) (k := y.toNatClampNeg) hRV (by omega) (by omega) q rr (by omega)
      rw [epl, ← e] at hP1 hD1
      have hd' : ∀ j, j < h.1.length ∨ 1000000 ≤ j → nMad ad h.1.length q rr j = ad j := fun j hj => by unfold nMad; rw [if_pos hj]
      have := hK _ _ _ _ _ _ k (nMad ad h.1.length q rr) arr H1 locs (cells + 1 + x.toNatClampNeg) (slots + x.toNatClampNeg + x.toNatClampNeg * y.toNatClampNeg) ⟨fun j hj => by rw [hd' j (by omega)]; exact had.1 j hj, by have := had.2.1; omega, fun hz => by have := had.2.1; omega⟩ (by rw [nM_len]; omega) (by rw [nM_len]; omega) ⟨hP1, hD1, hS1, nM_RV hRV⟩ (by rw [cvl_ok hol hd']; exact hl) (by omega) (by omega)
      rw [List.map_cons, cvs_ok hos hd', show cv (nMad ad h.1.length q rr) (.ref h.1.length) = .ref q from congrArg Value.ref (by unfold nMad; rw [if_neg (by omega), if_pos rfl])] at this
      exact this
  all_goals first | exact False.elim hst | exact absurd hpl (by decide) | exact absurd hni (by decide) | exact absurd hpl Bool.noConfusion | exact absurd hni Bool.noConfusion
end SND2
