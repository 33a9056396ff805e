/-! THE RULE, read by the reference: what the codes are worth -/
def dlt (c : Int) : Int := if c = 3000 then 0 else if 2000 ≤ c then -1 else 1
def dls : List Int → Int
  | [] => 0
  | c :: t => dlt c + dls t
def ok1 (c x : Int) : Prop := 0 ≤ x ∧ (c = 3000 → 1 ≤ x) ∧ (c ≠ 3000 → 2000 ≤ c → 2 ≤ x) ∧ (1000 ≤ c → c < 2000 → c ≤ 1003)
/-- these codes can be worked out over a stack of x -/
def WL : Int → List Int → Prop
  | _, [] => True
  | x, c :: t => ok1 c x ∧ WL (x + dlt c) t
theorem dls_a : ∀ A B : List Int, dls (A ++ B) = dls A + dls B
  | [], B => (Int.zero_add _).symm
  | c :: t, B => by
    show dlt c + dls (t ++ B) = dlt c + dls t + dls B
    rw [dls_a t B, Int.add_assoc]
theorem WL_a : ∀ {A B : List Int} {x : Int}, WL x A → WL (x + dls A) B → WL x (A ++ B)
  | [], B, x, _, h => by rw [show x + dls [] = x from Int.add_zero x] at h; exact h
  | c :: t, B, x, a, h => ⟨a.1, WL_a a.2 (by rw [Int.add_assoc]; exact h)⟩
theorem hgt_dls (c : Nat → Int) : ∀ k : Nat, hgt c k = dls ((List.range k).map c)
  | 0 => rfl
  | k + 1 => by
    rw [List.range_succ, List.map_append, dls_a, ← hgt_dls c k]
    show hgt c k + _ = hgt c k + (dlt (c k) + 0)
    rw [Int.add_zero]
    rfl
theorem WL_at : ∀ {L : List Int} {x : Int}, WL x L → ∀ (k : Nat) (c : Int), L[k]? = some c → ok1 c (x + dls (L.take k))
  | [], x, _, k, c, h => by cases h
  | b :: t, x, w, 0, c, h => by
    cases h
    show ok1 b (x + 0)
    rw [Int.add_zero]
    exact w.1
  | b :: t, x, w, k + 1, c, h => by
    have z := WL_at w.2 k c h
    show ok1 c (x + (dlt b + dls (t.take k)))
    rw [← Int.add_assoc]
    exact z
theorem VC_of {c : Nat → Int} {n : Nat} {L : List Int} (e : (List.range n).map c = L) (w : WL 0 L) (hn : n ≤ 80) : VCd c (n : Int) := by
  have key : ∀ k : Nat, k < n → ok1 (c k) (hgt c k) := fun k hk => by
    have z := WL_at w k (c k) (by rw [← e, List.getElem?_map, List.getElem?_range hk]; rfl)
    rw [← e, ← List.map_take, List.take_range, Nat.min_eq_left (by omega), ← hgt_dls, Int.zero_add] at z
    exact z
  exact ⟨by omega, fun k hk => by
    obtain ⟨z1, z2, z3, z4⟩ := key k (by omega)
    exact ⟨z1, hgt_le c k, z2, z3, z4⟩⟩
theorem rc_op {s : Int} (h : 1 ≤ rkI s ∧ rkI s ≤ 3) : 2000 ≤ rcC (-s) ∧ rcC (-s) < 3000 := by
  have c : s = 60 ∨ s = 62 ∨ s = 61 ∨ s = 43 ∨ s = 45 ∨ s = 42 ∨ s = 47 := by
    unfold rkI at h
    (repeat' split at h) <;> omega
  rcases c with rfl | rfl | rfl | rfl | rfl | rfl | rfl <;> decide
theorem rc_ask {s : Int} (h : askI s) : 1000 ≤ rcC (-s) ∧ rcC (-s) ≤ 1003 := by
  rcases h with rfl | rfl | rfl | rfl <;> decide
theorem ten_p : ∀ n : Nat, (1 : Int) ≤ 10 ^ n
  | 0 => by decide
  | n + 1 => by
    have := ten_p n
    rw [Int.pow_succ]
    omega
theorem nm_999 {f : Int → Int} {p : Int} (h : 48 ≤ f p ∧ f p ≤ 57) : 0 ≤ (nmF f 3 p).1 ∧ (nmF f 3 p).1 ≤ 999 := by
  have a : ∀ (n : Nat) (p v b : Int), 0 ≤ v → v ≤ b → 0 ≤ (tkv f n p v).1 ∧ (tkv f n p v).1 + 1 ≤ (b + 1) * 10 ^ n := by
    intro n
    induction n with
    | zero => intro p v b h0 h1; show 0 ≤ v ∧ v + 1 ≤ (b + 1) * 1; omega
    | succ n ih =>
      intro p v b h0 h1
      have hp : (1 : Int) ≤ 10 ^ n := ten_p n
      unfold tkv
      split
      · rename_i c
        have z := ih (p + 1) (v * 10 + f p - 48) (b * 10 + 9) (by omega) (by omega)
        refine ⟨z.1, Int.le_trans z.2 ?_⟩
        rw [Int.pow_succ, show b * 10 + 9 + 1 = (b + 1) * 10 by omega, Int.mul_assoc, Int.mul_comm 10]
        exact Int.le_refl _
      · refine ⟨h0, ?_⟩
        show v + 1 ≤ _
        have hb : 0 ≤ b + 1 := by omega
        have : (b + 1) * 1 ≤ (b + 1) * 10 ^ (n + 1) := Int.mul_le_mul_of_nonneg_left (ten_p _) hb
        omega
  have z := a 3 p 0 0 (Int.le_refl _) (Int.le_refl _)
  have y : ¬ (tkv f 3 p 0).2 = p := by
    rw [tkv_step h]
    have := (tkv_lb f 2 (p + 1) (0 * 10 + f p - 48)).1
    omega
  unfold nmF
  rw [if_neg y]
  have e : ((0 : Int) + 1) * 10 ^ 3 = 1000 := by decide
  rw [e] at z
  exact ⟨z.1, by show (tkv f 3 p 0).1 ≤ 999; omega⟩
theorem ok1_num {c x : Int} (hc : c ≤ 999) (hx : 0 ≤ x) : ok1 c x := ⟨hx, fun z => by omega, fun _ z => by omega, fun z _ => by omega⟩
theorem rcC_pos {c : Int} (h : 0 ≤ c) : rcC c = c := by
  unfold rcC
  rw [if_neg (by omega), if_neg (by omega), if_neg (by omega), if_neg (by omega), if_neg (by omega), if_neg (by omega), if_neg (by omega), if_neg (by omega), if_neg (by omega), if_neg (by omega), if_neg (by omega), if_neg (by omega)]
def gdC (L : List Int) (d b : Int) : Prop := dls (L.map rcC) = d ∧ ∀ x : Int, b ≤ x → WL x (L.map rcC)
theorem gdC_a {A B : List Int} {d e b : Int} (h1 : gdC A d b) (h2 : gdC B e (b + d)) : gdC (A ++ B) (d + e) b := by
  refine ⟨by rw [List.map_append, dls_a, h1.1, h2.1], fun x hx => ?_⟩
  rw [List.map_append]
  exact WL_a (h1.2 x hx) (h2.2 _ (by rw [h1.1]; omega))
theorem gdC_op {s : Int} (h : 1 ≤ rkI s ∧ rkI s ≤ 3) {b : Int} (hb : 2 ≤ b) : gdC [-s] (-1) b := by
  have z := rc_op h
  have e : dlt (rcC (-s)) = -1 := by unfold dlt; rw [if_neg (by omega), if_pos z.1]
  refine ⟨by show dlt (rcC (-s)) + 0 = -1; rw [e]; rfl, fun x hx => ⟨⟨by omega, fun y => by omega, fun _ _ => by omega, fun _ y => by omega⟩, trivial⟩⟩
theorem gdC_b {A : List Int} {d b b' : Int} (h : gdC A d b) (hb : b ≤ b') : gdC A d b' := ⟨h.1, fun x hx => h.2 x (by omega)⟩
/-- what the reference reads can be worked out -/
theorem pr_wl {f : Int → Int} {m d : Nat} {p q : Int} {ok : Bool} {L : List Int} (h : PR f m d p ok q L) : ok = true → (m < 4 → gdC L 1 0) ∧ (4 ≤ m → gdC L 0 1) := by
  refine h (fun m d p ok q L => ok = true → (m < 4 → gdC L 1 0) ∧ (4 ≤ m → gdC L 0 1)) ⟨?_, ?_, ?_, ?_, ?_, ?_, ?_, ?_, ?_, ?_, ?_, ?_, ?_⟩
  · intro d p q ok L _ ih hk
    refine ⟨fun _ => ?_, fun z => absurd z (by omega)⟩
    have a := gdC_a (B := [-256]) (e := 0) ((ih hk).1 (by omega)) ⟨rfl, fun x hx => ⟨⟨by omega, fun _ => by omega, fun z => absurd rfl z, fun _ z => absurd z (by decide)⟩, trivial⟩⟩
    exact a
  · intro d p hp _
    have z := nm_999 hp
    refine ⟨fun _ => ⟨?_, fun x hx => ⟨?_, trivial⟩⟩, fun z => absurd z (by omega)⟩
    · show dlt (rcC (nmF f 3 p).1) + 0 = 1
      rw [rcC_pos z.1]
      unfold dlt
      rw [if_neg (by omega), if_neg (by omega)]
      rfl
    · rw [rcC_pos z.1]; exact ok1_num z.2 hx
  · intro d p hp _
    have z := rc_ask hp
    refine ⟨fun _ => ⟨?_, fun x hx => ⟨⟨hx, fun _ => by omega, fun _ _ => by omega, fun _ _ => by omega⟩, trivial⟩⟩, fun z => absurd z (by omega)⟩
    show dlt (rcC (-(f p))) + 0 = 1
    unfold dlt
    rw [if_neg (by omega), if_neg (by omega)]
    rfl
  · intro d p _ _ _ _ hk; cases hk
  · intro d p q L _ _ _ hk; cases hk
  · intro d p q L _ _ _ _ hk; cases hk
  · intro d p q L _ _ ih _ _
    exact ⟨fun _ => (ih rfl).1 (by omega), fun z => absurd z (by omega)⟩
  · intro r d p q L _ _ hk; cases hk
  · intro r d p q q' ok L L' hr i1 i2 hk
    exact ⟨fun _ => gdC_a ((i1 rfl).1 (by omega)) ((i2 hk).2 (by omega)), fun z => absurd z (by omega)⟩
  · intro r d p _ _ _
    exact ⟨fun z => absurd z (by omega), fun _ => ⟨rfl, fun _ _ => trivial⟩⟩
  · intro r d p q L _ _ _ hk; cases hk
  · intro d p q L hr ih _
    refine ⟨fun z => absurd z (by omega), fun _ => ?_⟩
    exact gdC_a (gdC_b ((ih rfl).1 (by omega)) (by omega)) (gdC_op (by omega) (by omega))
  · intro r d p q q' ok L L' h0 h1 hr i1 i2 hk
    refine ⟨fun z => absurd z (by omega), fun _ => ?_⟩
    refine gdC_a (d := 0) (e := 0) ?_ ((i2 hk).2 (by omega))
    exact gdC_a (gdC_b ((i1 rfl).1 (by omega)) (by omega)) (gdC_op (by omega) (by omega))
set_option maxRecDepth 4000 in
theorem ctX11_ruleG (hSP : MONO SPt) {sh : List (Nat × Nat)} {h : aH} (hG : GD gE gRL sh h) (hX : XI h) : CLd SPt 300 mX11_rule [.ref 171] h 0 0 (fun rv h' => (((gi h 171 17) = 0 ∧ rv = some (.int (I 0)) ∧ gi h' 171 25 = 0) ∨ ((gi h 171 17) ≠ 0 ∧ ∃ (ok : Bool) (q : Int) (L : List Int), PR (txF (gi h 180) (min (gi h 171 17) 40)) 0 0 0 ok q L ∧ (0 ≤ q ∧ q ≤ min (gi h 171 17) 40) ∧ (((fltF (gi h 171 17) 40 (ok, q)) < 0 ∧ rv = some (.int (I (fltF (gi h 171 17) 40 (ok, q)))) ∧ gi h' 171 25 = gi h 171 25 ∧ ∀ j, gi h' 182 j = gi h 182 j) ∨ ((fltF (gi h 171 17) 40 (ok, q)) = 0 ∧ ok = true ∧ rv = some (.int (I 0)) ∧ gi h' 171 25 = (L.length : Nat) ∧ (List.range L.length).map (gi h' 182) = L.map rcC)))) ∧ GD gE gRL sh h' ∧ FRM gRL [(0, 54, 0, 0), (0, 54, 17, 20), (0, 54, 25, 26), (0, 65, 0, 79), (0, 66, 0, 79)] h h' ∧ gi h' 171 0 = 0 ∧ gi h' 171 17 = 0 ∧ XI h') := by
  refine x_met _ rfl (Nat.le_of_ble_eq_true rfl) (fun K hK => ?_)
  have hmono := MONO_CLd hSP 299
  have gsz := gri 0 80 hG (a := 171) (r := 54) (k := 17) rfl rfl
  obtain ⟨T, hT⟩ : ∃ T, (txF (gi h 180) (min (gi h 171 17) 40)) = T := ⟨_, rfl⟩
  rw [hT] at hK
  have loop2 : ∀ (q : Int) (L : List Int), ∀ (mz : Nat) (k : Int) (h5 : aH) (ls : List (Nat × Value)), ((((L.length : Nat) : Int) - k).toNat = mz) → (0 ≤ k ∧ k ≤ (L.length : Nat)) → (gi h5 171 0 = 0) → (gi h5 171 17 = 0) → (gi h5 171 26 = (L.length : Nat)) → (gi h5 171 25 = (L.length : Nat)) → (((gi h 171 17) = 0 ∧ q = 0 ∧ L = []) ∨ ((gi h 171 17) ≠ 0 ∧ PR T 0 0 0 true q L)) → (0 ≤ q ∧ q ≤ min (gi h 171 17) 40) → (fltF (gi h 171 17) 40 (true, q) = 0) → (rcL h5 L.length = L.map rcC) → (∀ j : Nat, (j : Int) < k → gi h5 182 j = gi h5 183 j) → lk ls 0 = some (.ref 171) → lk ls 4 = some (.int (I k)) → GD gE gRL sh h5 → FRM gRL [(0, 54, 0, 0), (0, 54, 17, 20), (0, 54, 25, 26), (0, 65, 0, 79), (0, 66, 0, 79)] h h5 → K 61 ls [] h5 0 0 := by
    intro q L
    intro mz
    induction mz using Nat.strongRecOn with
    | ind mz ih =>
    intro k h5 ls hm k0 t5 z5 r26 r25 hD bq f0 rc cp l0 l4 hG5 hF5
    have g26 := gri 0 80 hG5 (a := 171) (r := 54) (k := 26) rfl rfl
    refine x_iload 63 hK rfl rfl l4 ?_
    refine x_aload_n 64 hK rfl rfl l0 ?_
    refine x_getE 67 hK rfl (Or.inl rfl) rfl (sp_171 (h := h5) hG5) (e := ((L.length : Nat) : Int)) (r26) ?_
    refine x_if_icmp_ge 90 70 hK rfl rfl rfl (by omega) (by omega) (fun c4 => ?_) (fun c4 => ?_)
    · refine x_iconst 91 hK rfl rfl ?_
      obtain rfl : k = (L.length : Nat) := by omega
      have mp : (List.range L.length).map (gi h5 182) = L.map rcC := by
        rw [← rc]
        exact List.map_congr_left fun j hj => cp j (by have := List.mem_range.mp hj; omega)
      have hx : XI h5 := by
        show VCd (gi h5 182) (gi h5 171 25)
        rw [r25]
        refine VC_of mp ?_ (by omega)
        rcases hD with d | d
        · rw [d.2.2]; exact trivial
        · exact ((pr_wl d.2 rfl).1 (by omega)).2 0 (Int.le_refl _)
      exact x_iret hK rfl ⟨hD.elim (fun d => Or.inl ⟨d.1, rfl, by rw [r25, d.2.2]; rfl⟩) (fun d => Or.inr ⟨d.1, true, q, L, d.2, bq, Or.inr ⟨f0, rfl, rfl, r25, mp⟩⟩), hG5, hF5, t5, z5, hx⟩
    · refine x_aload_n 71 hK rfl rfl l0 ?_
      refine x_getR 74 hK rfl rfl (sp_171 (h := h5) hG5) (rf_171_23 (h := h5) hG5) ?_
      refine x_iload 76 hK rfl rfl l4 ?_
      refine x_aload_n 77 hK rfl rfl l0 ?_
      refine x_getR 80 hK rfl rfl (sp_171 (h := h5) hG5) (rf_171_24 (h := h5) hG5) ?_
      refine x_iload 82 hK rfl rfl l4 ?_
      have g292 := gi_r h5 183 k.toNat
      refine x_ialoadE 83 hK rfl rfl (sp_183 (h := h5) hG5) (by omega) (by omega) (by omega) (e' := (gi h5 183 k.toNat)) (rfl) ?_
      refine x_iastore 84 hK rfl rfl (sp_182 (h := h5) hG5) (by omega) (by omega) (by omega) ?_
      refine x_iinc 87 hK rfl rfl l4 _ rfl ?_
      refine x_goto 61 hK rfl rfl ?_
      have cn : ∀ j : Nat, (j : Int) < k + 1 → gi (wI h5 182 k.toNat (gi h5 183 k.toNat)) 182 j = gi (wI h5 182 k.toNat (gi h5 183 k.toNat)) 183 j := fun j hj => by
        by_cases c : j = k.toNat
        · rw [c]
          exact (gi_same (by omega)).trans (gi_a (by decide) _).symm
        · exact ((gi_k (by omega) _).trans (cp j (by omega))).trans (gi_a (by decide) _).symm
      exact ih _ (by omega) (k + 1) _ _ rfl (by omega) ((gi_a (by decide) _).trans (t5)) ((gi_a (by decide) _).trans (z5)) ((gi_a (by decide) _).trans (r26)) ((gi_a (by decide) _).trans (r25)) (hD) (bq) (f0) ((rcL_e fun j hj => gi_a (by decide) _).trans rc) (cn) (lk1_n l0 (by decide) (Or.inl rfl)) lk1_s (GD_wn (hG5) (r := 65) rfl rfl) (FRM_wn 0 79 (hF5) (r := 65) rfl rfl rfl (by omega) (by omega))
  have end1 : ∀ (ok : Bool) (q : Int) (L : List Int), ∀ (is : Int) (h4 : aH) (ls : List (Nat × Value)), (is = b2i ok) → (gi h4 171 18 = q) → (gi h4 171 19 = min (gi h 171 17) 40) → (gi h4 171 0 = 0) → (gi h4 171 17 = 0) → (0 ≤ q ∧ q ≤ min (gi h 171 17) 40) → (((gi h 171 17) = 0 ∧ ok = true ∧ q = 0 ∧ L = []) ∨ ((gi h 171 17) ≠ 0 ∧ PR T 0 0 0 ok q L)) → (ok = true → rcL h4 (gi h4 171 26).toNat = L.map rcC) → lk ls 0 = some (.ref 171) → lk ls 1 = some (.int (I (gi h 171 17))) → lk ls 2 = some (.int (I is)) → GD gE gRL sh h4 → FRM gRL [(0, 54, 0, 0), (0, 54, 17, 20), (0, 54, 26, 26), (0, 66, 0, 79)] h h4 → K 35 ls [] h4 0 0 := by
    intro ok q L
    intro is h4 ls ib a18 a19 t4 z4 bq hD rc l0 l1 l2 hG4 hF4
    have g26 := gri 0 80 hG4 (a := 171) (r := 54) (k := 26) rfl rfl
    have is01 := b2i_r ok
    have fb := fltF_le (n := (gi h 171 17)) (most := 40) (r := (ok, q)) (by omega) bq.1
    refine x_aload_n 36 hK rfl rfl l0 ?_
    refine x_iload_n 37 hK rfl rfl l1 ?_
    refine x_bipush 39 hK rfl rfl rfl ?_
    refine x_iload_n 40 hK rfl rfl l2 ?_
    refine x_callV 43 hK hmono rfl rfl [.ref 171, .int (I (gi h 171 17)), .int (I 40), .int (I is)] [] rfl rfl (Nat.le_of_ble_eq_true rfl) (Nat.le_of_ble_eq_true rfl) rfl (sp_171 (h := h4) hG4) (CLd_le (Nat.le_of_ble_eq_true rfl) (ctX11_faultOf hSP hG4 (by omega) (by omega) (by omega))) ?_
    rintro v9 h9 ⟨e9, rfl⟩
    rw [e9, a18, a19]
    clear e9
    rw [show (if 40 < (gi h 171 17) ∧ ((is = 1 ∧ q = min (gi h 171 17) 40) ∨ 40 ≤ q) then -1 - 40 else if is = 1 ∧ q = min (gi h 171 17) 40 then 0 else -1 - q) = (fltF (gi h 171 17) 40 (ok, q)) from by rw [ib]; exact flt_i (r := (ok, q))]
    have fr : r32 (fltF (gi h 171 17) 40 (ok, q)) := by unfold fltF at fb ⊢; (try dsimp only at fb ⊢); (repeat' split) <;> omega
    refine x_istore_n 44 hK rfl rfl _ rfl ?_
    refine x_iload_n 45 hK rfl rfl lk1_s ?_
    refine x_if_ge 50 48 hK rfl rfl rfl (by omega) (fun c8 => ?_) (fun c8 => ?_)
    · have f0 : (fltF (gi h 171 17) 40 (ok, q)) = 0 := by omega
      obtain rfl : ok = true := (fltF_0 (n := (gi h 171 17)) (most := 40) (r := (ok, q)) (by omega) bq.1 f0).1
      have rc1 := rc rfl
      have ln : (gi h4 171 26).toNat = L.length := by
        have z := congrArg List.length rc1
        rw [rcL_l, List.length_map] at z
        exact z
      refine x_aload_n 51 hK rfl rfl (lk1_n l0 (by decide) (Or.inl rfl)) ?_
      refine x_aload_n 52 hK rfl rfl (lk1_n l0 (by decide) (Or.inl rfl)) ?_
      have g293 := gri (0) (80) hG4 (a := 171) (r := 54) (k := 26) rfl rfl
      refine x_getE 55 hK rfl (Or.inl rfl) rfl (sp_171 (h := h4) hG4) (e := (gi h4 171 26)) (rfl) ?_
      refine x_putI 58 hK rfl rfl (sp_171 (h := h4) hG4) ?_
      refine x_iconst 59 hK rfl rfl ?_
      refine x_istore 61 hK rfl rfl _ rfl ?_
      exact loop2 q L _ 0 _ _ rfl (by omega) ((gi_k (by decide) _).trans (t4)) ((gi_k (by decide) _).trans (z4)) ((gi_k (by decide) _).trans (by omega)) ((gi_same (by omega)).trans (by omega)) (hD.imp (fun d => ⟨d.1, d.2.2⟩) id) (bq) (f0) (by rw [← rc1, ln]; exact rcL_e fun j hj => gi_a (by decide) _) (fun j hj => absurd hj (by omega)) (lk1_n (lk1_n l0 (by decide) (Or.inl rfl)) (by decide) (Or.inl rfl)) lk1_s (GD_w1 (hG4) (r := 54) rfl (by omega) rfl (by omega) (by omega)) (FRM_w ((hF4).mono rfl) (r := 54) rfl rfl)
    · refine x_iload_n 49 hK rfl rfl lk1_s ?_
      have fn : (fltF (gi h 171 17) 40 (ok, q)) < 0 := by omega
      rcases hD with ⟨d1, d2, d3, d4⟩ | ⟨d1, d2⟩
      · exfalso
        rw [d1, d2, d3] at fn
        exact absurd fn (by decide)
      · exact x_iret hK rfl ⟨Or.inr ⟨d1, ok, q, L, d2, bq, Or.inl ⟨fn, rfl, FRM_gi hF4 (r := 54) rfl rfl, fun j => FRM_gi hF4 (r := 65) rfl rfl⟩⟩, hG4, hF4.mono rfl, t4, z4, xOk_ok rfl h h4 hF4 hX⟩
  refine x_aload_n 1 hK rfl rfl rfl ?_
  refine x_iconst 2 hK rfl rfl ?_
  refine x_putI 5 hK rfl rfl (sp_171 (h := h) hG) ?_
  refine x_aload_n 6 hK rfl rfl rfl ?_
  refine x_bipush 8 hK rfl rfl rfl ?_
  have hGp294 : GD gE gRL sh (wI h 171 0 0) := GD_w1 (hG) (r := 54) rfl (by omega) rfl (by omega) (by omega)
  have sz0 : gi (wI h 171 0 0) 171 17 = gi h 171 17 := gi_k (by decide) _
  refine x_callV 11 hK hmono rfl rfl [.ref 171, .int (I 40)] [] rfl rfl (Nat.le_of_ble_eq_true rfl) (Nat.le_of_ble_eq_true rfl) rfl (sp_171 (h := h) hG) (CLd_le (Nat.le_of_ble_eq_true rfl) (ctX11_begins hSP hGp294 (by omega))) ?_
  rintro v1 h1 ⟨rfl, hG1, hF1, b17, b18, b20, b19⟩
  rw [sz0] at b19 ⊢
  have f1 : fm h1 = T := by rw [fm_tx, b19, ← hT, show gi h1 180 = gi h 180 from funext fun k => (FRM_gi hF1 (r := 63) rfl rfl).trans (gi_a (by decide) _)]
  refine x_istore_n 12 hK rfl rfl [(1, .int (I (gi h 171 17))), (0, .ref 171)] rfl ?_
  refine x_aload_n 13 hK rfl rfl rfl ?_
  refine x_iconst 14 hK rfl rfl ?_
  refine x_putI 17 hK rfl rfl (sp_171 (h := h1) hG1) ?_
  refine x_iload_n 18 hK rfl rfl rfl ?_
  refine x_if_eq 29 21 hK rfl rfl rfl (by omega) (fun c12 => ?_) (fun c12 => ?_)
  · refine x_iconst 30 hK rfl rfl ?_
    refine x_goto 34 hK rfl rfl ?_
    refine x_istore_n 35 hK rfl rfl [(2, .int (I 1)), (1, .int (I (gi h 171 17))), (0, .ref 171)] rfl ?_
    exact end1 true 0 [] 1 _ _ (rfl) ((gi_k (by decide) _).trans (b18)) ((gi_k (by decide) _).trans (b19)) ((gi_k (by decide) _).trans ((FRM_gi hF1 (r := 54) rfl rfl).trans (gi_same (by omega)))) ((gi_k (by decide) _).trans (b17)) (by omega) (Or.inl ⟨by omega, rfl, rfl, rfl⟩) (fun _ => by rw [show gi (wI h1 171 26 0) 171 26 = 0 from gi_same (by omega)]; rfl) rfl rfl rfl (GD_w1 (hG1) (r := 54) rfl (by omega) rfl (by omega) (by omega)) (FRM_w ((FRM_w ((FRM.rf : FRM gRL [(0, 54, 0, 0), (0, 54, 17, 20), (0, 54, 26, 26), (0, 66, 0, 79)] h h)) (r := 54) rfl rfl).trans ((hF1).mono rfl)) (r := 54) rfl rfl)
  · refine x_aload_n 22 hK rfl rfl rfl ?_
    refine x_iconst 23 hK rfl rfl ?_
    have hGp295 : GD gE gRL sh (wI h1 171 26 0) := GD_w1 (hG1) (r := 54) rfl (by omega) rfl (by omega) (by omega)
    have s18 : gi (wI h1 171 26 0) 171 18 = 0 := (gi_k (by decide) _).trans (b18)
    have s19 : gi (wI h1 171 26 0) 171 19 = min (gi h 171 17) 40 := (gi_k (by decide) _).trans (b19)
    have s20 : gi (wI h1 171 26 0) 171 20 = 0 := (gi_k (by decide) _).trans (b20)
    have s26 : gi (wI h1 171 26 0) 171 26 = 0 := gi_same (by omega)
    have fe3 : fm (wI h1 171 26 0) = T := (fm_wI (by decide) (Or.inr (by decide))).trans (f1)
    refine x_callV 26 hK hmono rfl rfl [.ref 171, .int (I 0)] [] rfl rfl (Nat.le_of_ble_eq_true rfl) (Nat.le_of_ble_eq_true rfl) rfl (sp_171 (h := h1) hG1) (CLd_le (Nat.le_of_ble_eq_true rfl) ((reads_allG hSP 40).2 hGp295 (by omega) (by omega))) ?_
    rintro v3 h3 ⟨ok, q, L, pr, rfl, hG3, hF3, eq3, bd3, bc3, sc3⟩
    rw [fe3, s18, s20] at pr
    rw [s18, s19] at bd3
    rw [s18, s26] at sc3
    have pr : PR T 0 0 0 ok q L := pr
    cases ok
    · rw [show b2i false = 0 from rfl]
      refine x_if_eq 33 29 hK rfl rfl rfl (by omega) (fun _ => ?_) (fun c => by omega)
      refine x_iconst 34 hK rfl rfl ?_
      refine x_istore_n 35 hK rfl rfl [(2, .int (I 0)), (1, .int (I (gi h 171 17))), (0, .ref 171)] rfl ?_
      exact end1 false q L 0 _ _ (rfl) (eq3) ((FRM_gi hF3 (r := 54) rfl rfl).trans ((gi_k (by decide) _).trans (b19))) ((FRM_gi hF3 (r := 54) rfl rfl).trans ((gi_k (by decide) _).trans ((FRM_gi hF1 (r := 54) rfl rfl).trans (gi_same (by omega))))) ((FRM_gi hF3 (r := 54) rfl rfl).trans ((gi_k (by decide) _).trans (b17))) (bd3) (Or.inr ⟨by omega, pr⟩) (fun z => by cases z) rfl rfl rfl (hG3) ((FRM_w ((FRM_w ((FRM.rf : FRM gRL [(0, 54, 0, 0), (0, 54, 17, 20), (0, 54, 26, 26), (0, 66, 0, 79)] h h)) (r := 54) rfl rfl).trans ((hF1).mono rfl)) (r := 54) rfl rfl).trans ((hF3).mono rfl))
    · rw [show b2i true = 1 from rfl]
      refine x_if_eq 33 29 hK rfl rfl rfl (by omega) (fun c => by omega) (fun _ => ?_)
      refine x_iconst 30 hK rfl rfl ?_
      refine x_goto 34 hK rfl rfl ?_
      refine x_istore_n 35 hK rfl rfl [(2, .int (I 1)), (1, .int (I (gi h 171 17))), (0, .ref 171)] rfl ?_
      exact end1 true q L 1 _ _ (rfl) (eq3) ((FRM_gi hF3 (r := 54) rfl rfl).trans ((gi_k (by decide) _).trans (b19))) ((FRM_gi hF3 (r := 54) rfl rfl).trans ((gi_k (by decide) _).trans ((FRM_gi hF1 (r := 54) rfl rfl).trans (gi_same (by omega))))) ((FRM_gi hF3 (r := 54) rfl rfl).trans ((gi_k (by decide) _).trans (b17))) (bd3) (Or.inr ⟨by omega, pr⟩) (fun _ => (sc3 rfl).2.2) rfl rfl rfl (hG3) ((FRM_w ((FRM_w ((FRM.rf : FRM gRL [(0, 54, 0, 0), (0, 54, 17, 20), (0, 54, 26, 26), (0, 66, 0, 79)] h h)) (r := 54) rfl rfl).trans ((hF1).mono rfl)) (r := 54) rfl rfl).trans ((hF3).mono rfl))
