/-! HOW LATE AN ORDER COMES (the reference), as a whole number -/
def w32 (e : Int) : Int := (I e).toInt
theorem w32_r (e : Int) : r32 (w32 e) := r_I _
theorem w32_e {e : Int} (h : r32 e) : w32 e = e := I_t h
theorem gi_w {h : aH} {a k : Nat} {e : Int} : gi (wI h a k e) a k = w32 e := by
  show (aI (sI h a k (I e)) a k).toInt = _
  have : aI (sI h a k (I e)) a k = I e := by simp [aI, sI, up_s, upd]
  rw [this]; rfl
theorem I_w (e : Int) : I (w32 e) = I e := t_I _
def swI (d lo : Int) (l : List Int) (a : Int) : Int := if a < lo then d else (l[(a - lo).toNat]?).getD d
theorem swI_d {d lo a : Int} {l : List Int} (h : a < lo ∨ lo + (l.length : Nat) ≤ a) : swI d lo l a = d := by
  unfold swI
  split
  · rfl
  · rw [List.getElem?_eq_none (by omega)]; rfl
section SZ
variable {CL : CT} {ac : AC} {ret : Option FieldType} {Q : QT} {K : KT}
variable {r1 r2 : Nat} {r3 : Int} {pc : Nat} {ls : List (Nat × Value)} {st : List Value} {h : aH} {bc bs : Nat}
theorem x_tsw {a d lo hi : Int} {ps : Array Int} (hK : CLO CL ac ret Q K) (hf : fr ac pc = some (.tableswitch d lo hi ps, r1, r2, r3)) (ha : r32 a) {l : List Int} (hl : ps.toList = l) (hk : K (tg pc (swI d lo l a)) ls st h bc bs) : K pc ls (.int (I a) :: st) h bc bs := by
  refine x_row hK hf ?_
  show K (tg pc (swo d lo ps.toList (I a))) ls st h bc bs
  unfold swo
  rw [I_t ha, hl]
  exact hk
end SZ
/-- two numbers by a sign of a rule -/
def wkF (c x y : Int) : Int := if c = 0 then (if x < y then 1 else 0) else if c = 1 then (if y < x then 1 else 0) else if c = 2 then (if x = y then 1 else 0) else if c = 3 then w32 (x + y) else if c = 4 then w32 (x - y) else if c = 5 then w32 (x * y) else if y = 0 then 0 else w32 (x.tdiv y)
theorem wkF_r (c x y : Int) : r32 (wkF c x y) := by
  have := w32_r (x + y)
  have := w32_r (x - y)
  have := w32_r (x * y)
  have := w32_r (x.tdiv y)
  unfold wkF
  (repeat' split) <;> omega
def ruStep (c : Int) (ak : Int → Int) (st : List Int) : List Int :=
  if c = 3000 then (match st with | x :: r => w32 (-x) :: r | [] => [])
  else if 2000 ≤ c then (match st with | y :: x :: r => wkF (c - 2000) x y :: r | r => r)
  else (if 1000 ≤ c then ak (c - 1000) else c) :: st
/-- what stands on the stack behind k places of the code, the last first -/
def ruS (c : Nat → Int) (ak : Int → Int) : Nat → List Int
  | 0 => []
  | k + 1 => ruStep (c k) ak (ruS c ak k)
theorem ruS_l {c : Nat → Int} {ak : Int → Int} {n : Int} (hv : VCd c n) : ∀ k : Nat, (k : Int) ≤ n → ((ruS c ak k).length : Int) = hgt c k
  | 0, _ => rfl
  | k + 1, hk => by
    have ih := ruS_l (ak := ak) hv k (by omega)
    obtain ⟨v1, v2, v3, v4, v5, v6⟩ := VC_at hv (k := k) (by omega)
    show ((ruStep (c k) ak (ruS c ak k)).length : Int) = _
    unfold ruStep
    by_cases h1 : c k = 3000
    · rw [if_pos h1, (v3 h1).2, ← ih]
      cases hs : ruS c ak k with
      | nil => rfl
      | cons x r => rfl
    · rw [if_neg h1]
      by_cases h2 : 2000 ≤ c k
      · rw [if_pos h2, (v4 h1 h2).2, ← ih]
        have := (v4 h1 h2).1
        match hs : ruS c ak k with
        | [] => rw [hs] at ih; simp at ih; omega
        | [x] => rw [hs] at ih; simp at ih; omega
        | y :: x :: r => simp
      · rw [if_neg h2, v5 (by omega), ← ih]
        simp
/-- the stack as an array, from its lowest place -/
def SK (h : aH) (st : List Int) : Prop := ∀ i, i < st.length → gi h 184 i = st.getD (st.length - 1 - i) 0
theorem SK_push {h : aH} {st : List Int} {v : Int} (s : SK h st) : SK (wI h 184 st.length v) (w32 v :: st) := by
  intro i hi
  simp only [List.length_cons] at hi ⊢
  by_cases c : i = st.length
  · subst c
    rw [gi_w, show st.length + 1 - 1 - st.length = 0 by omega]
    rfl
  · rw [gi_k (by omega), s i (by omega), show st.length + 1 - 1 - i = (st.length - 1 - i) + 1 by omega]
    rfl
theorem SK_top {h : aH} {x v : Int} {r : List Int} (s : SK h (x :: r)) : SK (wI h 184 r.length v) (w32 v :: r) := by
  intro i hi
  simp only [List.length_cons] at hi ⊢
  by_cases c : i = r.length
  · subst c
    rw [gi_w, show r.length + 1 - 1 - r.length = 0 by omega]
    rfl
  · have := s i (by simp; omega)
    simp only [List.length_cons] at this
    rw [gi_k (by omega), this]
    rw [show r.length + 1 - 1 - i = (r.length - 1 - i) + 1 by omega]
    rfl
theorem SK_tail {h : aH} {x : Int} {r : List Int} (s : SK h (x :: r)) : SK h r := by
  intro i hi
  have := s i (by simp; omega)
  simp only [List.length_cons] at this
  rw [this, show r.length + 1 - 1 - i = (r.length - 1 - i) + 1 by omega]
  rfl
theorem SK_hd {h : aH} {x : Int} {r : List Int} (s : SK h (x :: r)) : gi h 184 r.length = x := by
  have := s r.length (by simp)
  simp only [List.length_cons] at this
  rw [this, show r.length + 1 - 1 - r.length = 0 by omega]
  rfl
/-- how late: by a rule's code, LONG, and what is asked -/
def dlF (c : Nat → Int) (n : Int) (ak : Int → Int) : Int := max 1 (min 12 (if n = 0 then ak 0 / 8 + 1 else (ruS c ak n.toNat).getD ((ruS c ak n.toNat).length - 1) 0))
theorem dlF_b (c : Nat → Int) (n : Int) (ak : Int → Int) : 1 ≤ dlF c n ak ∧ dlF c n ak ≤ 12 := by unfold dlF; omega
section SW
variable {CL : CT} {ac : AC} {ret : Option FieldType} {Q : QT} {K : KT}
variable {r1 r2 : Nat} {r3 : Int} {pc : Nat} {ls : List (Nat × Value)} {st : List Value} {h : aH} {bc bs : Nat}
theorem I_divA {a b : Int} (ha : r32 a) (hb : r32 b) : I a / I b = I (w32 (a.tdiv b)) := by
  rw [I_w]
  by_cases hm : b ≠ -1 ∨ a ≠ -2147483648
  · exact I_div ha hb hm
  · obtain ⟨rfl, rfl⟩ : b = -1 ∧ a = -2147483648 := by omega
    rfl
theorem x_idivA (p : Nat) {a b : Int} (hK : CLO CL ac ret Q K) (hf : fr ac pc = some (.idiv, r1, r2, r3)) (hp : pc + 1 = p) (ha : r32 a) (hb : r32 b) (h0 : b ≠ 0) (hk : K p ls (.int (I (w32 (a.tdiv b))) :: st) h bc bs) : K pc ls (.int (I b) :: .int (I a) :: st) h bc bs := by
  subst hp
  rw [← I_divA ha hb] at hk
  exact x_row hK hf ⟨I_ne0 hb h0, hk⟩
end SW
set_option maxRecDepth 4000 in
theorem ctX11_worked {SP : CT} (hSP : MONO SP) {h : aH} {c x y : Int} (rc : 0 ≤ c ∧ c ≤ 2147483647) (rx : r32 x) (ry : r32 y) : CLd SP 2 mX11_worked [.int (I c), .int (I x), .int (I y)] h 0 0 (fun rv h' => h' = h ∧ rv = some (.int (I (wkF c x y)))) := by
  refine x_met _ rfl (Nat.le_of_ble_eq_true rfl) (fun K hK => ?_)
  have hmono := MONO_CLd hSP 1
  refine x_iload_n 1 hK rfl rfl rfl ?_
  refine x_tsw hK rfl (by omega) (l := [39, 53, 67, 81, 85, 89]) rfl ?_
  by_cases e1_0 : c = 0
  · rw [show swI 93 0 [39, 53, 67, 81, 85, 89] c = 39 from by rw [e1_0]; rfl]
    show K 40 _ _ _ _ _
    refine x_iload_n 41 hK rfl rfl rfl ?_
    refine x_iload_n 42 hK rfl rfl rfl ?_
    refine x_if_icmp_ge 49 45 hK rfl rfl rfl (by omega) (by omega) (fun c6 => ?_) (fun c6 => ?_)
    · refine x_iconst 50 hK rfl rfl ?_
      refine x_callS 53 hK hmono rfl (Or.inl rfl) rfl [.int (I 0)] [] rfl rfl (Nat.le_of_ble_eq_true rfl) (Nat.le_of_ble_eq_true rfl) (CLd_le (Nat.le_of_ble_eq_true rfl) (ctX11_flag (by omega))) ?_
      rintro v9 h9 ⟨e9, rfl⟩
      rw [e9]
      clear e9
      have ew : wkF c x y = 0 := by
        unfold wkF
        rw [if_pos (by omega), if_neg (by omega)]
      exact x_iret hK rfl ⟨rfl, by rw [ew]⟩
    · refine x_iconst 46 hK rfl rfl ?_
      refine x_goto 50 hK rfl rfl ?_
      refine x_callS 53 hK hmono rfl (Or.inl rfl) rfl [.int (I 1)] [] rfl rfl (Nat.le_of_ble_eq_true rfl) (Nat.le_of_ble_eq_true rfl) (CLd_le (Nat.le_of_ble_eq_true rfl) (ctX11_flag (by omega))) ?_
      rintro v9 h9 ⟨e9, rfl⟩
      rw [e9]
      clear e9
      have ew : wkF c x y = 1 := by
        unfold wkF
        rw [if_pos (by omega), if_pos (by omega)]
      exact x_iret hK rfl ⟨rfl, by rw [ew]⟩
  by_cases e1_1 : c = 1
  · rw [show swI 93 0 [39, 53, 67, 81, 85, 89] c = 53 from by rw [e1_1]; rfl]
    show K 54 _ _ _ _ _
    refine x_iload_n 55 hK rfl rfl rfl ?_
    refine x_iload_n 56 hK rfl rfl rfl ?_
    refine x_if_icmp_le 63 59 hK rfl rfl rfl (by omega) (by omega) (fun c17 => ?_) (fun c17 => ?_)
    · refine x_iconst 64 hK rfl rfl ?_
      refine x_callS 67 hK hmono rfl (Or.inl rfl) rfl [.int (I 0)] [] rfl rfl (Nat.le_of_ble_eq_true rfl) (Nat.le_of_ble_eq_true rfl) (CLd_le (Nat.le_of_ble_eq_true rfl) (ctX11_flag (by omega))) ?_
      rintro v9 h9 ⟨e9, rfl⟩
      rw [e9]
      clear e9
      have ew : wkF c x y = 0 := by
        unfold wkF
        rw [if_neg (by omega), if_pos (by omega), if_neg (by omega)]
      exact x_iret hK rfl ⟨rfl, by rw [ew]⟩
    · refine x_iconst 60 hK rfl rfl ?_
      refine x_goto 64 hK rfl rfl ?_
      refine x_callS 67 hK hmono rfl (Or.inl rfl) rfl [.int (I 1)] [] rfl rfl (Nat.le_of_ble_eq_true rfl) (Nat.le_of_ble_eq_true rfl) (CLd_le (Nat.le_of_ble_eq_true rfl) (ctX11_flag (by omega))) ?_
      rintro v9 h9 ⟨e9, rfl⟩
      rw [e9]
      clear e9
      have ew : wkF c x y = 1 := by
        unfold wkF
        rw [if_neg (by omega), if_pos (by omega), if_pos (by omega)]
      exact x_iret hK rfl ⟨rfl, by rw [ew]⟩
  by_cases e1_2 : c = 2
  · rw [show swI 93 0 [39, 53, 67, 81, 85, 89] c = 67 from by rw [e1_2]; rfl]
    show K 68 _ _ _ _ _
    refine x_iload_n 69 hK rfl rfl rfl ?_
    refine x_iload_n 70 hK rfl rfl rfl ?_
    refine x_if_icmp_ne 77 73 hK rfl rfl rfl (by omega) (by omega) (fun c28 => ?_) (fun c28 => ?_)
    · refine x_iconst 78 hK rfl rfl ?_
      refine x_callS 81 hK hmono rfl (Or.inl rfl) rfl [.int (I 0)] [] rfl rfl (Nat.le_of_ble_eq_true rfl) (Nat.le_of_ble_eq_true rfl) (CLd_le (Nat.le_of_ble_eq_true rfl) (ctX11_flag (by omega))) ?_
      rintro v9 h9 ⟨e9, rfl⟩
      rw [e9]
      clear e9
      have ew : wkF c x y = 0 := by
        unfold wkF
        rw [if_neg (by omega), if_neg (by omega), if_pos (by omega), if_neg (by omega)]
      exact x_iret hK rfl ⟨rfl, by rw [ew]⟩
    · refine x_iconst 74 hK rfl rfl ?_
      refine x_goto 78 hK rfl rfl ?_
      refine x_callS 81 hK hmono rfl (Or.inl rfl) rfl [.int (I 1)] [] rfl rfl (Nat.le_of_ble_eq_true rfl) (Nat.le_of_ble_eq_true rfl) (CLd_le (Nat.le_of_ble_eq_true rfl) (ctX11_flag (by omega))) ?_
      rintro v9 h9 ⟨e9, rfl⟩
      rw [e9]
      clear e9
      have ew : wkF c x y = 1 := by
        unfold wkF
        rw [if_neg (by omega), if_neg (by omega), if_pos (by omega), if_pos (by omega)]
      exact x_iret hK rfl ⟨rfl, by rw [ew]⟩
  by_cases e1_3 : c = 3
  · rw [show swI 93 0 [39, 53, 67, 81, 85, 89] c = 81 from by rw [e1_3]; rfl]
    show K 82 _ _ _ _ _
    refine x_iload_n 83 hK rfl rfl rfl ?_
    refine x_iload_n 84 hK rfl rfl rfl ?_
    refine x_iadd 85 hK rfl rfl ?_
    have ew : wkF c x y = w32 ((x + y)) := by
      unfold wkF
      rw [if_neg (by omega), if_neg (by omega), if_neg (by omega), if_pos (by omega)]
    exact x_iret hK rfl ⟨rfl, by rw [ew, I_w]⟩
  by_cases e1_4 : c = 4
  · rw [show swI 93 0 [39, 53, 67, 81, 85, 89] c = 85 from by rw [e1_4]; rfl]
    show K 86 _ _ _ _ _
    refine x_iload_n 87 hK rfl rfl rfl ?_
    refine x_iload_n 88 hK rfl rfl rfl ?_
    refine x_isub 89 hK rfl rfl ?_
    have ew : wkF c x y = w32 ((x - y)) := by
      unfold wkF
      rw [if_neg (by omega), if_neg (by omega), if_neg (by omega), if_neg (by omega), if_pos (by omega)]
    exact x_iret hK rfl ⟨rfl, by rw [ew, I_w]⟩
  by_cases e1_5 : c = 5
  · rw [show swI 93 0 [39, 53, 67, 81, 85, 89] c = 89 from by rw [e1_5]; rfl]
    show K 90 _ _ _ _ _
    refine x_iload_n 91 hK rfl rfl rfl ?_
    refine x_iload_n 92 hK rfl rfl rfl ?_
    refine x_imul 93 hK rfl rfl ?_
    have ew : wkF c x y = w32 ((x * y)) := by
      unfold wkF
      rw [if_neg (by omega), if_neg (by omega), if_neg (by omega), if_neg (by omega), if_neg (by omega), if_pos (by omega)]
    exact x_iret hK rfl ⟨rfl, by rw [ew, I_w]⟩
  rw [show swI 93 0 [39, 53, 67, 81, 85, 89] c = 93 from swI_d (by show _ ∨ (0 : Int) + (6 : Nat) ≤ _; omega)]
  show K 94 _ _ _ _ _
  refine x_iload_n 95 hK rfl rfl rfl ?_
  refine x_if_ne 102 98 hK rfl rfl rfl (by omega) (fun c53 => ?_) (fun c53 => ?_)
  · refine x_iload_n 103 hK rfl rfl rfl ?_
    refine x_iload_n 104 hK rfl rfl rfl ?_
    refine x_idivA 105 hK rfl rfl rx ry (by omega) ?_
    have ew : wkF c x y = w32 (x.tdiv y) := by
      unfold wkF
      rw [if_neg (by omega), if_neg (by omega), if_neg (by omega), if_neg (by omega), if_neg (by omega), if_neg (by omega), if_neg (by omega)]
    exact x_iret hK rfl ⟨rfl, by rw [ew]⟩
  · refine x_iconst 99 hK rfl rfl ?_
    refine x_goto 105 hK rfl rfl ?_
    have ew : wkF c x y = 0 := by
      unfold wkF
      rw [if_neg (by omega), if_neg (by omega), if_neg (by omega), if_neg (by omega), if_neg (by omega), if_neg (by omega), if_pos (by omega)]
    exact x_iret hK rfl ⟨rfl, by rw [ew]⟩
theorem hgt_pos {c : Nat → Int} {n : Int} (hv : VCd c n) : ∀ k : Nat, 0 < k → (k : Int) ≤ n → 1 ≤ hgt c k
  | 0, h, _ => absurd h (by omega)
  | k + 1, _, hk => by
    obtain ⟨v1, v2, v3, v4, v5, v6⟩ := VC_at hv (k := k) (by omega)
    by_cases h1 : c k = 3000
    · have := v3 h1; omega
    · by_cases h2 : 2000 ≤ c k
      · have := v4 h1 h2; omega
      · have := v5 (by omega); omega
set_option maxRecDepth 4000 in
theorem ctX11_ruledF {SP : CT} (hSP : MONO SP) {sh : List (Nat × Nat)} {h : aH} (hG : GD gE gRL sh h) (hX : XI h) : CLd SP 4 mX11_ruled [.ref 171] h 0 0 (fun rv h' => rv = some (.int (I (dlF (fun k => gi h 182 k) (gi h 171 25) (fun q => gi h 185 q.toNat)))) ∧ GD gE gRL sh h' ∧ FRM gRL [(0, 67, 0, 79)] h h') := by
  refine x_met _ rfl (Nat.le_of_ble_eq_true rfl) (fun K hK => ?_)
  have hmono := MONO_CLd hSP 3
  have hc80 : gi h 171 25 ≤ 80 := hX.1
  have hcl := gri 0 80 hG (a := 171) (r := 54) (k := 25) rfl rfl
  have a0 := gri 0 40 hG (a := 185) (r := 68) (k := 0) rfl rfl
  have lp : ∀ k : Nat, 0 < k → (k : Int) ≤ gi h 171 25 → 0 < (ruS (fun k => gi h 182 k) (fun q => gi h 185 q.toNat) k).length := fun k h1 h2 => by
    have z := ruS_l (c := (fun k => gi h 182 k)) (ak := (fun q => gi h 185 q.toNat)) hX k h2
    have := hgt_pos (c := (fun k => gi h 182 k)) hX k h1 h2
    omega
  have loop : ∀ (m : Nat) (k : Nat) (h1 : aH) (ls : List (Nat × Value)), ((gi h 171 25 - k).toNat = m) → (k : Int) ≤ gi h 171 25 → SK h1 (ruS (fun k => gi h 182 k) (fun q => gi h 185 q.toNat) k) → lk ls 0 = some (.ref 171) → lk ls 1 = some (.int (I (hgt (fun k => gi h 182 k) k))) → lk ls 2 = some (.int (I (k : Int))) → GD gE gRL sh h1 → FRM gRL [(0, 67, 0, 79)] h h1 → K 4 ls [] h1 0 0 := by
    intro m
    induction m using Nat.strongRecOn with
    | ind m ih =>
    intro k h1 ls hm hk sk l0 l1 l2 hG1 hF1
    have hc : gi h1 171 25 = gi h 171 25 := FRM_gi hF1 (r := 54) rfl rfl
    have hq : (k : Int) < gi h 171 25 → _ := fun z => VC_at (c := (fun k => gi h 182 k)) hX (k := k) z
    have hl := ruS_l (c := (fun k => gi h 182 k)) (ak := (fun q => gi h 185 q.toNat)) hX k hk
    have rs : ruS (fun k => gi h 182 k) (fun q => gi h 185 q.toNat) (k + 1) = ruStep (gi h 182 k) (fun q => gi h 185 q.toNat) (ruS (fun k => gi h 182 k) (fun q => gi h 185 q.toNat) k) := rfl
    have hz : (gi h 171 25 : Int) ≤ k → hgt (fun k => gi h 182 k) k = hgt (fun k => gi h 182 k) k := fun _ => rfl
    generalize hgt (fun k => gi h 182 k) k = t at *
    have lpos : 0 < k → 0 < (ruS (fun k => gi h 182 k) (fun q => gi h 185 q.toNat) k).length := fun z => lp k z hk
    refine x_iload_n 5 hK rfl rfl l2 ?_
    refine x_aload_n 6 hK rfl rfl l0 ?_
    have g114 := gri (0) (80) hG (a := 171) (r := 54) (k := 25) rfl rfl
    refine x_getE 9 hK rfl (Or.inl rfl) rfl (sp_171 (h := h1) hG1) (e := (gi h 171 25)) (FRM_gi hF1 (r := 54) rfl rfl) ?_
    refine x_if_icmp_ge 125 12 hK rfl rfl rfl (by omega) (by omega) (fun c4 => ?_) (fun c4 => ?_)
    · refine x_aload_n 126 hK rfl rfl l0 ?_
      refine x_getE 129 hK rfl (Or.inl rfl) rfl (sp_171 (h := h1) hG1) (e := (gi h 171 25)) (FRM_gi hF1 (r := 54) rfl rfl) ?_
      refine x_if_ne 146 132 hK rfl rfl rfl (by omega) (fun c7 => ?_) (fun c7 => ?_)
      · have kn : (k : Int) = gi h 171 25 := by omega
        have k1 : (gi h 171 25).toNat = k := by omega
        have s0 : gi h1 184 0 = ((ruS (fun k => gi h 182 k) (fun q => gi h 185 q.toNat) k).getD ((ruS (fun k => gi h 182 k) (fun q => gi h 185 q.toNat) k).length - 1) 0) := by
          have q := sk 0 (by have z := lpos (by omega); omega)
          rw [Nat.sub_zero] at q; exact q
        have dl : dlF (fun k => gi h 182 k) (gi h 171 25) (fun q => gi h 185 q.toNat) = max 1 (min 12 ((ruS (fun k => gi h 182 k) (fun q => gi h 185 q.toNat) k).getD ((ruS (fun k => gi h 182 k) (fun q => gi h 185 q.toNat) k).length - 1) 0)) := by unfold dlF; rw [if_neg (by omega), k1]
        have zr : r32 ((ruS (fun k => gi h 182 k) (fun q => gi h 185 q.toNat) k).getD ((ruS (fun k => gi h 182 k) (fun q => gi h 185 q.toNat) k).length - 1) 0) := by rw [← s0]; exact gi_r _ _ _
        refine x_aload_n 147 hK rfl rfl l0 ?_
        refine x_getR 150 hK rfl rfl (sp_171 (h := h1) hG1) (rf_171_27 (h := h1) hG1) ?_
        refine x_iconst 151 hK rfl rfl ?_
        refine x_ialoadE 152 hK rfl rfl (sp_184 (h := h1) hG1) (by omega) (by omega) (by omega) (e' := ((ruS (fun k => gi h 182 k) (fun q => gi h 185 q.toNat) k).getD ((ruS (fun k => gi h 182 k) (fun q => gi h 185 q.toNat) k).length - 1) 0)) (s0) ?_
        refine x_istore_n 153 hK rfl rfl _ rfl ?_
        refine x_iconst 154 hK rfl rfl ?_
        refine x_bipush 156 hK rfl rfl rfl ?_
        refine x_iload_n 157 hK rfl rfl lk1_s ?_
        refine x_min 160 hK rfl rfl (Nat.le_of_ble_eq_true rfl) (by omega) (by omega) ?_
        refine x_max 163 hK rfl rfl (Nat.le_of_ble_eq_true rfl) (by omega) (by omega) ?_
        exact x_iret hK rfl ⟨by rw [dl], hG1, hF1⟩
      · have dl : dlF (fun k => gi h 182 k) (gi h 171 25) (fun q => gi h 185 q.toNat) = max 1 (min 12 ((gi h 185 0) / 8 + 1)) := by unfold dlF; rw [if_pos (by omega)]; rfl
        refine x_aload_n 133 hK rfl rfl l0 ?_
        refine x_getR 136 hK rfl rfl (sp_171 (h := h1) hG1) (rf_171_28 (h := h1) hG1) ?_
        refine x_iconst 137 hK rfl rfl ?_
        have g115 := gri (0) (40) hG (a := 185) (r := 68) (k := 0) rfl rfl
        refine x_ialoadE 138 hK rfl rfl (sp_185 (h := h1) hG1) (by omega) (by omega) (by omega) (e' := (gi h 185 0)) (FRM_gi hF1 (r := 68) rfl rfl) ?_
        refine x_bipush 140 hK rfl rfl rfl ?_
        refine x_idivp 141 hK rfl rfl (by omega) (by omega) (by omega) (by omega) ?_
        refine x_iconst 142 hK rfl rfl ?_
        refine x_iadd 143 hK rfl rfl ?_
        refine x_goto 152 hK rfl rfl ?_
        refine x_istore_n 153 hK rfl rfl _ rfl ?_
        refine x_iconst 154 hK rfl rfl ?_
        refine x_bipush 156 hK rfl rfl rfl ?_
        refine x_iload_n 157 hK rfl rfl lk1_s ?_
        refine x_min 160 hK rfl rfl (Nat.le_of_ble_eq_true rfl) (by omega) (by omega) ?_
        refine x_max 163 hK rfl rfl (Nat.le_of_ble_eq_true rfl) (by omega) (by omega) ?_
        exact x_iret hK rfl ⟨by rw [dl], hG1, hF1⟩
    · refine x_aload_n 13 hK rfl rfl l0 ?_
      refine x_getR 16 hK rfl rfl (sp_171 (h := h1) hG1) (rf_171_23 (h := h1) hG1) ?_
      refine x_iload_n 17 hK rfl rfl l2 ?_
      have g116 := gi_r h 182 k
      refine x_ialoadE 18 hK rfl rfl (sp_182 (h := h1) hG1) (by omega) (by omega) (by omega) (e' := (gi h 182 k)) (FRM_gi hF1 (r := 65) rfl rfl) ?_
      refine x_istore_n 19 hK rfl rfl _ rfl ?_
      refine x_iload_n 20 hK rfl rfl lk1_s ?_
      refine x_sipush 23 hK rfl rfl rfl ?_
      refine x_if_icmp_ne 46 26 hK rfl rfl rfl (by omega) (by omega) (fun c44 => ?_) (fun c44 => ?_)
      · refine x_iload_n 47 hK rfl rfl lk1_s ?_
        refine x_sipush 50 hK rfl rfl rfl ?_
        refine x_if_icmp_lt 89 53 hK rfl rfl rfl (by omega) (by omega) (fun c47 => ?_) (fun c47 => ?_)
        · have q1 := hq (by omega)
          refine x_aload_n 90 hK rfl rfl (lk1_n l0 (by decide) (Or.inl rfl)) ?_
          refine x_getR 93 hK rfl rfl (sp_171 (h := h1) hG1) (rf_171_27 (h := h1) hG1) ?_
          refine x_iload_n 94 hK rfl rfl (lk1_n l1 (by decide) (Or.inl rfl)) ?_
          refine x_iload_n 95 hK rfl rfl lk1_s ?_
          refine x_sipush 98 hK rfl rfl rfl ?_
          refine x_if_icmp_lt 114 101 hK rfl rfl rfl (by omega) (by omega) (fun c54 => ?_) (fun c54 => ?_)
          · refine x_iload_n 115 hK rfl rfl lk1_s ?_
            refine x_iastore 116 hK rfl rfl (sp_184 (h := h1) hG1) (by omega) (by omega) (by omega) ?_
            refine x_iinc 119 hK rfl rfl (lk1_n l1 (by decide) (Or.inl rfl)) _ rfl ?_
            refine x_iinc 122 hK rfl rfl (lk1_n (lk1_n l2 (by decide) (Or.inl rfl)) (by decide) (Or.inl rfl)) _ rfl ?_
            refine x_goto 4 hK rfl rfl ?_
            have hh : hgt (fun k => gi h 182 k) (k + 1) = (t + 1) := by omega
            have sn : SK (wI h1 184 t.toNat (gi h 182 k)) (ruS (fun k => gi h 182 k) (fun q => gi h 185 q.toNat) (k + 1)) := by
              rw [rs]; unfold ruStep; rw [if_neg (by omega), if_neg (by omega), if_neg (by omega)]; rw [show t.toNat = (ruS (fun k => gi h 182 k) (fun q => gi h 185 q.toNat) k).length by omega]; have z := SK_push (v := (gi h 182 k)) sk; rw [w32_e (by omega)] at z; exact z
            refine ih _ (by omega) (k + 1) _ _ rfl (by omega) sn (lk1_n (lk1_n (lk1_n l0 (by decide) (Or.inl rfl)) (by decide) (Or.inl rfl)) (by decide) (Or.inl rfl)) (by rw [hh]; exact (lk1_n lk1_s (by decide) (Or.inl rfl))) lk1_s (GD_wn (hG1) (r := 67) rfl rfl) (FRM_wn 0 79 (hF1) (r := 67) rfl rfl rfl (by omega) (by omega))
          · refine x_aload_n 102 hK rfl rfl (lk1_n l0 (by decide) (Or.inl rfl)) ?_
            refine x_getR 105 hK rfl rfl (sp_171 (h := h1) hG1) (rf_171_28 (h := h1) hG1) ?_
            refine x_iload_n 106 hK rfl rfl lk1_s ?_
            refine x_sipush 109 hK rfl rfl rfl ?_
            refine x_isub 110 hK rfl rfl ?_
            have g117 := gi_r h 185 ((gi h 182 k) - 1000).toNat
            refine x_ialoadE 111 hK rfl rfl (sp_185 (h := h1) hG1) (by omega) (by omega) (by omega) (e' := (gi h 185 ((gi h 182 k) - 1000).toNat)) (FRM_gi hF1 (r := 68) rfl rfl) ?_
            refine x_goto 115 hK rfl rfl ?_
            refine x_iastore 116 hK rfl rfl (sp_184 (h := h1) hG1) (by omega) (by omega) (by omega) ?_
            refine x_iinc 119 hK rfl rfl (lk1_n l1 (by decide) (Or.inl rfl)) _ rfl ?_
            refine x_iinc 122 hK rfl rfl (lk1_n (lk1_n l2 (by decide) (Or.inl rfl)) (by decide) (Or.inl rfl)) _ rfl ?_
            refine x_goto 4 hK rfl rfl ?_
            have hh : hgt (fun k => gi h 182 k) (k + 1) = (t + 1) := by omega
            have sn : SK (wI h1 184 t.toNat (gi h 185 ((gi h 182 k) - 1000).toNat)) (ruS (fun k => gi h 182 k) (fun q => gi h 185 q.toNat) (k + 1)) := by
              rw [rs]; unfold ruStep; rw [if_neg (by omega), if_neg (by omega), if_pos (by omega)]; rw [show t.toNat = (ruS (fun k => gi h 182 k) (fun q => gi h 185 q.toNat) k).length by omega]; have z := SK_push (v := (gi h 185 ((gi h 182 k) - 1000).toNat)) sk; rw [w32_e (by omega)] at z; exact z
            refine ih _ (by omega) (k + 1) _ _ rfl (by omega) sn (lk1_n (lk1_n (lk1_n l0 (by decide) (Or.inl rfl)) (by decide) (Or.inl rfl)) (by decide) (Or.inl rfl)) (by rw [hh]; exact (lk1_n lk1_s (by decide) (Or.inl rfl))) lk1_s (GD_wn (hG1) (r := 67) rfl rfl) (FRM_wn 0 79 (hF1) (r := 67) rfl rfl rfl (by omega) (by omega))
        · have q1 := hq (by omega)
          obtain ⟨y, x, r, hs⟩ : ∃ y x r, (ruS (fun k => gi h 182 k) (fun q => gi h 185 q.toNat) k) = y :: x :: r := by
            match hs : (ruS (fun k => gi h 182 k) (fun q => gi h 185 q.toNat) k) with
            | [] => rw [hs] at hl; simp at hl; omega
            | [x] => rw [hs] at hl; simp at hl; omega
            | y :: x :: r => exact ⟨y, x, r, rfl⟩
          rw [hs] at sk hl
          simp only [List.length_cons] at hl
          have ry : r32 y := by rw [← SK_hd sk]; exact gi_r _ _ _
          have rx : r32 x := by rw [← SK_hd (SK_tail sk)]; exact gi_r _ _ _
          have gk := gi_r h 182 k
          refine x_iinc 56 hK rfl rfl (lk1_n l1 (by decide) (Or.inl rfl)) _ rfl ?_
          refine x_aload_n 57 hK rfl rfl (lk1_n (lk1_n l0 (by decide) (Or.inl rfl)) (by decide) (Or.inl rfl)) ?_
          refine x_getR 60 hK rfl rfl (sp_171 (h := h1) hG1) (rf_171_27 (h := h1) hG1) ?_
          refine x_iload_n 61 hK rfl rfl lk1_s ?_
          refine x_iconst 62 hK rfl rfl ?_
          refine x_isub 63 hK rfl rfl ?_
          refine x_iload_n 64 hK rfl rfl (lk1_n lk1_s (by decide) (Or.inl rfl)) ?_
          refine x_sipush 67 hK rfl rfl rfl ?_
          refine x_isub 68 hK rfl rfl ?_
          refine x_aload_n 69 hK rfl rfl (lk1_n (lk1_n l0 (by decide) (Or.inl rfl)) (by decide) (Or.inl rfl)) ?_
          refine x_getR 72 hK rfl rfl (sp_171 (h := h1) hG1) (rf_171_27 (h := h1) hG1) ?_
          refine x_iload_n 73 hK rfl rfl lk1_s ?_
          refine x_iconst 74 hK rfl rfl ?_
          refine x_isub 75 hK rfl rfl ?_
          refine x_ialoadE 76 hK rfl rfl (sp_184 (h := h1) hG1) (by omega) (by omega) (by omega) (e' := x) ((show gi h1 184 ((t + (-1)) - 1).toNat = x from by rw [show ((t + (-1)) - 1).toNat = r.length by omega]; exact SK_hd (SK_tail sk))) ?_
          refine x_aload_n 77 hK rfl rfl (lk1_n (lk1_n l0 (by decide) (Or.inl rfl)) (by decide) (Or.inl rfl)) ?_
          refine x_getR 80 hK rfl rfl (sp_171 (h := h1) hG1) (rf_171_27 (h := h1) hG1) ?_
          refine x_iload_n 81 hK rfl rfl lk1_s ?_
          refine x_ialoadE 82 hK rfl rfl (sp_184 (h := h1) hG1) (by omega) (by omega) (by omega) (e' := y) ((show gi h1 184 (t + (-1)).toNat = y from by rw [show (t + (-1)).toNat = (x :: r).length by simp; omega]; exact SK_hd sk)) ?_
          refine x_callS 85 hK hmono rfl (Or.inl rfl) rfl [.int (I ((gi h 182 k) - 2000)), .int (I x), .int (I y)] [.int (I ((t + (-1)) - 1)), .ref 184] rfl rfl (Nat.le_of_ble_eq_true rfl) (Nat.le_of_ble_eq_true rfl) (CLd_le (Nat.le_of_ble_eq_true rfl) (ctX11_worked hSP (by omega) rx ry)) ?_
          rintro v9 h9 ⟨e9, rfl⟩
          rw [e9]
          clear e9
          have wr := wkF_r ((gi h 182 k) - 2000) x y
          refine x_iastore 86 hK rfl rfl (sp_184 (h := h1) hG1) (by omega) (by omega) (by omega) ?_
          refine x_goto 119 hK rfl rfl ?_
          refine x_iinc 122 hK rfl rfl (lk1_n (lk1_n l2 (by decide) (Or.inl rfl)) (by decide) (Or.inl rfl)) _ rfl ?_
          refine x_goto 4 hK rfl rfl ?_
          have hh : hgt (fun k => gi h 182 k) (k + 1) = (t + (-1)) := by omega
          have sn : SK (wI h1 184 ((t + (-1)) - 1).toNat (wkF ((gi h 182 k) - 2000) x y)) (ruS (fun k => gi h 182 k) (fun q => gi h 185 q.toNat) (k + 1)) := by
            rw [rs]; unfold ruStep; rw [if_neg (by omega), if_pos (by omega), hs]; rw [show ((t + (-1)) - 1).toNat = r.length by omega]; have z := SK_top (v := wkF ((gi h 182 k) - 2000) x y) (SK_tail sk); rw [w32_e (wkF_r _ _ _)] at z; exact z
          refine ih _ (by omega) (k + 1) _ _ rfl (by omega) sn (lk1_n (lk1_n (lk1_n l0 (by decide) (Or.inl rfl)) (by decide) (Or.inl rfl)) (by decide) (Or.inl rfl)) (by rw [hh]; exact (lk1_n lk1_s (by decide) (Or.inl rfl))) lk1_s (GD_wn (hG1) (r := 67) rfl rfl) (FRM_wn 0 79 (hF1) (r := 67) rfl rfl rfl (by omega) (by omega))
      · have q1 := hq (by omega)
        obtain ⟨x, r, hs⟩ : ∃ x r, (ruS (fun k => gi h 182 k) (fun q => gi h 185 q.toNat) k) = x :: r := by
          cases hs : (ruS (fun k => gi h 182 k) (fun q => gi h 185 q.toNat) k) with
          | nil => rw [hs] at hl; simp at hl; omega
          | cons x r => exact ⟨x, r, rfl⟩
        rw [hs] at sk hl
        simp only [List.length_cons] at hl
        refine x_aload_n 27 hK rfl rfl (lk1_n l0 (by decide) (Or.inl rfl)) ?_
        refine x_getR 30 hK rfl rfl (sp_171 (h := h1) hG1) (rf_171_27 (h := h1) hG1) ?_
        refine x_iload_n 31 hK rfl rfl (lk1_n l1 (by decide) (Or.inl rfl)) ?_
        refine x_iconst 32 hK rfl rfl ?_
        refine x_isub 33 hK rfl rfl ?_
        refine x_aload_n 34 hK rfl rfl (lk1_n l0 (by decide) (Or.inl rfl)) ?_
        refine x_getR 37 hK rfl rfl (sp_171 (h := h1) hG1) (rf_171_27 (h := h1) hG1) ?_
        refine x_iload_n 38 hK rfl rfl (lk1_n l1 (by decide) (Or.inl rfl)) ?_
        refine x_iconst 39 hK rfl rfl ?_
        refine x_isub 40 hK rfl rfl ?_
        refine x_ialoadE 41 hK rfl rfl (sp_184 (h := h1) hG1) (by omega) (by omega) (by omega) (e' := x) ((show gi h1 184 (t - 1).toNat = x from by rw [show (t - 1).toNat = r.length by omega]; exact SK_hd sk)) ?_
        refine x_ineg 42 hK rfl rfl ?_
        refine x_iastore 43 hK rfl rfl (sp_184 (h := h1) hG1) (by omega) (by omega) (by omega) ?_
        refine x_goto 119 hK rfl rfl ?_
        refine x_iinc 122 hK rfl rfl (lk1_n l2 (by decide) (Or.inl rfl)) _ rfl ?_
        refine x_goto 4 hK rfl rfl ?_
        have hh : hgt (fun k => gi h 182 k) (k + 1) = t := by omega
        have sn : SK (wI h1 184 (t - 1).toNat (-x)) (ruS (fun k => gi h 182 k) (fun q => gi h 185 q.toNat) (k + 1)) := by
          rw [rs]; unfold ruStep; rw [if_pos (by omega), hs]; rw [show (t - 1).toNat = r.length by omega]; exact SK_top sk
        refine ih _ (by omega) (k + 1) _ _ rfl (by omega) sn (lk1_n (lk1_n l0 (by decide) (Or.inl rfl)) (by decide) (Or.inl rfl)) (by rw [hh]; exact (lk1_n (lk1_n l1 (by decide) (Or.inl rfl)) (by decide) (Or.inl rfl))) lk1_s (GD_wn (hG1) (r := 67) rfl rfl) (FRM_wn 0 79 (hF1) (r := 67) rfl rfl rfl (by omega) (by omega))
  refine x_iconst 1 hK rfl rfl ?_
  refine x_istore_n 2 hK rfl rfl [(1, .int (I 0)), (0, .ref 171)] rfl ?_
  refine x_iconst 3 hK rfl rfl ?_
  refine x_istore_n 4 hK rfl rfl [(2, .int (I 0)), (1, .int (I 0)), (0, .ref 171)] rfl ?_
  exact loop _ 0 h _ rfl (by omega) (fun i hi => absurd hi (Nat.not_lt_zero _)) rfl rfl rfl hG FRM.rf
/-- what a rule asks: LONG, POSTS, LIARS, the rest of a STEP -/
def askF (h : aH) (step : Int) (q : Int) : Int := if q = 0 then gi h 171 3 else if q = 1 then gi h 171 4 else if q = 2 then gi h 171 5 else if q = 3 then step % 12 else 0
/-- DELAY of an order that is given in a STEP -/
def dlA (h : aH) (step : Int) : Int := dlF (fun k => gi h 182 k) (gi h 171 25) (askF h step)
theorem dlA_b (h : aH) (step : Int) : 1 ≤ dlA h step ∧ dlA h step ≤ 12 := dlF_b _ _ _
theorem ruS_congr {c c' : Nat → Int} {ak ak' : Int → Int} {n : Int} (hv : VCd c n) (hc : ∀ k : Nat, (k : Int) < n → c' k = c k) (ha : ∀ q, 0 ≤ q → q ≤ 3 → ak' q = ak q) : ∀ k : Nat, (k : Int) ≤ n → ruS c' ak' k = ruS c ak k
  | 0, _ => rfl
  | k + 1, hk => by
    have ih := ruS_congr hv hc ha k (by omega)
    obtain ⟨v1, v2, v3, v4, v5, v6⟩ := VC_at hv (k := k) (by omega)
    show ruStep (c' k) ak' (ruS c' ak' k) = ruStep (c k) ak (ruS c ak k)
    rw [ih, hc k (by omega)]
    unfold ruStep
    by_cases h1 : c k = 3000
    · rw [if_pos h1, if_pos h1]
    · rw [if_neg h1, if_neg h1]
      by_cases h2 : 2000 ≤ c k
      · rw [if_pos h2, if_pos h2]
      · rw [if_neg h2, if_neg h2]
        by_cases h3 : 1000 ≤ c k
        · rw [if_pos h3, if_pos h3, ha _ (by omega) (by have := v6 h3 (by omega); omega)]
        · rw [if_neg h3, if_neg h3]
theorem dlF_congr {c c' : Nat → Int} {ak ak' : Int → Int} {n : Int} (hv : VCd c n) (hc : ∀ k : Nat, (k : Int) < n → c' k = c k) (ha : ∀ q, 0 ≤ q → q ≤ 3 → ak' q = ak q) (h0 : 0 ≤ n) : dlF c' n ak' = dlF c n ak := by
  unfold dlF
  rw [ruS_congr hv hc ha n.toNat (by omega), ha 0 (by omega) (by omega)]
/-- nothing that it stands on has changed -/
theorem dlA_eq {h h' : aH} (e25 : gi h' 171 25 = gi h 171 25) (e3 : gi h' 171 3 = gi h 171 3) (e4 : gi h' 171 4 = gi h 171 4) (e5 : gi h' 171 5 = gi h 171 5) (ec : ∀ k, gi h' 182 k = gi h 182 k) (step : Int) : dlA h' step = dlA h step := by
  have ea : askF h' step = askF h step := by funext q; unfold askF; rw [e3, e4, e5]
  have e2 : (fun k => gi h' 182 k) = fun k => gi h 182 k := funext ec
  unfold dlA
  rw [e25, ea, e2]
def dlOk (M : MD) : Bool := !(mHas M 0 54 25) && !(mHas M 0 54 3) && (!(mHas M 0 54 4) && (!(mHas M 0 54 5) && (M.all fun q => !(Nat.beq q.1 0 && Nat.beq q.2.1 65))))
theorem dlA_F {M : MD} {h h' : aH} (hF : FRM gRL M h h') (hm : dlOk M = true) (step : Int) : dlA h' step = dlA h step := by
  simp only [dlOk, Bool.and_eq_true, Bool.not_eq_true'] at hm
  exact dlA_eq (FRM_gi hF (r := 54) rfl hm.1.1) (FRM_gi hF (r := 54) rfl hm.1.2) (FRM_gi hF (r := 54) rfl hm.2.1) (FRM_gi hF (r := 54) rfl hm.2.2.1) (fun k => FRM_gi hF (r := 65) rfl (mHas_non hm.2.2.2 k)) step
set_option maxRecDepth 4000 in
theorem ctX11_delayAtF {SP : CT} (hSP : MONO SP) {sh : List (Nat × Nat)} {h : aH} (hG : GD gE gRL sh h) {t : Int} (hX : XI h) (ht : 0 ≤ t ∧ t ≤ 2147483647) : CLd SP 5 mX11_delayAt [.ref 171, .int (I t)] h 0 0 (fun rv h' => rv = some (.int (I (dlA h t))) ∧ GD gE gRL sh h' ∧ FRM gRL [(0, 67, 0, 79), (0, 68, 0, 3)] h h') := by
  refine x_met _ rfl (Nat.le_of_ble_eq_true rfl) (fun K hK => ?_)
  have hmono := MONO_CLd hSP 4
  refine x_aload_n 1 hK rfl rfl rfl ?_
  refine x_getR 4 hK rfl rfl (sp_171 (h := h) hG) (rf_171_28 (h := h) hG) ?_
  refine x_iconst 5 hK rfl rfl ?_
  refine x_aload_n 6 hK rfl rfl rfl ?_
  have g118 := gri (2) (40) hG (a := 171) (r := 54) (k := 3) rfl rfl
  refine x_getE 9 hK rfl (Or.inl rfl) rfl (sp_171 (h := h) hG) (e := (gi h 171 3)) (rfl) ?_
  refine x_iastore 10 hK rfl rfl (sp_185 (h := h) hG) (by omega) (by omega) (by omega) ?_
  refine x_aload_n 11 hK rfl rfl rfl ?_
  refine x_getR 14 hK rfl rfl (sp_171 (h := h) hG) (rf_171_28 (h := h) hG) ?_
  refine x_iconst 15 hK rfl rfl ?_
  refine x_aload_n 16 hK rfl rfl rfl ?_
  have g119 := gri (0) (10) hG (a := 171) (r := 54) (k := 4) rfl rfl
  refine x_getE 19 hK rfl (Or.inl rfl) rfl (sp_171 (h := h) hG) (e := (gi h 171 4)) (gi_a (by decide) _) ?_
  refine x_iastore 20 hK rfl rfl (sp_185 (h := h) hG) (by omega) (by omega) (by omega) ?_
  refine x_aload_n 21 hK rfl rfl rfl ?_
  refine x_getR 24 hK rfl rfl (sp_171 (h := h) hG) (rf_171_28 (h := h) hG) ?_
  refine x_iconst 25 hK rfl rfl ?_
  refine x_aload_n 26 hK rfl rfl rfl ?_
  have g120 := gi_r h 171 5
  refine x_getE 29 hK rfl (Or.inl rfl) rfl (sp_171 (h := h) hG) (e := (gi h 171 5)) ((gi_a (by decide) _).trans (gi_a (by decide) _)) ?_
  refine x_iastore 30 hK rfl rfl (sp_185 (h := h) hG) (by omega) (by omega) (by omega) ?_
  refine x_aload_n 31 hK rfl rfl rfl ?_
  refine x_getR 34 hK rfl rfl (sp_171 (h := h) hG) (rf_171_28 (h := h) hG) ?_
  refine x_iconst 35 hK rfl rfl ?_
  refine x_iload_n 36 hK rfl rfl rfl ?_
  refine x_bipush 38 hK rfl rfl rfl ?_
  refine x_iremp 39 hK rfl rfl (by omega) (by omega) (by omega) (by omega) ?_
  refine x_iastore 40 hK rfl rfl (sp_185 (h := h) hG) (by omega) (by omega) (by omega) ?_
  refine x_aload_n 41 hK rfl rfl rfl ?_
  change K 41 _ _ (wI (wI (wI (wI h 185 0 (gi h 171 3)) 185 1 (gi h 171 4)) 185 2 (gi h 171 5)) 185 3 (t % 12)) _ _
  have hGp121 : GD gE gRL sh (wI (wI (wI (wI h 185 0 (gi h 171 3)) 185 1 (gi h 171 4)) 185 2 (gi h 171 5)) 185 3 (t % 12)) := GD_w0 (GD_w0 (GD_w0 (GD_w1 (hG) (r := 68) rfl (by omega) rfl (by omega) (by omega)) (r := 68) rfl rfl) (r := 68) rfl rfl) (r := 68) rfl rfl
  have hXp : XI (wI (wI (wI (wI h 185 0 (gi h 171 3)) 185 1 (gi h 171 4)) 185 2 (gi h 171 5)) 185 3 (t % 12)) := (xOk_ok rfl h (wI (wI (wI (wI h 185 0 (gi h 171 3)) 185 1 (gi h 171 4)) 185 2 (gi h 171 5)) 185 3 (t % 12)) (FRM_w (FRM_w (FRM_w (FRM_w ((FRM.rf : FRM gRL [(0, 68, 0, 0), (0, 68, 1, 1), (0, 68, 2, 2), (0, 68, 3, 3)] h h)) (r := 68) rfl rfl) (r := 68) rfl rfl) (r := 68) rfl rfl) (r := 68) rfl rfl) hX)
  refine x_callV 44 hK hmono rfl rfl [.ref 171] [] rfl rfl (Nat.le_of_ble_eq_true rfl) (Nat.le_of_ble_eq_true rfl) rfl (sp_171 (h := h) hG) (CLd_le (Nat.le_of_ble_eq_true rfl) (ctX11_ruledF hSP hGp121 hXp)) ?_
  rintro v2 h2 ⟨rfl, hG2, hF2⟩
  have c25 : gi (wI (wI (wI (wI h 185 0 (gi h 171 3)) 185 1 (gi h 171 4)) 185 2 (gi h 171 5)) 185 3 (t % 12)) 171 25 = gi h 171 25 := (gi_a (by decide) _).trans ((gi_a (by decide) _).trans ((gi_a (by decide) _).trans (gi_a (by decide) _)))
  have c182 : ∀ k, gi (wI (wI (wI (wI h 185 0 (gi h 171 3)) 185 1 (gi h 171 4)) 185 2 (gi h 171 5)) 185 3 (t % 12)) 182 k = gi h 182 k := fun k => (gi_a (by decide) _).trans ((gi_a (by decide) _).trans ((gi_a (by decide) _).trans (gi_a (by decide) _)))
  have q0 : gi (wI (wI (wI (wI h 185 0 (gi h 171 3)) 185 1 (gi h 171 4)) 185 2 (gi h 171 5)) 185 3 (t % 12)) 185 0 = gi h 171 3 := (gi_k (by decide) _).trans ((gi_k (by decide) _).trans ((gi_k (by decide) _).trans (gi_same (by omega))))
  have q1 : gi (wI (wI (wI (wI h 185 0 (gi h 171 3)) 185 1 (gi h 171 4)) 185 2 (gi h 171 5)) 185 3 (t % 12)) 185 1 = gi h 171 4 := (gi_k (by decide) _).trans ((gi_k (by decide) _).trans (gi_same (by omega)))
  have q2 : gi (wI (wI (wI (wI h 185 0 (gi h 171 3)) 185 1 (gi h 171 4)) 185 2 (gi h 171 5)) 185 3 (t % 12)) 185 2 = gi h 171 5 := (gi_k (by decide) _).trans (gi_same (by omega))
  have q3 : gi (wI (wI (wI (wI h 185 0 (gi h 171 3)) 185 1 (gi h 171 4)) 185 2 (gi h 171 5)) 185 3 (t % 12)) 185 3 = t % 12 := gi_same (by omega)
  have hd : dlF (fun k => gi (wI (wI (wI (wI h 185 0 (gi h 171 3)) 185 1 (gi h 171 4)) 185 2 (gi h 171 5)) 185 3 (t % 12)) 182 k) (gi (wI (wI (wI (wI h 185 0 (gi h 171 3)) 185 1 (gi h 171 4)) 185 2 (gi h 171 5)) 185 3 (t % 12)) 171 25) (fun q => gi (wI (wI (wI (wI h 185 0 (gi h 171 3)) 185 1 (gi h 171 4)) 185 2 (gi h 171 5)) 185 3 (t % 12)) 185 q.toNat) = dlA h t := by
    have hcl := gri 0 80 hG (a := 171) (r := 54) (k := 25) rfl rfl
    rw [c25]
    refine dlF_congr hX (fun k _ => c182 k) (fun q y1 y2 => ?_) hcl.1
    rcases (show q = 0 ∨ q = 1 ∨ q = 2 ∨ q = 3 by omega) with rfl | rfl | rfl | rfl
    · exact q0
    · exact q1
    · exact q2
    · exact q3
  rw [hd]
  exact x_iret hK rfl ⟨rfl, hG2, (FRM_w (FRM_w (FRM_w (FRM_w ((FRM.rf : FRM gRL [(0, 67, 0, 79), (0, 68, 0, 3)] h h)) (r := 68) rfl rfl) (r := 68) rfl rfl) (r := 68) rfl rfl) (r := 68) rfl rfl).trans ((hF2).mono rfl)⟩
