/-! THE CHECKER'S WALK through a method -/
/-- a place where paths meet: its number, what holds there, its measure: (0, c, _) a number, (1, i, b) b less local i, (2, i, b) local i less b -/
abbrev CU : Type := Nat × List (Nat × AV) × List AV × OV × List (Nat × Nat × Int)
/-- the locals that are measured -/
def msl (c : List (Nat × Nat × Int)) : List (Nat × Int) := c.filterMap fun q => if Nat.beq q.1 0 then none else some (q.2.1, 0)
def dlG (dl : List (Nat × Int)) (i : Nat) : Option Int := match dl with
  | [] => none
  | q :: t => if Nat.beq q.1 i then some q.2 else dlG t i
/-- is the second measure, where S has come to, less than the first -/
def mlt (S : AS) (m m' : List (Nat × Nat × Int)) : Bool := match m, m' with
  | (0, c, _) :: t, (0, c', _) :: t' => Nat.blt c' c || (Nat.beq c' c && mlt S t t')
  | (1, i, b) :: t, (1, i', b') :: t' => Nat.beq i i' && decide (b = b') && (match dlG S.2.2.2 i with
    | some d => (ile 1 d && (match alk S.1 i with
        | some (0, _, _, hi) => ile hi b
        | _ => false)) || (decide (d = 0) && mlt S t t')
    | none => false)
  | (2, i, b) :: t, (2, i', b') :: t' => Nat.beq i i' && decide (b = b') && (match dlG S.2.2.2 i with
    | some d => (ile d (-1) && (match alk S.1 i with
        | some (0, _, lo, _) => ile b lo
        | _ => false)) || (decide (d = 0) && mlt S t t')
    | none => false)
  | _, _ => false
def lsle (S : AS) (l : List (Nat × AV)) : Bool := l.all fun q => match alk S.1 q.1 with
  | some v => avle v q.2
  | none => false
/-- arrival at a meeting place -/
def arrv (E : ET) (S : AS) (from_ : Option (List (Nat × Nat × Int))) (c : CU) : Bool := lsle S c.2.1 && avles S.2.1 c.2.2.1 && ovle E S.2.2.1 c.2.2.2.1 && (match from_ with
  | none => true
  | some m => mlt S m c.2.2.2.2)
def dropTo (ac : AC) (pc : Nat) : AC := match ac with
  | [] => []
  | q :: t => if Nat.beq q.1 pc then q :: t else dropTo t pc
def nxt (ac cur : AC) (pc : Nat) : AC := match cur with
  | _ :: q :: t => if Nat.beq q.1 pc then q :: t else dropTo ac pc
  | _ => dropTo ac pc
def outOk (E : ET) (o : OV) (v : List AV) (outs : List (List AV × OV × List (Nat × Int × Int))) : Bool := outs.any fun q => avles v q.1 && ovle E o q.2.1 && q.2.2.isEmpty
/-- a long is not written over a measured local -/
def hdlB (i : Instr) (dl : List (Nat × Int)) : Bool := match i with
  | .lstore k => dl.all fun q => !(Nat.beq q.1 (k + 1))
  | .lstore_n k => dl.all fun q => !(Nat.beq q.1 ((k : Nat) + 1))
  | _ => true
/-- the run of the checker from the row at the head of cur -/
def ck (E : ET) (sms : List SM) (ac : AC) (ret : Option FieldType) (sm : SM) (cs : List CU) (from_ : Option (List (Nat × Nat × Int))) : Nat → AC → AS → Bool
  | 0, _, _ => false
  | n + 1, cur, S => match cur with
    | [] => false
    | (pc, i, r1, r2, r3) :: _ => match i with
      | .ireturn => (match S.2.1 with
        | [v] => Nat.beq v.1 0 && (match ret with
          | some .int => true
          | some .boolean => ile 0 v.2.2.1 && ile v.2.2.2 1
          | _ => false) && outOk E S.2.2.1 [noP v] sm.2.2.2.1
        | _ => false)
      | .lreturn => (match S.2.1 with
        | [v] => Nat.beq v.1 1 && (match ret with
          | some .long => true
          | _ => false) && outOk E S.2.2.1 [noP v] sm.2.2.2.1
        | _ => false)
      | .return_ => (match S.2.1 with
        | [] => (match ret with
          | none => true
          | _ => false) && outOk E S.2.2.1 [] sm.2.2.2.1
        | _ => false)
      | _ => hdlB i S.2.2.2 && (match xrow E sms sm.2.2.2.2 i r1 r2 r3 pc S with
        | none => false
        | some l => l.all fun q => if cs.any fun c => Nat.beq c.1 q.1 then cs.any fun c => Nat.beq c.1 q.1 && arrv E q.2 from_ c
          else ck E sms ac ret sm cs from_ n (nxt ac cur q.1) q.2)
def aargs : Nat → List AV → List (Nat × AV)
  | _, [] => []
  | i, v :: t => (i, v) :: aargs (if Nat.beq v.1 1 then i + 2 else i + 1) t
def slfA (b : Bool) (as : List AV) : List AV := match b, as with
  | true, (2, r, z) :: t => (2, 500 + r, z) :: t
  | _, as => as
def plainP (v : AV) : Bool := Nat.beq (noP v).2.1 v.2.1
/-- a meeting place is well formed -/
def cuOk (c : CU) : Bool := (c.2.1.all fun q => plainP q.2) && c.2.2.1.all plainP && c.2.2.2.2.all fun q => Nat.beq q.1 0 || (match alk c.2.1 q.2.1 with
  | some (0, _) => true
  | _ => false)
/-- where the checker begins at a meeting place -/
def cuS (c : CU) : AS := (c.2.1, c.2.2.1, c.2.2.2.1, msl c.2.2.2.2)
/-- a meeting place, and to which its paths lead: (false, j) the j-th from here, (true, j) the j-th behind -/
abbrev CE : Type := CU × List (Bool × Nat)
def selC (done l : List CE) (js : List (Bool × Nat)) : List CU := js.filterMap fun j => (match j.1 with
  | true => done[j.2]?
  | false => l[j.2]?).map fun q : CE => q.1
def chkC (E : ET) (sms : List SM) (mi : MI) (sm : SM) (fuel : Nat) : List CE → List CE → Bool
  | _, [] => true
  | done, e :: t => ck E sms mi.2.2.2.2.1 mi.2.2.2.1 sm (selC done (e :: t) e.2) (some e.1.2.2.2.2) fuel (dropTo mi.2.2.2.2.1 e.1.1) (cuS e.1) && chkC E sms mi sm fuel (e :: done) t
/-- a method is checked: from its entry, and from each meeting place; slf: its receiver is named; es: to which places its entry leads -/
def chk (E : ET) (sms : List SM) (mi : MI) (slf : Bool) (sm : SM) (cs : List CE) (es : List (Bool × Nat)) (fuel : Nat) : Bool :=
  smwf sm && Nat.ble (acats sm.2.1) mi.2.2.1 && (cs.all fun e => cuOk e.1) && ck E sms mi.2.2.2.2.1 mi.2.2.2.1 sm (selC [] cs es) none fuel (dropTo mi.2.2.2.2.1 0) (aargs 0 (slfA slf sm.2.1), [], sm.2.2.1, []) && chkC E sms mi sm fuel [] cs
theorem selC_mem {done l : List CE} {js : List (Bool × Nat)} {c : CU} (h : c ∈ selC done l js) : ∃ e, (e ∈ done ∨ e ∈ l) ∧ e.1 = c := by
  obtain ⟨j, hj, h2⟩ := List.mem_filterMap.mp h
  obtain ⟨b, k⟩ := j
  cases b
  · obtain ⟨e, he, h3⟩ := Option.map_eq_some_iff.mp h2
    exact ⟨e, Or.inr (List.mem_of_getElem? he), h3⟩
  · obtain ⟨e, he, h3⟩ := Option.map_eq_some_iff.mp h2
    exact ⟨e, Or.inl (List.mem_of_getElem? he), h3⟩
theorem chkC_ok {E : ET} {sms : List SM} {mi : MI} {sm : SM} {fuel : Nat} {cs : List CE} (l : List CE) : ∀ (done : List CE), (∀ e ∈ done, e ∈ cs) → (∀ e ∈ l, e ∈ cs) → chkC E sms mi sm fuel done l = true → ∀ e ∈ l, ∃ sub : List CU, (∀ c ∈ sub, ∃ e' ∈ cs, e'.1 = c) ∧ ck E sms mi.2.2.2.2.1 mi.2.2.2.1 sm sub (some e.1.2.2.2.2) fuel (dropTo mi.2.2.2.2.1 e.1.1) (cuS e.1) = true := by
  induction l with
  | nil => intro _ _ _ _ e he; exact absurd he List.not_mem_nil
  | cons e t ih =>
    intro done hd hl hc e' he'
    unfold chkC at hc
    rw [Bool.and_eq_true] at hc
    rcases List.mem_cons.mp he' with rfl | he'
    · refine ⟨_, fun c hm => ?_, hc.1⟩
      obtain ⟨e2, h2, h3⟩ := selC_mem hm
      exact ⟨e2, h2.elim (hd e2) (hl e2), h3⟩
    · refine ih (e :: done) (fun q hq => ?_) (fun q hq => hl q (List.mem_cons_of_mem _ hq)) hc.2 e' he'
      rcases List.mem_cons.mp hq with rfl | hq
      · exact hl q List.mem_cons_self
      · exact hd q hq
/-! its measures -/
/-- the second is less -/
def decr : List Nat → List Nat → Prop
  | a :: t, a' :: t' => a' < a ∨ (a' = a ∧ decr t t')
  | _, _ => False
theorem decr_acc : ∀ (L : Nat) (m : List Nat), m.length ≤ L → Acc (fun m' m => decr m m' ∧ m'.length ≤ L) m
  | 0, m, h => by
    refine Acc.intro _ fun m' hm => ?_
    match m, h with
    | [], _ => exact False.elim hm.1
  | L + 1, [], _ => Acc.intro _ fun m' hm => False.elim hm.1
  | L + 1, a :: t, h => by
    have key : ∀ (a : Nat) (t : List Nat), t.length ≤ L → Acc (fun m' m => decr m m' ∧ m'.length ≤ L + 1) (a :: t) := by
      intro a
      induction a using Nat.strongRecOn with
      | ind a iha =>
        intro t ht
        have ac := decr_acc L t ht
        revert ht
        induction ac with
        | intro t _ iht =>
          intro ht
          refine Acc.intro _ fun m' hm => ?_
          match m', hm with
          | [], hm => exact False.elim hm.1
          | a' :: t', hm =>
            have ht' : t'.length ≤ L := by have := hm.2; simp only [List.length_cons] at this; omega
            rcases hm.1 with h1 | ⟨h1, h2⟩
            · exact iha a' h1 t' ht'
            · rw [h1]; exact iht t' ⟨h2, ht'⟩ ht'
    exact key a t (by simp only [List.length_cons] at h; omega)
def lval (ls : List (Nat × Value)) (i : Nat) : Int := match lk ls i with
  | some (.int x) => x.toInt
  | _ => 0
def ev (ρ : Nat → Int) (m : List (Nat × Nat × Int)) : List Nat := m.map fun q => match q.1 with
  | 0 => q.2.1
  | 1 => (q.2.2 - ρ q.2.1).toNat
  | _ => (ρ q.2.1 - q.2.2).toNat
theorem dlG_mem : ∀ {dl : List (Nat × Int)} {i : Nat} {d : Int}, dlG dl i = some d → (i, d) ∈ dl
  | [], _, _, h => by cases h
  | q :: t, i, d, h => by
    unfold dlG at h
    split at h
    · rename_i hq
      cases h
      rw [← Nat.beq_eq.mp hq]
      exact List.mem_cons_self
    · exact List.mem_cons_of_mem _ (dlG_mem h)
section CKS
variable {E : ET} {rl : List Nat} {sg : Nat → Option Nat} {sh : List (Nat × Nat)} {M : MD} {h0 : aH} {ρ : Nat → Int}
theorem mlt_ok {S : AS} {ls : List (Nat × Value)} {h : aH} (hg : gls rl sg S.1 ls h) (hd : gdl ρ S.2.2.2 ls) : ∀ (m m' : List (Nat × Nat × Int)), mlt S m m' = true → decr (ev ρ m) (ev (lval ls) m') := by
  intro m
  induction m with
  | nil =>
    intro m' hm
    cases m' <;> simp [mlt] at hm
  | cons q t ih =>
    intro m' hm
    cases m' with
    | nil => obtain ⟨k, i, b⟩ := q; rcases k with _ | _ | _ | k <;> simp [mlt] at hm
    | cons q' t' =>
      obtain ⟨k, i, b⟩ := q
      obtain ⟨k', i', b'⟩ := q'
      rcases k with _ | _ | _ | k <;> rcases k' with _ | _ | _ | k' <;> first
        | (simp [mlt] at hm; done)
        | skip
      · have hm : (Nat.blt i' i || (Nat.beq i' i && mlt S t t')) = true := hm
        rw [Bool.or_eq_true] at hm
        rcases hm with hm | hm
        · exact Or.inl (by simpa [Nat.blt_eq] using hm)
        · rw [Bool.and_eq_true] at hm
          exact Or.inr ⟨Nat.beq_eq.mp hm.1, ih _ hm.2⟩
      · have hm0 := hm
        clear hm
        have hm : (Nat.beq i i' && decide (b = b') && (match dlG S.2.2.2 i with
          | some d => (ile 1 d && (match alk S.1 i with
              | some (0, _, _, hi) => ile hi b
              | _ => false)) || (decide (d = 0) && mlt S t t')
          | none => false)) = true := hm0
        clear hm0
        simp only [Bool.and_eq_true] at hm
        obtain ⟨⟨e1, e2⟩, hm⟩ := hm
        obtain rfl := Nat.beq_eq.mp e1
        obtain rfl := of_decide_eq_true e2
        split at hm
        · rename_i d hdl
          obtain ⟨x, hx, hxr⟩ := hd _ (dlG_mem hdl)
          have hl : lval ls i = ρ i + d := by unfold lval; rw [hx]; exact hxr
          rw [Bool.or_eq_true] at hm
          rcases hm with hm | hm
          · left
            rw [Bool.and_eq_true] at hm
            obtain ⟨m1, m2⟩ := hm
            split at m2
            · rename_i p lo hi ha
              obtain ⟨y, hy, w, rfl, -, b2, -⟩ := hg _ (alk_mem ha)
              rw [hx] at hy
              cases hy
              have b2 : x.toInt ≤ hi := b2
              have m1 := ile_t m1
              have m2 := ile_t m2
              have hxr : x.toInt = ρ i + d := hxr
              show (b - lval ls i).toNat < (b - ρ i).toNat
              rw [hl]
              omega
            · cases m2
          · right
            rw [Bool.and_eq_true] at hm
            have hd0 := of_decide_eq_true hm.1
            refine ⟨?_, ih _ hm.2⟩
            show (b - lval ls i).toNat = (b - ρ i).toNat
            rw [hl, hd0, Int.add_zero]
        · cases hm
      · have hm0 := hm
        clear hm
        have hm : (Nat.beq i i' && decide (b = b') && (match dlG S.2.2.2 i with
          | some d => (ile d (-1) && (match alk S.1 i with
              | some (0, _, lo, _) => ile b lo
              | _ => false)) || (decide (d = 0) && mlt S t t')
          | none => false)) = true := hm0
        clear hm0
        simp only [Bool.and_eq_true] at hm
        obtain ⟨⟨e1, e2⟩, hm⟩ := hm
        obtain rfl := Nat.beq_eq.mp e1
        obtain rfl := of_decide_eq_true e2
        split at hm
        · rename_i d hdl
          obtain ⟨x, hx, hxr⟩ := hd _ (dlG_mem hdl)
          have hl : lval ls i = ρ i + d := by unfold lval; rw [hx]; exact hxr
          rw [Bool.or_eq_true] at hm
          rcases hm with hm | hm
          · left
            rw [Bool.and_eq_true] at hm
            obtain ⟨m1, m2⟩ := hm
            split at m2
            · rename_i p lo hi ha
              obtain ⟨y, hy, w, rfl, b1, -, -⟩ := hg _ (alk_mem ha)
              rw [hx] at hy
              cases hy
              have b1 : lo ≤ x.toInt := b1
              have m1 := ile_t m1
              have m2 := ile_t m2
              have hxr : x.toInt = ρ i + d := hxr
              show (lval ls i - b).toNat < (ρ i - b).toNat
              rw [hl]
              omega
            · cases m2
          · right
            rw [Bool.and_eq_true] at hm
            have hd0 := of_decide_eq_true hm.1
            refine ⟨?_, ih _ hm.2⟩
            show (lval ls i - b).toNat = (ρ i - b).toNat
            rw [hl, hd0, Int.add_zero]
        · cases hm
theorem avle_noP {v y : AV} : avle (noP v) y = avle v y := by
  obtain ⟨k, p, z⟩ := v
  obtain ⟨k', p', z'⟩ := y
  rcases k with _ | _ | k <;> rcases k' with _ | _ | _ | _ | k' <;> rfl
theorem avle_same (hE : EOK E rl sg) {ls ls' : List (Nat × Value)} {h h' : aH} {x y : AV} {v : Value} (g : gv rl sg ls h x v) (ha : avle x y = true) (hy : plainP y = true) : gv rl sg ls' h' y v := by
  obtain ⟨k, p, lo, hi⟩ := y
  obtain ⟨k', p', lo', hi'⟩ := x
  unfold plainP at hy
  rw [Nat.beq_eq] at hy
  match k, ha, hy with
  | 0, ha, hy =>
    simp only [avle, Bool.and_eq_true, Nat.beq_eq, sub1] at ha
    obtain ⟨rfl, a1, a2⟩ := ha
    obtain ⟨w, e, b1, b2, -⟩ := g
    have hp : p = 0 := hy.symm
    subst hp
    exact ⟨w, e, Int.le_trans (ile_t a1) b1, Int.le_trans b2 (ile_t a2), trivial⟩
  | 1, ha, hy =>
    simp only [avle, Bool.and_eq_true, Nat.beq_eq, sub1] at ha
    obtain ⟨rfl, a1, a2⟩ := ha
    obtain ⟨w, e, b1, b2, -⟩ := g
    have hp : p = 0 := hy.symm
    subst hp
    exact ⟨w, e, Int.le_trans (ile_t a1) b1, Int.le_trans b2 (ile_t a2), trivial⟩
  | 2, ha, hy =>
    simp only [avle, Bool.and_eq_true, Nat.beq_eq, Bool.or_eq_true] at ha
    obtain ⟨rfl, a1⟩ := ha
    obtain ⟨a, e, hr⟩ := g
    refine ⟨a, e, ?_⟩
    rcases a1 with rfl | a1
    · exact hr
    · have h9 := isr_rl hE hr
      have hlt := isr_lt hE hr
      have hp : p < 500 := by
        rw [← a1]
        unfold bse
        have hlt : p' < 1000 := hlt
        show (if p' < 500 then p' else p' - 500) < 500
        split <;> omega
      show isr rl sg p a
      unfold isr
      rw [if_pos hp, h9]
      exact congrArg some a1
  | 3, ha, hy =>
    simp only [avle, Bool.and_eq_true, Nat.beq_eq, Bool.or_eq_true] at ha
    obtain ⟨rfl, a1⟩ := ha
    obtain ⟨b, e, h6, hb⟩ := g
    refine ⟨b, e, h6, ?_⟩
    rcases a1 with rfl | rfl
    · exact Or.inl rfl
    · exact hb
  | k + 4, ha, _ => cases ha
theorem avles_same (hE : EOK E rl sg) {ls ls' : List (Nat × Value)} {h h' : aH} : ∀ {xs ys : List AV} {vs : List Value}, gst rl sg ls h xs vs → avles xs ys = true → (ys.all plainP) = true → gst rl sg ls' h' ys vs
  | [], [], [], _, _, _ => trivial
  | x :: xs, y :: ys, v :: vs, g, ha, hp => by
    unfold avles at ha
    rw [Bool.and_eq_true] at ha
    rw [List.all_cons, Bool.and_eq_true] at hp
    exact ⟨avle_same hE g.1 ha.1 hp.1, avles_same hE g.2 ha.2 hp.2⟩
  | [], y :: ys, _, _, ha, _ => by unfold avles at ha; cases ha
  | x :: xs, [], _, _, ha, _ => by unfold avles at ha; cases ha
theorem ovle_same (hE : EOK E rl sg) {h : aH} {o o' : OV} (hG : GD E rl sh h) (ho : gov rl sg o h) (hle : ovle E o o' = true) : gov rl sg o' h := by
  intro q hq a ha
  have h1 := List.all_eq_true.mp hle q hq
  simp only [sub1, Bool.and_eq_true] at h1
  have h2 := rd_ok hE hG ho ha (k := q.2.1)
  exact ⟨Int.le_trans (ile_t h1.1) h2.1, Int.le_trans h2.2 (ile_t h1.2)⟩
/-- arrival at a meeting place: what it says holds -/
theorem arrv_ok (hE : EOK E rl sg) {S : AS} {from_ : Option (List (Nat × Nat × Int))} {c : CU} {ls : List (Nat × Value)} {st : List Value} {h : aH} (hc : cuOk c = true) (ha : arrv E S from_ c = true) (hv : IV E rl sg sh M h0 ρ S ls st h) :
    IV E rl sg sh M h0 (lval ls) (cuS c) ls st h ∧ ∀ m, from_ = some m → decr (ev ρ m) (ev (lval ls) c.2.2.2.2) := by
  obtain ⟨a1, a2, a3, a4, a5, a6⟩ := hv
  unfold arrv at ha
  unfold cuOk at hc
  simp only [Bool.and_eq_true] at ha hc
  obtain ⟨⟨⟨h1, h2⟩, h3⟩, h4⟩ := ha
  obtain ⟨⟨c1, c2⟩, c3⟩ := hc
  have hls : gls rl sg c.2.1 ls h := by
    intro q hq
    have z := List.all_eq_true.mp h1 q hq
    split at z
    · rename_i v hv9
      obtain ⟨x, e1, e2⟩ := a3 _ (alk_mem hv9)
      exact ⟨x, e1, gv_noP (avle_same hE e2 (by rw [avle_noP]; exact z) (List.all_eq_true.mp c1 q hq))⟩
    · cases z
  refine ⟨⟨a1, a2, hls, avles_same hE a4 h2 c2, ovle_same hE a1 a5 h3, ?_⟩, ?_⟩
  · intro q hq
    obtain ⟨z, hz, hq2⟩ := List.mem_filterMap.mp hq
    split at hq2
    · cases hq2
    · rename_i hz0
      cases hq2
      have y := List.all_eq_true.mp c3 z hz
      rw [Bool.or_eq_true] at y
      rcases y with y | y
      · exact absurd y hz0
      · split at y
        · rename_i w hw
          obtain ⟨x, e1, u, rfl, -⟩ := hls _ (alk_mem hw)
          refine ⟨u, e1, ?_⟩
          show u.toInt = lval ls z.2.1 + 0
          unfold lval
          rw [e1]
          exact (Int.add_zero _).symm
        · cases y
  · intro m hm
    subst hm
    exact mlt_ok a3 a6 _ _ h4
theorem dropTo_ok : ∀ {ac : AC} {pc : Nat}, (∀ q ∈ dropTo ac pc, q ∈ ac) ∧ ∀ q t, dropTo ac pc = q :: t → q.1 = pc
  | [], pc => ⟨fun q hq => hq, fun q t h => by cases h⟩
  | q :: t, pc => by
    unfold dropTo
    split
    · rename_i h
      exact ⟨fun q hq => hq, fun q' t' e => by cases e; exact Nat.beq_eq.mp h⟩
    · exact ⟨fun q hq => List.mem_cons_of_mem _ (dropTo_ok.1 q hq), dropTo_ok.2⟩
theorem nxt_ok {ac cur : AC} {pc : Nat} (hc : ∀ q ∈ cur, q ∈ ac) : (∀ q ∈ nxt ac cur pc, q ∈ ac) ∧ ∀ q t, nxt ac cur pc = q :: t → q.1 = pc := by
  unfold nxt
  split
  · split
    · rename_i h
      exact ⟨fun q hq => hc q (List.mem_cons_of_mem _ hq), fun q' t' e => by cases e; exact Nat.beq_eq.mp h⟩
    · exact dropTo_ok
  · exact dropTo_ok
theorem hdlB_ok {i : Instr} {dl : List (Nat × Int)} (h : hdlB i dl = true) : ∀ k, (i = .lstore k ∨ ∃ f : Fin 4, (f : Nat) = k ∧ i = .lstore_n f) → ∀ q ∈ dl, q.1 ≠ k + 1 := by
  intro k hi q hq e
  rcases hi with rfl | ⟨f, rfl, rfl⟩
  · have := List.all_eq_true.mp h q hq
    rw [e] at this
    simp at this
  · have := List.all_eq_true.mp h q hq
    rw [e] at this
    simp at this
/-- what is said of a method's end -/
def QS (E : ET) (rl : List Nat) (sh : List (Nat × Nat)) (sm : SM) (as : List Value) (h0 : aH) : QT := fun rv h' => GD E rl sh h' ∧ FRM rl sm.2.2.2.2 h0 h' ∧ ∃ o ∈ sm.2.2.2.1, gst rl (fun _ => none) [] h' o.1 rv.toList ∧ gov rl (fun _ => none) o.2.1 h' ∧ ∀ q ∈ o.2.2, ∃ n : Int, numV as[q.1]? n ∧ q.2.1 ≤ n ∧ n ≤ q.2.2
theorem outOk_ok (hE : EOK E rl sg) {sm : SM} {as : List Value} {S : AS} {v : List AV} {rv : Option Value} {ls : List (Nat × Value)} {h : aH} (hw : smwf sm = true) (a1 : GD E rl sh h) (a2 : FRM rl sm.2.2.2.2 h0 h) (a5 : gov rl sg S.2.2.1 h) (g : gst rl sg ls h v rv.toList) (ho : outOk E S.2.2.1 v sm.2.2.2.1 = true) : QS E rl sh sm as h0 rv h := by
  obtain ⟨o, hm, ho⟩ := List.any_eq_true.mp ho
  simp only [Bool.and_eq_true] at ho
  unfold smwf at hw
  simp only [Bool.and_eq_true] at hw
  have w := List.all_eq_true.mp hw.2 o hm
  rw [Bool.and_eq_true] at w
  refine ⟨a1, a2, o, hm, avles_ok hE g ho.1.1 w.2, ovle_ok hE a1 a5 w.1 ho.1.2, fun q hq => ?_⟩
  rw [List.isEmpty_iff.mp ho.2] at hq
  cases hq
end CKS
