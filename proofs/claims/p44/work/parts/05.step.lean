/-! ONE STEP OF THE RUN IS THE MACHINE'S -/
def GW : List Jvm.Cond := lw_tbl.filter goodWord
def fty (t : Nat) : FieldType := match t with
  | 0 => .int
  | 1 => .long
  | 2 => .char
  | 3 => .boolean
  | 4 => .object RX8
  | 5 => .array .int
  | 6 => .array .long
  | _ => .int
def tysF (cy : Nat → ClassId) : List (ClassId × FieldType) := [(cy 0, .int), (cy 1, .long), (cy 2, .char), (cy 3, .boolean), (cy 4, .object RX8), (cy 5, .array .int), (cy 6, .array .long)]
theorem tys_at (cy : Nat → ClassId) {t : Nat} (h : t < 7) : (tysF cy)[t]? = some (cy t, fty t) := by
  rcases (show t = 0 ∨ t = 1 ∨ t = 2 ∨ t = 3 ∨ t = 4 ∨ t = 5 ∨ t = 6 by omega) with rfl | rfl | rfl | rfl | rfl | rfl | rfl <;> rfl
def Std (cy : Nat → ClassId) (dC : Nat → ClassId) (dI : Nat → Nat → Nat) (A : Nat → Prop) (H0 : Heap) (ad : Nat → Nat) (h : aH) (H : Heap) (locs : List Loc) : Prop :=
  va_P (dC, dI) vwCl (wd cy ad h) H ∧ va_D A (wd cy ad h) ∧ va_S A H0 H locs ∧ RV h
theorem pi_inv {st : List Value} {f : Int32 → List Value → Prop} (h : p_i st f) : ∃ x r, st = .int x :: r ∧ f x r := by
  unfold p_i at h; split at h; exact ⟨_, _, rfl, h⟩; exact h.elim
theorem pii_inv {st : List Value} {f : Int32 → Int32 → List Value → Prop} (h : p_ii st f) : ∃ x y r, st = .int y :: .int x :: r ∧ f x y r := by
  unfold p_ii at h; split at h; exact ⟨_, _, _, rfl, h⟩; exact h.elim
theorem pl_inv {st : List Value} {f : Int64 → List Value → Prop} (h : p_l st f) : ∃ x r, st = .long x :: r ∧ f x r := by
  unfold p_l at h; split at h; exact ⟨_, _, rfl, h⟩; exact h.elim
theorem pll_inv {st : List Value} {f : Int64 → Int64 → List Value → Prop} (h : p_ll st f) : ∃ x y r, st = .long y :: .long x :: r ∧ f x y r := by
  unfold p_ll at h; split at h; exact ⟨_, _, _, rfl, h⟩; exact h.elim
theorem pr_inv {st : List Value} {f : Nat → List Value → Prop} (h : p_r st f) : ∃ x r, st = .ref x :: r ∧ f x r := by
  unfold p_r at h; split at h; exact ⟨_, _, rfl, h⟩; exact h.elim
theorem pir_inv {st : List Value} {f : Nat → Int32 → List Value → Prop} (h : p_ir st f) : ∃ a x r, st = .int x :: .ref a :: r ∧ f a x r := by
  unfold p_ir at h; split at h; exact ⟨_, _, _, rfl, h⟩; exact h.elim
theorem piir_inv {st : List Value} {f : Nat → Int32 → Int32 → List Value → Prop} (h : p_iir st f) : ∃ a i x r, st = .int x :: .int i :: .ref a :: r ∧ f a i x r := by
  unfold p_iir at h; split at h; exact ⟨_, _, _, _, rfl, h⟩; exact h.elim
theorem plir_inv {st : List Value} {f : Nat → Int32 → Int64 → List Value → Prop} (h : p_lir st f) : ∃ a i x r, st = .long x :: .int i :: .ref a :: r ∧ f a i x r := by
  unfold p_lir at h; split at h; exact ⟨_, _, _, _, rfl, h⟩; exact h.elim
theorem prir_inv {st : List Value} {f : Nat → Int32 → Nat → List Value → Prop} (h : p_rir st f) : ∃ a i x r, st = .ref x :: .int i :: .ref a :: r ∧ f a i x r := by
  unfold p_rir at h; split at h; exact ⟨_, _, _, _, rfl, h⟩; exact h.elim
theorem plr_inv {st : List Value} {f : Nat → Int64 → List Value → Prop} (h : p_lr st f) : ∃ a x r, st = .long x :: .ref a :: r ∧ f a x r := by
  unfold p_lr at h; split at h; exact ⟨_, _, _, rfl, h⟩; exact h.elim
theorem prr_inv {st : List Value} {f : Nat → Nat → List Value → Prop} (h : p_rr st f) : ∃ a x r, st = .ref x :: .ref a :: r ∧ f a x r := by
  unfold p_rr at h; split at h; exact ⟨_, _, _, rfl, h⟩; exact h.elim
theorem pv_inv {st : List Value} {f : Value → List Value → Prop} (h : p_v st f) : ∃ x r, st = x :: r ∧ f x r := by
  unfold p_v at h; split at h; exact ⟨_, _, rfl, h⟩; exact h.elim
theorem pvv_inv {st : List Value} {f : Value → Value → List Value → Prop} (h : p_vv st f) : ∃ x y r, st = x :: y :: r ∧ f x y r := by
  unfold p_vv at h; split at h; exact ⟨_, _, _, rfl, h⟩; exact h.elim
theorem pcp_inv {st : List Value} {f : Nat → Int32 → Nat → Int32 → Int32 → List Value → Prop} (h : p_cp st f) : ∃ a0 sp a1 dp n r, st = .int n :: .int dp :: .ref a1 :: .int sp :: .ref a0 :: r ∧ f a0 sp a1 dp n r := by
  unfold p_cp at h; split at h; exact ⟨_, _, _, _, _, _, rfl, h⟩; exact h.elim
theorem li_inv {v : Option Value} {f : Int32 → Prop} (h : l_i v f) : ∃ x, v = some (.int x) ∧ f x := by
  unfold l_i at h; split at h; exact ⟨_, rfl, h⟩; exact h.elim
theorem ll_inv {v : Option Value} {f : Int64 → Prop} (h : l_l v f) : ∃ x, v = some (.long x) ∧ f x := by
  unfold l_l at h; split at h; exact ⟨_, rfl, h⟩; exact h.elim
theorem lr_inv {v : Option Value} {f : Nat → Prop} (h : l_r v f) : ∃ x, v = some (.ref x) ∧ f x := by
  unfold l_r at h; split at h; exact ⟨_, rfl, h⟩; exact h.elim
/-- ldc_w of a text: ldc's own proof (the library's ldcString), for the wide form -/
theorem va_ldcwS {p : Program} {l : Launch} {e : Env} {R : Room} {s : State} {m : MethodId} {args : Array Value} {below : List Frame} {meth : Method} {c : Code} {H : Heap} {locs : List Loc} {cells slots : Nat} {Q : State → Prop} {cc : ByteArray} {pc : Nat} {ls : Array Slot} {rest : List Value}
    (hexec : p.tables.exec = Jvm.exec) (hb : c.code = cc) {own tx : String} {index q : Nat} (hown : s.vm.findClass own = some m.cls) (hZ : vk_R own index tx q s) (hdg : decode cc pc = .ok (.ldc_w index, 3))
    (k : W p l e R s m args below meth c H locs cells slots Q (F0 m (pc + 3) ls (.ref q :: rest))) : W p l e R s m args below meth c H locs cells slots Q (F0 m pc ls rest) := by
  intro T hT X
  obtain ⟨t, a1, b1⟩ := k T hT X
  refine ⟨t, ?_, b1⟩
  obtain ⟨k9, cf, i, a', hk, hcf, hcp, -, hr, hev'⟩ := Cond.stringRef_spec hown hZ.1
  cases hZ.2.symm.trans hev'
  obtain ⟨k', hk', he⟩ := X.warmed.alike.2.2 _ _ hk
  have hr' : k'.resolved[index]? = some (some (.string q)) := by
    rcases X.warmed.entry hk hk' index with h | ⟨h, -⟩
    · rw [h]; exact hr
    · rw [hr] at h; cases h
  have hdg' : decode c.code (F0 m pc ls rest).pc = .ok (.ldc_w index, 3) := by rw [hb]; exact hdg
  jvm_step X.here [hexec, hdg', ldc_w.wp_string (e := e) (s := T) (f := F0 m pc ls rest) X.here.top hk' (by rw [he]; exact hcf) hcp hr']
  exact a1
/-- what the tables say of a row of code -/
def wdC (ci k : Nat) : String × String × String × Bool := match vwCl[ci]? with
  | some q => q.2.1 k
  | none => ("", "", "", false)
def wdN (ci : Nat) : String := match vwCl[ci]? with
  | some q => q.1
  | none => ""
def lenI (i : Instr) : Nat := match i with
  | .bipush _ => 2
  | .sipush _ => 3
  | .ldc _ => 2
  | .ldc_w _ => 3
  | .ldc2_w _ => 3
  | .iload _ => 2
  | .lload _ => 2
  | .aload _ => 2
  | .istore _ => 2
  | .lstore _ => 2
  | .astore _ => 2
  | .iinc _ _ => 3
  | .ifCond _ _ => 3
  | .if_icmp _ _ => 3
  | .goto _ => 3
  | .getfield _ => 3
  | .putfield _ => 3
  | .new _ => 3
  | .newarray _ => 2
  | .anewarray _ => 3
  | .multianewarray _ _ => 4
  | .invokevirtual _ => 3
  | .invokespecial _ => 3
  | .invokestatic _ => 3
  | _ => 1
def isSw (i : Instr) : Bool := match i with
  | .tableswitch _ _ _ _ => true
  | .lookupswitch _ _ => true
  | _ => false
/-- the string constants: their pool numbers and texts -/
def sidx : List Nat := [199, 226, 231, 233, 235, 319]
def stxt : List String := ["012345678", "lpxn", "<>=", "+-", "*/", "<=>p123456789"]
def cfx (own : String) (isI : Bool) (pc : Nat) (i : Instr) (r1 r2 : Nat) (r3 : Int) : Prop := match i with
  | .getfield idx => r1 < 12 ∧ r2 < nf r1 ∧ r3 = (fkd r1 r2 : Int) ∧ Jvm.Cond.fieldLink own idx (wdC r1 r2).1 (wdC r1 r2).2.1 (wdC r1 r2).2.2.1 ∈ GW
  | .putfield idx => r1 < 12 ∧ r2 < nf r1 ∧ r3 = (fkd r1 r2 : Int) ∧ Jvm.Cond.fieldLink own idx (wdC r1 r2).1 (wdC r1 r2).2.1 (wdC r1 r2).2.2.1 ∈ GW ∧ ((wdC r1 r2).2.2.2 = false ∨ (isI = true ∧ (wdC r1 r2).1 = own))
  | .ldc idx => (r1 = 0 ∧ Jvm.Cond.constant own idx (Int32.ofInt r3) ∈ GW) ∨ (r1 = 1 ∧ r2 < 6 ∧ own = RX11 ∧ sidx.getD r2 0 = idx)
  | .ldc_w idx => (r1 = 0 ∧ Jvm.Cond.constant own idx (Int32.ofInt r3) ∈ GW) ∨ (r1 = 1 ∧ r2 < 6 ∧ own = RX11 ∧ sidx.getD r2 0 = idx)
  | .ldc2_w idx => Jvm.Cond.constantLong own idx (Int64.ofInt r3) ∈ GW
  | .new idx => Jvm.Cond.classLink own idx (wdN r1) ∈ GW ∧ Jvm.Cond.instantiable (wdN r1) (nf r1) ∈ GW ∧ Jvm.Cond.initialized (wdN r1) ∈ GW
  | .newarray at_ => r1 < 4 ∧ fty r1 = newarray.typeOf at_ ∧ Jvm.Cond.arrayClass (newarray.typeOf at_) ∈ GW
  | .anewarray idx => Jvm.Cond.classLink own idx RX8 ∈ GW
  | .multianewarray idx d => d = 2 ∧ (r1 = 5 ∨ r1 = 6) ∧ Jvm.Cond.classLink own idx ("[" ++ (FieldType.array (fty (r1 - 5))).toString) ∈ GW ∧ Jvm.Cond.arrayClass (fty (r1 - 5)) ∈ GW
  | .ifCond _ off => 0 ≤ (pc : Int) + off
  | .if_icmp _ off => 0 ≤ (pc : Int) + off
  | .goto off => 0 ≤ (pc : Int) + off
  | .tableswitch dflt lo hi offs => hi = lo + offs.size - 1 ∧ 0 ≤ (pc : Int) + dflt ∧ ∀ o ∈ offs.toList, 0 ≤ (pc : Int) + o
  | .lookupswitch dflt ps => (ps.toList.zip (ps.toList.drop 1)).all (fun (a, next) => a.1 < next.1) = true ∧ 0 ≤ (pc : Int) + dflt ∧ ∀ o ∈ ps.toList, 0 ≤ (pc : Int) + o.2
  | _ => True
def pln (i : Instr) : Bool := match i with
  | .getfield _ => false
  | .putfield _ => false
  | .iaload => false
  | .caload => false
  | .baload => false
  | .laload => false
  | .aaload => false
  | .iastore => false
  | .castore => false
  | .bastore => false
  | .lastore => false
  | .aastore => false
  | .arraylength => false
  | .new _ => false
  | .newarray _ => false
  | .anewarray _ => false
  | .multianewarray _ _ => false
  | .invokevirtual _ => false
  | .invokespecial _ => false
  | .invokestatic _ => false
  | .ireturn => false
  | .lreturn => false
  | .return_ => false
  | .ldc _ => false
  | .ldc_w _ => false
  | _ => true
theorem tg_eq {pc : Nat} {off : Int} (h : 0 ≤ (pc : Int) + off) : (pc : Int) + off = (tg pc off : Int) := (Int.toNat_of_nonneg h).symm
section SND
variable {p : Program} {l : Launch} {e : Env} {R : Room} {s : State} {m : MethodId} {args : Array Value} {below : List Frame} {meth : Method} {c : Code} {Z : State → Prop}
variable {cc : ByteArray} {nL : Nat} {own : String} {isI : Bool} {ret : Option FieldType}
variable {cy : Nat → ClassId} {dC : Nat → ClassId} {dI : Nat → Nat → Nat} {A : Nat → Prop} {ad0 : Nat → Nat} {bz n0 C S : Nat}
/-- the places of what was there stay; and all places, where nothing can be made -/
def HAD (bz n0 : Nat) (ad0 ad : Nat → Nat) (bc : Nat) : Prop := (∀ j, j < n0 ∨ 1000000 ≤ j → ad j = ad0 j) ∧ bc ≤ bz ∧ (bz = 0 → ad = ad0)
/-- where the run goes on, the machine goes on -/
def GO (p : Program) (l : Launch) (e : Env) (R : Room) (s : State) (m : MethodId) (args : Array Value) (below : List Frame) (meth : Method) (c : Code) (Z : State → Prop) (nL : Nat) (cy : Nat → ClassId) (dC : Nat → ClassId) (dI : Nat → Nat → Nat) (A : Nat → Prop) (ad0 : Nat → Nat) (bz n0 C S : Nat) (K : KT) : Prop :=
  ∀ (pc : Nat) (ls : List (Nat × Value)) (st : List Value) (h : aH) (bc bs : Nat), K pc ls st h bc bs → ∀ (ad : Nat → Nat) (arr : Array Slot) (H : Heap) (locs : List Loc) (cells slots : Nat),
    HAD bz n0 ad0 ad bc → n0 ≤ h.1.length → h.1.length < 1000000 → Std cy dC dI A s.heap ad h H locs → lv_has arr nL (cvl ad ls) → cells + bc ≤ C → slots + bs ≤ S →
    W p l e R s m args below meth c H locs cells slots Z (F0 m pc arr (st.map (cv ad)))

set_option maxHeartbeats 2000000 in
theorem snd_plain {CL : CT} {Q : QT} {K : KT} (hx : p.tables.exec = Jvm.exec) (hb : c.code = cc) (hown : s.vm.findClass own = some m.cls) (hts : ∀ w ∈ GW, w.before args s = true) (hK : GO p l e R s m args below meth c Z nL cy dC dI A ad0 bz n0 C S K)
    {i : Instr} {r1 r2 : Nat} {r3 : Int} {pc : Nat} {ls : List (Nat × Value)} {st : List Value} {h : aH} {bc bs : Nat} {len : Nat} (hd : decode cc pc = .ok (i, len)) (hlen : isSw i = true ∨ len = lenI i) (hcf : cfx own isI pc i r1 r2 r3) (hst : stp CL ret Q K i r1 r2 r3 pc ls st h bc bs)
    {ad : Nat → Nat} {arr : Array Slot} {H : Heap} {locs : List Loc} {cells slots : Nat} (had : HAD bz n0 ad0 ad bc) (hn0 : n0 ≤ h.1.length) (hsm : h.1.length < 1000000) (hS : Std cy dC dI A s.heap ad h H locs) (hl : lv_has arr nL (cvl ad ls)) (hc : cells + bc ≤ C) (hs : slots + bs ≤ S)
    (hnL : ∀ (k : Nat), (i = .istore k ∨ i = .astore k ∨ (∃ z, i = .iinc k z)) ∨ (∃ f : Fin 4, (f : Nat) = k ∧ (i = .istore_n f ∨ i = .astore_n f)) → k < nL) (hnL2 : ∀ (k : Nat), i = .lstore k ∨ (∃ f : Fin 4, (f : Nat) = k ∧ i = .lstore_n f) → k + 1 < nL)
    (hpl : pln i = true) :
    W p l e R s m args below meth c H locs cells slots Z (F0 m pc arr (st.map (cv ad))) := by
  have go : ∀ {pc' : Nat} {ls' : List (Nat × Value)} {st' : List Value}, K pc' ls' st' h bc bs → ∀ {arr' : Array Slot}, lv_has arr' nL (cvl ad ls') → W p l e R s m args below meth c H locs cells slots Z (F0 m pc' arr' (st'.map (cv ad))) := fun k _ hl' => hK _ _ _ _ _ _ k ad _ H locs cells slots had hn0 hsm hS hl' hc hs
  cases i
  case iconst n =>
    obtain rfl : len = 1 := by simpa [isSw, lenI] using hlen
    exact lv_iconst hx hb hd rfl (go hst hl)
  case bipush n =>
    obtain rfl : len = 2 := by simpa [isSw, lenI] using hlen
    exact lv_bipush hx hb hd rfl (go hst hl)
  case sipush n =>
    obtain rfl : len = 3 := by simpa [isSw, lenI] using hlen
    exact lv_sipush hx hb hd rfl (go hst hl)
  case lconst n =>
    obtain rfl : len = 1 := by simpa [isSw, lenI] using hlen
    exact lv_lconst hx hb hd rfl (go hst hl)
  case ldc2_w n =>
    obtain rfl : len = 3 := by simpa [isSw, lenI] using hlen
    exact lv_ldc2 hx hb hown (hts _ hcf) hd (go hst hl)
  case iadd =>
    obtain rfl : len = 1 := by simpa [isSw, lenI] using hlen
    obtain ⟨x, y, r, rfl, k⟩ := pii_inv hst
    exact lv_iadd hx hb hd (go k hl)
  case isub =>
    obtain rfl : len = 1 := by simpa [isSw, lenI] using hlen
    obtain ⟨x, y, r, rfl, k⟩ := pii_inv hst
    exact lv_isub hx hb hd (go k hl)
  case imul =>
    obtain rfl : len = 1 := by simpa [isSw, lenI] using hlen
    obtain ⟨x, y, r, rfl, k⟩ := pii_inv hst
    exact lv_imul hx hb hd (go k hl)
  case iand =>
    obtain rfl : len = 1 := by simpa [isSw, lenI] using hlen
    obtain ⟨x, y, r, rfl, k⟩ := pii_inv hst
    exact lv_iand hx hb hd (go k hl)
  case ior =>
    obtain rfl : len = 1 := by simpa [isSw, lenI] using hlen
    obtain ⟨x, y, r, rfl, k⟩ := pii_inv hst
    exact lv_ior hx hb hd (go k hl)
  case ixor =>
    obtain rfl : len = 1 := by simpa [isSw, lenI] using hlen
    obtain ⟨x, y, r, rfl, k⟩ := pii_inv hst
    exact lv_ixor hx hb hd (go k hl)
  case ishl =>
    obtain rfl : len = 1 := by simpa [isSw, lenI] using hlen
    obtain ⟨x, y, r, rfl, k⟩ := pii_inv hst
    exact lv_ishl hx hb hd (go k hl)
  case ishr =>
    obtain rfl : len = 1 := by simpa [isSw, lenI] using hlen
    obtain ⟨x, y, r, rfl, k⟩ := pii_inv hst
    exact lv_ishr hx hb hd (go k hl)
  case iushr =>
    obtain rfl : len = 1 := by simpa [isSw, lenI] using hlen
    obtain ⟨x, y, r, rfl, k⟩ := pii_inv hst
    exact lv_iushr hx hb hd rfl (go k hl)
  case idiv =>
    obtain rfl : len = 1 := by simpa [isSw, lenI] using hlen
    obtain ⟨x, y, r, rfl, k⟩ := pii_inv hst
    exact lv_idiv hx hb hd k.1 (go k.2 hl)
  case irem =>
    obtain rfl : len = 1 := by simpa [isSw, lenI] using hlen
    obtain ⟨x, y, r, rfl, k⟩ := pii_inv hst
    exact lv_irem hx hb hd k.1 (go k.2 hl)
  case ineg =>
    obtain rfl : len = 1 := by simpa [isSw, lenI] using hlen
    obtain ⟨x, r, rfl, k⟩ := pi_inv hst
    exact lv_ineg hx hb hd (go k hl)
  case ladd =>
    obtain rfl : len = 1 := by simpa [isSw, lenI] using hlen
    obtain ⟨x, y, r, rfl, k⟩ := pll_inv hst
    exact lv_ladd hx hb hd (go k hl)
  case lsub =>
    obtain rfl : len = 1 := by simpa [isSw, lenI] using hlen
    obtain ⟨x, y, r, rfl, k⟩ := pll_inv hst
    exact lv_lsub hx hb hd (go k hl)
  case lmul =>
    obtain rfl : len = 1 := by simpa [isSw, lenI] using hlen
    obtain ⟨x, y, r, rfl, k⟩ := pll_inv hst
    exact lv_lmul hx hb hd (go k hl)
  case ldiv =>
    obtain rfl : len = 1 := by simpa [isSw, lenI] using hlen
    obtain ⟨x, y, r, rfl, k⟩ := pll_inv hst
    exact lv_ldiv hx hb hd k.1 (go k.2 hl)
  case lrem =>
    obtain rfl : len = 1 := by simpa [isSw, lenI] using hlen
    obtain ⟨x, y, r, rfl, k⟩ := pll_inv hst
    exact lv_lrem hx hb hd k.1 (go k.2 hl)
  case lcmp =>
    obtain rfl : len = 1 := by simpa [isSw, lenI] using hlen
    obtain ⟨x, y, r, rfl, k⟩ := pll_inv hst
    exact W.lcmp hx hb hd (go k hl)
  case i2l =>
    obtain rfl : len = 1 := by simpa [isSw, lenI] using hlen
    obtain ⟨x, r, rfl, k⟩ := pi_inv hst
    exact lv_i2l hx hb hd rfl (go k hl)
  case i2b =>
    obtain rfl : len = 1 := by simpa [isSw, lenI] using hlen
    obtain ⟨x, r, rfl, k⟩ := pi_inv hst
    exact lv_i2b hx hb hd rfl (go k hl)
  case i2s =>
    obtain rfl : len = 1 := by simpa [isSw, lenI] using hlen
    obtain ⟨x, r, rfl, k⟩ := pi_inv hst
    exact lv_i2s hx hb hd rfl (go k hl)
  case i2c =>
    obtain rfl : len = 1 := by simpa [isSw, lenI] using hlen
    obtain ⟨x, r, rfl, k⟩ := pi_inv hst
    exact lv_i2c hx hb hd rfl (go k hl)
  case l2i =>
    obtain rfl : len = 1 := by simpa [isSw, lenI] using hlen
    obtain ⟨x, r, rfl, k⟩ := pl_inv hst
    exact lv_l2i hx hb hd rfl (go k hl)
  case dup =>
    obtain rfl : len = 1 := by simpa [isSw, lenI] using hlen
    obtain ⟨v, r, rfl, k⟩ := pv_inv hst
    exact lv_dup hx hb hd (by rw [cv_cat]; exact k.1) (go k.2 hl)
  case pop =>
    obtain rfl : len = 1 := by simpa [isSw, lenI] using hlen
    obtain ⟨v, r, rfl, k⟩ := pv_inv hst
    exact lv_pop hx hb hd (by rw [cv_cat]; exact k.1) (go k.2 hl)
  case dup2 =>
    obtain rfl : len = 1 := by simpa [isSw, lenI] using hlen
    obtain ⟨v, w, r, rfl, k⟩ := pvv_inv hst
    exact lv_dup2_11 hx hb hd (by rw [cv_cat]; exact k.1) (by rw [cv_cat]; exact k.2.1) (go k.2.2 hl)
  case iload j =>
    obtain rfl : len = 2 := by simpa [isSw, lenI] using hlen
    obtain ⟨x, hlk, k⟩ := li_inv hst
    obtain ⟨q, hq⟩ := lk_at (ad := ad) hlk
    exact lv_iload hx hb hd (lv_at hl q hq) (go k hl)
  case iload_n j =>
    obtain rfl : len = 1 := by simpa [isSw, lenI] using hlen
    obtain ⟨x, hlk, k⟩ := li_inv hst
    obtain ⟨q, hq⟩ := lk_at (ad := ad) hlk
    exact lv_iload_n hx hb hd rfl (lv_at hl q hq) (go k hl)
  case lload j =>
    obtain rfl : len = 2 := by simpa [isSw, lenI] using hlen
    obtain ⟨x, hlk, k⟩ := ll_inv hst
    obtain ⟨q, hq⟩ := lk_at (ad := ad) hlk
    exact lv_lload hx hb hd (lv_at hl q hq) (go k hl)
  case lload_n j =>
    obtain rfl : len = 1 := by simpa [isSw, lenI] using hlen
    obtain ⟨x, hlk, k⟩ := ll_inv hst
    obtain ⟨q, hq⟩ := lk_at (ad := ad) hlk
    exact lv_lload_n hx hb hd rfl (lv_at hl q hq) (go k hl)
  case aload j =>
    obtain rfl : len = 2 := by simpa [isSw, lenI] using hlen
    obtain ⟨x, hlk, k⟩ := lr_inv hst
    obtain ⟨q, hq⟩ := lk_at (ad := ad) hlk
    exact lv_aload hx hb hd (lv_at hl q hq) (go k hl)
  case aload_n j =>
    obtain rfl : len = 1 := by simpa [isSw, lenI] using hlen
    obtain ⟨x, hlk, k⟩ := lr_inv hst
    obtain ⟨q, hq⟩ := lk_at (ad := ad) hlk
    exact lv_aload_n hx hb hd rfl (lv_at hl q hq) (go k hl)
  case istore j =>
    obtain rfl : len = 2 := by simpa [isSw, lenI] using hlen
    obtain ⟨x, r, rfl, k⟩ := pi_inv hst
    exact lv_istore hx hb hd hl (hnL j (Or.inl (Or.inl rfl))) (cvl_so1 ad ls j (.int x)) (fun _ hl' => go k hl')
  case istore_n j =>
    obtain rfl : len = 1 := by simpa [isSw, lenI] using hlen
    obtain ⟨x, r, rfl, k⟩ := pi_inv hst
    exact lv_istore_n hx hb hd rfl hl (hnL (j : Nat) (Or.inr ⟨j, rfl, Or.inl rfl⟩)) (cvl_so1 ad ls j (.int x)) (fun _ hl' => go k hl')
  case astore j =>
    obtain rfl : len = 2 := by simpa [isSw, lenI] using hlen
    obtain ⟨x, r, rfl, k⟩ := pr_inv hst
    exact lv_astore hx hb hd hl (hnL j (Or.inl (Or.inr (Or.inl rfl)))) (cvl_so1 ad ls j (.ref x)) (fun _ hl' => go k hl')
  case astore_n j =>
    obtain rfl : len = 1 := by simpa [isSw, lenI] using hlen
    obtain ⟨x, r, rfl, k⟩ := pr_inv hst
    exact lv_astore_n hx hb hd rfl hl (hnL (j : Nat) (Or.inr ⟨j, rfl, Or.inr rfl⟩)) (cvl_so1 ad ls j (.ref x)) (fun _ hl' => go k hl')
  case lstore j =>
    obtain rfl : len = 2 := by simpa [isSw, lenI] using hlen
    obtain ⟨x, r, rfl, k⟩ := pl_inv hst
    exact lv_lstore hx hb hd hl (hnL2 j (Or.inl rfl)) (cvl_so2 ad ls j (.long x)) (fun _ hl' => go k hl')
  case lstore_n j =>
    obtain rfl : len = 1 := by simpa [isSw, lenI] using hlen
    obtain ⟨x, r, rfl, k⟩ := pl_inv hst
    exact lv_lstore_n hx hb hd rfl hl (hnL2 (j : Nat) (Or.inr ⟨j, rfl, rfl⟩)) (cvl_so2 ad ls j (.long x)) (fun _ hl' => go k hl')
  case iinc j z =>
    obtain rfl : len = 3 := by simpa [isSw, lenI] using hlen
    obtain ⟨x, hlk, k⟩ := li_inv hst
    obtain ⟨q, hq⟩ := lk_at (ad := ad) hlk
    exact lv_iinc hx hb hd hl hq rfl (hnL j (Or.inl (Or.inr (Or.inr ⟨z, rfl⟩)))) (cvl_so1 ad ls j (.int (x + Int32.ofInt z))) (fun _ hl' => go k hl')
  case goto off =>
    obtain rfl : len = 3 := by simpa [isSw, lenI] using hlen
    exact lv_goto hx hb hd (tg_eq hcf) (go hst hl)
  case ifCond cd off =>
    obtain rfl : len = 3 := by simpa [isSw, lenI] using hlen
    obtain ⟨x, r, rfl, k⟩ := pi_inv hst
    cases cd
    · exact lv_if_eq hx hb hd (tg_eq hcf) (fun q => go (k.1 q) hl) (fun q => go (k.2 q) hl)
    · exact lv_if_ne hx hb hd (tg_eq hcf) (fun q => go (k.1 q) hl) (fun q => go (k.2 (not_not_intro q)) hl)
    · exact lv_if_lt hx hb hd (tg_eq hcf) (fun q => go (k.1 q) hl) (fun q => go (k.2 q) hl)
    · exact lv_if_ge hx hb hd (tg_eq hcf) (fun q => go (k.1 q) hl) (fun q => go (k.2 q) hl)
    · exact lv_if_gt hx hb hd (tg_eq hcf) (fun q => go (k.1 q) hl) (fun q => go (k.2 q) hl)
    · exact lv_if_le hx hb hd (tg_eq hcf) (fun q => go (k.1 q) hl) (fun q => go (k.2 q) hl)
  case if_icmp cd off =>
    obtain rfl : len = 3 := by simpa [isSw, lenI] using hlen
    obtain ⟨x, y, r, rfl, k⟩ := pii_inv hst
    cases cd
    · exact lv_icmp_eq hx hb hd (tg_eq hcf) (fun q => go (k.1 q) hl) (fun q => go (k.2 q) hl)
    · exact lv_icmp_ne hx hb hd (tg_eq hcf) (fun q => go (k.1 q) hl) (fun q => go (k.2 (not_not_intro q)) hl)
    · exact lv_icmp_lt hx hb hd (tg_eq hcf) (fun q => go (k.1 q) hl) (fun q => go (k.2 q) hl)
    · exact lv_icmp_ge hx hb hd (tg_eq hcf) (fun q => go (k.1 q) hl) (fun q => go (k.2 q) hl)
    · exact lv_icmp_gt hx hb hd (tg_eq hcf) (fun q => go (k.1 q) hl) (fun q => go (k.2 q) hl)
    · exact lv_icmp_le hx hb hd (tg_eq hcf) (fun q => go (k.1 q) hl) (fun q => go (k.2 q) hl)
  case tableswitch dflt lo hi offs =>
    obtain ⟨x, r, rfl, k⟩ := pi_inv hst
    obtain ⟨h1, h2, h3⟩ := hcf
    by_cases hlo : x.toInt < lo
    · have e : swo dflt lo offs.toList x = dflt := if_pos hlo
      rw [e] at k
      exact lv_tableOut hx hb hd (Or.inl hlo) (tg_eq h2) (go k hl)
    · by_cases hhi : hi < x.toInt
      · have e : swo dflt lo offs.toList x = dflt := by
          unfold swo
          rw [if_neg hlo, List.getElem?_eq_none (by rw [Array.length_toList]; omega)]
          rfl
        rw [e] at k
        exact lv_tableOut hx hb hd (Or.inr hhi) (tg_eq h2) (go k hl)
      · have hlt : (x.toInt - lo).toNat < offs.toList.length := by rw [Array.length_toList]; omega
        have e0 : offs.toList[(x.toInt - lo).toNat]? = some offs.toList[(x.toInt - lo).toNat] := List.getElem?_eq_getElem hlt
        have e : swo dflt lo offs.toList x = offs.toList[(x.toInt - lo).toNat] := by
          unfold swo
          rw [if_neg hlo, e0]
          rfl
        rw [e] at k
        exact lv_tableIn hx hb hd hlo hhi (by rw [← Array.getElem?_toList]; exact e0) (tg_eq (h3 _ (List.getElem_mem hlt))) (go k hl)
  case lookupswitch dflt ps =>
    obtain ⟨x, r, rfl, k⟩ := pi_inv hst
    obtain ⟨h1, h2, h3⟩ := hcf
    refine lv_lookup hx hb hd h1 rfl (tg_eq ?_) (go k hl)
    have : ∀ (l : List (Int × Int)) (d z : Int), 0 ≤ (pc : Int) + d → (∀ o ∈ l, 0 ≤ (pc : Int) + o.2) → 0 ≤ (pc : Int) + Op.lookupswitch.offset l d z := by
      intro l
      induction l with
      | nil => intro d z hd _; exact hd
      | cons q r ih =>
        intro d z hd hl
        obtain ⟨a, o⟩ := q
        unfold Op.lookupswitch.offset
        split
        · exact hl _ List.mem_cons_self
        · exact ih d z hd (fun o ho => hl o (List.mem_cons_of_mem _ ho))
    exact this _ _ _ h2 h3
  all_goals first | exact False.elim hst | exact absurd hpl Bool.false_ne_true
end SND
