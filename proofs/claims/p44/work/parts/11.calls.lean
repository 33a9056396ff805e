/-! CALLS -/
def byJ : List (List Int32) := [[48, 49, 50, 51, 52, 53, 54, 55, 56], [108, 112, 120, 110], [60, 62, 61], [43, 45], [42, 47], [60, 61, 62, 112, 49, 50, 51, 52, 53, 54, 55, 56, 57]]
def leJ : List Nat := [9, 4, 3, 2, 2, 13]
/-- what of the heap no call changes: the texts, and statics -/
def U2 (adK adV : Nat → Nat) (A : Nat → Prop) (U : State) (H : Heap) : Prop :=
  vk_S 6 leJ byJ adK adV A U H ∧ va_Z "java/lang/String" "COMPACT_STRINGS" "Z" (.int 1) A U H ∧ va_Zq "jdk/internal/util/Preconditions" "SIOOBE_FORMATTER" "Ljava/util/function/BiFunction;" A U H ∧ vx_Zq "java/lang/Throwable" "UNASSIGNED_STACK" "[Ljava/lang/StackTraceElement;" A U H ∧ vx_Zq "java/lang/Throwable" "SUPPRESSED_SENTINEL" "Ljava/util/List;" A U H
theorem U2.moved {adK adV : Nat → Nat} {A : Nat → Prop} {u U : State} {H : Heap} (hvm : u.vm.Alike U.vm) (h : U2 adK adV A u H) : U2 adK adV A U H :=
  ⟨vk_S.moved hvm h.1, va_Z.moved hvm h.2.1, va_Zq.moved hvm h.2.2.1, vx_Zq.moved hvm h.2.2.2.1, vx_Zq.moved hvm h.2.2.2.2⟩
theorem U2.kept {adK adV : Nat → Nat} {A : Nat → Prop} {U : State} {H H1 : Heap} (h : U2 adK adV A U H) (hq : ∀ a : Nat, a < H.size → ¬ A a → H1[a]? = H[a]?) : U2 adK adV A U H1 :=
  ⟨vk_S.kept h.1 hq, va_Z.kept h.2.1 hq, va_Zq.kept h.2.2.1 hq, vx_Zq.kept h.2.2.2.1 hq, vx_Zq.kept h.2.2.2.2 hq⟩
theorem U2.narrow {adK adV : Nat → Nat} {A B : Nat → Prop} {U : State} {H : Heap} (h : U2 adK adV A U H) (hAB : ∀ q, B q → A q) : U2 adK adV B U H :=
  ⟨vk_S.narrow h.1 hAB, va_Z.narrow h.2.1 hAB, va_Zq.narrow h.2.2.1 hAB, vx_Zq.narrow h.2.2.2.1 hAB, vx_Zq.narrow h.2.2.2.2 hAB⟩
/-- the room of a method whose calls go d deep -/
def rmd (d mc ms : Nat) : Room := { frames := d + 9, cells := mc, slots := ms, locals := 60 * d + 240 }
def mws (mi : MI) : List Jvm.Cond := Jvm.Cond.code mi.1 mi.2.1 mi.2.2.1 mi.2.2.2.1 :: GW
def mPc (cy : Nat → ClassId) (dC : Nat → ClassId) (dI : Nat → Nat → Nat) (adK adV ad : Nat → Nat) (as : List Value) (h : aH) (sz : Nat) : Array Value → State → Prop :=
  va_Pc (as.map (cv ad)) (fun U => U.heap.size = sz ∧ va_P (dC, dI) vwCl (wd cy ad h) U.heap ∧ U1 cy dC dI adK U ∧ va_D (fun _ => True) (wd cy ad h) ∧ U2 adK adV (va_A (wd cy ad h) sz) U U.heap)
def mQc (cy : Nat → ClassId) (dC : Nat → ClassId) (dI : Nat → Nat → Nat) (ad : Nat → Nat) (h : aH) (sz mc : Nat) (Q : QT) : Array Value → State → Outcome → State → Prop := fun _ st o t =>
  (∃ (rv : Option Value) (h' : aH) (ad' : Nat → Nat), o = .returned (rv.map (cv ad')) ∧ Q rv h' ∧ (∀ j, j < h.1.length ∨ 1000000 ≤ j → ad' j = ad j) ∧ (mc = 0 → ad' = ad) ∧ h.1.length ≤ h'.1.length ∧ h'.1.length < 1000000 ∧ RV h' ∧
    va_P (dC, dI) vwCl (wd cy ad' h') t.heap ∧ va_D (va_A (wd cy ad h) sz) (wd cy ad' h')) ∧ va_F (va_A (wd cy ad h) sz) st t
/-- a method keeps what is said of it, at this depth -/
def MetOK (l : Launch) (d mid : Nat) (as : List Value) (h : aH) (mc ms : Nat) (Q : QT) : Prop := ∀ mi, mtab[mid]? = some mi → ∀ (cy : Nat → ClassId) (dC : Nat → ClassId) (dI : Nat → Nat → Nat) (adK adV ad : Nat → Nat) (sz : Nat),
  (∀ i, i < 6 → ad (1000000 + i) = adK i) → h.1.length < 1000000 → RV h → Met l mi.1 (mws mi) (rmd d mc ms) (mPc cy dC dI adK adV ad as h sz) (mQc cy dC dI ad h sz mc Q) mc ms (va_A (wd cy ad h) sz)
/-- what the tables say of a call -/
def cfc (own : String) (i : Instr) (r1 r2 : Nat) (r3 : Int) : Prop :=
  match r2 with
  | 10 => ∃ idx, i = .invokestatic idx ∧ Jvm.Cond.methodLink own idx Lib.Math.max.name ∈ GW
  | 11 => ∃ idx, i = .invokestatic idx ∧ Jvm.Cond.methodLink own idx Lib.Math.min.name ∈ GW
  | 12 => ∃ idx, i = .invokestatic idx ∧ Jvm.Cond.methodLink own idx Lib.Math.abs.name ∈ GW
  | 13 => ∃ idx, i = .invokestatic idx ∧ Jvm.Cond.methodLink own idx arraycopyName ∈ GW
  | 14 => ∃ idx, i = .invokespecial idx ∧ Jvm.Cond.methodLink own idx objectInit ∈ GW
  | 0 => ∃ idx mi, i = .invokevirtual idx ∧ mtab[r1]? = some mi ∧ Jvm.Cond.methodLink own idx mi.1 ∈ GW ∧ Jvm.Cond.instanceMethod mi.1 ∈ GW ∧ Jvm.Cond.selects mi.1.cls mi.1 mi.1 ∈ GW ∧ (r3 / 100).toNat < 12 ∧ mi.1.cls = wdN (r3 / 100).toNat ∧ minst.getD r1 false = true
  | 5 => ∃ idx mi, i = .invokevirtual idx ∧ mtab[r1]? = some mi ∧ Jvm.Cond.methodLink own idx mi.1 ∈ GW ∧ Jvm.Cond.instanceMethod mi.1 ∈ GW ∧ Jvm.Cond.selects mi.1.cls mi.1 mi.1 ∈ GW ∧ mi.1.cls = "java/lang/String" ∧ minst.getD r1 false = true
  | 1 => ∃ idx mi, i = .invokestatic idx ∧ mtab[r1]? = some mi ∧ Jvm.Cond.methodLink own idx mi.1 ∈ GW ∧ Jvm.Cond.static mi.1 ∈ GW ∧ minst.getD r1 false = false
  | 3 => ∃ idx mi, i = .invokestatic idx ∧ mtab[r1]? = some mi ∧ Jvm.Cond.methodLinkNest own idx mi.1 RX10 ∈ nestW ∧ Jvm.Cond.static mi.1 ∈ GW ∧ minst.getD r1 false = false
  | 2 => ∃ idx mi, i = .invokespecial idx ∧ mtab[r1]? = some mi ∧ Jvm.Cond.methodLink own idx mi.1 ∈ GW ∧ Jvm.Cond.instanceMethod mi.1 ∈ GW ∧ mi.1.name = "<init>" ∧ mi.2.2.2.1 = none ∧ minst.getD r1 false = true
  | 4 => ∃ idx mi, i = .invokespecial idx ∧ mtab[r1]? = some mi ∧ Jvm.Cond.methodLinkNest own idx mi.1 RX10 ∈ nestW ∧ Jvm.Cond.instanceMethod mi.1 ∈ GW ∧ mi.1.name = "<init>" ∧ mi.2.2.2.1 = none ∧ minst.getD r1 false = true
  | _ => False
/-- what the tables say of a method; the last number: its arguments without the receiver -/
def mok (mi : MI) (n : Nat) : Prop := Jvm.Cond.code mi.1 mi.2.1 mi.2.2.1 mi.2.2.2.1 ∈ GW ∧ Jvm.Cond.initialized mi.1.cls ∈ GW ∧ plainName mi.1.cls = true ∧ mi.1.cls ≠ "java/lang/invoke/MethodHandle" ∧ mi.1.cls ≠ "java/lang/invoke/VarHandle" ∧ (parseMethodDescriptor mi.1.desc).map (fun d => d.parameters.length) = some n ∧ mi.2.2.1 ≤ 40
theorem GW_good {ws : List Jvm.Cond} (h : ∀ w ∈ ws, w ∈ GW) : GoodIn GW ws := fun w hw => ⟨h w hw, good_of_word (List.mem_filter.mp (h w hw)).2⟩
theorem argc_app (n : Nat) (st : List Value) : (argc n st).reverse ++ st.drop n = st := by
  unfold argc
  rw [List.reverse_reverse, List.take_append_drop]
section SND3
variable {p : Program} {l : Launch} {e : Env} {R : Room} {s : State} {m : MethodId} {args : Array Value} {below : List Frame} {meth : Method} {c : Code} {Z : State → Prop}
variable {cc : ByteArray} {nL : Nat} {own : String} {isI : Bool} {ret : Option FieldType}
variable {cy : Nat → ClassId} {dC : Nat → ClassId} {dI : Nat → Nat → Nat} {A : Nat → Prop} {ad0 : Nat → Nat} {bz n0 C S : Nat} {adK adV : Nat → Nat}
theorem ab_call {H : Heap} {locs : List Loc} {cells slots mc ms : Nat} {pc : Nat} {ls : Array Slot} {rest st0 : List Value} {Qa : State → Outcome → State → Prop} {A1 : Nat → Prop} {free : Addr → Prop} {Q : State → Prop} {H0 : Heap}
    (hr : va_Run p l e R s m args below meth c H locs cells slots mc ms (F0 m pc ls st0) rest Qa free) (hS : va_S A H0 H locs) (hA : ∀ q, A1 q → A q) (hf : ∀ q, free q → A q) (hF : ∀ st o t, Qa st o t → va_F A1 st t)
    (kk : ∀ (v : Option Value) (st₀ t : State) (H1 : Heap) (locs1 : List Loc), st₀.heap = H → t.heap = H1 → Qa st₀ (.returned v) t → va_S A H0 H1 locs1 → W p l e R s m args below meth c H1 locs1 (cells + mc) (slots + ms) Q (F0 m (pc + 3) ls (v.toList ++ rest))) :
    W p l e R s m args below meth c H locs cells slots Q (F0 m pc ls st0) := by
  intro T hT X
  obtain ⟨v, st₀, t, T', L, h0, X', hL, e1, e2, hq, st⟩ := hr T hT X
  obtain ⟨hz, hk⟩ := hF _ _ _ hq
  rw [h0] at hz hk
  obtain ⟨t2, a1, b1⟩ := kk v st₀ t T'.heap (locs ++ L) h0 e1.symm hq
    ⟨Nat.le_trans hS.1 (by rw [e1]; exact hz), fun q h1 h2 => by rw [e1, hk q (Nat.lt_of_lt_of_le h1 hS.1) (fun z => h2 (hA q z))]; exact hS.2.1 q h1 h2, fun q hq => by
      rcases List.mem_append.mp hq with h | h
      · exact hS.2.2 q h
      · exact hf _ (hL q h)⟩ T' rfl X'
  exact ⟨t2, st t2 a1, b1⟩
theorem mPc_blind {as : List Value} {h : aH} {sz : Nat} {ad : Nat → Nat} : FrameBlind (mPc cy dC dI adK adV ad as h sz) := by
  intro a U g mk q
  obtain ⟨q0, q1, q2, q3, q4, q5⟩ := q
  exact ⟨q0, q1, q2, U1.same (u := U) rfl q3, q4, U2.moved (u := U) (Vm.Alike.refl U.vm) q5⟩
theorem wd_free {ad : Nat → Nat} {h : aH} {H0 H : Heap} {locs : List Loc} (hD : va_D A (wd cy ad h)) (hS : va_S A H0 H locs) (hA : ∀ q, H0.size ≤ q → A q) : ∀ q, va_A (wd cy ad h) H.size q → A q := by
  intro q hq
  rcases hq with ⟨k, e9, h9⟩ | h9
  · exact hD.2 k _ h9
  · exact hA q (Nat.le_trans hS.1 h9)
/-- the callee's start, from here -/
theorem mPc_here {ad : Nat → Nat} {as : List Value} {h : aH} {H : Heap} {locs : List Loc} (hU1 : U1 cy dC dI adK s) (hU2 : U2 adK adV A s s.heap) (hA : ∀ q, s.heap.size ≤ q → A q) (hS : Std cy dC dI A s.heap ad h H locs) : ∀ U : State, U.heap = H → s.WarmedH U.vm → mPc cy dC dI adK adV ad as h H.size (as.map (cv ad)).toArray U := by
  intro U hU hW
  obtain ⟨hP, hD, hSS, -⟩ := hS
  refine ⟨rfl, by rw [hU], by rw [hU]; exact hP, U1.warm hW hU1, hD.weaken (fun _ _ _ _ => trivial), ?_⟩
  rw [hU]
  exact ((hU2.kept hSS.2.1).narrow (wd_free hD hSS hA)).moved hW.alike
/-- behind the callee -/
theorem mQc_kk {K : KT} (hU1 : U1 cy dC dI adK s) (hA : ∀ q, s.heap.size ≤ q → A q) (hK : GO p l e R s m args below meth c Z nL cy dC dI A ad0 bz n0 C S K)
    {pc : Nat} {ls : List (Nat × Value)} {rest : List Value} {h : aH} {bc bs mc ms : Nat} {ad : Nat → Nat} {arr : Array Slot} {H : Heap} {locs : List Loc} {cells slots : Nat} {free : Addr → Prop} {st0 : List Value} {a : Array Value}
    (hmc : mc ≤ bc) (hms : ms ≤ bs) (hok : mc = 0 ∨ ((ls.all fun q => okv h q.2) = true ∧ (rest.all fun v => okv h v) = true))
    (had : HAD bz n0 ad0 ad bc) (hn0 : n0 ≤ h.1.length) (hS : Std cy dC dI A s.heap ad h H locs) (hl : lv_has arr nL (cvl ad ls)) (hc : cells + bc ≤ C) (hs : slots + bs ≤ S) (hf : ∀ q, free q → A q)
    (hr : va_Run p l e R s m args below meth c H locs cells slots mc ms (F0 m pc arr st0) (rest.map (cv ad)) (mQc cy dC dI ad h H.size mc (fun v h' => K (pc + 3) ls (psh v rest) h' (bc - mc) (bs - ms)) a) free) :
    W p l e R s m args below meth c H locs cells slots Z (F0 m pc arr st0) := by
  have hfree := wd_free hS.2.1 hS.2.2.1 hA
  refine ab_call hr hS.2.2.1 hfree hf (fun st o t q => q.2) (fun v st₀ t H1 locs1 e0 e1 hq hS1 => ?_)
  obtain ⟨⟨rv, h', ad', ho, hk, hd1, hd2, hle, hsm', hRV', hP', hD'⟩, -⟩ := hq
  cases ho
  rw [e1] at hP'
  have had' : HAD bz n0 ad0 ad' (bc - mc) := by
    refine ⟨fun j hj => ?_, by have := had.2.1; omega, fun hz => ?_⟩
    · rw [hd1 j (by omega)]
      exact had.1 j hj
    · rw [hd2 (by have := had.2.1; omega)]
      exact had.2.2 hz
  have ecl : cvl ad' ls = cvl ad ls := by
    rcases hok with h9 | ⟨h9, -⟩
    · rw [hd2 h9]
    · exact cvl_ok h9 hd1
  have ecr : rest.map (cv ad') = rest.map (cv ad) := by
    rcases hok with h9 | ⟨-, h9⟩
    · rw [hd2 h9]
    · exact cvs_ok h9 hd1
  have := hK _ _ _ _ _ _ hk ad' arr H1 locs1 (cells + mc) (slots + ms) had' (Nat.le_trans hn0 hle) hsm' ⟨hP', hD'.weaken (fun _ q _ h9 => hfree q.1 h9), hS1, hRV'⟩ (by rw [ecl]; exact hl) (by omega) (by omega)
  have ep : (psh rv rest).map (cv ad') = (rv.map (cv ad')).toList ++ rest.map (cv ad) := by
    unfold psh
    rw [List.map_append, ecr]
    cases rv <;> rfl
  rw [ep] at this
  exact this
end SND3
