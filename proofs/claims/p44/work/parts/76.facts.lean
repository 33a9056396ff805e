/-! THE CLAIM OUT OF ONE WALK OF THE LAW'S BODY. Your part is whole_start (and what it stands on); all else here is the same for every law, but numbers. -/
def R_law : String := "NobodyBeenAftLaw"
def lw_P (b : Addr) (xs : List Int32) (args : Array Value) (s : State) : Prop := args = #[.ref b] ∧ s.IntsAt b xs ∧ xs.length ≤ 2560 ∧ (Jvm.Cond.and given_1 narrow_1).before args s = true
def lw_Q (_ : Array Value) (s : State) (o : Outcome) (t : State) : Prop := o = .returned (some (.int 1)) ∧ Framed s o t [] 601024 7293034
def lw_Z (below : List Frame) (a : Array Value) (s : State) : State → Prop := fun t => ∃ o, t.status = .running ∧ Ended t below o ∧ lw_Q a s o t
/-- the law's own end, with 1 on the stack, nothing written that was there before, its room as the claim has it -/
theorem lw_ret {p : Program} {l : Launch} {e : Env} {s : State} {m : MethodId} {below : List Frame} {meth : Method} {c : Code} {b : Nat} (hx : p.tables.exec = Jvm.exec) (hb : c.code = code) (hr : meth.sig.returnType = ret) (hlocks : meth.locks = false) {pc : Nat} {H : Heap} {ls : Array Slot} (hdg : decode code pc = .ok (.ireturn, 1)) : W p l e room_1 s m #[Value.ref b] below meth c H [] 601024 7293034 (lw_Z below #[Value.ref b] s) (F0 m pc ls [.int 1]) := by
  intro T hT X
  obtain ⟨fs, hret, hrun, hended, hW, hframe⟩ := X.leave (v := some (.int 1)) (hlocks := hlocks) (fun h => by rw [hr] at h; cases h)
  have hmeth' : T.vm.method? m = some meth := X.method'
  refine ⟨T.setFrames fs, ?_, .returned (some (.int 1)), hrun, hended, rfl, ⟨_, rfl⟩, hW, hframe⟩
  jvm_step X.here [X.here.top, hx, hb, hdg, hmeth', hr, ret, narrow_b1]
  (try refine ⟨rfl, ?_⟩); (try refine ⟨rfl, ?_⟩)
  first | (intro acts; rw [hret _ acts rfl rfl rfl]) | rw [hret _ _ rfl rfl rfl]
  exact Steps.refl _
/-- what holds at the law's entry: the machine, the code, the tables' words (any of lw_tbl by 'hts w (by decide +kernel)'), the script of L ints xs at the cell b, what the Statement gives of the start (any of its parts by flat_of_before) -/
def lw_At (p : Program) (s : State) (m : MethodId) (meth : Method) (c : Code) (b L : Nat) (xs : Nat → Int32) : Prop :=
  p.tables.exec = Jvm.exec ∧ c.code = code ∧ meth.sig.returnType = ret ∧ c.maxLocals = 8 ∧ s.vm.findClass R_law = some m.cls ∧ (∀ w ∈ lw_tbl, w.before #[Value.ref b] s = true) ∧ va_X b L xs s s.heap ∧ b < s.heap.size ∧ meth.locks = false ∧ (Jvm.Cond.and given_1 narrow_1).before #[Value.ref b] s = true
/-! WHAT HOLDS AT THE LAW'S ENTRY -/
theorem j9in0 : Jvm.Cond.instantiable RX0 6 ∈ GW := atT_gw (i := 336) (by decide +kernel)
theorem j9in1 : Jvm.Cond.instantiable RX1 5 ∈ GW := atT_gw (i := 307) (by decide +kernel)
theorem j9in2 : Jvm.Cond.instantiable RX2 3 ∈ GW := atT_gw (i := 241) (by decide +kernel)
theorem j9in3 : Jvm.Cond.instantiable RX3 2 ∈ GW := atT_gw (i := 151) (by decide +kernel)
theorem j9in4 : Jvm.Cond.instantiable RX4 4 ∈ GW := atT_gw (i := 198) (by decide +kernel)
theorem j9in5 : Jvm.Cond.instantiable RX5 5 ∈ GW := atT_gw (i := 219) (by decide +kernel)
theorem j9in6 : Jvm.Cond.instantiable RX6 5 ∈ GW := atT_gw (i := 167) (by decide +kernel)
theorem j9in7 : Jvm.Cond.instantiable RX7 3 ∈ GW := atT_gw (i := 366) (by decide +kernel)
theorem j9in8 : Jvm.Cond.instantiable RX8 9 ∈ GW := atT_gw (i := 260) (by decide +kernel)
theorem j9in9 : Jvm.Cond.instantiable RX9 6 ∈ GW := atT_gw (i := 119) (by decide +kernel)
theorem j9in10 : Jvm.Cond.instantiable RX10 17 ∈ GW := atT_gw (i := 111) (by decide +kernel)
theorem j9in11 : Jvm.Cond.instantiable RX11 53 ∈ GW := atT_gw (i := 1077) (by decide +kernel)
theorem inst_gw {ci : Nat} {C : String} {T : u_T} {N : Nat} (h : vwCl[ci]? = some (C, T, N)) : Jvm.Cond.instantiable C N ∈ GW := by
  have hl : ci < 12 := (List.getElem?_eq_some_iff.mp h).1
  rcases (show ci = 0 ∨ ci = 1 ∨ ci = 2 ∨ ci = 3 ∨ ci = 4 ∨ ci = 5 ∨ ci = 6 ∨ ci = 7 ∨ ci = 8 ∨ ci = 9 ∨ ci = 10 ∨ ci = 11 by omega) with rfl | rfl | rfl | rfl | rfl | rfl | rfl | rfl | rfl | rfl | rfl | rfl <;> cases h
  · exact j9in0
  · exact j9in1
  · exact j9in2
  · exact j9in3
  · exact j9in4
  · exact j9in5
  · exact j9in6
  · exact j9in7
  · exact j9in8
  · exact j9in9
  · exact j9in10
  · exact j9in11
theorem j9ar_int : Jvm.Cond.arrayClass .int ∈ GW := atT_gw (i := 196) (by decide +kernel)
theorem j9ar_long : Jvm.Cond.arrayClass .long ∈ GW := atT_gw (i := 165) (by decide +kernel)
theorem j9ar_char : Jvm.Cond.arrayClass .char ∈ GW := atT_gw (i := 149) (by decide +kernel)
theorem j9ar_boolean : Jvm.Cond.arrayClass .boolean ∈ GW := atT_gw (i := 334) (by decide +kernel)
theorem j9ao_S : Jvm.Cond.arrayOver (.object RX8) ∈ lw_tbl := List.mem_of_getElem? (i := 313) (by decide +kernel)
theorem j9ao_I : Jvm.Cond.arrayOver (.array .int) ∈ lw_tbl := List.mem_of_getElem? (i := 390) (by decide +kernel)
theorem j9ao_J : Jvm.Cond.arrayOver (.array .long) ∈ lw_tbl := List.mem_of_getElem? (i := 372) (by decide +kernel)
theorem nest_tbl : ∀ w ∈ nestW, w ∈ lw_tbl := by
  intro w hw
  simp only [nestW, List.mem_cons, List.not_mem_nil, or_false] at hw
  rcases hw with rfl | rfl | rfl | rfl | rfl | rfl | rfl | rfl | rfl | rfl | rfl | rfl | rfl | rfl
  · exact List.mem_of_getElem? (i := 120) (by decide +kernel)
  · exact List.mem_of_getElem? (i := 152) (by decide +kernel)
  · exact List.mem_of_getElem? (i := 168) (by decide +kernel)
  · exact List.mem_of_getElem? (i := 199) (by decide +kernel)
  · exact List.mem_of_getElem? (i := 220) (by decide +kernel)
  · exact List.mem_of_getElem? (i := 242) (by decide +kernel)
  · exact List.mem_of_getElem? (i := 261) (by decide +kernel)
  · exact List.mem_of_getElem? (i := 314) (by decide +kernel)
  · exact List.mem_of_getElem? (i := 337) (by decide +kernel)
  · exact List.mem_of_getElem? (i := 478) (by decide +kernel)
  · exact List.mem_of_getElem? (i := 541) (by decide +kernel)
  · exact List.mem_of_getElem? (i := 663) (by decide +kernel)
  · exact List.mem_of_getElem? (i := 742) (by decide +kernel)
  · exact List.mem_of_getElem? (i := 911) (by decide +kernel)
theorem j9sr0 : Jvm.Cond.stringRef RX11 (sidx.getD 0 0) (stxt.getD 0 "") ∈ lw_tbl := List.mem_of_getElem? (i := 1295) (by decide +kernel)
theorem j9sr1 : Jvm.Cond.stringRef RX11 (sidx.getD 1 0) (stxt.getD 1 "") ∈ lw_tbl := List.mem_of_getElem? (i := 1377) (by decide +kernel)
theorem j9sr2 : Jvm.Cond.stringRef RX11 (sidx.getD 2 0) (stxt.getD 2 "") ∈ lw_tbl := List.mem_of_getElem? (i := 1378) (by decide +kernel)
theorem j9sr3 : Jvm.Cond.stringRef RX11 (sidx.getD 3 0) (stxt.getD 3 "") ∈ lw_tbl := List.mem_of_getElem? (i := 1379) (by decide +kernel)
theorem j9sr4 : Jvm.Cond.stringRef RX11 (sidx.getD 4 0) (stxt.getD 4 "") ∈ lw_tbl := List.mem_of_getElem? (i := 1380) (by decide +kernel)
theorem j9sr5 : Jvm.Cond.stringRef RX11 (sidx.getD 5 0) (stxt.getD 5 "") ∈ lw_tbl := List.mem_of_getElem? (i := 1512) (by decide +kernel)
theorem j9ls_CS : Jvm.Cond.laysStatic "java/lang/String" "COMPACT_STRINGS" "Z" ∈ lw_tbl := List.mem_of_getElem? (i := 1313) (by decide +kernel)
theorem j9li_CS : Jvm.Cond.initialized "java/lang/String" ∈ lw_tbl := List.mem_of_getElem? (i := 100) (by decide +kernel)
theorem j9ls_SF : Jvm.Cond.laysStatic "jdk/internal/util/Preconditions" "SIOOBE_FORMATTER" "Ljava/util/function/BiFunction;" ∈ lw_tbl := List.mem_of_getElem? (i := 1329) (by decide +kernel)
theorem j9li_SF : Jvm.Cond.initialized "jdk/internal/util/Preconditions" ∈ lw_tbl := List.mem_of_getElem? (i := 102) (by decide +kernel)
theorem j9ls_US : Jvm.Cond.laysStatic "java/lang/Throwable" "UNASSIGNED_STACK" "[Ljava/lang/StackTraceElement;" ∈ lw_tbl := List.mem_of_getElem? (i := 1014) (by decide +kernel)
theorem j9li_US : Jvm.Cond.initialized "java/lang/Throwable" ∈ lw_tbl := List.mem_of_getElem? (i := 104) (by decide +kernel)
theorem j9ls_SS : Jvm.Cond.laysStatic "java/lang/Throwable" "SUPPRESSED_SENTINEL" "Ljava/util/List;" ∈ lw_tbl := List.mem_of_getElem? (i := 1016) (by decide +kernel)
theorem j9li_SS : Jvm.Cond.initialized "java/lang/Throwable" ∈ lw_tbl := List.mem_of_getElem? (i := 104) (by decide +kernel)
def tm9 (i : Nat) : Jvm.Term := Jvm.Term.string RX11 (sidx.getD i 0)
abbrev fl9 : List Jvm.Cond := flatC (Jvm.Cond.and given_1 narrow_1)
set_option maxRecDepth 100000 in
theorem s9ex : ∀ i, i < 6 → Jvm.Cond.exactly (tm9 i) "java/lang/String" ∈ fl9 := by decide +kernel
set_option maxRecDepth 100000 in
theorem s9co : ∀ i, i < 6 → Jvm.Cond.eq (.field (tm9 i) "java/lang/String" "coder" "B") (.int 0) ∈ fl9 := by decide +kernel
set_option maxRecDepth 100000 in
theorem s9ar : ∀ i, i < 6 → Jvm.Cond.arrayOf (.field (tm9 i) "java/lang/String" "value" "[B") .byte ∈ fl9 := by decide +kernel
set_option maxRecDepth 100000 in
theorem s9le : ∀ i, i < 6 → Jvm.Cond.eq (.length (.field (tm9 i) "java/lang/String" "value" "[B")) (.int (Int32.ofNat (leJ.getD i 0))) ∈ fl9 := by decide +kernel
set_option maxRecDepth 100000 in
theorem s9el : ∀ i, i < 6 → ∀ j, j < leJ.getD i 0 → Jvm.Cond.eq (.elem (.field (tm9 i) "java/lang/String" "value" "[B") (.int (Int32.ofNat j))) (.int ((byJ.getD i []).getD j 0)) ∈ fl9 := by decide +kernel
set_option maxRecDepth 100000 in
theorem s9ne : ∀ i, i < 6 → ∀ j, j < 6 → i ≠ j → Jvm.Cond.not (Jvm.Cond.eq (tm9 i) (tm9 j)) ∈ fl9 ∨ Jvm.Cond.not (Jvm.Cond.eq (tm9 j) (tm9 i)) ∈ fl9 := by decide +kernel
set_option maxHeartbeats 4000000 in
theorem start_U {p : Program} {s : State} {m : MethodId} {meth : Method} {c : Code} {b L : Nat} {xs : Nat → Int32} (C0 : lw_At p s m meth c b L xs) : ∃ (cy : Nat → ClassId) (dC : Nat → ClassId) (dI : Nat → Nat → Nat) (adK adV : Nat → Nat), U1 cy dC dI adK s ∧ U2 adK adV (fun q => s.heap.size ≤ q) s s.heap := by
  obtain ⟨hx, hb, hr, hml, hown, hts, hX, hbl, hlocks, hgv⟩ := id C0
  have hg : ∀ w ∈ GW, w.before #[Value.ref b] s = true := fun w hw => hts w (List.mem_filter.mp hw).1
  have hfl := flat_of_before _ hgv
  have hk : ∀ ci : Nat, ∃ q : ClassId × (Nat → Nat), ∀ z, vwCl[ci]? = some z → u_Kn s z.1 z.2.1 z.2.2 q.1 q.2 := by
    intro ci
    by_cases h : ci < 12
    · obtain ⟨C, T, N, ty, c1, lay, -⟩ := cls_ok h
      obtain ⟨a, f, hk⟩ := u_known (C := C) (T := T) (N := N) (n := N) hg lay (hg _ (inst_gw c1))
      exact ⟨(a, f), fun z hz => by rw [c1] at hz; cases hz; exact hk⟩
    · exact ⟨(0, fun _ => 0), fun z hz => absurd (List.getElem?_eq_some_iff.mp hz).1 (fun h9 => h h9)⟩
  obtain ⟨a0, k0, p0, f0, g0, e0⟩ := Cond.arrayClass_spec (hg _ j9ar_int)
  obtain ⟨a1, k1, p1, f1, g1, e1⟩ := Cond.arrayClass_spec (hg _ j9ar_long)
  obtain ⟨a2, k2, p2, f2, g2, e2⟩ := Cond.arrayClass_spec (hg _ j9ar_char)
  obtain ⟨a3, k3, p3, f3, g3, e3⟩ := Cond.arrayClass_spec (hg _ j9ar_boolean)
  obtain ⟨p4, a4, k4, n4, -, g4, e4, f4⟩ := Cond.arrayOver_spec (hts _ j9ao_S)
  obtain ⟨p5, a5, k5, n5, -, g5, e5, f5⟩ := Stand.arrayOver_specB (hts _ j9ao_I)
  obtain ⟨p6, a6, k6, n6, -, g6, e6, f6⟩ := Stand.arrayOver_specB (hts _ j9ao_J)
  have hA : ∀ a : Nat, a < s.heap.size → ¬ s.heap.size ≤ a := fun a h => Nat.not_le.mpr h
  obtain ⟨adK, adV, hS, hE⟩ := vk_Sof (A := fun q => s.heap.size ≤ q) (N := 6) (tm := tm9) (len := leJ) (byt := byJ) (by decide) (fun i hi => hfl _ (s9ex i hi)) (fun i hi => hfl _ (s9co i hi)) (fun i hi => hfl _ (s9ar i hi)) (fun i hi => hfl _ (s9le i hi)) (fun i hi j hj => hfl _ (s9el i hi j hj)) (fun i j hi hj hn => (s9ne i hi j hj hn).imp (hfl _) (hfl _)) hA
  refine ⟨fun k => if k = 0 then a0 else if k = 1 then a1 else if k = 2 then a2 else if k = 3 then a3 else if k = 4 then a4 else if k = 5 then a5 else a6, fun k => (Classical.choose (hk k)).1, fun k => (Classical.choose (hk k)).2, adK, adV, ⟨⟨fun k q hq => Classical.choose_spec (hk k) q hq, fun k q hq => ?_⟩, va_AO.of (hts _ j9ao_S), va_AOA.of (hts _ j9ao_I), va_AOA.of (hts _ j9ao_J), fun w hw => ?_, fun i hi => ?_⟩, hS, ?_, ?_, ?_, ?_⟩
  · have hl : k < 7 := (List.getElem?_eq_some_iff.mp hq).1
    rcases (show k = 0 ∨ k = 1 ∨ k = 2 ∨ k = 3 ∨ k = 4 ∨ k = 5 ∨ k = 6 by omega) with rfl | rfl | rfl | rfl | rfl | rfl | rfl <;> cases hq
    · exact ⟨fun N z => ⟨fun k h => (by cases h), k0, g0, p0, e0⟩, f0⟩
    · exact ⟨fun N z => ⟨fun k h => (by cases h), k1, g1, p1, e1⟩, f1⟩
    · exact ⟨fun N z => ⟨fun k h => (by cases h), k2, g2, p2, e2⟩, f2⟩
    · exact ⟨fun N z => ⟨fun k h => (by cases h), k3, g3, p3, e3⟩, f3⟩
    · exact ⟨fun N z => ⟨fun k h => (by cases h), k4, g4, p4, e4⟩, k4, p4, g4, e4, n4, f4⟩
    · exact ⟨fun N z => ⟨fun k h => (by cases h), k5, g5, p5, e5⟩, f5⟩
    · exact ⟨fun N z => ⟨fun k h => (by cases h), k6, g6, p6, e6⟩, f6⟩
  · obtain ⟨a, i, x, q, rfl⟩ := nestW_link w hw
    exact va_tabs rfl rfl (hts _ (nest_tbl _ hw))
  · refine vk_R.of (A := #[Value.ref b]) ?_ (hE i hi)
    rcases (show i = 0 ∨ i = 1 ∨ i = 2 ∨ i = 3 ∨ i = 4 ∨ i = 5 by omega) with rfl | rfl | rfl | rfl | rfl | rfl
    · exact hts _ j9sr0
    · exact hts _ j9sr1
    · exact hts _ j9sr2
    · exact hts _ j9sr3
    · exact hts _ j9sr4
    · exact hts _ j9sr5
  · obtain ⟨y, h1, h2⟩ := Cond.eq_one (hfl (Jvm.Cond.eq (.static "java/lang/String" "COMPACT_STRINGS" "Z") (.int 1)) (by decide +kernel))
    cases h2
    exact va_Zof (hts _ j9ls_CS) (hts _ j9li_CS) h1 hA
  · exact va_Zqof (hts _ j9ls_SF) (hts _ j9li_SF) (hfl _ (by decide +kernel)) hA
  · exact vx_Zqof (hts _ j9ls_US) (hts _ j9li_US) (hfl _ (by decide +kernel)) hA
  · exact vx_Zqof (hts _ j9ls_SS) (hts _ j9li_SS) (hfl _ (by decide +kernel)) hA
