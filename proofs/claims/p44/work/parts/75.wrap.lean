/-! THE CLASS'S THROWING METHODS BY THE MACHINE, and the law's wrappers -/
abbrev NSE9 : String := "java/util/NoSuchElementException"
abbrev nm9 : List String := ["java/lang/RuntimeException", "java/lang/Exception"]
theorem j9cl_X : Jvm.Cond.classLink RX10 137 NSE9 ∈ GW := atT_gw (i := 987) (by decide +kernel)
theorem j9cl_L : Jvm.Cond.classLink RL 13 NSE9 ∈ GW := atT_gw (i := 982) (by decide +kernel)
theorem j9ini_NSE : Jvm.Cond.initialized NSE9 ∈ GW := atT_gw (i := 107) (by decide +kernel)
theorem j9inst_NSE : Jvm.Cond.instantiable NSE9 6 ∈ GW := atT_gw (i := 988) (by decide +kernel)
theorem j9ini_X10 : Jvm.Cond.initialized RX10 ∈ GW := atT_gw (i := 86) (by decide +kernel)
theorem j9ini_L : Jvm.Cond.initialized RL ∈ GW := atT_gw (i := 85) (by decide +kernel)
abbrev nI9 (c : String) : MethodName := ⟨c, "<init>", "()V"⟩
theorem j9iI_RuntimeException : Jvm.Cond.instanceMethod (nI9 "java/lang/RuntimeException") ∈ GW := atT_gw (i := 1030) (by decide +kernel)
theorem j9cI_RuntimeException : Jvm.Cond.code (nI9 "java/lang/RuntimeException") prog_20_method_1_code 1 none ∈ GW := atT_gw (i := 1031) (by decide +kernel)
theorem j9iI_Exception : Jvm.Cond.instanceMethod (nI9 "java/lang/Exception") ∈ GW := atT_gw (i := 1033) (by decide +kernel)
theorem j9cI_Exception : Jvm.Cond.code (nI9 "java/lang/Exception") prog_17_method_1_code 1 none ∈ GW := atT_gw (i := 1034) (by decide +kernel)
theorem j9iI_Throwable : Jvm.Cond.instanceMethod (nI9 "java/lang/Throwable") ∈ GW := atT_gw (i := 1010) (by decide +kernel)
theorem j9cI_Throwable : Jvm.Cond.code (nI9 "java/lang/Throwable") prog_25_method_1_code 1 none ∈ GW := atT_gw (i := 1011) (by decide +kernel)
theorem decl9 {args : Array Value} {s : State} {x : MethodName} {bytes : ByteArray} {n : Nat} {r : Option FieldType} (h1 : (Jvm.Cond.instanceMethod x).before args s = true) (h2 : (Jvm.Cond.code x bytes n r).before args s = true) : (Jvm.Cond.declares x).before args s = true := by
  obtain ⟨m, meth, hn, hm, hst, -⟩ := Cond.instanceMethod_spec h1
  obtain ⟨meth', c, hm', -, -, -, -, -, -, hd⟩ := Cond.code_spec hn h2
  cases Option.some.inj (hm.symm.trans hm')
  show (Jvm.Cond.declares x).holds args s none s [] = true
  simp [Cond.holds, Cond.value, hn, hm, hst, hd]
def thS : List Jvm.Cond := (lw_tbl.drop 31).take 1 ++ (lw_tbl.drop 104).take 14 ++ (lw_tbl.drop 982).take 66 ++ (lw_tbl.drop 1761).take 1 ++ (lw_tbl.drop 1774).take 2
theorem thS_sub : ∀ w ∈ thS, w ∈ lw_tbl := by
  intro w hw
  simp only [thS, List.mem_append] at hw
  rcases hw with ((((h | h) | h) | h) | h) <;> exact List.mem_of_mem_drop (List.mem_of_mem_take h)
set_option maxRecDepth 100000 in
theorem th_words : ((vx_at0 RX10 139 NSE9 nm9).filter goodWord).all (fun w => decide (w ∈ thS)) = true := by decide +kernel
theorem th_gw : ∀ w ∈ (vx_at0 RX10 139 NSE9 nm9).filter goodWord, w ∈ GW := fun w hw => List.mem_filter.mpr ⟨thS_sub w (of_decide_eq_true (List.all_eq_true.mp th_words w hw)), (List.mem_filter.mp hw).2⟩
set_option maxRecDepth 100000 in
theorem th_rest : ∀ w ∈ (vx_at0 RX10 139 NSE9 nm9).filter (fun w => !goodWord w), w ∈ [Jvm.Cond.castable NSE9 NSE9, Jvm.Cond.declares (nI9 "java/lang/RuntimeException"), Jvm.Cond.declares (nI9 "java/lang/Exception"), Jvm.Cond.declares (nI9 "java/lang/Throwable")] := by decide +kernel
set_option maxRecDepth 100000 in
theorem th_good : ∀ w ∈ Jvm.Cond.classLink RX10 137 NSE9 :: Jvm.Cond.initialized NSE9 :: vx_at0 RX10 139 NSE9 nm9, vx_ot w = true := by decide +kernel
theorem cast9 {args : Array Value} {s : State} (h : (Jvm.Cond.instantiable NSE9 6).before args s = true) : (Jvm.Cond.castable NSE9 NSE9).before args s = true := by
  obtain ⟨c, k, hc, -⟩ := Cond.instantiable_spec h
  have ha : s.vm.assignable c c = true := by unfold Vm.assignable Vm.assignableAux; simp
  show (Jvm.Cond.castable NSE9 NSE9).holds args s none s [] = true
  simp [Cond.holds, Cond.value, hc, ha]
/-- what a thrown end says -/
def tXC (cy : Nat → ClassId) (dC : Nat → ClassId) (dI : Nat → Nat → Nat) (ad : Nat → Nat) (h : aH) (sz : Nat) (T : Prop) : String → State → State → Prop := fun E st t => E = NSE9 ∧ T ∧ (∃ ad' : Nat → Nat, (∀ j, j < h.1.length ∨ 1000000 ≤ j → ad' j = ad j) ∧ va_P (dC, dI) vwCl (wd cy ad' h) t.heap ∧ va_D (va_A (wd cy ad h) sz) (wd cy ad' h)) ∧ va_F (va_A (wd cy ad h) sz) st t
def rm9 : Room := { frames := 12, cells := 1, slots := 6, locals := 400 }
def rm8 : Room := { frames := 14, cells := 1, slots := 6, locals := 500 }
set_option maxHeartbeats 4000000 in
theorem thr_met (l : Launch) (hfl : l.stackTraces = false) {y : MethodName} {cc : ByteArray} {maxL : Nat} {ret : Option FieldType} {ac : AC} (hok : acok (y, cc, maxL, ret, ac, 10, 0)) (hy : plainName y.cls = true) (hcls : y.cls = RX10) (hnm : ¬ y.name = "<init>") {thr : Nat}
    (d0 : decode cc thr = .ok (.new 137, 3)) (d3 : decode cc (thr + 3) = .ok (.dup, 1)) (d4 : decode cc (thr + 4) = .ok (.invokespecial 139, 3)) (d7 : decode cc (thr + 7) = .ok (.athrow, 1))
    {as : List Value} {h : aH} {Q : QT} {T : Prop} (hrun : wplX (fun _ _ _ _ _ _ => False) ac ret Q (fun _ pc _ st h' bc bs => pc = thr ∧ st = [] ∧ h' = h ∧ T ∧ 1 ≤ bc ∧ 6 ≤ bs) 0 (lv_args 0 as) [] h 1 6) (hcat : catsum as ≤ maxL)
    (cy : Nat → ClassId) (dC : Nat → ClassId) (dI : Nat → Nat → Nat) (adK adV ad : Nat → Nat) (sz : Nat) (hstr : ∀ i, i < 6 → ad (1000000 + i) = adK i) (hsm : h.1.length < 1000000) (hRV : RV h) :
    vx_Met l y (jws y cc maxL ret) rm9 (mPc cy dC dI adK adV ad as h sz) (mQc cy dC dI ad h sz 1 Q) (tXC cy dC dI ad h sz T) 1 6 (va_A (wd cy ad h) sz) := by
  refine vx_ofW (cc := cc) (maxL := maxL) (ret := ret) hy rfl ?_
  intro p e s m args below meth c s₁ B hml ht hv
  obtain ⟨rfl, hsz, hP, hU1, hD0, hU2⟩ := hv
  have hlocks := B.notSynchronized
  have hts0 := atoms_spec (ws := jws y cc maxL ret) B.pre
  have hts : ∀ w ∈ GW, w.before (as.map (cv ad)).toArray s = true := fun w hw => hts0 w (List.mem_cons_of_mem _ hw)
  have hown : s.vm.findClass RX10 = some m.cls := by rw [← hcls]; exact findClass_of_methodNamed B.named
  have hin : meth.name = y.name := (name_of_methodNamed B.named B.method).1
  subst hsz
  have hD := hD0.self (sz := s.heap.size)
  have hA : ∀ q : Nat, s.heap.size ≤ q → va_A (wd cy ad h) s.heap.size q := fun q h9 => Or.inr h9
  have hl := lv_entry (as.map (cv ad)) (n := maxL) (by rw [lg_sl_len, catsum_cv]; exact hcat)
  rw [lv_args_cv] at hl
  rw [lg_entry_eq]
  generalize (lg_sl (as.map (cv ad)) ++ List.replicate (maxL - (lg_sl (as.map (cv ad))).length) Slot.unset).toArray = arr at hl ⊢
  have hq : ∀ (rv : Option Value) (h' : aH) (ad' : Nat → Nat) (H : Heap) (locs : List Loc), Q rv h' → HAD 1 h.1.length ad ad' 0 → h.1.length ≤ h'.1.length → h'.1.length < 1000000 → Std cy dC dI (va_A (wd cy ad h) s.heap.size) s.heap ad' h' H locs → ∀ o, o = .returned (rv.map (cv ad')) →
      ∀ t : State, t.heap = H → s.WarmedH t.vm → mQc cy dC dI ad h s.heap.size 1 Q (as.map (cv ad)).toArray s o t := by
    intro rv h' ad' H locs hq had hle hsm' hS o ho t ht hW
    exact ⟨⟨rv, h', ad', ho, hq, had.1, fun hz => had.2.2 hz, hle, hsm', hS.2.2.2, by rw [ht]; exact hS.1, hS.2.1⟩, hS.2.2.1.F ht⟩
  refine snd_runX (d := 0) (C := 1) (S := 6) (bz := 1) (n0 := h.1.length) (ad0 := ad) (ret := ret) (own := y.cls) (isI := decide (y.name = "<init>")) (ac := ac) (nL := maxL) (CL := fun _ _ _ _ _ _ => False) (Q := Q) (fun _ pc _ st h' bc bs => pc = thr ∧ st = [] ∧ h' = h ∧ T ∧ 1 ≤ bc ∧ 6 ≤ bs) ?_ B.exec B.bytes hml (by rw [hcls]; exact hown) hts (fun h9 => by rw [hin]; exact of_decide_eq_true h9) hU1 hU2 hA hstr (Nat.le_refl _) (Nat.le_refl _) (Nat.le_of_ble_eq_true rfl) (Nat.le_of_ble_eq_true rfl) hmath_t hmok_t (fun _ _ _ _ _ _ hc => hc.elim) hok ?_ ?_ ?_ 0 (lv_args 0 as) [] h 1 6 hrun ad arr s.heap [] 0 0 ⟨fun _ _ => rfl, Nat.le_refl _, fun _ => rfl⟩ (Nat.le_refl _) hsm ⟨hP, hD, va_S.rf, hRV⟩ hl (by omega) (by omega)
  · rintro pc ls st h' bc bs ⟨rfl, rfl, rfl, hT, h1, h2⟩
    intro ad' arr' H locs cells slots had hn0 hsm' hS hl' hc hs
    refine vx_throw0 (own := RX10) (cls := NSE9) (names := nm9) (ik := 137) (ic := 139) (A := va_A (wd cy ad h') s.heap.size) B.exec B.bytes hfl hown (by decide +kernel) (by decide +kernel) (hts _ j9cl_X) (hts _ j9ini_NSE) (vx_hat (fun w hw => hts w (th_gw w hw)) th_rest (vx_c (cast9 (hts _ j9inst_NSE)) (vx_c (decl9 (hts _ j9iI_RuntimeException) (hts _ j9cI_RuntimeException)) (vx_c (decl9 (hts _ j9iI_Exception) (hts _ j9cI_Exception)) (vx_c (decl9 (hts _ j9iI_Throwable) (hts _ j9cI_Throwable)) vx_n))))) th_good hU2.2.2.2.1 hU2.2.2.2.2 hS.2.2.1 (hl'.1.trans hml.symm) d0 d3 d4 d7 (fun x hx => (ht x hx).elim) (Nat.le_of_ble_eq_true rfl) (Nat.le_of_ble_eq_true rfl) (show cells + 1 ≤ 1 by omega) (show slots + 6 ≤ 6 by omega) hlocks ?_ hS.2.2.1.2.2 (by omega) (by omega)
    intro t hal hle hk
    refine ⟨rfl, hT, ⟨ad', had.1, va_P.kept hS.1 (fun k q hq9 => hk q.1 (hS.1 k q hq9).lt), hS.2.1⟩, Nat.le_trans hS.2.2.1.1 hle, fun q h8 h9 => ?_⟩
    rw [hk q (Nat.lt_of_lt_of_le h8 hS.2.2.1.1)]
    exact hS.2.2.1.2.1 q h8 h9
  · intro v ty h' ad' H locs cells slots pc arr' hd hr hn hqq had hle hsm' hS hl' hs
    refine W.widen hl' hs (vx_ret ?_)
    exact W.zret B.exec B.bytes (B.returns.trans hr) hn (hq _ h' ad' H locs hqq had hle hsm' hS _ rfl) hS.2.2.1.2.2 hd
  · intro v h' ad' H locs cells slots pc arr' hd hr hqq had hle hsm' hS hc hs
    refine W.widen hc hs (vx_ret ?_)
    exact W.lret B.exec B.bytes (B.returns.trans hr) (hq _ h' ad' H locs hqq had hle hsm' hS _ rfl) hS.2.2.1.2.2 hd
  · intro h' ad' H locs cells slots pc arr' hd hr hqq had hle hsm' hS hc hs
    refine W.widen hc hs (vx_ret ?_)
    exact W.vret B.exec B.bytes (B.returns.trans hr) (hq _ h' ad' H locs hqq had hle hsm' hS _ rfl) hS.2.2.1.2.2 hd
section SNDX
variable {p : Program} {l : Launch} {e : Env} {R : Room} {s : State} {m : MethodId} {args : Array Value} {below : List Frame} {meth : Method} {c : Code} {Z : State → Prop}
variable {cc : ByteArray} {nL : Nat} {own : String} {isI : Bool} {ret : Option FieldType}
variable {cy : Nat → ClassId} {dC : Nat → ClassId} {dI : Nat → Nat → Nat} {A : Nat → Prop} {ad0 : Nat → Nat} {bz n0 C S : Nat} {adK adV : Nat → Nat}
theorem ab_callX {H : Heap} {locs : List Loc} {cells slots mc ms : Nat} {pc : Nat} {ls : Array Slot} {rest st0 : List Value} {Qa : State → Outcome → State → Prop} {XC : String → State → State → Prop} {A1 : Nat → Prop} {free : Addr → Prop} {Q : State → Prop} {H0 : Heap}
    (hr : vx_Run p l e R s m args below meth c H locs cells slots mc ms (F0 m pc ls st0) rest Qa XC free) (hS : va_S A H0 H locs) (hA : ∀ q, A1 q → A q) (hf : ∀ q, free q → A q) (hF : ∀ st o t, Qa st o t → va_F A1 st t) (hXF : ∀ E st t, XC E st t → va_F A1 st t)
    (kx : ∀ (E : String) (ce : Cell) (q9 : Addr) (st₀ t : State) (H1 : Heap) (locs1 : List Loc), st₀.heap = H → t.heap = H1 → XC E st₀ t → va_S A H0 H1 locs1 → H1[q9]? = some ce → ce.vm = .none → s.vm.findClass E = some ce.cls → vx_W p l e R s m args below meth c H1 locs1 (cells + mc) (slots + ms) Q (F0 m pc ls rest) q9)
    (kk : ∀ (v : Option Value) (st₀ t : State) (H1 : Heap) (locs1 : List Loc), st₀.heap = H → t.heap = H1 → Qa st₀ (.returned v) t → va_S A H0 H1 locs1 → W p l e R s m args below meth c H1 locs1 (cells + mc) (slots + ms) Q (F0 m (pc + 3) ls (v.toList ++ rest))) :
    W p l e R s m args below meth c H locs cells slots Q (F0 m pc ls st0) := by
  intro T hT X
  rcases hr T hT X with ⟨v, st₀, t, T', L, h0, X', hL, e1, e2, hq, st⟩ | ⟨q, st₀, t, T', L, E, ce, h0, X', hL, e1, e2, hx, hce, hcv, hcl, st⟩
  · obtain ⟨hz, hk⟩ := hF _ _ _ hq
    rw [h0] at hz hk
    obtain ⟨t2, a1, b1⟩ := kk v st₀ t T'.heap (locs ++ L) h0 e1.symm hq
      ⟨Nat.le_trans hS.1 (by rw [e1]; exact hz), fun q h1 h2 => by rw [e1, hk q (Nat.lt_of_lt_of_le h1 hS.1) (fun z => h2 (hA q z))]; exact hS.2.1 q h1 h2, fun q hq => by
        rcases List.mem_append.mp hq with h | h
        · exact hS.2.2 q h
        · exact hf _ (hL q h)⟩ T' rfl X'
    exact ⟨t2, st t2 a1, b1⟩
  · obtain ⟨hz, hk⟩ := hXF _ _ _ hx
    rw [h0] at hz hk
    obtain ⟨t2, a1, b1⟩ := kx E ce q st₀ t T'.heap (locs ++ L) h0 e1.symm hx
      ⟨Nat.le_trans hS.1 (by rw [e1]; exact hz), fun q h1 h2 => by rw [e1, hk q (Nat.lt_of_lt_of_le h1 hS.1) (fun z => h2 (hA q z))]; exact hS.2.1 q h1 h2, fun q hq => by
        rcases List.mem_append.mp hq with h | h
        · exact hS.2.2 q h
        · exact hf _ (hL q h)⟩ (by rw [e1]; exact hce) hcv hcl T' rfl X'
    exact ⟨t2, st.trans a1, b1⟩
theorem mQc_kkX {K : KT} {XC : String → State → State → Prop} (hU1 : U1 cy dC dI adK s) (hA : ∀ q, s.heap.size ≤ q → A q) (hK : GO p l e R s m args below meth c Z nL cy dC dI A ad0 bz n0 C S K)
    {pc : Nat} {ls : List (Nat × Value)} {rest : List Value} {h : aH} {bc bs mc ms : Nat} {ad : Nat → Nat} {arr : Array Slot} {H : Heap} {locs : List Loc} {cells slots : Nat} {free : Addr → Prop} {st0 : List Value} {a : Array Value} {mz : Nat}
    (hmc : mc ≤ bc) (hms : ms ≤ bs) (hmz : mz ≤ mc) (hok : ((ls.all fun q => okv h q.2) = true ∧ (rest.all fun v => okv h v) = true)) (h1c : 1 ≤ mc)
    (had : HAD bz n0 ad0 ad bc) (hn0 : n0 ≤ h.1.length) (hS : Std cy dC dI A s.heap ad h H locs) (hl : lv_has arr nL (cvl ad ls)) (hc : cells + bc ≤ C) (hs : slots + bs ≤ S) (hf : ∀ q, free q → A q) (hXF : ∀ E st t, XC E st t → va_F (va_A (wd cy ad h) H.size) st t)
    (hr : vx_Run p l e R s m args below meth c H locs cells slots mc ms (F0 m pc arr st0) (rest.map (cv ad)) (mQc cy dC dI ad h H.size mz (fun v h' => K (pc + 3) ls (psh v rest) h' (bc - mc) (bs - ms)) a) XC free)
    (kx : ∀ (E : String) (ce : Cell) (q9 : Addr) (st₀ t : State) (H1 : Heap) (locs1 : List Loc), st₀.heap = H → t.heap = H1 → XC E st₀ t → va_S A s.heap H1 locs1 → H1[q9]? = some ce → ce.vm = .none → s.vm.findClass E = some ce.cls → vx_W p l e R s m args below meth c H1 locs1 (cells + mc) (slots + ms) Z (F0 m pc arr (rest.map (cv ad))) q9) :
    W p l e R s m args below meth c H locs cells slots Z (F0 m pc arr st0) := by
  have hfree := wd_free hS.2.1 hS.2.2.1 hA
  refine ab_callX hr hS.2.2.1 hfree hf (fun st o t q => q.2) hXF kx (fun v st₀ t H1 locs1 e0 e1 hq hS1 => ?_)
  obtain ⟨⟨rv, h', ad', ho, hk, hd1, hd2, hle, hsm', hRV', hP', hD'⟩, -⟩ := hq
  cases ho
  rw [e1] at hP'
  have had' : HAD bz n0 ad0 ad' (bc - mc) := by
    refine ⟨fun j hj => ?_, by have := had.2.1; omega, fun hz => ?_⟩
    · rw [hd1 j (by omega)]
      exact had.1 j hj
    · exact absurd hz (by have := had.2.1; omega)
  have ecl : cvl ad' ls = cvl ad ls := cvl_ok hok.1 hd1
  have ecr : rest.map (cv ad') = rest.map (cv ad) := cvs_ok hok.2 hd1
  have := hK _ _ _ _ _ _ hk ad' arr H1 locs1 (cells + mc) (slots + ms) had' (Nat.le_trans hn0 hle) hsm' ⟨hP', hD'.weaken (fun _ q _ h9 => hfree q.1 h9), hS1, hRV'⟩ (by rw [ecl]; exact hl) (by omega) (by omega)
  have ep : (psh rv rest).map (cv ad') = (rv.map (cv ad')).toList ++ rest.map (cv ad) := by
    unfold psh
    rw [List.map_append, ecr]
    cases rv <;> rfl
  rw [ep] at this
  exact this
end SNDX
def wrQ (h : aH) (R : Option Int → Prop) : QT := fun rv h' => (R none ∧ rv = some (.int (I 1)) ∧ h' = h) ∨ ∃ v : Int, R (some v) ∧ rv = some (.int (I 0)) ∧ h' = sJ h 201 0 (J v)
/-- the wrapper's own call -/
def wXR (pcC : Nat) (asr : List Value) (mk : Int → Value) (R : Option Int → Prop) (h : aH) (ls0 : List (Nat × Value)) : KT → KT := fun K pc ls st h' bc bs => pc = pcC ∧ st = asr ++ [.int (I 0), .ref 201] ∧ ls = ls0 ∧ h' = h ∧ bc = 1 ∧ bs = 6 ∧ ∀ v, R (some v) → K (pcC + 3) ls (mk v :: [.int (I 0), .ref 201]) h 0 0
theorem mQc_mono {cy : Nat → ClassId} {dC : Nat → ClassId} {dI : Nat → Nat → Nat} {ad : Nat → Nat} {h : aH} {sz mc : Nat} {Q Q' : QT} (hq : ∀ rv h', Q rv h' → Q' rv h') {a : Array Value} {st : State} {o : Outcome} {t : State} (hm : mQc cy dC dI ad h sz mc Q a st o t) : mQc cy dC dI ad h sz mc Q' a st o t := by
  obtain ⟨⟨rv, h', ad', ho, hk, hr⟩, hF⟩ := hm
  exact ⟨⟨rv, h', ad', ho, hq _ _ hk, hr⟩, hF⟩
theorem vx_Run_mono {p : Program} {l : Launch} {e : Env} {R : Room} {s : State} {m : MethodId} {args : Array Value} {below : List Frame} {meth : Method} {c : Code} {H : Heap} {locs : List Loc} {cells slots mc ms : Nat} {g : JFrame} {rest : List Value} {Qa Qa' : State → Outcome → State → Prop} {XC : String → State → State → Prop} {free : Addr → Prop} (hQ : ∀ st o t, Qa st o t → Qa' st o t)
    (hr : vx_Run p l e R s m args below meth c H locs cells slots mc ms g rest Qa XC free) : vx_Run p l e R s m args below meth c H locs cells slots mc ms g rest Qa' XC free := by
  intro T hT X
  rcases hr T hT X with ⟨v, st₀, t, T', L, h0, X', hL, e1, e2, hq, st⟩ | h9
  · exact Or.inl ⟨v, st₀, t, T', L, h0, X', hL, e1, e2, hQ _ _ _ hq, st⟩
  · exact Or.inr h9
theorem dX10_post_24 : decode cX10_post 24 = .ok (.new 137, 3) := by decide +kernel
theorem dX10_post_27 : decode cX10_post 27 = .ok (.dup, 1) := by decide +kernel
theorem dX10_post_28 : decode cX10_post 28 = .ok (.invokespecial 139, 3) := by decide +kernel
theorem dX10_post_31 : decode cX10_post 31 = .ok (.athrow, 1) := by decide +kernel
theorem dL_post_5 : decode cL_post 5 = .ok (.invokevirtual 7, 3) := by decide +kernel
theorem dL_post_13 : decode cL_post 13 = .ok (.astore 4, 2) := by decide +kernel
theorem dL_post_15 : decode cL_post 15 = .ok (.iconst 1, 1) := by decide +kernel
theorem dL_post_16 : decode cL_post 16 = .ok (.ireturn, 1) := by decide +kernel
def ac9L_post : AC := [(0, .aload_n 3, 0, 0, 0), (1, .iconst 0, 0, 0, 0), (2, .aload_n 0, 0, 0, 0), (3, .iload_n 1, 0, 0, 0), (4, .iload_n 2, 0, 0, 0), (8, .i2l, 0, 0, 0), (9, .lastore, 0, 0, 0), (10, .goto 7, 0, 0, 0), (13, .astore 4, 0, 0, 0), (15, .iconst 1, 0, 0, 0), (16, .ireturn, 0, 0, 0), (17, .iconst 0, 0, 0, 0), (18, .ireturn, 0, 0, 0)]
set_option maxRecDepth 100000 in
theorem ok9L_post : acok (yL_post, cL_post, 5, (some .int), ac9L_post, 12, 0) := acokB_ok (hs := []) (by decide +kernel)
theorem j9mL_post : Jvm.Cond.methodLink RL 7 yX10_post ∈ GW := atT_gw (i := 983) (by decide +kernel)
theorem j9in_post : Jvm.Cond.instanceMethod yX10_post ∈ GW := atT_gw (i := 984) (by decide +kernel)
theorem j9se_post : Jvm.Cond.selects RX10 yX10_post yX10_post ∈ GW := atT_gw (i := 985) (by decide +kernel)
theorem j9co_post : Jvm.Cond.code yX10_post cX10_post 3 (some .int) ∈ GW := atT_gw (i := 986) (by decide +kernel)
theorem j9cw_post : Jvm.Cond.codeWith yL_post cL_post 5 (some .int) [(0, 10, 13, 13)] ∈ GW := atT_gw (i := 981) (by decide +kernel)
theorem j9ml_post : Jvm.Cond.static yL_post ∈ GW := atT_gw (i := 980) (by decide +kernel)
set_option maxRecDepth 4000 in
theorem wr9post {CL : CT} {h : aH} (h201 : h.1[201]? = some (1, 1)) {i j : Int} (ri : r32 i) (rj : r32 j) {R : Option Int → Prop} (hR : ∀ v, R (some v) → r32 v) : wplX CL ac9L_post (some .int) (wrQ h R) (wXR 5 [.int (I j), .int (I i), .ref 0] (fun v => .int (I v)) R h [(0, .ref 0), (1, .int (I i)), (2, .int (I j)), (3, .ref 201)]) 0 [(0, .ref 0), (1, .int (I i)), (2, .int (I j)), (3, .ref 201)] [] h 1 6 := by
  intro K hK hX9
  refine x_aload_n 1 hK rfl rfl rfl ?_
  refine x_iconst 2 hK rfl rfl ?_
  refine x_aload_n 3 hK rfl rfl rfl ?_
  refine x_iload_n 4 hK rfl rfl rfl ?_
  refine x_iload_n 5 hK rfl rfl rfl ?_
  refine hX9 _ _ _ _ _ _ ⟨rfl, rfl, rfl, rfl, rfl, rfl, fun v hv => ?_⟩
  have rv := hR v hv
  refine x_i2l 9 hK rfl rfl (by omega) ?_
  refine x_lastore 10 hK rfl rfl h201 (by omega) (by omega) (by omega) ?_
  refine x_goto 17 hK rfl rfl ?_
  refine x_iconst 18 hK rfl rfl ?_
  exact x_iret hK rfl (Or.inr ⟨v, hv, rfl, rfl⟩)
set_option maxHeartbeats 4000000 in
set_option maxRecDepth 100000 in
theorem wm9post (l : Launch) (hfl : l.stackTraces = false) {sh : List (Nat × Nat)} {h : aH} (hG : GD gE gRL sh h) (h201 : h.1[201]? = some (1, 1)) {i j : Int} (ri : r32 i) (rj : r32 j) (hR : ∀ v, postR h i j (some v) → r32 v)
    (cy : Nat → ClassId) (dC : Nat → ClassId) (dI : Nat → Nat → Nat) (adK adV ad : Nat → Nat) (sz : Nat) (hstr : ∀ i, i < 6 → ad (1000000 + i) = adK i) (hsm : h.1.length < 1000000) (hRV : RV h) :
    vx_Met l yL_post (Jvm.Cond.codeWith yL_post cL_post 5 (some .int) [(0, 10, 13, 13)] :: GW) rm8 (mPc cy dC dI adK adV ad [.ref 0, .int (I i), .int (I j), .ref 201] h sz) (mQc cy dC dI ad h sz 1 (wrQ h (postR h i j))) (fun _ _ _ => False) 1 6 (va_A (wd cy ad h) sz) := by
  refine vx_ofWH (cc := cL_post) (maxL := 5) (ret := some .int) (by decide) rfl ?_
  intro p e s m args below meth c s₁ B hml hv
  obtain ⟨rfl, hsz, hP, hU1, hD0, hU2⟩ := hv
  have hlocks := B.notSynchronized
  have hts0 := atoms_spec (ws := Jvm.Cond.codeWith yL_post cL_post 5 (some .int) [(0, 10, 13, 13)] :: GW) B.pre
  have hts : ∀ w ∈ GW, w.before (([.ref 0, .int (I i), .int (I j), .ref 201] : List Value).map (cv ad)).toArray s = true := fun w hw => hts0 w (List.mem_cons_of_mem _ hw)
  have htab := vx_table (x := yL_post) B (hts0 _ List.mem_cons_self)
  have hown : s.vm.findClass RL = some m.cls := findClass_of_methodNamed B.named
  have hin : meth.name = yL_post.name := (name_of_methodNamed B.named B.method).1
  subst hsz
  have hD := hD0.self (sz := s.heap.size)
  have hA : ∀ q : Nat, s.heap.size ≤ q → va_A (wd cy ad h) s.heap.size q := fun q h9 => Or.inr h9
  have hl := lv_entry (([.ref 0, .int (I i), .int (I j), .ref 201] : List Value).map (cv ad)) (n := 5) (Nat.le_of_ble_eq_true rfl)
  rw [lv_args_cv] at hl
  rw [lg_entry_eq]
  generalize (lg_sl (([.ref 0, .int (I i), .int (I j), .ref 201] : List Value).map (cv ad)) ++ List.replicate (5 - (lg_sl (([.ref 0, .int (I i), .int (I j), .ref 201] : List Value).map (cv ad))).length) Slot.unset).toArray = arr at hl ⊢
  have hq : ∀ (rv : Option Value) (h' : aH) (ad' : Nat → Nat) (H : Heap) (locs : List Loc), wrQ h (postR h i j) rv h' → HAD 1 h.1.length ad ad' 0 → h.1.length ≤ h'.1.length → h'.1.length < 1000000 → Std cy dC dI (va_A (wd cy ad h) s.heap.size) s.heap ad' h' H locs → ∀ o, o = .returned (rv.map (cv ad')) →
      ∀ t : State, t.heap = H → s.WarmedH t.vm → mQc cy dC dI ad h s.heap.size 1 (wrQ h (postR h i j)) (([.ref 0, .int (I i), .int (I j), .ref 201] : List Value).map (cv ad)).toArray s o t := by
    intro rv h' ad' H locs hq had hle hsm' hS o ho t ht hW
    exact ⟨⟨rv, h', ad', ho, hq, had.1, fun hz => had.2.2 hz, hle, hsm', hS.2.2.2, by rw [ht]; exact hS.1, hS.2.1⟩, hS.2.2.1.F ht⟩
  refine snd_runX (d := 0) (C := 1) (S := 6) (bz := 1) (n0 := h.1.length) (ad0 := ad) (ret := some .int) (own := RL) (isI := false) (ac := ac9L_post) (nL := 5) (CL := fun _ _ _ _ _ _ => False) (Q := wrQ h (postR h i j)) (wXR 5 [.int (I j), .int (I i), .ref 0] (fun v => .int (I v)) (postR h i j) h [(0, .ref 0), (1, .int (I i)), (2, .int (I j)), (3, .ref 201)]) ?_ B.exec B.bytes hml hown hts (fun h9 => nomatch h9) hU1 hU2 hA hstr (Nat.le_refl _) (Nat.le_refl _) (Nat.le_of_ble_eq_true rfl) (Nat.le_of_ble_eq_true rfl) hmath_t hmok_t (fun _ _ _ _ _ _ hc => hc.elim) ok9L_post ?_ ?_ ?_ 0 [(0, .ref 0), (1, .int (I i)), (2, .int (I j)), (3, .ref 201)] [] h 1 6 (wr9post h201 ri rj hR) ad arr s.heap [] 0 0 ⟨fun _ _ => rfl, Nat.le_refl _, fun _ => rfl⟩ (Nat.le_refl _) hsm ⟨hP, hD, va_S.rf, hRV⟩ hl (by omega) (by omega)
  · rintro pc ls st h' bc bs ⟨rfl, rfl, rfl, rfl, rfl, rfl, kk⟩
    intro ad' arr' H locs cells slots had hn0 hsm' hS hl' hc hs
    have hM := thr_met l hfl ok9X10_post (by decide) rfl (by decide) dX10_post_24 dX10_post_27 dX10_post_28 dX10_post_31 (rn9post (CL := fun _ _ _ _ _ _ => False) hG ri rj) (as := [.ref 0, .int (I i), .int (I j)]) (Nat.le_of_ble_eq_true rfl) cy dC dI adK adV ad' H.size (fun i hi => by rw [had.1 _ (Or.inr (by omega)), hstr i hi]) hsm' hRV
    have he := wd_get (cy := cy) (ad := ad') (shx hG (a := 0) (r := 0) (s := (110, 17)) (by decide +kernel) (by decide +kernel))
    rw [show (110 : Nat) = 100 + 10 from rfl, enS_obj] at he
    obtain ⟨C', T, N, ty, c1, -, -, -, -, -, c7, -⟩ := cls_ok (ci := 10) (by decide)
    have hrv := va_recv hU1.1 hS.1 c1 he
    have hfree := wd_free hS.2.1 hS.2.2.1 hA
    refine mQc_kkX (K := GK p l e _ s m _ below meth c _ 5 cy dC dI _ ad 1 h'.1.length 1 6) (mc := 1) (ms := 6) (mz := 1) (bc := 1) (bs := 6) (h := h') (rest := [.int (I 0), .ref 201]) hU1 hA (fun _ _ _ _ _ _ hk => hk) (Nat.le_refl _) (Nat.le_refl _) (Nat.le_refl _) ?_ (Nat.le_refl _) had hn0 hS hl' hc hs (fun q h9 => hfree q h9) (fun E st t h9 => h9.2.2.2) (vx_Run_mono (fun st o t hm => mQc_mono (fun rv h9 hq9 => ?_) hm) (vx_runV (C := RX10) (b := ad' 0) (As := [.int (I i), .int (I j)]) (n := 2) ⟨B.exec, B.bytes, hml, hown, hts⟩ hM (cwV 2 hts (jgV (y := yX10_post) j9mL_post j9in_post j9se_post j9ini_X10 j9co_post) rfl rfl rfl (by decide +kernel) ⟨Nat.le_of_ble_eq_true rfl, Nat.le_of_ble_eq_true rfl⟩) ⟨mPc_blind, by rw [show RX10 = C' from (show RX10 = wdN 10 from by decide +kernel).trans c7.symm]; exact hrv, fun U hU hW => mPc_here (as := [.ref 0, .int (I i), .int (I j)]) hU1 hU2 hA hS U hU hW⟩ rfl rfl hl'.1 rfl (lv_room (Nat.le_of_ble_eq_true rfl)) dL_post_5 ⟨by show cells + 1 ≤ 1; omega, by show slots + 6 ≤ 6; omega⟩)) ?_
    · have hz0 : (0 : Nat) < h'.1.length := (List.getElem?_eq_some_iff.mp (shx hG (a := 0) (r := 0) (s := (110, 17)) (by decide +kernel) (by decide +kernel))).1
      have hz1 : (201 : Nat) < h'.1.length := (List.getElem?_eq_some_iff.mp h201).1
      simp [okv, hz0, hz1]
    · obtain ⟨rfl, v, hv, rfl⟩ := hq9
      exact kk v hv
    · rintro E ce q9 st₀ t H1 locs1 e0 e1 ⟨rfl, hT, ⟨ad2, hd2, hP2, hD2⟩, hF2⟩ hS1 hce hcv hcl
      refine vx_catch (own := RL) (name := NSE9) hown [] _ [] htab (fun z hz => nomatch hz) (by decide) (by decide) (hts _ j9cl_L) (cast9 (hts _ j9inst_NSE)) hce hcv hcl ?_
      refine lv_astore (i := 4) B.exec B.bytes dL_post_13 hl' (Nat.le_of_ble_eq_true rfl) rfl (fun arr2 hl2 => ?_)
      refine lv_iconst (v := 1) B.exec B.bytes dL_post_15 (by decide) ?_
      refine W.widen (show cells + 1 ≤ 1 by omega) (show slots + 6 ≤ 6 by omega) (vx_ret ?_)
      refine W.iret (v := 1) B.exec B.bytes B.returns (fun t2 ht2 hW2 => ⟨⟨some (.int 1), h', ad2, rfl, Or.inl ⟨hT, rfl, rfl⟩, fun j hj => (hd2 j hj).trans (had.1 j hj), fun hz => absurd hz (by decide), Nat.le_refl _, hsm, hRV, by rw [ht2, ← e1]; exact hP2, hD2.weaken (fun _ q _ h9 => hfree q.1 h9)⟩, hS1.F ht2⟩) hS1.2.2 dL_post_16
  · intro v ty h' ad' H locs cells slots pc arr' hd hr hn hqq had hle hsm' hS hl' hs
    refine W.widen hl' hs (vx_ret ?_)
    exact W.zret B.exec B.bytes (B.returns.trans hr) hn (hq _ h' ad' H locs hqq had hle hsm' hS _ rfl) hS.2.2.1.2.2 hd
  · intro v h' ad' H locs cells slots pc arr' hd hr hqq had hle hsm' hS hc hs
    exact nomatch hr
  · intro h' ad' H locs cells slots pc arr' hd hr hqq had hle hsm' hS hc hs
    exact nomatch hr
theorem dX10_rock_24 : decode cX10_rock 24 = .ok (.new 137, 3) := by decide +kernel
theorem dX10_rock_27 : decode cX10_rock 27 = .ok (.dup, 1) := by decide +kernel
theorem dX10_rock_28 : decode cX10_rock 28 = .ok (.invokespecial 139, 3) := by decide +kernel
theorem dX10_rock_31 : decode cX10_rock 31 = .ok (.athrow, 1) := by decide +kernel
theorem dL_rock_5 : decode cL_rock 5 = .ok (.invokevirtual 15, 3) := by decide +kernel
theorem dL_rock_13 : decode cL_rock 13 = .ok (.astore 4, 2) := by decide +kernel
theorem dL_rock_15 : decode cL_rock 15 = .ok (.iconst 1, 1) := by decide +kernel
theorem dL_rock_16 : decode cL_rock 16 = .ok (.ireturn, 1) := by decide +kernel
def ac9L_rock : AC := [(0, .aload_n 3, 0, 0, 0), (1, .iconst 0, 0, 0, 0), (2, .aload_n 0, 0, 0, 0), (3, .iload_n 1, 0, 0, 0), (4, .iload_n 2, 0, 0, 0), (8, .i2l, 0, 0, 0), (9, .lastore, 0, 0, 0), (10, .goto 7, 0, 0, 0), (13, .astore 4, 0, 0, 0), (15, .iconst 1, 0, 0, 0), (16, .ireturn, 0, 0, 0), (17, .iconst 0, 0, 0, 0), (18, .ireturn, 0, 0, 0)]
set_option maxRecDepth 100000 in
theorem ok9L_rock : acok (yL_rock, cL_rock, 5, (some .int), ac9L_rock, 12, 0) := acokB_ok (hs := []) (by decide +kernel)
theorem j9mL_rock : Jvm.Cond.methodLink RL 15 yX10_rock ∈ GW := atT_gw (i := 1051) (by decide +kernel)
theorem j9in_rock : Jvm.Cond.instanceMethod yX10_rock ∈ GW := atT_gw (i := 1052) (by decide +kernel)
theorem j9se_rock : Jvm.Cond.selects RX10 yX10_rock yX10_rock ∈ GW := atT_gw (i := 1053) (by decide +kernel)
theorem j9co_rock : Jvm.Cond.code yX10_rock cX10_rock 3 (some .int) ∈ GW := atT_gw (i := 1054) (by decide +kernel)
theorem j9cw_rock : Jvm.Cond.codeWith yL_rock cL_rock 5 (some .int) [(0, 10, 13, 13)] ∈ GW := atT_gw (i := 1050) (by decide +kernel)
theorem j9ml_rock : Jvm.Cond.static yL_rock ∈ GW := atT_gw (i := 1049) (by decide +kernel)
set_option maxRecDepth 4000 in
theorem wr9rock {CL : CT} {h : aH} (h201 : h.1[201]? = some (1, 1)) {i j : Int} (ri : r32 i) (rj : r32 j) {R : Option Int → Prop} (hR : ∀ v, R (some v) → r32 v) : wplX CL ac9L_rock (some .int) (wrQ h R) (wXR 5 [.int (I j), .int (I i), .ref 0] (fun v => .int (I v)) R h [(0, .ref 0), (1, .int (I i)), (2, .int (I j)), (3, .ref 201)]) 0 [(0, .ref 0), (1, .int (I i)), (2, .int (I j)), (3, .ref 201)] [] h 1 6 := by
  intro K hK hX9
  refine x_aload_n 1 hK rfl rfl rfl ?_
  refine x_iconst 2 hK rfl rfl ?_
  refine x_aload_n 3 hK rfl rfl rfl ?_
  refine x_iload_n 4 hK rfl rfl rfl ?_
  refine x_iload_n 5 hK rfl rfl rfl ?_
  refine hX9 _ _ _ _ _ _ ⟨rfl, rfl, rfl, rfl, rfl, rfl, fun v hv => ?_⟩
  have rv := hR v hv
  refine x_i2l 9 hK rfl rfl (by omega) ?_
  refine x_lastore 10 hK rfl rfl h201 (by omega) (by omega) (by omega) ?_
  refine x_goto 17 hK rfl rfl ?_
  refine x_iconst 18 hK rfl rfl ?_
  exact x_iret hK rfl (Or.inr ⟨v, hv, rfl, rfl⟩)
set_option maxHeartbeats 4000000 in
set_option maxRecDepth 100000 in
theorem wm9rock (l : Launch) (hfl : l.stackTraces = false) {sh : List (Nat × Nat)} {h : aH} (hG : GD gE gRL sh h) (h201 : h.1[201]? = some (1, 1)) {i j : Int} (ri : r32 i) (rj : r32 j) (hR : ∀ v, rockR h i j (some v) → r32 v)
    (cy : Nat → ClassId) (dC : Nat → ClassId) (dI : Nat → Nat → Nat) (adK adV ad : Nat → Nat) (sz : Nat) (hstr : ∀ i, i < 6 → ad (1000000 + i) = adK i) (hsm : h.1.length < 1000000) (hRV : RV h) :
    vx_Met l yL_rock (Jvm.Cond.codeWith yL_rock cL_rock 5 (some .int) [(0, 10, 13, 13)] :: GW) rm8 (mPc cy dC dI adK adV ad [.ref 0, .int (I i), .int (I j), .ref 201] h sz) (mQc cy dC dI ad h sz 1 (wrQ h (rockR h i j))) (fun _ _ _ => False) 1 6 (va_A (wd cy ad h) sz) := by
  refine vx_ofWH (cc := cL_rock) (maxL := 5) (ret := some .int) (by decide) rfl ?_
  intro p e s m args below meth c s₁ B hml hv
  obtain ⟨rfl, hsz, hP, hU1, hD0, hU2⟩ := hv
  have hlocks := B.notSynchronized
  have hts0 := atoms_spec (ws := Jvm.Cond.codeWith yL_rock cL_rock 5 (some .int) [(0, 10, 13, 13)] :: GW) B.pre
  have hts : ∀ w ∈ GW, w.before (([.ref 0, .int (I i), .int (I j), .ref 201] : List Value).map (cv ad)).toArray s = true := fun w hw => hts0 w (List.mem_cons_of_mem _ hw)
  have htab := vx_table (x := yL_rock) B (hts0 _ List.mem_cons_self)
  have hown : s.vm.findClass RL = some m.cls := findClass_of_methodNamed B.named
  have hin : meth.name = yL_rock.name := (name_of_methodNamed B.named B.method).1
  subst hsz
  have hD := hD0.self (sz := s.heap.size)
  have hA : ∀ q : Nat, s.heap.size ≤ q → va_A (wd cy ad h) s.heap.size q := fun q h9 => Or.inr h9
  have hl := lv_entry (([.ref 0, .int (I i), .int (I j), .ref 201] : List Value).map (cv ad)) (n := 5) (Nat.le_of_ble_eq_true rfl)
  rw [lv_args_cv] at hl
  rw [lg_entry_eq]
  generalize (lg_sl (([.ref 0, .int (I i), .int (I j), .ref 201] : List Value).map (cv ad)) ++ List.replicate (5 - (lg_sl (([.ref 0, .int (I i), .int (I j), .ref 201] : List Value).map (cv ad))).length) Slot.unset).toArray = arr at hl ⊢
  have hq : ∀ (rv : Option Value) (h' : aH) (ad' : Nat → Nat) (H : Heap) (locs : List Loc), wrQ h (rockR h i j) rv h' → HAD 1 h.1.length ad ad' 0 → h.1.length ≤ h'.1.length → h'.1.length < 1000000 → Std cy dC dI (va_A (wd cy ad h) s.heap.size) s.heap ad' h' H locs → ∀ o, o = .returned (rv.map (cv ad')) →
      ∀ t : State, t.heap = H → s.WarmedH t.vm → mQc cy dC dI ad h s.heap.size 1 (wrQ h (rockR h i j)) (([.ref 0, .int (I i), .int (I j), .ref 201] : List Value).map (cv ad)).toArray s o t := by
    intro rv h' ad' H locs hq had hle hsm' hS o ho t ht hW
    exact ⟨⟨rv, h', ad', ho, hq, had.1, fun hz => had.2.2 hz, hle, hsm', hS.2.2.2, by rw [ht]; exact hS.1, hS.2.1⟩, hS.2.2.1.F ht⟩
  refine snd_runX (d := 0) (C := 1) (S := 6) (bz := 1) (n0 := h.1.length) (ad0 := ad) (ret := some .int) (own := RL) (isI := false) (ac := ac9L_rock) (nL := 5) (CL := fun _ _ _ _ _ _ => False) (Q := wrQ h (rockR h i j)) (wXR 5 [.int (I j), .int (I i), .ref 0] (fun v => .int (I v)) (rockR h i j) h [(0, .ref 0), (1, .int (I i)), (2, .int (I j)), (3, .ref 201)]) ?_ B.exec B.bytes hml hown hts (fun h9 => nomatch h9) hU1 hU2 hA hstr (Nat.le_refl _) (Nat.le_refl _) (Nat.le_of_ble_eq_true rfl) (Nat.le_of_ble_eq_true rfl) hmath_t hmok_t (fun _ _ _ _ _ _ hc => hc.elim) ok9L_rock ?_ ?_ ?_ 0 [(0, .ref 0), (1, .int (I i)), (2, .int (I j)), (3, .ref 201)] [] h 1 6 (wr9rock h201 ri rj hR) ad arr s.heap [] 0 0 ⟨fun _ _ => rfl, Nat.le_refl _, fun _ => rfl⟩ (Nat.le_refl _) hsm ⟨hP, hD, va_S.rf, hRV⟩ hl (by omega) (by omega)
  · rintro pc ls st h' bc bs ⟨rfl, rfl, rfl, rfl, rfl, rfl, kk⟩
    intro ad' arr' H locs cells slots had hn0 hsm' hS hl' hc hs
    have hM := thr_met l hfl ok9X10_rock (by decide) rfl (by decide) dX10_rock_24 dX10_rock_27 dX10_rock_28 dX10_rock_31 (rn9rock (CL := fun _ _ _ _ _ _ => False) hG ri rj) (as := [.ref 0, .int (I i), .int (I j)]) (Nat.le_of_ble_eq_true rfl) cy dC dI adK adV ad' H.size (fun i hi => by rw [had.1 _ (Or.inr (by omega)), hstr i hi]) hsm' hRV
    have he := wd_get (cy := cy) (ad := ad') (shx hG (a := 0) (r := 0) (s := (110, 17)) (by decide +kernel) (by decide +kernel))
    rw [show (110 : Nat) = 100 + 10 from rfl, enS_obj] at he
    obtain ⟨C', T, N, ty, c1, -, -, -, -, -, c7, -⟩ := cls_ok (ci := 10) (by decide)
    have hrv := va_recv hU1.1 hS.1 c1 he
    have hfree := wd_free hS.2.1 hS.2.2.1 hA
    refine mQc_kkX (K := GK p l e _ s m _ below meth c _ 5 cy dC dI _ ad 1 h'.1.length 1 6) (mc := 1) (ms := 6) (mz := 1) (bc := 1) (bs := 6) (h := h') (rest := [.int (I 0), .ref 201]) hU1 hA (fun _ _ _ _ _ _ hk => hk) (Nat.le_refl _) (Nat.le_refl _) (Nat.le_refl _) ?_ (Nat.le_refl _) had hn0 hS hl' hc hs (fun q h9 => hfree q h9) (fun E st t h9 => h9.2.2.2) (vx_Run_mono (fun st o t hm => mQc_mono (fun rv h9 hq9 => ?_) hm) (vx_runV (C := RX10) (b := ad' 0) (As := [.int (I i), .int (I j)]) (n := 2) ⟨B.exec, B.bytes, hml, hown, hts⟩ hM (cwV 2 hts (jgV (y := yX10_rock) j9mL_rock j9in_rock j9se_rock j9ini_X10 j9co_rock) rfl rfl rfl (by decide +kernel) ⟨Nat.le_of_ble_eq_true rfl, Nat.le_of_ble_eq_true rfl⟩) ⟨mPc_blind, by rw [show RX10 = C' from (show RX10 = wdN 10 from by decide +kernel).trans c7.symm]; exact hrv, fun U hU hW => mPc_here (as := [.ref 0, .int (I i), .int (I j)]) hU1 hU2 hA hS U hU hW⟩ rfl rfl hl'.1 rfl (lv_room (Nat.le_of_ble_eq_true rfl)) dL_rock_5 ⟨by show cells + 1 ≤ 1; omega, by show slots + 6 ≤ 6; omega⟩)) ?_
    · have hz0 : (0 : Nat) < h'.1.length := (List.getElem?_eq_some_iff.mp (shx hG (a := 0) (r := 0) (s := (110, 17)) (by decide +kernel) (by decide +kernel))).1
      have hz1 : (201 : Nat) < h'.1.length := (List.getElem?_eq_some_iff.mp h201).1
      simp [okv, hz0, hz1]
    · obtain ⟨rfl, v, hv, rfl⟩ := hq9
      exact kk v hv
    · rintro E ce q9 st₀ t H1 locs1 e0 e1 ⟨rfl, hT, ⟨ad2, hd2, hP2, hD2⟩, hF2⟩ hS1 hce hcv hcl
      refine vx_catch (own := RL) (name := NSE9) hown [] _ [] htab (fun z hz => nomatch hz) (by decide) (by decide) (hts _ j9cl_L) (cast9 (hts _ j9inst_NSE)) hce hcv hcl ?_
      refine lv_astore (i := 4) B.exec B.bytes dL_rock_13 hl' (Nat.le_of_ble_eq_true rfl) rfl (fun arr2 hl2 => ?_)
      refine lv_iconst (v := 1) B.exec B.bytes dL_rock_15 (by decide) ?_
      refine W.widen (show cells + 1 ≤ 1 by omega) (show slots + 6 ≤ 6 by omega) (vx_ret ?_)
      refine W.iret (v := 1) B.exec B.bytes B.returns (fun t2 ht2 hW2 => ⟨⟨some (.int 1), h', ad2, rfl, Or.inl ⟨hT, rfl, rfl⟩, fun j hj => (hd2 j hj).trans (had.1 j hj), fun hz => absurd hz (by decide), Nat.le_refl _, hsm, hRV, by rw [ht2, ← e1]; exact hP2, hD2.weaken (fun _ q _ h9 => hfree q.1 h9)⟩, hS1.F ht2⟩) hS1.2.2 dL_rock_16
  · intro v ty h' ad' H locs cells slots pc arr' hd hr hn hqq had hle hsm' hS hl' hs
    refine W.widen hl' hs (vx_ret ?_)
    exact W.zret B.exec B.bytes (B.returns.trans hr) hn (hq _ h' ad' H locs hqq had hle hsm' hS _ rfl) hS.2.2.1.2.2 hd
  · intro v h' ad' H locs cells slots pc arr' hd hr hqq had hle hsm' hS hc hs
    exact nomatch hr
  · intro h' ad' H locs cells slots pc arr' hd hr hqq had hle hsm' hS hc hs
    exact nomatch hr
theorem dX10_mess_21 : decode cX10_mess 21 = .ok (.new 137, 3) := by decide +kernel
theorem dX10_mess_24 : decode cX10_mess 24 = .ok (.dup, 1) := by decide +kernel
theorem dX10_mess_25 : decode cX10_mess 25 = .ok (.invokespecial 139, 3) := by decide +kernel
theorem dX10_mess_28 : decode cX10_mess 28 = .ok (.athrow, 1) := by decide +kernel
theorem dL_mess_5 : decode cL_mess 5 = .ok (.invokevirtual 18, 3) := by decide +kernel
theorem dL_mess_13 : decode cL_mess 13 = .ok (.astore 4, 2) := by decide +kernel
theorem dL_mess_15 : decode cL_mess 15 = .ok (.iconst 1, 1) := by decide +kernel
theorem dL_mess_16 : decode cL_mess 16 = .ok (.ireturn, 1) := by decide +kernel
def ac9L_mess : AC := [(0, .aload_n 3, 0, 0, 0), (1, .iconst 0, 0, 0, 0), (2, .aload_n 0, 0, 0, 0), (3, .iload_n 1, 0, 0, 0), (4, .iload_n 2, 0, 0, 0), (8, .i2l, 0, 0, 0), (9, .lastore, 0, 0, 0), (10, .goto 7, 0, 0, 0), (13, .astore 4, 0, 0, 0), (15, .iconst 1, 0, 0, 0), (16, .ireturn, 0, 0, 0), (17, .iconst 0, 0, 0, 0), (18, .ireturn, 0, 0, 0)]
set_option maxRecDepth 100000 in
theorem ok9L_mess : acok (yL_mess, cL_mess, 5, (some .int), ac9L_mess, 12, 0) := acokB_ok (hs := []) (by decide +kernel)
theorem j9mL_mess : Jvm.Cond.methodLink RL 18 yX10_mess ∈ GW := atT_gw (i := 1058) (by decide +kernel)
theorem j9in_mess : Jvm.Cond.instanceMethod yX10_mess ∈ GW := atT_gw (i := 1059) (by decide +kernel)
theorem j9se_mess : Jvm.Cond.selects RX10 yX10_mess yX10_mess ∈ GW := atT_gw (i := 1060) (by decide +kernel)
theorem j9co_mess : Jvm.Cond.code yX10_mess cX10_mess 3 (some .int) ∈ GW := atT_gw (i := 1061) (by decide +kernel)
theorem j9cw_mess : Jvm.Cond.codeWith yL_mess cL_mess 5 (some .int) [(0, 10, 13, 13)] ∈ GW := atT_gw (i := 1057) (by decide +kernel)
theorem j9ml_mess : Jvm.Cond.static yL_mess ∈ GW := atT_gw (i := 1056) (by decide +kernel)
set_option maxRecDepth 4000 in
theorem wr9mess {CL : CT} {h : aH} (h201 : h.1[201]? = some (1, 1)) {i j : Int} (ri : r32 i) (rj : r32 j) {R : Option Int → Prop} (hR : ∀ v, R (some v) → r32 v) : wplX CL ac9L_mess (some .int) (wrQ h R) (wXR 5 [.int (I j), .int (I i), .ref 0] (fun v => .int (I v)) R h [(0, .ref 0), (1, .int (I i)), (2, .int (I j)), (3, .ref 201)]) 0 [(0, .ref 0), (1, .int (I i)), (2, .int (I j)), (3, .ref 201)] [] h 1 6 := by
  intro K hK hX9
  refine x_aload_n 1 hK rfl rfl rfl ?_
  refine x_iconst 2 hK rfl rfl ?_
  refine x_aload_n 3 hK rfl rfl rfl ?_
  refine x_iload_n 4 hK rfl rfl rfl ?_
  refine x_iload_n 5 hK rfl rfl rfl ?_
  refine hX9 _ _ _ _ _ _ ⟨rfl, rfl, rfl, rfl, rfl, rfl, fun v hv => ?_⟩
  have rv := hR v hv
  refine x_i2l 9 hK rfl rfl (by omega) ?_
  refine x_lastore 10 hK rfl rfl h201 (by omega) (by omega) (by omega) ?_
  refine x_goto 17 hK rfl rfl ?_
  refine x_iconst 18 hK rfl rfl ?_
  exact x_iret hK rfl (Or.inr ⟨v, hv, rfl, rfl⟩)
set_option maxHeartbeats 4000000 in
set_option maxRecDepth 100000 in
theorem wm9mess (l : Launch) (hfl : l.stackTraces = false) {sh : List (Nat × Nat)} {h : aH} (hG : GD gE gRL sh h) (h201 : h.1[201]? = some (1, 1)) {i j : Int} (ri : r32 i) (rj : r32 j) (hR : ∀ v, messR h i j (some v) → r32 v)
    (cy : Nat → ClassId) (dC : Nat → ClassId) (dI : Nat → Nat → Nat) (adK adV ad : Nat → Nat) (sz : Nat) (hstr : ∀ i, i < 6 → ad (1000000 + i) = adK i) (hsm : h.1.length < 1000000) (hRV : RV h) :
    vx_Met l yL_mess (Jvm.Cond.codeWith yL_mess cL_mess 5 (some .int) [(0, 10, 13, 13)] :: GW) rm8 (mPc cy dC dI adK adV ad [.ref 0, .int (I i), .int (I j), .ref 201] h sz) (mQc cy dC dI ad h sz 1 (wrQ h (messR h i j))) (fun _ _ _ => False) 1 6 (va_A (wd cy ad h) sz) := by
  refine vx_ofWH (cc := cL_mess) (maxL := 5) (ret := some .int) (by decide) rfl ?_
  intro p e s m args below meth c s₁ B hml hv
  obtain ⟨rfl, hsz, hP, hU1, hD0, hU2⟩ := hv
  have hlocks := B.notSynchronized
  have hts0 := atoms_spec (ws := Jvm.Cond.codeWith yL_mess cL_mess 5 (some .int) [(0, 10, 13, 13)] :: GW) B.pre
  have hts : ∀ w ∈ GW, w.before (([.ref 0, .int (I i), .int (I j), .ref 201] : List Value).map (cv ad)).toArray s = true := fun w hw => hts0 w (List.mem_cons_of_mem _ hw)
  have htab := vx_table (x := yL_mess) B (hts0 _ List.mem_cons_self)
  have hown : s.vm.findClass RL = some m.cls := findClass_of_methodNamed B.named
  have hin : meth.name = yL_mess.name := (name_of_methodNamed B.named B.method).1
  subst hsz
  have hD := hD0.self (sz := s.heap.size)
  have hA : ∀ q : Nat, s.heap.size ≤ q → va_A (wd cy ad h) s.heap.size q := fun q h9 => Or.inr h9
  have hl := lv_entry (([.ref 0, .int (I i), .int (I j), .ref 201] : List Value).map (cv ad)) (n := 5) (Nat.le_of_ble_eq_true rfl)
  rw [lv_args_cv] at hl
  rw [lg_entry_eq]
  generalize (lg_sl (([.ref 0, .int (I i), .int (I j), .ref 201] : List Value).map (cv ad)) ++ List.replicate (5 - (lg_sl (([.ref 0, .int (I i), .int (I j), .ref 201] : List Value).map (cv ad))).length) Slot.unset).toArray = arr at hl ⊢
  have hq : ∀ (rv : Option Value) (h' : aH) (ad' : Nat → Nat) (H : Heap) (locs : List Loc), wrQ h (messR h i j) rv h' → HAD 1 h.1.length ad ad' 0 → h.1.length ≤ h'.1.length → h'.1.length < 1000000 → Std cy dC dI (va_A (wd cy ad h) s.heap.size) s.heap ad' h' H locs → ∀ o, o = .returned (rv.map (cv ad')) →
      ∀ t : State, t.heap = H → s.WarmedH t.vm → mQc cy dC dI ad h s.heap.size 1 (wrQ h (messR h i j)) (([.ref 0, .int (I i), .int (I j), .ref 201] : List Value).map (cv ad)).toArray s o t := by
    intro rv h' ad' H locs hq had hle hsm' hS o ho t ht hW
    exact ⟨⟨rv, h', ad', ho, hq, had.1, fun hz => had.2.2 hz, hle, hsm', hS.2.2.2, by rw [ht]; exact hS.1, hS.2.1⟩, hS.2.2.1.F ht⟩
  refine snd_runX (d := 0) (C := 1) (S := 6) (bz := 1) (n0 := h.1.length) (ad0 := ad) (ret := some .int) (own := RL) (isI := false) (ac := ac9L_mess) (nL := 5) (CL := fun _ _ _ _ _ _ => False) (Q := wrQ h (messR h i j)) (wXR 5 [.int (I j), .int (I i), .ref 0] (fun v => .int (I v)) (messR h i j) h [(0, .ref 0), (1, .int (I i)), (2, .int (I j)), (3, .ref 201)]) ?_ B.exec B.bytes hml hown hts (fun h9 => nomatch h9) hU1 hU2 hA hstr (Nat.le_refl _) (Nat.le_refl _) (Nat.le_of_ble_eq_true rfl) (Nat.le_of_ble_eq_true rfl) hmath_t hmok_t (fun _ _ _ _ _ _ hc => hc.elim) ok9L_mess ?_ ?_ ?_ 0 [(0, .ref 0), (1, .int (I i)), (2, .int (I j)), (3, .ref 201)] [] h 1 6 (wr9mess h201 ri rj hR) ad arr s.heap [] 0 0 ⟨fun _ _ => rfl, Nat.le_refl _, fun _ => rfl⟩ (Nat.le_refl _) hsm ⟨hP, hD, va_S.rf, hRV⟩ hl (by omega) (by omega)
  · rintro pc ls st h' bc bs ⟨rfl, rfl, rfl, rfl, rfl, rfl, kk⟩
    intro ad' arr' H locs cells slots had hn0 hsm' hS hl' hc hs
    have hM := thr_met l hfl ok9X10_mess (by decide) rfl (by decide) dX10_mess_21 dX10_mess_24 dX10_mess_25 dX10_mess_28 (rn9mess (CL := fun _ _ _ _ _ _ => False) hG ri rj) (as := [.ref 0, .int (I i), .int (I j)]) (Nat.le_of_ble_eq_true rfl) cy dC dI adK adV ad' H.size (fun i hi => by rw [had.1 _ (Or.inr (by omega)), hstr i hi]) hsm' hRV
    have he := wd_get (cy := cy) (ad := ad') (shx hG (a := 0) (r := 0) (s := (110, 17)) (by decide +kernel) (by decide +kernel))
    rw [show (110 : Nat) = 100 + 10 from rfl, enS_obj] at he
    obtain ⟨C', T, N, ty, c1, -, -, -, -, -, c7, -⟩ := cls_ok (ci := 10) (by decide)
    have hrv := va_recv hU1.1 hS.1 c1 he
    have hfree := wd_free hS.2.1 hS.2.2.1 hA
    refine mQc_kkX (K := GK p l e _ s m _ below meth c _ 5 cy dC dI _ ad 1 h'.1.length 1 6) (mc := 1) (ms := 6) (mz := 1) (bc := 1) (bs := 6) (h := h') (rest := [.int (I 0), .ref 201]) hU1 hA (fun _ _ _ _ _ _ hk => hk) (Nat.le_refl _) (Nat.le_refl _) (Nat.le_refl _) ?_ (Nat.le_refl _) had hn0 hS hl' hc hs (fun q h9 => hfree q h9) (fun E st t h9 => h9.2.2.2) (vx_Run_mono (fun st o t hm => mQc_mono (fun rv h9 hq9 => ?_) hm) (vx_runV (C := RX10) (b := ad' 0) (As := [.int (I i), .int (I j)]) (n := 2) ⟨B.exec, B.bytes, hml, hown, hts⟩ hM (cwV 2 hts (jgV (y := yX10_mess) j9mL_mess j9in_mess j9se_mess j9ini_X10 j9co_mess) rfl rfl rfl (by decide +kernel) ⟨Nat.le_of_ble_eq_true rfl, Nat.le_of_ble_eq_true rfl⟩) ⟨mPc_blind, by rw [show RX10 = C' from (show RX10 = wdN 10 from by decide +kernel).trans c7.symm]; exact hrv, fun U hU hW => mPc_here (as := [.ref 0, .int (I i), .int (I j)]) hU1 hU2 hA hS U hU hW⟩ rfl rfl hl'.1 rfl (lv_room (Nat.le_of_ble_eq_true rfl)) dL_mess_5 ⟨by show cells + 1 ≤ 1; omega, by show slots + 6 ≤ 6; omega⟩)) ?_
    · have hz0 : (0 : Nat) < h'.1.length := (List.getElem?_eq_some_iff.mp (shx hG (a := 0) (r := 0) (s := (110, 17)) (by decide +kernel) (by decide +kernel))).1
      have hz1 : (201 : Nat) < h'.1.length := (List.getElem?_eq_some_iff.mp h201).1
      simp [okv, hz0, hz1]
    · obtain ⟨rfl, v, hv, rfl⟩ := hq9
      exact kk v hv
    · rintro E ce q9 st₀ t H1 locs1 e0 e1 ⟨rfl, hT, ⟨ad2, hd2, hP2, hD2⟩, hF2⟩ hS1 hce hcv hcl
      refine vx_catch (own := RL) (name := NSE9) hown [] _ [] htab (fun z hz => nomatch hz) (by decide) (by decide) (hts _ j9cl_L) (cast9 (hts _ j9inst_NSE)) hce hcv hcl ?_
      refine lv_astore (i := 4) B.exec B.bytes dL_mess_13 hl' (Nat.le_of_ble_eq_true rfl) rfl (fun arr2 hl2 => ?_)
      refine lv_iconst (v := 1) B.exec B.bytes dL_mess_15 (by decide) ?_
      refine W.widen (show cells + 1 ≤ 1 by omega) (show slots + 6 ≤ 6 by omega) (vx_ret ?_)
      refine W.iret (v := 1) B.exec B.bytes B.returns (fun t2 ht2 hW2 => ⟨⟨some (.int 1), h', ad2, rfl, Or.inl ⟨hT, rfl, rfl⟩, fun j hj => (hd2 j hj).trans (had.1 j hj), fun hz => absurd hz (by decide), Nat.le_refl _, hsm, hRV, by rw [ht2, ← e1]; exact hP2, hD2.weaken (fun _ q _ h9 => hfree q.1 h9)⟩, hS1.F ht2⟩) hS1.2.2 dL_mess_16
  · intro v ty h' ad' H locs cells slots pc arr' hd hr hn hqq had hle hsm' hS hl' hs
    refine W.widen hl' hs (vx_ret ?_)
    exact W.zret B.exec B.bytes (B.returns.trans hr) hn (hq _ h' ad' H locs hqq had hle hsm' hS _ rfl) hS.2.2.1.2.2 hd
  · intro v h' ad' H locs cells slots pc arr' hd hr hqq had hle hsm' hS hc hs
    exact nomatch hr
  · intro h' ad' H locs cells slots pc arr' hd hr hqq had hle hsm' hS hc hs
    exact nomatch hr
theorem dX10_way_24 : decode cX10_way 24 = .ok (.new 137, 3) := by decide +kernel
theorem dX10_way_27 : decode cX10_way 27 = .ok (.dup, 1) := by decide +kernel
theorem dX10_way_28 : decode cX10_way 28 = .ok (.invokespecial 139, 3) := by decide +kernel
theorem dX10_way_31 : decode cX10_way 31 = .ok (.athrow, 1) := by decide +kernel
theorem dL_way_5 : decode cL_way 5 = .ok (.invokevirtual 21, 3) := by decide +kernel
theorem dL_way_13 : decode cL_way 13 = .ok (.astore 4, 2) := by decide +kernel
theorem dL_way_15 : decode cL_way 15 = .ok (.iconst 1, 1) := by decide +kernel
theorem dL_way_16 : decode cL_way 16 = .ok (.ireturn, 1) := by decide +kernel
def ac9L_way : AC := [(0, .aload_n 3, 0, 0, 0), (1, .iconst 0, 0, 0, 0), (2, .aload_n 0, 0, 0, 0), (3, .iload_n 1, 0, 0, 0), (4, .iload_n 2, 0, 0, 0), (8, .i2l, 0, 0, 0), (9, .lastore, 0, 0, 0), (10, .goto 7, 0, 0, 0), (13, .astore 4, 0, 0, 0), (15, .iconst 1, 0, 0, 0), (16, .ireturn, 0, 0, 0), (17, .iconst 0, 0, 0, 0), (18, .ireturn, 0, 0, 0)]
set_option maxRecDepth 100000 in
theorem ok9L_way : acok (yL_way, cL_way, 5, (some .int), ac9L_way, 12, 0) := acokB_ok (hs := []) (by decide +kernel)
theorem j9mL_way : Jvm.Cond.methodLink RL 21 yX10_way ∈ GW := atT_gw (i := 1065) (by decide +kernel)
theorem j9in_way : Jvm.Cond.instanceMethod yX10_way ∈ GW := atT_gw (i := 1066) (by decide +kernel)
theorem j9se_way : Jvm.Cond.selects RX10 yX10_way yX10_way ∈ GW := atT_gw (i := 1067) (by decide +kernel)
theorem j9co_way : Jvm.Cond.code yX10_way cX10_way 3 (some .int) ∈ GW := atT_gw (i := 1068) (by decide +kernel)
theorem j9cw_way : Jvm.Cond.codeWith yL_way cL_way 5 (some .int) [(0, 10, 13, 13)] ∈ GW := atT_gw (i := 1064) (by decide +kernel)
theorem j9ml_way : Jvm.Cond.static yL_way ∈ GW := atT_gw (i := 1063) (by decide +kernel)
set_option maxRecDepth 4000 in
theorem wr9way {CL : CT} {h : aH} (h201 : h.1[201]? = some (1, 1)) {i j : Int} (ri : r32 i) (rj : r32 j) {R : Option Int → Prop} (hR : ∀ v, R (some v) → r32 v) : wplX CL ac9L_way (some .int) (wrQ h R) (wXR 5 [.int (I j), .int (I i), .ref 0] (fun v => .int (I v)) R h [(0, .ref 0), (1, .int (I i)), (2, .int (I j)), (3, .ref 201)]) 0 [(0, .ref 0), (1, .int (I i)), (2, .int (I j)), (3, .ref 201)] [] h 1 6 := by
  intro K hK hX9
  refine x_aload_n 1 hK rfl rfl rfl ?_
  refine x_iconst 2 hK rfl rfl ?_
  refine x_aload_n 3 hK rfl rfl rfl ?_
  refine x_iload_n 4 hK rfl rfl rfl ?_
  refine x_iload_n 5 hK rfl rfl rfl ?_
  refine hX9 _ _ _ _ _ _ ⟨rfl, rfl, rfl, rfl, rfl, rfl, fun v hv => ?_⟩
  have rv := hR v hv
  refine x_i2l 9 hK rfl rfl (by omega) ?_
  refine x_lastore 10 hK rfl rfl h201 (by omega) (by omega) (by omega) ?_
  refine x_goto 17 hK rfl rfl ?_
  refine x_iconst 18 hK rfl rfl ?_
  exact x_iret hK rfl (Or.inr ⟨v, hv, rfl, rfl⟩)
set_option maxHeartbeats 4000000 in
set_option maxRecDepth 100000 in
theorem wm9way (l : Launch) (hfl : l.stackTraces = false) {sh : List (Nat × Nat)} {h : aH} (hG : GD gE gRL sh h) (h201 : h.1[201]? = some (1, 1)) {i j : Int} (ri : r32 i) (rj : r32 j) (hR : ∀ v, wayR h i j (some v) → r32 v)
    (cy : Nat → ClassId) (dC : Nat → ClassId) (dI : Nat → Nat → Nat) (adK adV ad : Nat → Nat) (sz : Nat) (hstr : ∀ i, i < 6 → ad (1000000 + i) = adK i) (hsm : h.1.length < 1000000) (hRV : RV h) :
    vx_Met l yL_way (Jvm.Cond.codeWith yL_way cL_way 5 (some .int) [(0, 10, 13, 13)] :: GW) rm8 (mPc cy dC dI adK adV ad [.ref 0, .int (I i), .int (I j), .ref 201] h sz) (mQc cy dC dI ad h sz 1 (wrQ h (wayR h i j))) (fun _ _ _ => False) 1 6 (va_A (wd cy ad h) sz) := by
  refine vx_ofWH (cc := cL_way) (maxL := 5) (ret := some .int) (by decide) rfl ?_
  intro p e s m args below meth c s₁ B hml hv
  obtain ⟨rfl, hsz, hP, hU1, hD0, hU2⟩ := hv
  have hlocks := B.notSynchronized
  have hts0 := atoms_spec (ws := Jvm.Cond.codeWith yL_way cL_way 5 (some .int) [(0, 10, 13, 13)] :: GW) B.pre
  have hts : ∀ w ∈ GW, w.before (([.ref 0, .int (I i), .int (I j), .ref 201] : List Value).map (cv ad)).toArray s = true := fun w hw => hts0 w (List.mem_cons_of_mem _ hw)
  have htab := vx_table (x := yL_way) B (hts0 _ List.mem_cons_self)
  have hown : s.vm.findClass RL = some m.cls := findClass_of_methodNamed B.named
  have hin : meth.name = yL_way.name := (name_of_methodNamed B.named B.method).1
  subst hsz
  have hD := hD0.self (sz := s.heap.size)
  have hA : ∀ q : Nat, s.heap.size ≤ q → va_A (wd cy ad h) s.heap.size q := fun q h9 => Or.inr h9
  have hl := lv_entry (([.ref 0, .int (I i), .int (I j), .ref 201] : List Value).map (cv ad)) (n := 5) (Nat.le_of_ble_eq_true rfl)
  rw [lv_args_cv] at hl
  rw [lg_entry_eq]
  generalize (lg_sl (([.ref 0, .int (I i), .int (I j), .ref 201] : List Value).map (cv ad)) ++ List.replicate (5 - (lg_sl (([.ref 0, .int (I i), .int (I j), .ref 201] : List Value).map (cv ad))).length) Slot.unset).toArray = arr at hl ⊢
  have hq : ∀ (rv : Option Value) (h' : aH) (ad' : Nat → Nat) (H : Heap) (locs : List Loc), wrQ h (wayR h i j) rv h' → HAD 1 h.1.length ad ad' 0 → h.1.length ≤ h'.1.length → h'.1.length < 1000000 → Std cy dC dI (va_A (wd cy ad h) s.heap.size) s.heap ad' h' H locs → ∀ o, o = .returned (rv.map (cv ad')) →
      ∀ t : State, t.heap = H → s.WarmedH t.vm → mQc cy dC dI ad h s.heap.size 1 (wrQ h (wayR h i j)) (([.ref 0, .int (I i), .int (I j), .ref 201] : List Value).map (cv ad)).toArray s o t := by
    intro rv h' ad' H locs hq had hle hsm' hS o ho t ht hW
    exact ⟨⟨rv, h', ad', ho, hq, had.1, fun hz => had.2.2 hz, hle, hsm', hS.2.2.2, by rw [ht]; exact hS.1, hS.2.1⟩, hS.2.2.1.F ht⟩
  refine snd_runX (d := 0) (C := 1) (S := 6) (bz := 1) (n0 := h.1.length) (ad0 := ad) (ret := some .int) (own := RL) (isI := false) (ac := ac9L_way) (nL := 5) (CL := fun _ _ _ _ _ _ => False) (Q := wrQ h (wayR h i j)) (wXR 5 [.int (I j), .int (I i), .ref 0] (fun v => .int (I v)) (wayR h i j) h [(0, .ref 0), (1, .int (I i)), (2, .int (I j)), (3, .ref 201)]) ?_ B.exec B.bytes hml hown hts (fun h9 => nomatch h9) hU1 hU2 hA hstr (Nat.le_refl _) (Nat.le_refl _) (Nat.le_of_ble_eq_true rfl) (Nat.le_of_ble_eq_true rfl) hmath_t hmok_t (fun _ _ _ _ _ _ hc => hc.elim) ok9L_way ?_ ?_ ?_ 0 [(0, .ref 0), (1, .int (I i)), (2, .int (I j)), (3, .ref 201)] [] h 1 6 (wr9way h201 ri rj hR) ad arr s.heap [] 0 0 ⟨fun _ _ => rfl, Nat.le_refl _, fun _ => rfl⟩ (Nat.le_refl _) hsm ⟨hP, hD, va_S.rf, hRV⟩ hl (by omega) (by omega)
  · rintro pc ls st h' bc bs ⟨rfl, rfl, rfl, rfl, rfl, rfl, kk⟩
    intro ad' arr' H locs cells slots had hn0 hsm' hS hl' hc hs
    have hM := thr_met l hfl ok9X10_way (by decide) rfl (by decide) dX10_way_24 dX10_way_27 dX10_way_28 dX10_way_31 (rn9way (CL := fun _ _ _ _ _ _ => False) hG ri rj) (as := [.ref 0, .int (I i), .int (I j)]) (Nat.le_of_ble_eq_true rfl) cy dC dI adK adV ad' H.size (fun i hi => by rw [had.1 _ (Or.inr (by omega)), hstr i hi]) hsm' hRV
    have he := wd_get (cy := cy) (ad := ad') (shx hG (a := 0) (r := 0) (s := (110, 17)) (by decide +kernel) (by decide +kernel))
    rw [show (110 : Nat) = 100 + 10 from rfl, enS_obj] at he
    obtain ⟨C', T, N, ty, c1, -, -, -, -, -, c7, -⟩ := cls_ok (ci := 10) (by decide)
    have hrv := va_recv hU1.1 hS.1 c1 he
    have hfree := wd_free hS.2.1 hS.2.2.1 hA
    refine mQc_kkX (K := GK p l e _ s m _ below meth c _ 5 cy dC dI _ ad 1 h'.1.length 1 6) (mc := 1) (ms := 6) (mz := 1) (bc := 1) (bs := 6) (h := h') (rest := [.int (I 0), .ref 201]) hU1 hA (fun _ _ _ _ _ _ hk => hk) (Nat.le_refl _) (Nat.le_refl _) (Nat.le_refl _) ?_ (Nat.le_refl _) had hn0 hS hl' hc hs (fun q h9 => hfree q h9) (fun E st t h9 => h9.2.2.2) (vx_Run_mono (fun st o t hm => mQc_mono (fun rv h9 hq9 => ?_) hm) (vx_runV (C := RX10) (b := ad' 0) (As := [.int (I i), .int (I j)]) (n := 2) ⟨B.exec, B.bytes, hml, hown, hts⟩ hM (cwV 2 hts (jgV (y := yX10_way) j9mL_way j9in_way j9se_way j9ini_X10 j9co_way) rfl rfl rfl (by decide +kernel) ⟨Nat.le_of_ble_eq_true rfl, Nat.le_of_ble_eq_true rfl⟩) ⟨mPc_blind, by rw [show RX10 = C' from (show RX10 = wdN 10 from by decide +kernel).trans c7.symm]; exact hrv, fun U hU hW => mPc_here (as := [.ref 0, .int (I i), .int (I j)]) hU1 hU2 hA hS U hU hW⟩ rfl rfl hl'.1 rfl (lv_room (Nat.le_of_ble_eq_true rfl)) dL_way_5 ⟨by show cells + 1 ≤ 1; omega, by show slots + 6 ≤ 6; omega⟩)) ?_
    · have hz0 : (0 : Nat) < h'.1.length := (List.getElem?_eq_some_iff.mp (shx hG (a := 0) (r := 0) (s := (110, 17)) (by decide +kernel) (by decide +kernel))).1
      have hz1 : (201 : Nat) < h'.1.length := (List.getElem?_eq_some_iff.mp h201).1
      simp [okv, hz0, hz1]
    · obtain ⟨rfl, v, hv, rfl⟩ := hq9
      exact kk v hv
    · rintro E ce q9 st₀ t H1 locs1 e0 e1 ⟨rfl, hT, ⟨ad2, hd2, hP2, hD2⟩, hF2⟩ hS1 hce hcv hcl
      refine vx_catch (own := RL) (name := NSE9) hown [] _ [] htab (fun z hz => nomatch hz) (by decide) (by decide) (hts _ j9cl_L) (cast9 (hts _ j9inst_NSE)) hce hcv hcl ?_
      refine lv_astore (i := 4) B.exec B.bytes dL_way_13 hl' (Nat.le_of_ble_eq_true rfl) rfl (fun arr2 hl2 => ?_)
      refine lv_iconst (v := 1) B.exec B.bytes dL_way_15 (by decide) ?_
      refine W.widen (show cells + 1 ≤ 1 by omega) (show slots + 6 ≤ 6 by omega) (vx_ret ?_)
      refine W.iret (v := 1) B.exec B.bytes B.returns (fun t2 ht2 hW2 => ⟨⟨some (.int 1), h', ad2, rfl, Or.inl ⟨hT, rfl, rfl⟩, fun j hj => (hd2 j hj).trans (had.1 j hj), fun hz => absurd hz (by decide), Nat.le_refl _, hsm, hRV, by rw [ht2, ← e1]; exact hP2, hD2.weaken (fun _ q _ h9 => hfree q.1 h9)⟩, hS1.F ht2⟩) hS1.2.2 dL_way_16
  · intro v ty h' ad' H locs cells slots pc arr' hd hr hn hqq had hle hsm' hS hl' hs
    refine W.widen hl' hs (vx_ret ?_)
    exact W.zret B.exec B.bytes (B.returns.trans hr) hn (hq _ h' ad' H locs hqq had hle hsm' hS _ rfl) hS.2.2.1.2.2 hd
  · intro v h' ad' H locs cells slots pc arr' hd hr hqq had hle hsm' hS hc hs
    exact nomatch hr
  · intro h' ad' H locs cells slots pc arr' hd hr hqq had hle hsm' hS hc hs
    exact nomatch hr
theorem dX10_row_15 : decode cX10_row 15 = .ok (.new 137, 3) := by decide +kernel
theorem dX10_row_18 : decode cX10_row 18 = .ok (.dup, 1) := by decide +kernel
theorem dX10_row_19 : decode cX10_row 19 = .ok (.invokespecial 139, 3) := by decide +kernel
theorem dX10_row_22 : decode cX10_row 22 = .ok (.athrow, 1) := by decide +kernel
theorem dL_row_4 : decode cL_row 4 = .ok (.invokevirtual 24, 3) := by decide +kernel
theorem dL_row_11 : decode cL_row 11 = .ok (.astore_n 3, 1) := by decide +kernel
theorem dL_row_12 : decode cL_row 12 = .ok (.iconst 1, 1) := by decide +kernel
theorem dL_row_13 : decode cL_row 13 = .ok (.ireturn, 1) := by decide +kernel
def ac9L_row : AC := [(0, .aload_n 2, 0, 0, 0), (1, .iconst 0, 0, 0, 0), (2, .aload_n 0, 0, 0, 0), (3, .iload_n 1, 0, 0, 0), (7, .lastore, 0, 0, 0), (8, .goto 6, 0, 0, 0), (11, .astore_n 3, 0, 0, 0), (12, .iconst 1, 0, 0, 0), (13, .ireturn, 0, 0, 0), (14, .iconst 0, 0, 0, 0), (15, .ireturn, 0, 0, 0)]
set_option maxRecDepth 100000 in
theorem ok9L_row : acok (yL_row, cL_row, 4, (some .int), ac9L_row, 12, 0) := acokB_ok (hs := []) (by decide +kernel)
theorem j9mL_row : Jvm.Cond.methodLink RL 24 yX10_row ∈ GW := atT_gw (i := 1072) (by decide +kernel)
theorem j9in_row : Jvm.Cond.instanceMethod yX10_row ∈ GW := atT_gw (i := 1073) (by decide +kernel)
theorem j9se_row : Jvm.Cond.selects RX10 yX10_row yX10_row ∈ GW := atT_gw (i := 1074) (by decide +kernel)
theorem j9co_row : Jvm.Cond.code yX10_row cX10_row 2 (some .long) ∈ GW := atT_gw (i := 1075) (by decide +kernel)
theorem j9cw_row : Jvm.Cond.codeWith yL_row cL_row 4 (some .int) [(0, 8, 11, 13)] ∈ GW := atT_gw (i := 1071) (by decide +kernel)
theorem j9ml_row : Jvm.Cond.static yL_row ∈ GW := atT_gw (i := 1070) (by decide +kernel)
set_option maxRecDepth 4000 in
theorem wr9row {CL : CT} {h : aH} (h201 : h.1[201]? = some (1, 1)) {i : Int} (ri : r32 i) {R : Option Int → Prop} : wplX CL ac9L_row (some .int) (wrQ h R) (wXR 4 [.int (I i), .ref 0] (fun v => .long (J v)) R h [(0, .ref 0), (1, .int (I i)), (2, .ref 201)]) 0 [(0, .ref 0), (1, .int (I i)), (2, .ref 201)] [] h 1 6 := by
  intro K hK hX9
  refine x_aload_n 1 hK rfl rfl rfl ?_
  refine x_iconst 2 hK rfl rfl ?_
  refine x_aload_n 3 hK rfl rfl rfl ?_
  refine x_iload_n 4 hK rfl rfl rfl ?_
  refine hX9 _ _ _ _ _ _ ⟨rfl, rfl, rfl, rfl, rfl, rfl, fun v hv => ?_⟩
  refine x_lastore 8 hK rfl rfl h201 (by omega) (by omega) (by omega) ?_
  refine x_goto 14 hK rfl rfl ?_
  refine x_iconst 15 hK rfl rfl ?_
  exact x_iret hK rfl (Or.inr ⟨v, hv, rfl, rfl⟩)
set_option maxHeartbeats 4000000 in
set_option maxRecDepth 100000 in
theorem wm9row (l : Launch) (hfl : l.stackTraces = false) {sh : List (Nat × Nat)} {h : aH} (hG : GD gE gRL sh h) (h201 : h.1[201]? = some (1, 1)) {i : Int} (ri : r32 i)
    (cy : Nat → ClassId) (dC : Nat → ClassId) (dI : Nat → Nat → Nat) (adK adV ad : Nat → Nat) (sz : Nat) (hstr : ∀ i, i < 6 → ad (1000000 + i) = adK i) (hsm : h.1.length < 1000000) (hRV : RV h) :
    vx_Met l yL_row (Jvm.Cond.codeWith yL_row cL_row 4 (some .int) [(0, 8, 11, 13)] :: GW) rm8 (mPc cy dC dI adK adV ad [.ref 0, .int (I i), .ref 201] h sz) (mQc cy dC dI ad h sz 1 (wrQ h (rowR h i))) (fun _ _ _ => False) 1 6 (va_A (wd cy ad h) sz) := by
  refine vx_ofWH (cc := cL_row) (maxL := 4) (ret := some .int) (by decide) rfl ?_
  intro p e s m args below meth c s₁ B hml hv
  obtain ⟨rfl, hsz, hP, hU1, hD0, hU2⟩ := hv
  have hlocks := B.notSynchronized
  have hts0 := atoms_spec (ws := Jvm.Cond.codeWith yL_row cL_row 4 (some .int) [(0, 8, 11, 13)] :: GW) B.pre
  have hts : ∀ w ∈ GW, w.before (([.ref 0, .int (I i), .ref 201] : List Value).map (cv ad)).toArray s = true := fun w hw => hts0 w (List.mem_cons_of_mem _ hw)
  have htab := vx_table (x := yL_row) B (hts0 _ List.mem_cons_self)
  have hown : s.vm.findClass RL = some m.cls := findClass_of_methodNamed B.named
  have hin : meth.name = yL_row.name := (name_of_methodNamed B.named B.method).1
  subst hsz
  have hD := hD0.self (sz := s.heap.size)
  have hA : ∀ q : Nat, s.heap.size ≤ q → va_A (wd cy ad h) s.heap.size q := fun q h9 => Or.inr h9
  have hl := lv_entry (([.ref 0, .int (I i), .ref 201] : List Value).map (cv ad)) (n := 4) (Nat.le_of_ble_eq_true rfl)
  rw [lv_args_cv] at hl
  rw [lg_entry_eq]
  generalize (lg_sl (([.ref 0, .int (I i), .ref 201] : List Value).map (cv ad)) ++ List.replicate (4 - (lg_sl (([.ref 0, .int (I i), .ref 201] : List Value).map (cv ad))).length) Slot.unset).toArray = arr at hl ⊢
  have hq : ∀ (rv : Option Value) (h' : aH) (ad' : Nat → Nat) (H : Heap) (locs : List Loc), wrQ h (rowR h i) rv h' → HAD 1 h.1.length ad ad' 0 → h.1.length ≤ h'.1.length → h'.1.length < 1000000 → Std cy dC dI (va_A (wd cy ad h) s.heap.size) s.heap ad' h' H locs → ∀ o, o = .returned (rv.map (cv ad')) →
      ∀ t : State, t.heap = H → s.WarmedH t.vm → mQc cy dC dI ad h s.heap.size 1 (wrQ h (rowR h i)) (([.ref 0, .int (I i), .ref 201] : List Value).map (cv ad)).toArray s o t := by
    intro rv h' ad' H locs hq had hle hsm' hS o ho t ht hW
    exact ⟨⟨rv, h', ad', ho, hq, had.1, fun hz => had.2.2 hz, hle, hsm', hS.2.2.2, by rw [ht]; exact hS.1, hS.2.1⟩, hS.2.2.1.F ht⟩
  refine snd_runX (d := 0) (C := 1) (S := 6) (bz := 1) (n0 := h.1.length) (ad0 := ad) (ret := some .int) (own := RL) (isI := false) (ac := ac9L_row) (nL := 4) (CL := fun _ _ _ _ _ _ => False) (Q := wrQ h (rowR h i)) (wXR 4 [.int (I i), .ref 0] (fun v => .long (J v)) (rowR h i) h [(0, .ref 0), (1, .int (I i)), (2, .ref 201)]) ?_ B.exec B.bytes hml hown hts (fun h9 => nomatch h9) hU1 hU2 hA hstr (Nat.le_refl _) (Nat.le_refl _) (Nat.le_of_ble_eq_true rfl) (Nat.le_of_ble_eq_true rfl) hmath_t hmok_t (fun _ _ _ _ _ _ hc => hc.elim) ok9L_row ?_ ?_ ?_ 0 [(0, .ref 0), (1, .int (I i)), (2, .ref 201)] [] h 1 6 (wr9row h201 ri) ad arr s.heap [] 0 0 ⟨fun _ _ => rfl, Nat.le_refl _, fun _ => rfl⟩ (Nat.le_refl _) hsm ⟨hP, hD, va_S.rf, hRV⟩ hl (by omega) (by omega)
  · rintro pc ls st h' bc bs ⟨rfl, rfl, rfl, rfl, rfl, rfl, kk⟩
    intro ad' arr' H locs cells slots had hn0 hsm' hS hl' hc hs
    have hM := thr_met l hfl ok9X10_row (by decide) rfl (by decide) dX10_row_15 dX10_row_18 dX10_row_19 dX10_row_22 (rn9row (CL := fun _ _ _ _ _ _ => False) hG ri) (as := [.ref 0, .int (I i)]) (Nat.le_of_ble_eq_true rfl) cy dC dI adK adV ad' H.size (fun i hi => by rw [had.1 _ (Or.inr (by omega)), hstr i hi]) hsm' hRV
    have he := wd_get (cy := cy) (ad := ad') (shx hG (a := 0) (r := 0) (s := (110, 17)) (by decide +kernel) (by decide +kernel))
    rw [show (110 : Nat) = 100 + 10 from rfl, enS_obj] at he
    obtain ⟨C', T, N, ty, c1, -, -, -, -, -, c7, -⟩ := cls_ok (ci := 10) (by decide)
    have hrv := va_recv hU1.1 hS.1 c1 he
    have hfree := wd_free hS.2.1 hS.2.2.1 hA
    refine mQc_kkX (K := GK p l e _ s m _ below meth c _ 4 cy dC dI _ ad 1 h'.1.length 1 6) (mc := 1) (ms := 6) (mz := 1) (bc := 1) (bs := 6) (h := h') (rest := [.int (I 0), .ref 201]) hU1 hA (fun _ _ _ _ _ _ hk => hk) (Nat.le_refl _) (Nat.le_refl _) (Nat.le_refl _) ?_ (Nat.le_refl _) had hn0 hS hl' hc hs (fun q h9 => hfree q h9) (fun E st t h9 => h9.2.2.2) (vx_Run_mono (fun st o t hm => mQc_mono (fun rv h9 hq9 => ?_) hm) (vx_runV (C := RX10) (b := ad' 0) (As := [.int (I i)]) (n := 1) ⟨B.exec, B.bytes, hml, hown, hts⟩ hM (cwV 1 hts (jgV (y := yX10_row) j9mL_row j9in_row j9se_row j9ini_X10 j9co_row) rfl rfl rfl (by decide +kernel) ⟨Nat.le_of_ble_eq_true rfl, Nat.le_of_ble_eq_true rfl⟩) ⟨mPc_blind, by rw [show RX10 = C' from (show RX10 = wdN 10 from by decide +kernel).trans c7.symm]; exact hrv, fun U hU hW => mPc_here (as := [.ref 0, .int (I i)]) hU1 hU2 hA hS U hU hW⟩ rfl rfl hl'.1 rfl (lv_room (Nat.le_of_ble_eq_true rfl)) dL_row_4 ⟨by show cells + 1 ≤ 1; omega, by show slots + 6 ≤ 6; omega⟩)) ?_
    · have hz0 : (0 : Nat) < h'.1.length := (List.getElem?_eq_some_iff.mp (shx hG (a := 0) (r := 0) (s := (110, 17)) (by decide +kernel) (by decide +kernel))).1
      have hz1 : (201 : Nat) < h'.1.length := (List.getElem?_eq_some_iff.mp h201).1
      simp [okv, hz0, hz1]
    · obtain ⟨rfl, v, hv, rfl⟩ := hq9
      exact kk v hv
    · rintro E ce q9 st₀ t H1 locs1 e0 e1 ⟨rfl, hT, ⟨ad2, hd2, hP2, hD2⟩, hF2⟩ hS1 hce hcv hcl
      refine vx_catch (own := RL) (name := NSE9) hown [] _ [] htab (fun z hz => nomatch hz) (by decide) (by decide) (hts _ j9cl_L) (cast9 (hts _ j9inst_NSE)) hce hcv hcl ?_
      refine lv_astore_n (i := 3) B.exec B.bytes dL_row_11 rfl hl' (Nat.le_of_ble_eq_true rfl) rfl (fun arr2 hl2 => ?_)
      refine lv_iconst (v := 1) B.exec B.bytes dL_row_12 (by decide) ?_
      refine W.widen (show cells + 1 ≤ 1 by omega) (show slots + 6 ≤ 6 by omega) (vx_ret ?_)
      refine W.iret (v := 1) B.exec B.bytes B.returns (fun t2 ht2 hW2 => ⟨⟨some (.int 1), h', ad2, rfl, Or.inl ⟨hT, rfl, rfl⟩, fun j hj => (hd2 j hj).trans (had.1 j hj), fun hz => absurd hz (by decide), Nat.le_refl _, hsm, hRV, by rw [ht2, ← e1]; exact hP2, hD2.weaken (fun _ q _ h9 => hfree q.1 h9)⟩, hS1.F ht2⟩) hS1.2.2 dL_row_13
  · intro v ty h' ad' H locs cells slots pc arr' hd hr hn hqq had hle hsm' hS hl' hs
    refine W.widen hl' hs (vx_ret ?_)
    exact W.zret B.exec B.bytes (B.returns.trans hr) hn (hq _ h' ad' H locs hqq had hle hsm' hS _ rfl) hS.2.2.1.2.2 hd
  · intro v h' ad' H locs cells slots pc arr' hd hr hqq had hle hsm' hS hc hs
    exact nomatch hr
  · intro h' ad' H locs cells slots pc arr' hd hr hqq had hle hsm' hS hc hs
    exact nomatch hr
