/-! THE RUN IS THE MACHINE'S: methods by their depth -/
/-- a row of code is what the bytes say, and its pool entries what the tables say -/
def rok (own : String) (isI : Bool) (nL : Nat) (cc : ByteArray) (q : Nat × Instr × Nat × Nat × Int) : Prop :=
  (∃ len, decode cc q.1 = .ok (q.2.1, len) ∧ (isSw q.2.1 = true ∨ len = lenI q.2.1)) ∧ cfx own isI q.1 q.2.1 q.2.2.1 q.2.2.2.1 q.2.2.2.2 ∧
  (match q.2.1 with
    | .invokevirtual _ => cfc own q.2.1 q.2.2.1 q.2.2.2.1 q.2.2.2.2 ∧ ∀ mi, mtab[q.2.2.1]? = some mi → q.2.2.2.1 < 10 → (q.2.2.2.2 % 100).toNat = mi.2.2.2.2.2.2
    | .invokespecial _ => cfc own q.2.1 q.2.2.1 q.2.2.2.1 q.2.2.2.2 ∧ ∀ mi, mtab[q.2.2.1]? = some mi → q.2.2.2.1 < 10 → (q.2.2.2.2 % 100).toNat = mi.2.2.2.2.2.2
    | .invokestatic _ => cfc own q.2.1 q.2.2.1 q.2.2.2.1 q.2.2.2.2 ∧ ∀ mi, mtab[q.2.2.1]? = some mi → q.2.2.2.1 < 10 → (q.2.2.2.2 % 100).toNat = mi.2.2.2.2.2.2
    | .istore k => k < nL
    | .astore k => k < nL
    | .iinc k _ => k < nL
    | .lstore k => k + 1 < nL
    | .istore_n k => (k : Nat) < nL
    | .astore_n k => (k : Nat) < nL
    | .lstore_n k => (k : Nat) + 1 < nL
    | _ => True)
/-- a method's code is in order -/
def acok (mi : MI) : Prop := ∀ q ∈ mi.2.2.2.2.1, rok mi.1.cls (decide (mi.1.name = "<init>")) mi.2.2.1 mi.2.1 q
/-- the run: what every closed K has -/
def wpl (CL : CT) (ac : AC) (ret : Option FieldType) (Q : QT) : KT := fun pc ls st h bc bs => ∀ K : KT, (∀ (pc : Nat) (ls : List (Nat × Value)) (st : List Value) (h : aH) (bc bs : Nat), (∃ (i : Instr) (r1 r2 : Nat) (r3 : Int), (pc, i, r1, r2, r3) ∈ ac ∧ stp CL ret Q K i r1 r2 r3 pc ls st h bc bs) → K pc ls st h bc bs) → K pc ls st h bc bs
/-- what GO asks at one place -/
def GK (p : Program) (l : Launch) (e : Env) (R : Room) (s : State) (m : MethodId) (args : Array Value) (below : List Frame) (meth : Method) (c : Code) (Z : State → Prop) (nL : Nat) (cy : Nat → ClassId) (dC : Nat → ClassId) (dI : Nat → Nat → Nat) (A : Nat → Prop) (ad0 : Nat → Nat) (bz n0 C S : Nat) : KT := fun pc ls st h bc bs =>
  ∀ (ad : Nat → Nat) (arr : Array Slot) (H : Heap) (locs : List Loc) (cells slots : Nat),
    HAD bz n0 ad0 ad bc → n0 ≤ h.1.length → h.1.length < 1000000 → Std cy dC dI A s.heap ad h H locs → lv_has arr nL (cvl ad ls) → cells + bc ≤ C → slots + bs ≤ S →
    W p l e R s m args below meth c H locs cells slots Z (F0 m pc arr (st.map (cv ad)))
/-- what a call does, by its depth; SP: what is said of methods that are not run by rows -/
def CLd (SP : CT) : Nat → CT
  | 0 => fun _ _ _ _ _ _ => False
  | d + 1 => fun mid as h mc ms Q => SP mid as h mc ms Q ∨ ∃ mi, mtab[mid]? = some mi ∧ catsum as ≤ mi.2.2.1 ∧ wpl (CLd SP d) mi.2.2.2.2.1 mi.2.2.2.1 Q 0 (lv_args 0 as) [] h mc ms
theorem lv_args_cv (ad : Nat → Nat) : ∀ (as : List Value) (i : Nat), lv_args i (as.map (cv ad)) = cvl ad (lv_args i as)
  | [], _ => rfl
  | v :: r, i => by
    show (i, cv ad v) :: lv_args (if (cv ad v).category = 2 then i + 2 else i + 1) (r.map (cv ad)) = _
    rw [cv_cat, lv_args_cv ad r]
    rfl
theorem lg_sl_len : ∀ vs : List Value, (lg_sl vs).length = catsum vs
  | [] => rfl
  | v :: r => by
    have e : lg_sl (v :: r) = (if v.category = 2 then [.val v, .second] else [.val v]) ++ lg_sl r := rfl
    have e2 : catsum (v :: r) = v.category + catsum r := rfl
    rw [e, e2, List.length_append, lg_sl_len r]
    rcases lv_cat v with h | h <;> rw [h] <;> rfl
section SND5
variable {p : Program} {l : Launch} {e : Env} {R : Room} {s : State} {m : MethodId} {args : Array Value} {below : List Frame} {meth : Method} {c : Code} {Z : State → Prop}
variable {cc : ByteArray} {nL : Nat} {own : String} {isI : Bool} {ret : Option FieldType}
variable {cy : Nat → ClassId} {dC : Nat → ClassId} {dI : Nat → Nat → Nat} {A : Nat → Prop} {ad0 : Nat → Nat} {bz n0 C S : Nat} {adK adV : Nat → Nat}
set_option maxHeartbeats 2000000 in
theorem snd_run {CL : CT} {Q : QT} {d : Nat} {ac : AC} (hx : p.tables.exec = Jvm.exec) (hb : c.code = cc) (hml : c.maxLocals = nL) (hown : s.vm.findClass own = some m.cls) (hts : ∀ w ∈ GW, w.before args s = true) (hini : isI = true → meth.name = "<init>") (hU1 : U1 cy dC dI adK s) (hU2 : U2 adK adV A s s.heap) (hA : ∀ q, s.heap.size ≤ q → A q) (hstr : ∀ i, i < 6 → ad0 (1000000 + i) = adK i) (hCR : C ≤ R.cells) (hSR : S ≤ R.slots) (hRf : d + 10 ≤ R.frames) (hRl : 60 * d + 300 ≤ R.locals)
    (hmath : ∀ w ∈ mathW, w ∈ GW) (hmok : ∀ (k : Nat) (mi : MI), mtab[k]? = some mi → ∃ n, mok mi n ∧ mi.2.2.2.2.2.2 = if minst.getD k false = true then n + 1 else n)
    (hCL : ∀ mid as h mc ms Q, CL mid as h mc ms Q → MetOK l d mid as h mc ms Q) (hac : ∀ q ∈ ac, rok own isI nL cc q)
    (hri : ∀ (v : Int32) (ty : FieldType) (h : aH) (ad : Nat → Nat) (H : Heap) (locs : List Loc) (cells slots : Nat) (pc : Nat) (arr : Array Slot), decode cc pc = .ok (.ireturn, 1) → ret = some ty → narrow ty (.int v) = .int v → Q (some (.int v)) h → HAD bz n0 ad0 ad 0 → n0 ≤ h.1.length → h.1.length < 1000000 → Std cy dC dI A s.heap ad h H locs → cells ≤ C → slots ≤ S → W p l e R s m args below meth c H locs cells slots Z (F0 m pc arr [.int v]))
    (hrl : ∀ (v : Int64) (h : aH) (ad : Nat → Nat) (H : Heap) (locs : List Loc) (cells slots : Nat) (pc : Nat) (arr : Array Slot), decode cc pc = .ok (.lreturn, 1) → ret = some .long → Q (some (.long v)) h → HAD bz n0 ad0 ad 0 → n0 ≤ h.1.length → h.1.length < 1000000 → Std cy dC dI A s.heap ad h H locs → cells ≤ C → slots ≤ S → W p l e R s m args below meth c H locs cells slots Z (F0 m pc arr [.long v]))
    (hrv : ∀ (h : aH) (ad : Nat → Nat) (H : Heap) (locs : List Loc) (cells slots : Nat) (pc : Nat) (arr : Array Slot), decode cc pc = .ok (.return_, 1) → ret = none → Q none h → HAD bz n0 ad0 ad 0 → n0 ≤ h.1.length → h.1.length < 1000000 → Std cy dC dI A s.heap ad h H locs → cells ≤ C → slots ≤ S → W p l e R s m args below meth c H locs cells slots Z (F0 m pc arr [])) :
    GO p l e R s m args below meth c Z nL cy dC dI A ad0 bz n0 C S (wpl CL ac ret Q) := by
  intro pc ls st h bc bs hk
  refine hk (GK p l e R s m args below meth c Z nL cy dC dI A ad0 bz n0 C S) ?_
  · have ih : GO p l e R s m args below meth c Z nL cy dC dI A ad0 bz n0 C S (GK p l e R s m args below meth c Z nL cy dC dI A ad0 bz n0 C S) := fun _ _ _ _ _ _ hk => hk
    clear hk pc ls st h bc bs
    intro pc ls st h bc bs hk ad arr H locs cells slots had hn0 hsm hS hl hc hs
    obtain ⟨i, r1, r2, r3, hmem, hst⟩ := hk
    obtain ⟨⟨len, hd, hlen⟩, hcf, hmore⟩ := hac _ hmem
    have had0 : HAD bz n0 ad0 ad 0 := ⟨had.1, Nat.zero_le _, had.2.2⟩
    by_cases hpl : pln i = true
    · refine snd_plain (own := own) (isI := isI) hx hb hown hts ih hd hlen hcf hst had hn0 hsm hS hl hc hs ?_ ?_ hpl
      · rintro k ((rfl | rfl | ⟨z, rfl⟩) | ⟨f, rfl, rfl | rfl⟩) <;> exact hmore
      · rintro k (rfl | ⟨f, rfl, rfl⟩) <;> exact hmore
    · have hpl' : pln i = false := by simpa using hpl
      cases i
      case invokevirtual idx =>
        obtain rfl : len = 3 := by simpa [isSw, lenI] using hlen
        exact snd_call hx hb hml hown hts hU1 hU2 hA hstr hCR hSR hRf hRl hmath hmok hCL ih hd hmore.1 hmore.2 hst had hn0 hsm hS hl hc hs
      case invokespecial idx =>
        obtain rfl : len = 3 := by simpa [isSw, lenI] using hlen
        exact snd_call hx hb hml hown hts hU1 hU2 hA hstr hCR hSR hRf hRl hmath hmok hCL ih hd hmore.1 hmore.2 hst had hn0 hsm hS hl hc hs
      case invokestatic idx =>
        obtain rfl : len = 3 := by simpa [isSw, lenI] using hlen
        exact snd_call hx hb hml hown hts hU1 hU2 hA hstr hCR hSR hRf hRl hmath hmok hCL ih hd hmore.1 hmore.2 hst had hn0 hsm hS hl hc hs
      case ireturn =>
        obtain rfl : len = 1 := by simpa [isSw, lenI] using hlen
        obtain ⟨x, r, rfl, rfl, ⟨ty, h1, h2⟩, hq⟩ := pi_inv hst
        exact hri x ty h ad H locs cells slots pc arr hd h1 h2 hq had0 hn0 hsm hS (by omega) (by omega)
      case lreturn =>
        obtain rfl : len = 1 := by simpa [isSw, lenI] using hlen
        obtain ⟨x, r, rfl, rfl, h1, hq⟩ := pl_inv hst
        exact hrl x h ad H locs cells slots pc arr hd h1 hq had0 hn0 hsm hS (by omega) (by omega)
      case return_ =>
        obtain rfl : len = 1 := by simpa [isSw, lenI] using hlen
        obtain ⟨rfl, h1, hq⟩ := hst
        exact hrv h ad H locs cells slots pc arr hd h1 hq had0 hn0 hsm hS (by omega) (by omega)
      all_goals first
        | exact snd_cell (own := own) (isI := isI) hx hb hown hts hini hU1 hA hstr hCR hSR ih hd hlen hcf hst had hn0 hsm hS hl hc hs hpl' rfl
        | exact absurd hpl' (by decide)
        | exact absurd hpl' (fun h => Bool.noConfusion h)
end SND5
/-- EVERY CALL OF THE ABSTRACT RUN IS KEPT BY THE MACHINE -/
theorem met_all (l : Launch) (SP : CT) (hmath : ∀ w ∈ mathW, w ∈ GW) (hmok : ∀ (k : Nat) (mi : MI), mtab[k]? = some mi → ∃ n, mok mi n ∧ mi.2.2.2.2.2.2 = if minst.getD k false = true then n + 1 else n) (hac : ∀ (k : Nat) (mi : MI), mtab[k]? = some mi → acok mi)
    (hSP : ∀ d mid as h mc ms Q, SP mid as h mc ms Q → MetOK l (d + 1) mid as h mc ms Q) : ∀ d mid as h mc ms Q, CLd SP d mid as h mc ms Q → MetOK l d mid as h mc ms Q := by
  intro d
  induction d with
  | zero => intro mid as h mc ms Q hc; exact False.elim hc
  | succ d ih =>
    intro mid as h mc ms Q hc
    rcases hc with hc | ⟨mi, hmi, hcat, hrun⟩
    · exact hSP d mid as h mc ms Q hc
    · intro mi' hmi' cy dC dI adK adV ad sz hstr hsm hRV
      obtain rfl : mi = mi' := Option.some.inj (hmi.symm.trans hmi')
      obtain ⟨k, hok, -⟩ := hmok mid mi hmi
      refine Met.ofW (cc := mi.2.1) (maxL := mi.2.2.1) (ret := mi.2.2.2.1) hok.2.2.1 rfl ?_
      intro p e s m args below meth c s₁ B hml hv
      obtain ⟨rfl, hsz, hP, hU1, hD0, hU2⟩ := hv
      have hlocks := B.notSynchronized
      have hts0 := atoms_spec (ws := mws mi) B.pre
      have hts : ∀ w ∈ GW, w.before (as.map (cv ad)).toArray s = true := fun w hw => hts0 w (List.mem_cons_of_mem _ hw)
      have hown : s.vm.findClass mi.1.cls = some m.cls := findClass_of_methodNamed B.named
      have hin : meth.name = mi.1.name := (name_of_methodNamed B.named B.method).1
      subst hsz
      have hD := hD0.self (sz := s.heap.size)
      have hA : ∀ q : Nat, s.heap.size ≤ q → va_A (wd cy ad h) s.heap.size q := fun q h9 => Or.inr h9
      have hl := lv_entry (as.map (cv ad)) (n := mi.2.2.1) (by rw [lg_sl_len, catsum_cv]; exact hcat)
      rw [lv_args_cv] at hl
      rw [lg_entry_eq]
      generalize (lg_sl (as.map (cv ad)) ++ List.replicate (mi.2.2.1 - (lg_sl (as.map (cv ad))).length) Slot.unset).toArray = arr at hl ⊢
      have hq : ∀ (rv : Option Value) (h' : aH) (ad' : Nat → Nat) (H : Heap) (locs : List Loc), Q rv h' → HAD mc h.1.length ad ad' 0 → h.1.length ≤ h'.1.length → h'.1.length < 1000000 → Std cy dC dI (va_A (wd cy ad h) s.heap.size) s.heap ad' h' H locs → ∀ o, o = .returned (rv.map (cv ad')) →
          ∀ t : State, t.heap = H → s.WarmedH t.vm → mQc cy dC dI ad h s.heap.size mc Q (as.map (cv ad)).toArray s o t := by
        intro rv h' ad' H locs hq had hle hsm' hS o ho t ht hW
        exact ⟨⟨rv, h', ad', ho, hq, had.1, fun hz => had.2.2 hz, hle, hsm', hS.2.2.2, by rw [ht]; exact hS.1, hS.2.1⟩, hS.2.2.1.F ht⟩
      refine snd_run (d := d) (C := mc) (S := ms) (bz := mc) (n0 := h.1.length) (ad0 := ad) (ret := mi.2.2.2.1) (own := mi.1.cls) (isI := decide (mi.1.name = "<init>")) (ac := mi.2.2.2.2.1) (nL := mi.2.2.1) B.exec B.bytes hml hown hts (fun h9 => by rw [hin]; exact of_decide_eq_true h9) hU1 hU2 hA hstr (Nat.le_refl _) (Nat.le_refl _) (show d + 10 ≤ d + 1 + 9 from by omega) (show 60 * d + 300 ≤ 60 * (d + 1) + 240 from by omega) hmath hmok ih (hac mid mi hmi) ?_ ?_ ?_ 0 (lv_args 0 as) [] h mc ms hrun ad arr s.heap [] 0 0 ⟨fun _ _ => rfl, Nat.le_refl _, fun _ => rfl⟩ (Nat.le_refl _) hsm ⟨hP, hD, va_S.rf, hRV⟩ hl (by omega) (by omega)
      · intro v ty h' ad' H locs cells slots pc arr' hd hr hn hqq had hle hsm' hS hc hs
        refine W.widen hc hs ?_
        exact W.zret B.exec B.bytes (B.returns.trans hr) hn (hq _ h' ad' H locs hqq had hle hsm' hS _ rfl) hS.2.2.1.2.2 hd
      · intro v h' ad' H locs cells slots pc arr' hd hr hqq had hle hsm' hS hc hs
        refine W.widen hc hs ?_
        exact W.lret B.exec B.bytes (B.returns.trans hr) (hq _ h' ad' H locs hqq had hle hsm' hS _ rfl) hS.2.2.1.2.2 hd
      · intro h' ad' H locs cells slots pc arr' hd hr hqq had hle hsm' hS hc hs
        refine W.widen hc hs ?_
        exact W.vret B.exec B.bytes (B.returns.trans hr) (hq _ h' ad' H locs hqq had hle hsm' hS _ rfl) hS.2.2.1.2.2 hd
