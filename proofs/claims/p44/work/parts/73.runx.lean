/-! THE RUN WITH EXTRA ROWS -/
/-- the run, where some places have a rule of their own -/
def wplX (CL : CT) (ac : AC) (ret : Option FieldType) (Q : QT) (XR : KT → KT) : KT := fun pc ls st h bc bs => ∀ K : KT, CLO CL ac ret Q K → (∀ (pc : Nat) (ls : List (Nat × Value)) (st : List Value) (h : aH) (bc bs : Nat), XR K pc ls st h bc bs → K pc ls st h bc bs) → K pc ls st h bc bs
section SND5X
variable {p : Program} {l : Launch} {e : Env} {R : Room} {s : State} {m : MethodId} {args : Array Value} {below : List Frame} {meth : Method} {c : Code} {Z : State → Prop}
variable {cc : ByteArray} {nL : Nat} {own : String} {isI : Bool} {ret : Option FieldType}
variable {cy : Nat → ClassId} {dC : Nat → ClassId} {dI : Nat → Nat → Nat} {A : Nat → Prop} {ad0 : Nat → Nat} {bz n0 C S : Nat} {adK adV : Nat → Nat}
set_option maxHeartbeats 2000000 in
theorem snd_runX {CL : CT} {Q : QT} {d : Nat} {ac : AC} (XR : KT → KT) (hXR : ∀ (pc : Nat) (ls : List (Nat × Value)) (st : List Value) (h : aH) (bc bs : Nat), XR (GK p l e R s m args below meth c Z nL cy dC dI A ad0 bz n0 C S) pc ls st h bc bs → GK p l e R s m args below meth c Z nL cy dC dI A ad0 bz n0 C S pc ls st h bc bs) (hx : p.tables.exec = Jvm.exec) (hb : c.code = cc) (hml : c.maxLocals = nL) (hown : s.vm.findClass own = some m.cls) (hts : ∀ w ∈ GW, w.before args s = true) (hini : isI = true → meth.name = "<init>") (hU1 : U1 cy dC dI adK s) (hU2 : U2 adK adV A s s.heap) (hA : ∀ q, s.heap.size ≤ q → A q) (hstr : ∀ i, i < 6 → ad0 (1000000 + i) = adK i) (hCR : C ≤ R.cells) (hSR : S ≤ R.slots) (hRf : d + 10 ≤ R.frames) (hRl : 60 * d + 300 ≤ R.locals)
    (hmath : ∀ w ∈ mathW, w ∈ GW) (hmok : ∀ (k : Nat) (mi : MI), mtab[k]? = some mi → ∃ n, mok mi n ∧ mi.2.2.2.2.2.2 = if minst.getD k false = true then n + 1 else n)
    (hCL : ∀ mid as h mc ms Q, CL mid as h mc ms Q → MetOK l d mid as h mc ms Q) (hac : ∀ q ∈ ac, rok own isI nL cc q)
    (hri : ∀ (v : Int32) (ty : FieldType) (h : aH) (ad : Nat → Nat) (H : Heap) (locs : List Loc) (cells slots : Nat) (pc : Nat) (arr : Array Slot), decode cc pc = .ok (.ireturn, 1) → ret = some ty → narrow ty (.int v) = .int v → Q (some (.int v)) h → HAD bz n0 ad0 ad 0 → n0 ≤ h.1.length → h.1.length < 1000000 → Std cy dC dI A s.heap ad h H locs → cells ≤ C → slots ≤ S → W p l e R s m args below meth c H locs cells slots Z (F0 m pc arr [.int v]))
    (hrl : ∀ (v : Int64) (h : aH) (ad : Nat → Nat) (H : Heap) (locs : List Loc) (cells slots : Nat) (pc : Nat) (arr : Array Slot), decode cc pc = .ok (.lreturn, 1) → ret = some .long → Q (some (.long v)) h → HAD bz n0 ad0 ad 0 → n0 ≤ h.1.length → h.1.length < 1000000 → Std cy dC dI A s.heap ad h H locs → cells ≤ C → slots ≤ S → W p l e R s m args below meth c H locs cells slots Z (F0 m pc arr [.long v]))
    (hrv : ∀ (h : aH) (ad : Nat → Nat) (H : Heap) (locs : List Loc) (cells slots : Nat) (pc : Nat) (arr : Array Slot), decode cc pc = .ok (.return_, 1) → ret = none → Q none h → HAD bz n0 ad0 ad 0 → n0 ≤ h.1.length → h.1.length < 1000000 → Std cy dC dI A s.heap ad h H locs → cells ≤ C → slots ≤ S → W p l e R s m args below meth c H locs cells slots Z (F0 m pc arr [])) :
    GO p l e R s m args below meth c Z nL cy dC dI A ad0 bz n0 C S (wplX CL ac ret Q XR) := by
  intro pc ls st h bc bs hk
  refine hk (GK p l e R s m args below meth c Z nL cy dC dI A ad0 bz n0 C S) (fun pc ls st h bc bs hk => ?_) hXR
  · have ih : GO p l e R s m args below meth c Z nL cy dC dI A ad0 bz n0 C S (GK p l e R s m args below meth c Z nL cy dC dI A ad0 bz n0 C S) := fun _ _ _ _ _ _ hk => hk
    intro ad arr H locs cells slots had hn0 hsm hS hl hc hs
    obtain ⟨i, r1, r2, r3, hmem, hst⟩ := hk
    obtain ⟨⟨len, hd, hlen⟩, hcf, hmore⟩ := hac _ hmem
    have had0 : HAD bz n0 ad0 ad 0 := ⟨had.1, Nat.zero_le _, had.2.2⟩
    by_cases hpl : pln i = true
    · refine snd_plain (own := own) (isI := isI) hx hb hown hts ih hd hlen hcf hst had hn0 hsm hS hl hc hs ?_ ?_ hpl
      · rintro k ((rfl | rfl | ⟨z, rfl⟩) | ⟨f, rfl, rfl | rfl⟩) <;> exact hmore
      · rintro k (rfl | ⟨f, rfl, rfl⟩) <;> exact hmore
    · have hpl' : pln i = false := by simpa using hpl
      cases i
      case invokevirtual idx =>
        obtain rfl : len = 3 := by simpa [isSw, lenI] using hlen
        exact snd_call hx hb hml hown hts hU1 hU2 hA hstr hCR hSR hRf hRl hmath hmok hCL ih hd hmore.1 hmore.2 hst had hn0 hsm hS hl hc hs
      case invokespecial idx =>
        obtain rfl : len = 3 := by simpa [isSw, lenI] using hlen
        exact snd_call hx hb hml hown hts hU1 hU2 hA hstr hCR hSR hRf hRl hmath hmok hCL ih hd hmore.1 hmore.2 hst had hn0 hsm hS hl hc hs
      case invokestatic idx =>
        obtain rfl : len = 3 := by simpa [isSw, lenI] using hlen
        exact snd_call hx hb hml hown hts hU1 hU2 hA hstr hCR hSR hRf hRl hmath hmok hCL ih hd hmore.1 hmore.2 hst had hn0 hsm hS hl hc hs
      case ireturn =>
        obtain rfl : len = 1 := by simpa [isSw, lenI] using hlen
        obtain ⟨x, r, rfl, rfl, ⟨ty, h1, h2⟩, hq⟩ := pi_inv hst
        exact hri x ty h ad H locs cells slots pc arr hd h1 h2 hq had0 hn0 hsm hS (by omega) (by omega)
      case lreturn =>
        obtain rfl : len = 1 := by simpa [isSw, lenI] using hlen
        obtain ⟨x, r, rfl, rfl, h1, hq⟩ := pl_inv hst
        exact hrl x h ad H locs cells slots pc arr hd h1 hq had0 hn0 hsm hS (by omega) (by omega)
      case return_ =>
        obtain rfl : len = 1 := by simpa [isSw, lenI] using hlen
        obtain ⟨rfl, h1, hq⟩ := hst
        exact hrv h ad H locs cells slots pc arr hd h1 hq had0 hn0 hsm hS (by omega) (by omega)
      all_goals first
        | exact snd_cell (own := own) (isI := isI) hx hb hown hts hini hU1 hA hstr hCR hSR ih hd hlen hcf hst had hn0 hsm hS hl hc hs hpl' rfl
        | exact absurd hpl' (by decide)
        | exact absurd hpl' (fun h => Bool.noConfusion h)
end SND5X
