/-! A CALL IS THE MACHINE'S; and the whole run -/
theorem rl_aux {d a b : Nat} (h : a ≤ 40) (hr : 60 * d + 300 ≤ b) : 8 + (a + 11) + (60 * d + 240) ≤ b := by omega
def mathW : List Jvm.Cond := [.static Lib.Math.max.name, .code Lib.Math.max.name Lib.Math.max.code 2 (some .int), .static Lib.Math.min.name, .code Lib.Math.min.name Lib.Math.min.code 2 (some .int), .static Lib.Math.abs.name, .code Lib.Math.abs.name Lib.Math.abs.code 1 (some .int), .initialized "java/lang/Math", .native arraycopyName, .static arraycopyName, .initialized "java/lang/System", .instanceMethod objectInit, .code objectInit ⟨#[0xb1]⟩ 1 none]
section SND4
variable {p : Program} {l : Launch} {e : Env} {R : Room} {s : State} {m : MethodId} {args : Array Value} {below : List Frame} {meth : Method} {c : Code} {Z : State → Prop}
variable {cc : ByteArray} {nL : Nat} {own : String} {isI : Bool} {ret : Option FieldType}
variable {cy : Nat → ClassId} {dC : Nat → ClassId} {dI : Nat → Nat → Nat} {A : Nat → Prop} {ad0 : Nat → Nat} {bz n0 C S : Nat} {adK adV : Nat → Nat}
set_option maxHeartbeats 2000000 in
theorem snd_call {CL : CT} {K : KT} {d : Nat} (hx : p.tables.exec = Jvm.exec) (hb : c.code = cc) (hml : c.maxLocals = nL) (hown : s.vm.findClass own = some m.cls) (hts : ∀ w ∈ GW, w.before args s = true) (hU1 : U1 cy dC dI adK s) (hU2 : U2 adK adV A s s.heap) (hA : ∀ q, s.heap.size ≤ q → A q) (hstr : ∀ i, i < 6 → ad0 (1000000 + i) = adK i) (hCR : C ≤ R.cells) (hSR : S ≤ R.slots) (hRf : d + 10 ≤ R.frames) (hRl : 60 * d + 300 ≤ R.locals)
    (hmath : ∀ w ∈ mathW, w ∈ GW) (hmok : ∀ (k : Nat) (mi : MI), mtab[k]? = some mi → ∃ n, mok mi n ∧ mi.2.2.2.2.2.2 = if minst.getD k false = true then n + 1 else n)
    (hCL : ∀ mid as h mc ms Q, CL mid as h mc ms Q → MetOK l d mid as h mc ms Q) (hK : GO p l e R s m args below meth c Z nL cy dC dI A ad0 bz n0 C S K)
    {i : Instr} {r1 r2 : Nat} {r3 : Int} {pc : Nat} {ls : List (Nat × Value)} {st : List Value} {h : aH} {bc bs : Nat} (hd : decode cc pc = .ok (i, 3)) (hcf : cfc own i r1 r2 r3) (hna : ∀ mi, mtab[r1]? = some mi → r2 < 10 → (r3 % 100).toNat = mi.2.2.2.2.2.2) (hst : s_call CL K r1 r2 r3 pc ls st h bc bs)
    {ad : Nat → Nat} {arr : Array Slot} {H : Heap} {locs : List Loc} {cells slots : Nat} (had : HAD bz n0 ad0 ad bc) (hn0 : n0 ≤ h.1.length) (hsm : h.1.length < 1000000) (hS : Std cy dC dI A s.heap ad h H locs) (hl : lv_has arr nL (cvl ad ls)) (hc : cells + bc ≤ C) (hs : slots + bs ≤ S) :
    W p l e R s m args below meth c H locs cells slots Z (F0 m pc arr (st.map (cv ad))) := by
  have go : ∀ {pc' : Nat} {ls' : List (Nat × Value)} {st' : List Value}, K pc' ls' st' h bc bs → ∀ {arr' : Array Slot}, lv_has arr' nL (cvl ad ls') → W p l e R s m args below meth c H locs cells slots Z (F0 m pc' arr' (st'.map (cv ad))) := fun k _ hl' => hK _ _ _ _ _ _ k ad _ H locs cells slots had hn0 hsm hS hl' hc hs
  have hsz : c.maxLocals = arr.size := by rw [hl.1]; exact hml
  have hw : ∀ w ∈ mathW, w.before args s = true := fun w h9 => hts w (hmath w h9)
  have hfree := wd_free hS.2.1 hS.2.2.1 hA
  -- a method of the tables
  have gen : ∀ (mi : MI), mtab[r1]? = some mi → r2 < 10 → catsum (st.drop (r3 % 100).toNat) ≤ 8 → (r3 % 100).toNat ≤ st.length → (∃ mc ms, mc ≤ bc ∧ ms ≤ bs ∧ (mc = 0 ∨ ((ls.all fun q => okv h q.2) = true ∧ ((st.drop (r3 % 100).toNat).all fun v => okv h v) = true)) ∧
      CL r1 (argc (r3 % 100).toNat st) h mc ms (fun v h' => K (pc + 3) ls (psh v (st.drop (r3 % 100).toNat)) h' (bc - mc) (bs - ms))) →
      (∀ mc ms (Qc : Array Value → State → Outcome → State → Prop), mc ≤ bc → ms ≤ bs → Met l mi.1 (mws mi) (rmd d mc ms) (mPc cy dC dI adK adV ad (argc (r3 % 100).toNat st) h H.size) Qc mc ms (va_A (wd cy ad h) H.size) →
        va_Run p l e R s m args below meth c H locs cells slots mc ms (F0 m pc arr (st.map (cv ad))) ((st.drop (r3 % 100).toNat).map (cv ad)) (Qc ((argc (r3 % 100).toNat st).map (cv ad)).toArray) (va_A (wd cy ad h) H.size)) →
      W p l e R s m args below meth c H locs cells slots Z (F0 m pc arr (st.map (cv ad))) := by
    intro mi hmi _ _ _ hmc run
    obtain ⟨mc, ms, h1, h2, h3, h4⟩ := hmc
    have hM := hCL _ _ _ _ _ _ h4 mi hmi cy dC dI adK adV ad H.size (fun i hi => by rw [had.1 _ (Or.inr (by omega)), hstr i hi]) hsm hS.2.2.2
    exact mQc_kk hU1 hA hK h1 h2 h3 had hn0 hS hl hc hs hfree (run mc ms _ h1 h2 hM)
  have catc : ∀ k, catsum (st.drop k) ≤ 8 → 2 * (F0 m pc arr (st.map (cv ad))).monitorRoom + (((st.drop k).map (cv ad)).map fun v => v.category).sum ≤ 8 := fun k h9 => lv_room (by have := catsum_cv ad (st.drop k); unfold catsum at this; rw [this]; exact h9)
  have hstk : st.map (cv ad) = ((argc (r3 % 100).toNat st).map (cv ad)).reverse ++ (st.drop (r3 % 100).toNat).map (cv ad) := by
    rw [← List.map_reverse, ← List.map_append, argc_app]
  have hlen : (r3 % 100).toNat ≤ st.length → (argc (r3 % 100).toNat st).length = (r3 % 100).toNat := fun h9 => by unfold argc; rw [List.length_reverse, List.length_take]; omega
  have hR1 : ∀ (mi : MI) (mc ms : Nat), mi.2.2.1 ≤ 40 → (rmd d mc ms).frames + 1 ≤ R.frames ∧ 8 + (mi.2.2.1 + 11) + (rmd d mc ms).locals ≤ R.locals := fun mi mc ms h9 => ⟨Nat.le_trans (Nat.le_refl (d + 10)) hRf, rl_aux h9 hRl⟩
  have hcf0 : CallFix p m c cc nL s args GW own := ⟨hx, hb, hml, hown, hts⟩
  unfold s_call at hst
  unfold cfc at hcf
  split at hst
  · obtain ⟨idx, rfl, hw1⟩ := hcf
    obtain ⟨x, y, r, rfl, h8, k⟩ := pii_inv hst
    have e8 := catsum_cv ad r
    refine va_mmax hx hb hsz hown (hts _ hw1) (hw _ (by simp [mathW])) (hw _ (by simp [mathW])) (hw _ (by simp [mathW])) (by omega) ?_ (by omega) (by omega) hd (go k hl)
    show catsum (r.map (cv ad)) + 13 ≤ _
    omega
  · obtain ⟨idx, rfl, hw1⟩ := hcf
    obtain ⟨x, y, r, rfl, h8, k⟩ := pii_inv hst
    have e8 := catsum_cv ad r
    refine va_mmin hx hb hsz hown (hts _ hw1) (hw _ (by simp [mathW])) (hw _ (by simp [mathW])) (hw _ (by simp [mathW])) (by omega) ?_ (by omega) (by omega) hd (go k hl)
    show catsum (r.map (cv ad)) + 13 ≤ _
    omega
  · obtain ⟨idx, rfl, hw1⟩ := hcf
    obtain ⟨x, r, rfl, h8, k⟩ := pi_inv hst
    have e8 := catsum_cv ad r
    refine va_mabs hx hb hsz hown (hts _ hw1) (hw _ (by simp [mathW])) (hw _ (by simp [mathW])) (hw _ (by simp [mathW])) (by omega) ?_ (by omega) (by omega) hd (go k hl)
    show catsum (r.map (cv ad)) + 13 ≤ _
    omega
  · obtain ⟨idx, rfl, hw1⟩ := hcf
    obtain ⟨a0, sp, a1, dp, n, r, rfl, h8, ⟨k0, k1, hs0, hs1, g1, g2, g3, g4, g5⟩, k⟩ := pcp_inv hst
    have e8 := catsum_cv ad r
    obtain ⟨hP, hD, hSS, hRV⟩ := hS
    have he0 := wd_get (cy := cy) (ad := ad) hs0
    rw [enS_arr _ _ _ _ (by omega)] at he0
    have he1 := wd_get (cy := cy) (ad := ad) hs1
    rw [enS_arr _ _ _ _ (by omega)] at he1
    refine va_copyi hx hb hsz hown (hts _ hw1) (hw _ (by simp [mathW])) (hw _ (by simp [mathW])) (hw _ (by simp [mathW])) hU1.1 hP hD hSS a0 a1 0 0 he0 he1 rfl rfl rfl g1 g2 g3 g4 g5 (fun _ _ => rfl) (by omega) ?_ hd (fun H1 locs1 hP1 hD1 hS1 => ?_)
    · have e9 : nativeFrameWords "java/lang/System" "arraycopy" 5 + 11 ≤ 100 := by decide +kernel
      show catsum (r.map (cv ad)) + _ ≤ _
      omega
    · rw [wd_sC hs1] at hP1 hD1
      exact hK _ _ _ _ _ _ k ad _ H1 locs1 cells slots had hn0 hsm ⟨hP1, hD1, hS1, RV_sC hRV⟩ hl hc hs
  · obtain ⟨idx, rfl, hw1⟩ := hcf
    obtain ⟨a, r, rfl, h8, k⟩ := pr_inv hst
    have e8 := catsum_cv ad r
    refine W.objInit hx hb hown (hts _ hw1) (hw _ (by simp [mathW])) (hw _ (by simp [mathW])) rfl (by rw [hsz]) rfl hd (by omega) ?_ (go k hl)
    show 2 * 0 + catsum (r.map (cv ad)) + 12 ≤ _
    omega
  · rename_i n1 n2 n3 n4 n5
    obtain ⟨h8, hle, hrc, hmc⟩ := hst
    split at hcf
    · exact absurd rfl n1
    · exact absurd rfl n2
    · exact absurd rfl n3
    · exact absurd rfl n4
    · exact absurd rfl n5
    · -- 0: a method of an object
      obtain ⟨idx, mi, rfl, hmi, w1, w2, w3, hci, hcls, hin⟩ := hcf
      obtain ⟨n, ⟨k1, k2, k3, k4, k5, k6, k7⟩, hn⟩ := hmok _ _ hmi
      rw [hin, if_pos rfl] at hn
      obtain ⟨b, rs, hbr, hsh⟩ := hrc
      refine gen mi hmi (by omega) h8 hle hmc (fun mc ms Qc hmc hms hM => ?_)
      have he := wd_get (cy := cy) (ad := ad) hsh
      rw [enS_obj] at he
      obtain ⟨C', T, N, ty, c1, -, -, -, -, -, c7, -⟩ := cls_ok hci
      have hrv := va_recv hU1.1 hS.1 c1 he
      have hl1 := hlen hle
      rw [hbr] at hl1
      have hr := va_runV (e := e) (meth := meth) (below := below) (locs := locs) (cells := cells) (slots := slots) (C := mi.1.cls) (b := ad b) (As := rs.map (cv ad)) (rest := (st.drop (r3 % 100).toNat).map (cv ad)) (g := F0 m pc arr (st.map (cv ad))) (nL := nL) (n := n) hcf0 hM
        (cwV n hts (GW_good (fun w hw => by
          rcases List.mem_append.mp (show w ∈ ([.methodLink own idx mi.1, .instanceMethod mi.1, .selects mi.1.cls mi.1 mi.1, .initialized mi.1.cls] : List Jvm.Cond) ++ mws mi from hw) with h9 | h9
          · simp only [List.mem_cons, List.not_mem_nil, or_false] at h9
            rcases h9 with rfl | rfl | rfl | rfl
            · exact w1
            · exact w2
            · exact w3
            · exact k2
          · rcases List.mem_cons.mp h9 with rfl | h9
            · exact k1
            · exact h9)) rfl rfl rfl ⟨rfl, k4, k5, k6⟩ (hR1 mi mc ms k7))
        ⟨mPc_blind, by rw [hcls, ← c7]; exact hrv, fun U hU hW => by
          have := mPc_here (as := argc (r3 % 100).toNat st) hU1 hU2 hA hS U hU hW
          rw [hbr] at this ⊢
          exact this⟩ rfl (by
            rw [List.length_map]
            have := hna mi hmi (by omega)
            simp at hl1
            omega) hl.1 (by
            show st.map (cv ad) = _
            rw [hstk, hbr]
            simp [cv]) (catc _ h8) hd (by omega)
      rw [hbr]
      exact hr
    · -- 5: a method of a text
      obtain ⟨idx, mi, rfl, hmi, w1, w2, w3, hcls, hin⟩ := hcf
      obtain ⟨n, ⟨k1, k2, k3, k4, k5, k6, k7⟩, hn⟩ := hmok _ _ hmi
      rw [hin, if_pos rfl] at hn
      obtain ⟨b, rs, hbr, hb6⟩ := hrc
      refine gen mi hmi (by omega) h8 hle hmc (fun mc ms Qc hmc hms hM => ?_)
      have hrv := vk_recv hU2.1 hb6 hS.2.2.1
      have eb : ad (1000000 + b) = adK b := by rw [had.1 _ (Or.inr (by omega)), hstr b hb6]
      rw [← eb] at hrv
      have hl1 := hlen hle
      rw [hbr] at hl1
      have hr := va_runV (e := e) (meth := meth) (below := below) (locs := locs) (cells := cells) (slots := slots) (C := mi.1.cls) (b := ad (1000000 + b)) (As := rs.map (cv ad)) (rest := (st.drop (r3 % 100).toNat).map (cv ad)) (g := F0 m pc arr (st.map (cv ad))) (nL := nL) (n := n) hcf0 hM
        (cwV n hts (GW_good (fun w hw => by
          rcases List.mem_append.mp (show w ∈ ([.methodLink own idx mi.1, .instanceMethod mi.1, .selects mi.1.cls mi.1 mi.1, .initialized mi.1.cls] : List Jvm.Cond) ++ mws mi from hw) with h9 | h9
          · simp only [List.mem_cons, List.not_mem_nil, or_false] at h9
            rcases h9 with rfl | rfl | rfl | rfl
            · exact w1
            · exact w2
            · exact w3
            · exact k2
          · rcases List.mem_cons.mp h9 with rfl | h9
            · exact k1
            · exact h9)) rfl rfl rfl ⟨rfl, k4, k5, k6⟩ (hR1 mi mc ms k7))
        ⟨mPc_blind, by rw [hcls]; exact hrv, fun U hU hW => by
          have := mPc_here (as := argc (r3 % 100).toNat st) hU1 hU2 hA hS U hU hW
          rw [hbr] at this ⊢
          exact this⟩ rfl (by
            rw [List.length_map]
            have := hna mi hmi (by omega)
            simp at hl1
            omega) hl.1 (by
            show st.map (cv ad) = _
            rw [hstk, hbr]
            simp [cv]) (catc _ h8) hd (by omega)
      rw [hbr]
      exact hr
    · -- 1: static
      obtain ⟨idx, mi, rfl, hmi, w1, w2, hin⟩ := hcf
      obtain ⟨n, ⟨k1, k2, k3, k4, k5, k6, k7⟩, hn⟩ := hmok _ _ hmi
      rw [hin, if_neg (by decide)] at hn
      refine gen mi hmi (by omega) h8 hle hmc (fun mc ms Qc hmc hms hM => ?_)
      exact va_runS (As := (argc (r3 % 100).toNat st).map (cv ad)) (rest := (st.drop (r3 % 100).toNat).map (cv ad)) (g := F0 m pc arr (st.map (cv ad))) (nL := nL) (n := n) hcf0 hM
        (va_cwS n hts (GW_good (fun w hw => by
          rcases List.mem_append.mp (show w ∈ ([.methodLink own idx mi.1, .static mi.1, .initialized mi.1.cls] : List Jvm.Cond) ++ mws mi from hw) with h9 | h9
          · simp only [List.mem_cons, List.not_mem_nil, or_false] at h9
            rcases h9 with rfl | rfl | rfl
            · exact w1
            · exact w2
            · exact k2
          · rcases List.mem_cons.mp h9 with rfl | h9
            · exact k1
            · exact h9)) rfl rfl rfl ⟨k4, k5, k6⟩ (hR1 mi mc ms k7))
        ⟨mPc_blind, mPc_here hU1 hU2 hA hS⟩ rfl (by
            rw [List.length_map, hlen hle]
            have := hna mi hmi (by omega)
            omega) hl.1 hstk (catc _ h8) hd (by omega)
    · -- 3: static, a nest mate's
      obtain ⟨idx, mi, rfl, hmi, w1, w2, hin⟩ := hcf
      obtain ⟨n, ⟨k1, k2, k3, k4, k5, k6, k7⟩, hn⟩ := hmok _ _ hmi
      rw [hin, if_neg (by decide)] at hn
      refine gen mi hmi (by omega) h8 hle hmc (fun mc ms Qc hmc hms hM => ?_)
      exact va_runSN (host := RX10) (As := (argc (r3 % 100).toNat st).map (cv ad)) (rest := (st.drop (r3 % 100).toNat).map (cv ad)) (g := F0 m pc arr (st.map (cv ad))) (nL := nL) (n := n) hcf0 hM
        ⟨va_cnB n hts (GW_good (fun w hw => by
          rcases List.mem_cons.mp hw with rfl | h9
          · exact k1
          · exact h9)) rfl rfl rfl (hU1.2.2.2.2.1 _ w1) (hts _ k2) ⟨k4, k5, k6⟩ (hR1 mi mc ms k7), hts _ w2, trivial⟩
        ⟨mPc_blind, mPc_here hU1 hU2 hA hS⟩ rfl (by
            rw [List.length_map, hlen hle]
            have := hna mi hmi (by omega)
            omega) hl.1 hstk (catc _ h8) hd (by omega)
    · -- 2: a constructor
      obtain ⟨idx, mi, rfl, hmi, w1, w2, hnm, hret, hin⟩ := hcf
      obtain ⟨n, ⟨k1, k2, k3, k4, k5, k6, k7⟩, hn⟩ := hmok _ _ hmi
      rw [hin, if_pos rfl] at hn
      obtain ⟨b, rs, hbr⟩ := hrc
      refine gen mi hmi (by omega) h8 hle hmc (fun mc ms Qc hmc hms hM => ?_)
      have hl1 := hlen hle
      rw [hbr] at hl1
      have hr := va_runI (e := e) (meth := meth) (below := below) (locs := locs) (cells := cells) (slots := slots) (b := ad b) (As := rs.map (cv ad)) (rest := (st.drop (r3 % 100).toNat).map (cv ad)) (g := F0 m pc arr (st.map (cv ad))) (nL := nL) (n := n) hcf0 hM
        (cwI n hts (GW_good (fun w hw => by
          rcases List.mem_cons.mp hw with rfl | h9
          · exact k1
          · exact h9)) (by rw [← hret]; rfl) rfl rfl (hts _ k2) (hts _ w1) (hts _ w2) hnm ⟨k4, k5, k6⟩ (hR1 mi mc ms k7))
        ⟨mPc_blind, fun U hU hW => by
          have := mPc_here (as := argc (r3 % 100).toNat st) hU1 hU2 hA hS U hU hW
          rw [hbr] at this ⊢
          exact this⟩ rfl (by
            rw [List.length_map]
            have := hna mi hmi (by omega)
            simp at hl1
            omega) hl.1 (by
            show st.map (cv ad) = _
            rw [hstk, hbr]
            simp [cv]) (catc _ h8) hd (by omega)
      rw [hbr]
      exact hr
    · -- 4: a nest mate's constructor
      obtain ⟨idx, mi, rfl, hmi, w1, w2, hnm, hret, hin⟩ := hcf
      obtain ⟨n, ⟨k1, k2, k3, k4, k5, k6, k7⟩, hn⟩ := hmok _ _ hmi
      rw [hin, if_pos rfl] at hn
      obtain ⟨b, rs, hbr⟩ := hrc
      refine gen mi hmi (by omega) h8 hle hmc (fun mc ms Qc hmc hms hM => ?_)
      have hl1 := hlen hle
      rw [hbr] at hl1
      have hr := va_runIN (e := e) (meth := meth) (below := below) (locs := locs) (cells := cells) (slots := slots) (host := RX10) (b := ad b) (As := rs.map (cv ad)) (rest := (st.drop (r3 % 100).toNat).map (cv ad)) (g := F0 m pc arr (st.map (cv ad))) (nL := nL) (n := n) hcf0 hM
        ⟨va_cnB n hts (GW_good (fun w hw => by
          rcases List.mem_cons.mp hw with rfl | h9
          · exact k1
          · exact h9)) (by rw [← hret]; rfl) rfl rfl (hU1.2.2.2.2.1 _ w1) (hts _ k2) ⟨k4, k5, k6⟩ (hR1 mi mc ms k7), hnm, hts _ w2⟩
        ⟨mPc_blind, fun U hU hW => by
          have := mPc_here (as := argc (r3 % 100).toNat st) hU1 hU2 hA hS U hU hW
          rw [hbr] at this ⊢
          exact this⟩ rfl (by
            rw [List.length_map]
            have := hna mi hmi (by omega)
            simp at hl1
            omega) hl.1 (by
            show st.map (cv ad) = _
            rw [hstk, hbr]
            simp [cv]) (catc _ h8) hd (by omega)
      rw [hbr]
      exact hr
    · exact hcf.elim
end SND4
