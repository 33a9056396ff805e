/-! THE TEXTS: String.length and String.charAt by the machine -/
theorem dJ0_length_8abf5_0 : decode cJ0_length_8abf5 0 = .ok (.aload_n 0, 1) := by decide +kernel
theorem dJ0_length_8abf5_1 : decode cJ0_length_8abf5 1 = .ok (.getfield 9, 3) := by decide +kernel
theorem dJ0_length_8abf5_4 : decode cJ0_length_8abf5 4 = .ok (.arraylength, 1) := by decide +kernel
theorem dJ0_length_8abf5_5 : decode cJ0_length_8abf5 5 = .ok (.aload_n 0, 1) := by decide +kernel
theorem dJ0_length_8abf5_6 : decode cJ0_length_8abf5 6 = .ok (.invokevirtual 335, 3) := by decide +kernel
theorem dJ0_length_8abf5_9 : decode cJ0_length_8abf5 9 = .ok (.ishr, 1) := by decide +kernel
theorem dJ0_length_8abf5_10 : decode cJ0_length_8abf5 10 = .ok (.ireturn, 1) := by decide +kernel
theorem dJ0_coder_7d493_0 : decode cJ0_coder_7d493 0 = .ok (.getstatic 38, 3) := by decide +kernel
theorem dJ0_coder_7d493_3 : decode cJ0_coder_7d493 3 = .ok (.ifCond .eq 10, 3) := by decide +kernel
theorem dJ0_coder_7d493_6 : decode cJ0_coder_7d493 6 = .ok (.aload_n 0, 1) := by decide +kernel
theorem dJ0_coder_7d493_7 : decode cJ0_coder_7d493 7 = .ok (.getfield 15, 3) := by decide +kernel
theorem dJ0_coder_7d493_10 : decode cJ0_coder_7d493 10 = .ok (.goto 4, 3) := by decide +kernel
theorem dJ0_coder_7d493_14 : decode cJ0_coder_7d493 14 = .ok (.ireturn, 1) := by decide +kernel
theorem dJ0_charAt_5068e_0 : decode cJ0_charAt_5068e 0 = .ok (.aload_n 0, 1) := by decide +kernel
theorem dJ0_charAt_5068e_1 : decode cJ0_charAt_5068e 1 = .ok (.invokevirtual 492, 3) := by decide +kernel
theorem dJ0_charAt_5068e_4 : decode cJ0_charAt_5068e 4 = .ok (.ifCond .eq 12, 3) := by decide +kernel
theorem dJ0_charAt_5068e_7 : decode cJ0_charAt_5068e 7 = .ok (.aload_n 0, 1) := by decide +kernel
theorem dJ0_charAt_5068e_8 : decode cJ0_charAt_5068e 8 = .ok (.getfield 9, 3) := by decide +kernel
theorem dJ0_charAt_5068e_11 : decode cJ0_charAt_5068e 11 = .ok (.iload_n 1, 1) := by decide +kernel
theorem dJ0_charAt_5068e_12 : decode cJ0_charAt_5068e 12 = .ok (.invokestatic 495, 3) := by decide +kernel
theorem dJ0_charAt_5068e_15 : decode cJ0_charAt_5068e 15 = .ok (.ireturn, 1) := by decide +kernel
theorem dJ0_isLatin1_aae02_0 : decode cJ0_isLatin1_aae02 0 = .ok (.getstatic 38, 3) := by decide +kernel
theorem dJ0_isLatin1_aae02_3 : decode cJ0_isLatin1_aae02 3 = .ok (.ifCond .eq 14, 3) := by decide +kernel
theorem dJ0_isLatin1_aae02_6 : decode cJ0_isLatin1_aae02 6 = .ok (.aload_n 0, 1) := by decide +kernel
theorem dJ0_isLatin1_aae02_7 : decode cJ0_isLatin1_aae02 7 = .ok (.getfield 15, 3) := by decide +kernel
theorem dJ0_isLatin1_aae02_10 : decode cJ0_isLatin1_aae02 10 = .ok (.ifCond .ne 7, 3) := by decide +kernel
theorem dJ0_isLatin1_aae02_13 : decode cJ0_isLatin1_aae02 13 = .ok (.iconst 1, 1) := by decide +kernel
theorem dJ0_isLatin1_aae02_14 : decode cJ0_isLatin1_aae02 14 = .ok (.goto 4, 3) := by decide +kernel
theorem dJ0_isLatin1_aae02_18 : decode cJ0_isLatin1_aae02 18 = .ok (.ireturn, 1) := by decide +kernel
theorem dJ0_checkIndex_df160_0 : decode cJ0_checkIndex_df160 0 = .ok (.iload_n 0, 1) := by decide +kernel
theorem dJ0_checkIndex_df160_1 : decode cJ0_checkIndex_df160 1 = .ok (.iload_n 1, 1) := by decide +kernel
theorem dJ0_checkIndex_df160_2 : decode cJ0_checkIndex_df160 2 = .ok (.getstatic 1053, 3) := by decide +kernel
theorem dJ0_checkIndex_df160_5 : decode cJ0_checkIndex_df160 5 = .ok (.invokestatic 1059, 3) := by decide +kernel
theorem dJ0_checkIndex_df160_8 : decode cJ0_checkIndex_df160 8 = .ok (.pop, 1) := by decide +kernel
theorem dJ0_checkIndex_df160_9 : decode cJ0_checkIndex_df160 9 = .ok (.return_, 1) := by decide +kernel
theorem dJ3_checkIndex_8e157_0 : decode cJ3_checkIndex_8e157 0 = .ok (.iload_n 0, 1) := by decide +kernel
theorem dJ3_checkIndex_8e157_1 : decode cJ3_checkIndex_8e157 1 = .ok (.ifCond .lt 8, 3) := by decide +kernel
theorem dJ3_checkIndex_8e157_4 : decode cJ3_checkIndex_8e157 4 = .ok (.iload_n 0, 1) := by decide +kernel
theorem dJ3_checkIndex_8e157_5 : decode cJ3_checkIndex_8e157 5 = .ok (.iload_n 1, 1) := by decide +kernel
theorem dJ3_checkIndex_8e157_6 : decode cJ3_checkIndex_8e157 6 = .ok (.if_icmp .lt 10, 3) := by decide +kernel
theorem dJ3_checkIndex_8e157_16 : decode cJ3_checkIndex_8e157 16 = .ok (.iload_n 0, 1) := by decide +kernel
theorem dJ3_checkIndex_8e157_17 : decode cJ3_checkIndex_8e157 17 = .ok (.ireturn, 1) := by decide +kernel
theorem dJ1_charAt_3b067_0 : decode cJ1_charAt_3b067 0 = .ok (.iload_n 1, 1) := by decide +kernel
theorem dJ1_charAt_3b067_1 : decode cJ1_charAt_3b067 1 = .ok (.aload_n 0, 1) := by decide +kernel
theorem dJ1_charAt_3b067_2 : decode cJ1_charAt_3b067 2 = .ok (.arraylength, 1) := by decide +kernel
theorem dJ1_charAt_3b067_3 : decode cJ1_charAt_3b067 3 = .ok (.invokestatic 9, 3) := by decide +kernel
theorem dJ1_charAt_3b067_6 : decode cJ1_charAt_3b067 6 = .ok (.aload_n 0, 1) := by decide +kernel
theorem dJ1_charAt_3b067_7 : decode cJ1_charAt_3b067 7 = .ok (.iload_n 1, 1) := by decide +kernel
theorem dJ1_charAt_3b067_8 : decode cJ1_charAt_3b067 8 = .ok (.baload, 1) := by decide +kernel
theorem dJ1_charAt_3b067_9 : decode cJ1_charAt_3b067 9 = .ok (.sipush 255, 3) := by decide +kernel
theorem dJ1_charAt_3b067_12 : decode cJ1_charAt_3b067 12 = .ok (.iand, 1) := by decide +kernel
theorem dJ1_charAt_3b067_13 : decode cJ1_charAt_3b067 13 = .ok (.i2c, 1) := by decide +kernel
theorem dJ1_charAt_3b067_14 : decode cJ1_charAt_3b067 14 = .ok (.ireturn, 1) := by decide +kernel
theorem j9ini_String : Jvm.Cond.initialized "java/lang/String" ∈ GW := atT_gw (i := 100) (by decide +kernel)
theorem j9ini_StringLatin1 : Jvm.Cond.initialized "java/lang/StringLatin1" ∈ GW := atT_gw (i := 101) (by decide +kernel)
theorem j9ini_Preconditions : Jvm.Cond.initialized "jdk/internal/util/Preconditions" ∈ GW := atT_gw (i := 102) (by decide +kernel)
theorem j9ml_String_335 : Jvm.Cond.methodLink "java/lang/String" 335 yJ0_coder_7d493 ∈ GW := atT_gw (i := 1308) (by decide +kernel)
theorem j9in_coder : Jvm.Cond.instanceMethod yJ0_coder_7d493 ∈ GW := atT_gw (i := 1309) (by decide +kernel)
theorem j9se_coder : Jvm.Cond.selects "java/lang/String" yJ0_coder_7d493 yJ0_coder_7d493 ∈ GW := atT_gw (i := 1310) (by decide +kernel)
theorem j9co_String_coder : Jvm.Cond.code yJ0_coder_7d493 prog_21_method_152_code 1 (some .byte) ∈ GW := atT_gw (i := 1311) (by decide +kernel)
theorem j9fl_COMPACT_STRINGS : Jvm.Cond.fieldLink "java/lang/String" 38 "java/lang/String" "COMPACT_STRINGS" "Z" ∈ GW := atT_gw (i := 1312) (by decide +kernel)
theorem j9ml_String_492 : Jvm.Cond.methodLink "java/lang/String" 492 yJ0_isLatin1_aae02 ∈ GW := atT_gw (i := 1318) (by decide +kernel)
theorem j9in_isLatin1 : Jvm.Cond.instanceMethod yJ0_isLatin1_aae02 ∈ GW := atT_gw (i := 1319) (by decide +kernel)
theorem j9se_isLatin1 : Jvm.Cond.selects "java/lang/String" yJ0_isLatin1_aae02 yJ0_isLatin1_aae02 ∈ GW := atT_gw (i := 1320) (by decide +kernel)
theorem j9co_String_isLatin1 : Jvm.Cond.code yJ0_isLatin1_aae02 prog_21_method_154_code 1 (some .boolean) ∈ GW := atT_gw (i := 1321) (by decide +kernel)
theorem j9ml_String_495 : Jvm.Cond.methodLink "java/lang/String" 495 yJ1_charAt_3b067 ∈ GW := atT_gw (i := 1322) (by decide +kernel)
theorem j9st_StringLatin1_charAt : Jvm.Cond.static yJ1_charAt_3b067 ∈ GW := atT_gw (i := 1323) (by decide +kernel)
theorem j9co_StringLatin1_charAt : Jvm.Cond.code yJ1_charAt_3b067 prog_22_method_2_code 2 (some .char) ∈ GW := atT_gw (i := 1324) (by decide +kernel)
theorem j9ml_StringLatin1_9 : Jvm.Cond.methodLink "java/lang/StringLatin1" 9 yJ0_checkIndex_df160 ∈ GW := atT_gw (i := 1325) (by decide +kernel)
theorem j9st_String_checkIndex : Jvm.Cond.static yJ0_checkIndex_df160 ∈ GW := atT_gw (i := 1326) (by decide +kernel)
theorem j9co_String_checkIndex : Jvm.Cond.code yJ0_checkIndex_df160 prog_21_method_155_code 2 none ∈ GW := atT_gw (i := 1327) (by decide +kernel)
theorem j9fl_SIOOBE_FORMATTER : Jvm.Cond.fieldLink "java/lang/String" 1053 "jdk/internal/util/Preconditions" "SIOOBE_FORMATTER" "Ljava/util/function/BiFunction;" ∈ GW := atT_gw (i := 1328) (by decide +kernel)
theorem j9ml_String_1059 : Jvm.Cond.methodLink "java/lang/String" 1059 yJ3_checkIndex_8e157 ∈ GW := atT_gw (i := 1330) (by decide +kernel)
theorem j9st_Preconditions_checkIndex : Jvm.Cond.static yJ3_checkIndex_8e157 ∈ GW := atT_gw (i := 1331) (by decide +kernel)
theorem j9co_Preconditions_checkIndex : Jvm.Cond.code yJ3_checkIndex_8e157 prog_30_method_11_code 3 (some .int) ∈ GW := atT_gw (i := 1332) (by decide +kernel)
theorem j9fl_value : Jvm.Cond.fieldLink "java/lang/String" 9 "java/lang/String" "value" "[B" ∈ GW := atT_gw (i := 1777) (by decide +kernel)
theorem j9fl_coder : Jvm.Cond.fieldLink "java/lang/String" 15 "java/lang/String" "coder" "B" ∈ GW := atT_gw (i := 1778) (by decide +kernel)
def jws (y : MethodName) (c : ByteArray) (n : Nat) (r : Option FieldType) : List Jvm.Cond := Jvm.Cond.code y c n r :: GW
def jP (adK adV : Nat → Nat) (A : Nat → Prop) (as : List Value) : Array Value → State → Prop := va_Pc as (fun U => U2 adK adV A U U.heap)
def jQ (rv : Option Value) : Array Value → State → Outcome → State → Prop := fun _ st o t => o = .returned rv ∧ t.heap = st.heap
theorem jP_blind {adK adV : Nat → Nat} {A : Nat → Prop} {as : List Value} : FrameBlind (jP adK adV A as) := by
  intro a U g mk q
  obtain ⟨q0, q5⟩ := q
  exact ⟨q0, U2.moved (u := U) (Vm.Alike.refl U.vm) q5⟩
theorem jP_here {adK adV : Nat → Nat} {A : Nat → Prop} {as : List Value} {s : State} (hU2 : U2 adK adV A s s.heap) : ∀ U : State, U.heap = s.heap → s.WarmedH U.vm → jP adK adV A as as.toArray U := by
  intro U hU hW
  exact ⟨rfl, by show U2 adK adV A U U.heap; rw [hU]; exact hU2.moved hW.alike⟩
theorem jQ_F {A : Nat → Prop} {rv : Option Value} {a : Array Value} : ∀ st o t, jQ rv a st o t → va_F A st t := fun st o t h => ⟨by rw [h.2]; exact Nat.le_refl _, fun q _ _ => by rw [h.2]⟩
theorem jgS {own : String} {idx : Nat} {y : MethodName} {c : ByteArray} {n : Nat} {r : Option FieldType} (w1 : Jvm.Cond.methodLink own idx y ∈ GW) (w2 : Jvm.Cond.static y ∈ GW) (w3 : Jvm.Cond.initialized y.cls ∈ GW) (w4 : Jvm.Cond.code y c n r ∈ GW) : GoodIn GW (va_wsS own idx y (jws y c n r)) := GW_good (fun w hw => by
  rcases List.mem_append.mp (show w ∈ ([.methodLink own idx y, .static y, .initialized y.cls] : List Jvm.Cond) ++ jws y c n r from hw) with h9 | h9
  · simp only [List.mem_cons, List.not_mem_nil, or_false] at h9
    rcases h9 with rfl | rfl | rfl
    · exact w1
    · exact w2
    · exact w3
  · rcases List.mem_cons.mp h9 with rfl | h9
    · exact w4
    · exact h9)
theorem jgV {own : String} {idx : Nat} {y : MethodName} {c : ByteArray} {n : Nat} {r : Option FieldType} (w1 : Jvm.Cond.methodLink own idx y ∈ GW) (w2 : Jvm.Cond.instanceMethod y ∈ GW) (w3 : Jvm.Cond.selects y.cls y y ∈ GW) (w5 : Jvm.Cond.initialized y.cls ∈ GW) (w4 : Jvm.Cond.code y c n r ∈ GW) : GoodIn GW (wsV own idx y.cls y (jws y c n r)) := GW_good (fun w hw => by
  rcases List.mem_append.mp (show w ∈ ([.methodLink own idx y, .instanceMethod y, .selects y.cls y y, .initialized y.cls] : List Jvm.Cond) ++ jws y c n r from hw) with h9 | h9
  · simp only [List.mem_cons, List.not_mem_nil, or_false] at h9
    rcases h9 with rfl | rfl | rfl | rfl
    · exact w1
    · exact w2
    · exact w3
    · exact w5
  · rcases List.mem_cons.mp h9 with rfl | h9
    · exact w4
    · exact h9)
set_option maxHeartbeats 4000000 in
set_option maxRecDepth 100000 in
theorem j9_coder (l : Launch) {adK adV : Nat → Nat} {A : Nat → Prop} {b : Nat} (h6 : b < 6) : Met l yJ0_coder_7d493 (jws yJ0_coder_7d493 cJ0_coder_7d493 1 (some .byte)) { frames := 1, cells := 0, slots := 0, locals := 100 } (jP adK adV A [.ref (adK b)]) (jQ (some (.int 0))) 0 0 A := by
  refine Met.ofW (cc := cJ0_coder_7d493) (maxL := 1) (ret := (some .byte)) (by decide) rfl ?_
  intro p e s m args below meth c s₁ B hml hv
  obtain ⟨rfl, hU2⟩ := hv
  have hx := B.exec
  have hb := B.bytes
  have hr := B.returns
  have hts0 := atoms_spec (ws := jws yJ0_coder_7d493 cJ0_coder_7d493 1 (some .byte)) B.pre
  have hts : ∀ w ∈ GW, w.before ([.ref (adK b)] : List Value).toArray s = true := fun w hw => hts0 w (List.mem_cons_of_mem _ hw)
  have hown : s.vm.findClass RJ0 = some m.cls := findClass_of_methodNamed B.named
  have hlocks := B.notSynchronized
  have hS : va_S A s.heap s.heap [] := va_S.rf
  have hl := lv_entry ([.ref (adK b)]) (n := 1) (Nat.le_of_ble_eq_true rfl)
  rw [lg_entry_eq]
  generalize (lg_sl ([.ref (adK b)]) ++ List.replicate (1 - (lg_sl ([.ref (adK b)])).length) Slot.unset).toArray = ls at hl ⊢
  have hl : lv_has ls 1 [(0, .ref (adK b))] := hl
  refine va_gets hx hb hU2.2.1 hS hown (hts _ j9fl_COMPACT_STRINGS) (fun _ h9 => h9) dJ0_coder_7d493_0 ?_
  refine lv_if_eq (tgt := 13) hx hb dJ0_coder_7d493_3 (by decide) (fun q => absurd q (by decide)) (fun _ => ?_)
  refine lv_aload_n hx hb dJ0_coder_7d493_6 rfl (lv_at hl 0 rfl) ?_
  refine vk_getf hx hb (hU2.1.1 b h6).2.1 hS hown (hts _ j9fl_coder) (fun _ h9 => h9) dJ0_coder_7d493_7 ?_
  refine lv_goto (tgt := 14) hx hb dJ0_coder_7d493_10 (by decide) ?_
  exact W.zret hx hb hr (by decide) (fun t ht _ => ⟨rfl, ht⟩) hS.2.2 dJ0_coder_7d493_14
set_option maxHeartbeats 4000000 in
set_option maxRecDepth 100000 in
theorem j9_isLatin1 (l : Launch) {adK adV : Nat → Nat} {A : Nat → Prop} {b : Nat} (h6 : b < 6) : Met l yJ0_isLatin1_aae02 (jws yJ0_isLatin1_aae02 cJ0_isLatin1_aae02 1 (some .boolean)) { frames := 1, cells := 0, slots := 0, locals := 100 } (jP adK adV A [.ref (adK b)]) (jQ (some (.int 1))) 0 0 A := by
  refine Met.ofW (cc := cJ0_isLatin1_aae02) (maxL := 1) (ret := (some .boolean)) (by decide) rfl ?_
  intro p e s m args below meth c s₁ B hml hv
  obtain ⟨rfl, hU2⟩ := hv
  have hx := B.exec
  have hb := B.bytes
  have hr := B.returns
  have hts0 := atoms_spec (ws := jws yJ0_isLatin1_aae02 cJ0_isLatin1_aae02 1 (some .boolean)) B.pre
  have hts : ∀ w ∈ GW, w.before ([.ref (adK b)] : List Value).toArray s = true := fun w hw => hts0 w (List.mem_cons_of_mem _ hw)
  have hown : s.vm.findClass RJ0 = some m.cls := findClass_of_methodNamed B.named
  have hlocks := B.notSynchronized
  have hS : va_S A s.heap s.heap [] := va_S.rf
  have hl := lv_entry ([.ref (adK b)]) (n := 1) (Nat.le_of_ble_eq_true rfl)
  rw [lg_entry_eq]
  generalize (lg_sl ([.ref (adK b)]) ++ List.replicate (1 - (lg_sl ([.ref (adK b)])).length) Slot.unset).toArray = ls at hl ⊢
  have hl : lv_has ls 1 [(0, .ref (adK b))] := hl
  refine va_gets hx hb hU2.2.1 hS hown (hts _ j9fl_COMPACT_STRINGS) (fun _ h9 => h9) dJ0_isLatin1_aae02_0 ?_
  refine lv_if_eq (tgt := 17) hx hb dJ0_isLatin1_aae02_3 (by decide) (fun q => absurd q (by decide)) (fun _ => ?_)
  refine lv_aload_n hx hb dJ0_isLatin1_aae02_6 rfl (lv_at hl 0 rfl) ?_
  refine vk_getf hx hb (hU2.1.1 b h6).2.1 hS hown (hts _ j9fl_coder) (fun _ h9 => h9) dJ0_isLatin1_aae02_7 ?_
  refine lv_if_ne (tgt := 17) hx hb dJ0_isLatin1_aae02_10 (by decide) (fun q => absurd rfl q) (fun _ => ?_)
  refine lv_iconst (v := 1) hx hb dJ0_isLatin1_aae02_13 (by decide) ?_
  refine lv_goto (tgt := 18) hx hb dJ0_isLatin1_aae02_14 (by decide) ?_
  exact W.zret hx hb hr (by decide) (fun t ht _ => ⟨rfl, ht⟩) hS.2.2 dJ0_isLatin1_aae02_18
set_option maxHeartbeats 4000000 in
set_option maxRecDepth 100000 in
theorem j9_chkN (l : Launch) {adK adV : Nat → Nat} {A : Nat → Prop} {i n : Int32} (h0 : ¬ i < 0) (h1 : i < n) : Met l yJ3_checkIndex_8e157 (jws yJ3_checkIndex_8e157 cJ3_checkIndex_8e157 3 (some .int)) { frames := 1, cells := 0, slots := 0, locals := 100 } (jP adK adV A [.int i, .int n, .null]) (jQ (some (.int i))) 0 0 A := by
  refine Met.ofW (cc := cJ3_checkIndex_8e157) (maxL := 3) (ret := (some .int)) (by decide) rfl ?_
  intro p e s m args below meth c s₁ B hml hv
  obtain ⟨rfl, hU2⟩ := hv
  have hx := B.exec
  have hb := B.bytes
  have hr := B.returns
  have hts0 := atoms_spec (ws := jws yJ3_checkIndex_8e157 cJ3_checkIndex_8e157 3 (some .int)) B.pre
  have hts : ∀ w ∈ GW, w.before ([.int i, .int n, .null] : List Value).toArray s = true := fun w hw => hts0 w (List.mem_cons_of_mem _ hw)
  have hown : s.vm.findClass RJ3 = some m.cls := findClass_of_methodNamed B.named
  have hlocks := B.notSynchronized
  have hS : va_S A s.heap s.heap [] := va_S.rf
  have hl := lv_entry ([.int i, .int n, .null]) (n := 3) (Nat.le_of_ble_eq_true rfl)
  rw [lg_entry_eq]
  generalize (lg_sl ([.int i, .int n, .null]) ++ List.replicate (3 - (lg_sl ([.int i, .int n, .null])).length) Slot.unset).toArray = ls at hl ⊢
  have hl : lv_has ls 3 [(0, .int i), (1, .int n), (2, .null)] := hl
  refine lv_iload_n hx hb dJ3_checkIndex_8e157_0 rfl (lv_at hl 0 rfl) ?_
  refine lv_if_lt (tgt := 9) hx hb dJ3_checkIndex_8e157_1 (by decide) (fun q => absurd q h0) (fun _ => ?_)
  refine lv_iload_n hx hb dJ3_checkIndex_8e157_4 rfl (lv_at hl 0 rfl) ?_
  refine lv_iload_n hx hb dJ3_checkIndex_8e157_5 rfl (lv_at hl 1 rfl) ?_
  refine lv_icmp_lt (tgt := 16) hx hb dJ3_checkIndex_8e157_6 (by decide) (fun _ => ?_) (fun q => absurd h1 q)
  refine lv_iload_n hx hb dJ3_checkIndex_8e157_16 rfl (lv_at hl 0 rfl) ?_
  exact W.iret (v := i) hx hb hr (fun t ht _ => ⟨rfl, ht⟩) hS.2.2 dJ3_checkIndex_8e157_17
set_option maxHeartbeats 4000000 in
set_option maxRecDepth 100000 in
theorem j9_chkR (l : Launch) {adK adV : Nat → Nat} {A : Nat → Prop} {t0 : Nat} {i n : Int32} (h0 : ¬ i < 0) (h1 : i < n) : Met l yJ3_checkIndex_8e157 (jws yJ3_checkIndex_8e157 cJ3_checkIndex_8e157 3 (some .int)) { frames := 1, cells := 0, slots := 0, locals := 100 } (jP adK adV A [.int i, .int n, .ref t0]) (jQ (some (.int i))) 0 0 A := by
  refine Met.ofW (cc := cJ3_checkIndex_8e157) (maxL := 3) (ret := (some .int)) (by decide) rfl ?_
  intro p e s m args below meth c s₁ B hml hv
  obtain ⟨rfl, hU2⟩ := hv
  have hx := B.exec
  have hb := B.bytes
  have hr := B.returns
  have hts0 := atoms_spec (ws := jws yJ3_checkIndex_8e157 cJ3_checkIndex_8e157 3 (some .int)) B.pre
  have hts : ∀ w ∈ GW, w.before ([.int i, .int n, .ref t0] : List Value).toArray s = true := fun w hw => hts0 w (List.mem_cons_of_mem _ hw)
  have hown : s.vm.findClass RJ3 = some m.cls := findClass_of_methodNamed B.named
  have hlocks := B.notSynchronized
  have hS : va_S A s.heap s.heap [] := va_S.rf
  have hl := lv_entry ([.int i, .int n, .ref t0]) (n := 3) (Nat.le_of_ble_eq_true rfl)
  rw [lg_entry_eq]
  generalize (lg_sl ([.int i, .int n, .ref t0]) ++ List.replicate (3 - (lg_sl ([.int i, .int n, .ref t0])).length) Slot.unset).toArray = ls at hl ⊢
  have hl : lv_has ls 3 [(0, .int i), (1, .int n), (2, .ref t0)] := hl
  refine lv_iload_n hx hb dJ3_checkIndex_8e157_0 rfl (lv_at hl 0 rfl) ?_
  refine lv_if_lt (tgt := 9) hx hb dJ3_checkIndex_8e157_1 (by decide) (fun q => absurd q h0) (fun _ => ?_)
  refine lv_iload_n hx hb dJ3_checkIndex_8e157_4 rfl (lv_at hl 0 rfl) ?_
  refine lv_iload_n hx hb dJ3_checkIndex_8e157_5 rfl (lv_at hl 1 rfl) ?_
  refine lv_icmp_lt (tgt := 16) hx hb dJ3_checkIndex_8e157_6 (by decide) (fun _ => ?_) (fun q => absurd h1 q)
  refine lv_iload_n hx hb dJ3_checkIndex_8e157_16 rfl (lv_at hl 0 rfl) ?_
  exact W.iret (v := i) hx hb hr (fun t ht _ => ⟨rfl, ht⟩) hS.2.2 dJ3_checkIndex_8e157_17
set_option maxHeartbeats 4000000 in
set_option maxRecDepth 100000 in
theorem j9_check (l : Launch) {adK adV : Nat → Nat} {A : Nat → Prop} {i n : Int32} (h0 : ¬ i < 0) (h1 : i < n) : Met l yJ0_checkIndex_df160 (jws yJ0_checkIndex_df160 cJ0_checkIndex_df160 2 none) { frames := 2, cells := 0, slots := 0, locals := 140 } (jP adK adV A [.int i, .int n]) (jQ none) 0 0 A := by
  refine Met.ofW (cc := cJ0_checkIndex_df160) (maxL := 2) (ret := none) (by decide) rfl ?_
  intro p e s m args below meth c s₁ B hml hv
  obtain ⟨rfl, hU2⟩ := hv
  have hx := B.exec
  have hb := B.bytes
  have hr := B.returns
  have hts0 := atoms_spec (ws := jws yJ0_checkIndex_df160 cJ0_checkIndex_df160 2 none) B.pre
  have hts : ∀ w ∈ GW, w.before ([.int i, .int n] : List Value).toArray s = true := fun w hw => hts0 w (List.mem_cons_of_mem _ hw)
  have hown : s.vm.findClass RJ0 = some m.cls := findClass_of_methodNamed B.named
  have hlocks := B.notSynchronized
  have hS : va_S A s.heap s.heap [] := va_S.rf
  have hl := lv_entry ([.int i, .int n]) (n := 2) (Nat.le_of_ble_eq_true rfl)
  rw [lg_entry_eq]
  generalize (lg_sl ([.int i, .int n]) ++ List.replicate (2 - (lg_sl ([.int i, .int n])).length) Slot.unset).toArray = ls at hl ⊢
  have hl : lv_has ls 2 [(0, .int i), (1, .int n)] := hl
  refine lv_iload_n hx hb dJ0_checkIndex_df160_0 rfl (lv_at hl 0 rfl) ?_
  refine lv_iload_n hx hb dJ0_checkIndex_df160_1 rfl (lv_at hl 1 rfl) ?_
  rcases hU2.2.2.1 with hz | ⟨t0, hz⟩
  · refine va_gets hx hb hz hS hown (hts _ j9fl_SIOOBE_FORMATTER) (fun _ h9 => h9) dJ0_checkIndex_df160_2 ?_
    refine ab_call (A1 := A) (free := A) (va_runS (As := [.int i, .int n, .null]) (rest := []) ⟨hx, hb, hml, hown, hts⟩ (j9_chkN l h0 h1) (va_cwS 3 hts (jgS j9ml_String_1059 j9st_Preconditions_checkIndex j9ini_Preconditions j9co_Preconditions_checkIndex) rfl rfl rfl (by decide +kernel) ⟨Nat.le_of_ble_eq_true rfl, Nat.le_of_ble_eq_true rfl⟩) ⟨jP_blind, jP_here hU2⟩ rfl rfl hl.1 rfl (lv_room (Nat.le_of_ble_eq_true rfl)) dJ0_checkIndex_df160_5 ⟨Nat.zero_le _, Nat.zero_le _⟩) hS (fun _ h9 => h9) (fun _ h9 => h9) jQ_F (fun rv9 st0 t H1 locs1 z1 z2 hq hS => ?_)
    obtain ⟨e1, e2⟩ := hq
    cases e1
    obtain rfl : s.heap = H1 := by rw [← z2, e2, z1]
    refine lv_pop hx hb dJ0_checkIndex_df160_8 rfl ?_
    exact W.vret hx hb hr (fun t ht _ => ⟨rfl, ht⟩) hS.2.2 dJ0_checkIndex_df160_9
  · refine va_gets hx hb hz hS hown (hts _ j9fl_SIOOBE_FORMATTER) (fun _ h9 => h9) dJ0_checkIndex_df160_2 ?_
    refine ab_call (A1 := A) (free := A) (va_runS (As := [.int i, .int n, .ref t0]) (rest := []) ⟨hx, hb, hml, hown, hts⟩ (j9_chkR l h0 h1) (va_cwS 3 hts (jgS j9ml_String_1059 j9st_Preconditions_checkIndex j9ini_Preconditions j9co_Preconditions_checkIndex) rfl rfl rfl (by decide +kernel) ⟨Nat.le_of_ble_eq_true rfl, Nat.le_of_ble_eq_true rfl⟩) ⟨jP_blind, jP_here hU2⟩ rfl rfl hl.1 rfl (lv_room (Nat.le_of_ble_eq_true rfl)) dJ0_checkIndex_df160_5 ⟨Nat.zero_le _, Nat.zero_le _⟩) hS (fun _ h9 => h9) (fun _ h9 => h9) jQ_F (fun rv9 st0 t H1 locs1 z1 z2 hq hS => ?_)
    obtain ⟨e1, e2⟩ := hq
    cases e1
    obtain rfl : s.heap = H1 := by rw [← z2, e2, z1]
    refine lv_pop hx hb dJ0_checkIndex_df160_8 rfl ?_
    exact W.vret hx hb hr (fun t ht _ => ⟨rfl, ht⟩) hS.2.2 dJ0_checkIndex_df160_9
set_option maxHeartbeats 4000000 in
set_option maxRecDepth 100000 in
theorem j9_chr (l : Launch) {adK adV : Nat → Nat} {A : Nat → Prop} {b : Nat} (h6 : b < 6) {i : Int32} (h0 : ¬ i < 0) (h1 : i < Int32.ofNat (leJ.getD b 0)) (h2 : vp_in i (leJ.getD b 0)) {r : Int32} (h3 : ((((byJ.getD b []).getD i.toNatClampNeg 0) &&& 255).toUInt32 % 65536).toInt32 = r) (h4 : narrow .char (.int r) = .int r) : Met l yJ1_charAt_3b067 (jws yJ1_charAt_3b067 cJ1_charAt_3b067 2 (some .char)) { frames := 3, cells := 0, slots := 0, locals := 180 } (jP adK adV A [.ref (adV b), .int i]) (jQ (some (.int r))) 0 0 A := by
  refine Met.ofW (cc := cJ1_charAt_3b067) (maxL := 2) (ret := (some .char)) (by decide) rfl ?_
  intro p e s m args below meth c s₁ B hml hv
  obtain ⟨rfl, hU2⟩ := hv
  have hx := B.exec
  have hb := B.bytes
  have hr := B.returns
  have hts0 := atoms_spec (ws := jws yJ1_charAt_3b067 cJ1_charAt_3b067 2 (some .char)) B.pre
  have hts : ∀ w ∈ GW, w.before ([.ref (adV b), .int i] : List Value).toArray s = true := fun w hw => hts0 w (List.mem_cons_of_mem _ hw)
  have hown : s.vm.findClass RJ1 = some m.cls := findClass_of_methodNamed B.named
  have hlocks := B.notSynchronized
  have hS : va_S A s.heap s.heap [] := va_S.rf
  have hl := lv_entry ([.ref (adV b), .int i]) (n := 2) (Nat.le_of_ble_eq_true rfl)
  rw [lg_entry_eq]
  generalize (lg_sl ([.ref (adV b), .int i]) ++ List.replicate (2 - (lg_sl ([.ref (adV b), .int i])).length) Slot.unset).toArray = ls at hl ⊢
  have hl : lv_has ls 2 [(0, .ref (adV b)), (1, .int i)] := hl
  refine lv_iload_n hx hb dJ1_charAt_3b067_0 rfl (lv_at hl 1 rfl) ?_
  refine lv_aload_n hx hb dJ1_charAt_3b067_1 rfl (lv_at hl 0 rfl) ?_
  refine va_tlen hx hb (hU2.1.1 b h6).2.2.2 hS rfl dJ1_charAt_3b067_2 ?_
  refine ab_call (A1 := A) (free := A) (va_runS (As := [.int i, .int (Int32.ofNat (leJ.getD b 0))]) (rest := []) ⟨hx, hb, hml, hown, hts⟩ (j9_check l h0 h1) (va_cwS 2 hts (jgS j9ml_StringLatin1_9 j9st_String_checkIndex j9ini_String j9co_String_checkIndex) rfl rfl rfl (by decide +kernel) ⟨Nat.le_of_ble_eq_true rfl, Nat.le_of_ble_eq_true rfl⟩) ⟨jP_blind, jP_here hU2⟩ rfl rfl hl.1 rfl (lv_room (Nat.le_of_ble_eq_true rfl)) dJ1_charAt_3b067_3 ⟨Nat.zero_le _, Nat.zero_le _⟩) hS (fun _ h9 => h9) (fun _ h9 => h9) jQ_F (fun rv9 st0 t H1 locs1 z1 z2 hq hS => ?_)
  obtain ⟨e1, e2⟩ := hq
  cases e1
  obtain rfl : s.heap = H1 := by rw [← z2, e2, z1]
  refine lv_aload_n hx hb dJ1_charAt_3b067_6 rfl (lv_at hl 0 rfl) ?_
  refine lv_iload_n hx hb dJ1_charAt_3b067_7 rfl (lv_at hl 1 rfl) ?_
  refine va_tb hx hb (hU2.1.1 b h6).2.2.2 hS h2 rfl dJ1_charAt_3b067_8 ?_
  refine lv_sipush (v := 255) hx hb dJ1_charAt_3b067_9 (by decide) ?_
  refine lv_iand hx hb dJ1_charAt_3b067_12 ?_
  refine lv_i2c hx hb dJ1_charAt_3b067_13 h3 ?_
  exact W.zret hx hb hr h4 (fun t ht _ => ⟨rfl, ht⟩) hS.2.2 dJ1_charAt_3b067_14
theorem j9_len : ∀ b, b < 6 → (Int32.ofNat (leJ.getD b 0)) >>> ((0 : Int32) &&& 31) = I (leJ.getD b 0 : Nat) := by decide +kernel
theorem j9_idx : ∀ b, b < 6 → ∀ j, j < leJ.getD b 0 → (¬ I (j : Int) < 0) ∧ (I (j : Int) < Int32.ofNat (leJ.getD b 0)) ∧ ¬ leJ.getD b 0 ≤ (I (j : Int)).toNatClampNeg ∧ ((((byJ.getD b []).getD (I (j : Int)).toNatClampNeg 0) &&& 255).toUInt32 % 65536).toInt32 = (byJ.getD b []).getD j 0 ∧ narrow .char (.int ((byJ.getD b []).getD j 0)) = .int ((byJ.getD b []).getD j 0) := by decide +kernel
set_option maxHeartbeats 4000000 in
set_option maxRecDepth 100000 in
theorem SPt_met (l : Launch) : ∀ d mid as h mc ms Q, SPt mid as h mc ms Q → MetOK l (d + 1) mid as h mc ms Q := by
  intro d mid as h mc ms Q hc mi hmi cy dC dI adK adV ad sz hstr hsm hRV
  rcases hc with ⟨rfl, b, h6, rfl, hQ⟩ | ⟨rfl, b, k, h6, hk0, hk1, rfl, hQ⟩
  · obtain rfl : (yJ0_length_8abf5, cJ0_length_8abf5, 1, (some .int), [], 12, 1) = mi := Option.some.inj hmi
    refine Met.ofW (cc := cJ0_length_8abf5) (maxL := 1) (ret := (some .int)) (by decide) rfl ?_
    intro p e s m args below meth c s₁ B hml hv
    obtain ⟨rfl, hsz, hP, hU1, hD0, hU2⟩ := hv
    subst hsz
    have hD := hD0.self (sz := s.heap.size)
    have eA : (([.ref (1000000 + b)] : List Value).map (cv ad)) = [.ref (adK b)] := by show ([.ref (ad (1000000 + b))] : List Value) = _; rw [hstr b h6]
    rw [eA] at B ⊢
    have hq : ∀ (t : State) (rv : Int32), Q (some (.int rv)) h → t.heap = s.heap → mQc cy dC dI ad h s.heap.size mc Q ([.ref (adK b)] : List Value).toArray s (.returned (some (.int rv))) t := fun t rv hQ ht => ⟨⟨some (.int rv), h, ad, rfl, hQ, fun _ _ => rfl, fun _ => rfl, Nat.le_refl _, hsm, hRV, by rw [ht]; exact hP, hD⟩, by rw [ht]; exact Nat.le_refl _, fun q _ _ => by rw [ht]⟩
    generalize hAe : va_A (wd cy ad h) s.heap.size = A at hU2 ⊢
    have hx := B.exec
    have hb := B.bytes
    have hr := B.returns
    have hts0 := atoms_spec (ws := mws (yJ0_length_8abf5, cJ0_length_8abf5, 1, (some .int), [], 12, 1)) B.pre
    have hts : ∀ w ∈ GW, w.before ([.ref (adK b)] : List Value).toArray s = true := fun w hw => hts0 w (List.mem_cons_of_mem _ hw)
    have hown : s.vm.findClass RJ0 = some m.cls := findClass_of_methodNamed B.named
    have hlocks := B.notSynchronized
    have hS : va_S A s.heap s.heap [] := va_S.rf
    have hl := lv_entry ([.ref (adK b)]) (n := 1) (Nat.le_of_ble_eq_true rfl)
    rw [lg_entry_eq]
    generalize (lg_sl ([.ref (adK b)]) ++ List.replicate (1 - (lg_sl ([.ref (adK b)])).length) Slot.unset).toArray = ls at hl ⊢
    have hl : lv_has ls 1 [(0, .ref (adK b))] := hl
    refine lv_aload_n hx hb dJ0_length_8abf5_0 rfl (lv_at hl 0 rfl) ?_
    refine vk_getf hx hb (hU2.1.1 b h6).2.2.1 hS hown (hts _ j9fl_value) (fun _ h9 => h9) dJ0_length_8abf5_1 ?_
    refine va_tlen hx hb (hU2.1.1 b h6).2.2.2 hS rfl dJ0_length_8abf5_4 ?_
    refine lv_aload_n hx hb dJ0_length_8abf5_5 rfl (lv_at hl 0 rfl) ?_
    refine ab_call (A1 := A) (free := A) (va_runV (C := RJ0) (b := adK b) (As := []) (rest := [.int (Int32.ofNat (leJ.getD b 0))]) ⟨hx, hb, hml, hown, hts⟩ (j9_coder l h6) (cwV 0 hts (jgV (y := yJ0_coder_7d493) j9ml_String_335 j9in_coder j9se_coder j9ini_String j9co_String_coder) rfl rfl rfl (by decide +kernel) ⟨by show _ ≤ d + 1 + 9; (first | exact Nat.le_trans (Nat.le_of_ble_eq_true rfl : 2 ≤ 9) (by omega) | exact Nat.le_trans (Nat.le_of_ble_eq_true rfl : 4 ≤ 9) (by omega)), by show _ ≤ 60 * (d + 1) + 240; (first | exact Nat.le_trans (Nat.le_of_ble_eq_true rfl : 120 ≤ 240) (by omega) | exact Nat.le_trans (Nat.le_of_ble_eq_true rfl : 201 ≤ 240) (by omega))⟩) ⟨jP_blind, vk_recv hU2.1 h6 hS, jP_here hU2⟩ rfl rfl hl.1 rfl (lv_room (Nat.le_of_ble_eq_true rfl)) dJ0_length_8abf5_6 ⟨Nat.zero_le _, Nat.zero_le _⟩) hS (fun _ h9 => h9) (fun _ h9 => h9) jQ_F (fun rv9 st0 t H1 locs1 z1 z2 hq hS => ?_)
    obtain ⟨e1, e2⟩ := hq
    cases e1
    obtain rfl : s.heap = H1 := by rw [← z2, e2, z1]
    refine lv_ishr hx hb dJ0_length_8abf5_9 ?_
    show W p l e _ s m _ below meth c s.heap locs1 0 0 _ (F0 m 10 ls [.int ((Int32.ofNat (leJ.getD b 0)) >>> ((0 : Int32) &&& 31))])
    rw [j9_len b h6]
    exact W.widen (Nat.zero_le mc) (Nat.zero_le ms) (W.iret hx hb hr (fun t ht _ => hq t _ hQ ht) hS.2.2 dJ0_length_8abf5_10)
  · obtain rfl : (yJ0_charAt_5068e, cJ0_charAt_5068e, 2, (some .char), [], 12, 2) = mi := Option.some.inj hmi
    obtain ⟨k, rfl⟩ : ∃ j : Nat, k = (j : Int) := ⟨k.toNat, by omega⟩
    obtain ⟨i1, i2, i3, i4, i5⟩ := j9_idx b h6 k (by omega)
    refine Met.ofW (cc := cJ0_charAt_5068e) (maxL := 2) (ret := (some .char)) (by decide) rfl ?_
    intro p e s m args below meth c s₁ B hml hv
    obtain ⟨rfl, hsz, hP, hU1, hD0, hU2⟩ := hv
    subst hsz
    have hD := hD0.self (sz := s.heap.size)
    have eA : (([.ref (1000000 + b), .int (I (k : Int))] : List Value).map (cv ad)) = [.ref (adK b), .int (I (k : Int))] := by show ([.ref (ad (1000000 + b)), .int (I (k : Int))] : List Value) = _; rw [hstr b h6]
    rw [eA] at B ⊢
    have hq : ∀ (t : State) (rv : Int32), Q (some (.int rv)) h → t.heap = s.heap → mQc cy dC dI ad h s.heap.size mc Q ([.ref (adK b), .int (I (k : Int))] : List Value).toArray s (.returned (some (.int rv))) t := fun t rv hQ ht => ⟨⟨some (.int rv), h, ad, rfl, hQ, fun _ _ => rfl, fun _ => rfl, Nat.le_refl _, hsm, hRV, by rw [ht]; exact hP, hD⟩, by rw [ht]; exact Nat.le_refl _, fun q _ _ => by rw [ht]⟩
    generalize hAe : va_A (wd cy ad h) s.heap.size = A at hU2 ⊢
    have hx := B.exec
    have hb := B.bytes
    have hr := B.returns
    have hts0 := atoms_spec (ws := mws (yJ0_charAt_5068e, cJ0_charAt_5068e, 2, (some .char), [], 12, 2)) B.pre
    have hts : ∀ w ∈ GW, w.before ([.ref (adK b), .int (I (k : Int))] : List Value).toArray s = true := fun w hw => hts0 w (List.mem_cons_of_mem _ hw)
    have hown : s.vm.findClass RJ0 = some m.cls := findClass_of_methodNamed B.named
    have hlocks := B.notSynchronized
    have hS : va_S A s.heap s.heap [] := va_S.rf
    have hl := lv_entry ([.ref (adK b), .int (I (k : Int))]) (n := 2) (Nat.le_of_ble_eq_true rfl)
    rw [lg_entry_eq]
    generalize (lg_sl ([.ref (adK b), .int (I (k : Int))]) ++ List.replicate (2 - (lg_sl ([.ref (adK b), .int (I (k : Int))])).length) Slot.unset).toArray = ls at hl ⊢
    have hl : lv_has ls 2 [(0, .ref (adK b)), (1, .int (I (k : Int)))] := hl
    refine lv_aload_n hx hb dJ0_charAt_5068e_0 rfl (lv_at hl 0 rfl) ?_
    refine ab_call (A1 := A) (free := A) (va_runV (C := RJ0) (b := adK b) (As := []) (rest := []) ⟨hx, hb, hml, hown, hts⟩ (j9_isLatin1 l h6) (cwV 0 hts (jgV (y := yJ0_isLatin1_aae02) j9ml_String_492 j9in_isLatin1 j9se_isLatin1 j9ini_String j9co_String_isLatin1) rfl rfl rfl (by decide +kernel) ⟨by show _ ≤ d + 1 + 9; (first | exact Nat.le_trans (Nat.le_of_ble_eq_true rfl : 2 ≤ 9) (by omega) | exact Nat.le_trans (Nat.le_of_ble_eq_true rfl : 4 ≤ 9) (by omega)), by show _ ≤ 60 * (d + 1) + 240; (first | exact Nat.le_trans (Nat.le_of_ble_eq_true rfl : 120 ≤ 240) (by omega) | exact Nat.le_trans (Nat.le_of_ble_eq_true rfl : 201 ≤ 240) (by omega))⟩) ⟨jP_blind, vk_recv hU2.1 h6 hS, jP_here hU2⟩ rfl rfl hl.1 rfl (lv_room (Nat.le_of_ble_eq_true rfl)) dJ0_charAt_5068e_1 ⟨Nat.zero_le _, Nat.zero_le _⟩) hS (fun _ h9 => h9) (fun _ h9 => h9) jQ_F (fun rv9 st0 t H1 locs1 z1 z2 hq hS => ?_)
    obtain ⟨e1, e2⟩ := hq
    cases e1
    obtain rfl : s.heap = H1 := by rw [← z2, e2, z1]
    refine lv_if_eq (tgt := 16) hx hb dJ0_charAt_5068e_4 (by decide) (fun q => absurd q (by decide)) (fun _ => ?_)
    refine lv_aload_n hx hb dJ0_charAt_5068e_7 rfl (lv_at hl 0 rfl) ?_
    refine vk_getf hx hb (hU2.1.1 b h6).2.2.1 hS hown (hts _ j9fl_value) (fun _ h9 => h9) dJ0_charAt_5068e_8 ?_
    refine lv_iload_n hx hb dJ0_charAt_5068e_11 rfl (lv_at hl 1 rfl) ?_
    refine ab_call (A1 := A) (free := A) (va_runS (As := [.ref (adV b), .int (I (k : Int))]) (rest := []) ⟨hx, hb, hml, hown, hts⟩ (j9_chr l h6 i1 i2 (fun q => q.elim i1 i3) i4 i5) (va_cwS 2 hts (jgS j9ml_String_495 j9st_StringLatin1_charAt j9ini_StringLatin1 j9co_StringLatin1_charAt) rfl rfl rfl (by decide +kernel) ⟨by show _ ≤ d + 1 + 9; (first | exact Nat.le_trans (Nat.le_of_ble_eq_true rfl : 2 ≤ 9) (by omega) | exact Nat.le_trans (Nat.le_of_ble_eq_true rfl : 4 ≤ 9) (by omega)), by show _ ≤ 60 * (d + 1) + 240; (first | exact Nat.le_trans (Nat.le_of_ble_eq_true rfl : 120 ≤ 240) (by omega) | exact Nat.le_trans (Nat.le_of_ble_eq_true rfl : 201 ≤ 240) (by omega))⟩) ⟨jP_blind, jP_here hU2⟩ rfl rfl hl.1 rfl (lv_room (Nat.le_of_ble_eq_true rfl)) dJ0_charAt_5068e_12 ⟨Nat.zero_le _, Nat.zero_le _⟩) hS (fun _ h9 => h9) (fun _ h9 => h9) jQ_F (fun rv9 st0 t H1 locs1 z1 z2 hq hS => ?_)
    obtain ⟨e1, e2⟩ := hq
    cases e1
    obtain rfl : s.heap = H1 := by rw [← z2, e2, z1]
    exact W.widen (Nat.zero_le mc) (Nat.zero_le ms) (W.zret hx hb hr i5 (fun t ht _ => hq t _ hQ ht) hS.2.2 dJ0_charAt_5068e_15)
