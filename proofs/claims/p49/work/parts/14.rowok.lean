/-! EVERY ROW OF EVERY METHOD IS IN ORDER: a check by computation, with hints (places in lw_tbl, a switch's length) -/
/-- lw_tbl by its chunks -/
noncomputable def tbc (c : Nat) : List Jvm.Cond := match c with
  | 0 => (k2_sels lw_privs)
  | 1 => tables_1_1
  | 2 => tables_1_2
  | 3 => tables_1_3
  | 4 => tables_1_4
  | 5 => tables_1_5
  | 6 => tables_1_6
  | 7 => tables_1_7
  | 8 => tables_1_8
  | _ => []
theorem tbc_mem {w : Jvm.Cond} : ∀ {c : Nat}, w ∈ tbc c → w ∈ lw_tbl := by
  intro c h
  unfold lw_tbl tables_1
  simp only [List.mem_append]
  unfold tbc at h
  split at h <;> first | (simp only [h, true_or, or_true]; done) | cases h
/-- the word at a place: chunk * 1000 + where in it -/
noncomputable def atC (i : Nat) (w : Jvm.Cond) : Bool := decide ((tbc (i / 1000))[i % 1000]? = some w) && goodWord w
theorem atC_gw {w : Jvm.Cond} {i : Nat} (h : atC i w = true) : w ∈ GW := by
  unfold atC at h
  rw [Bool.and_eq_true, decide_eq_true_eq] at h
  exact List.mem_filter.mpr ⟨tbc_mem (List.mem_of_getElem? h.1), h.2⟩
theorem gwC {w : Jvm.Cond} (c k : Nat) (h : (tbc c)[k]? = some w) (g : goodWord w = true) : w ∈ GW := List.mem_filter.mpr ⟨tbc_mem (List.mem_of_getElem? h), g⟩
/-! DECODING by the bytes that an instruction is written as -/
theorem z_u1 {cc : ByteArray} {p b : Nat} (h : ∃ h : p < cc.size, cc[p].toNat = b) : (Reader.u1 : Decoder Nat) cc p = .ok (b, p + 1) := by
  obtain ⟨h1, h2⟩ := h
  show (dite (p < cc.size) _ _ : Decoder Nat) cc p = _
  rw [dif_pos h1, ← h2]
  rfl
theorem z_bnd {α β : Type} {x : Decoder α} {f : α → Decoder β} {cc : ByteArray} {p p' : Nat} {a : α} (h : x cc p = .ok (a, p')) : (x >>= f) cc p = f a cc p' := by
  show Except.bind (x cc p) (fun q => f q.1 cc q.2) = _
  rw [h]
  rfl
theorem z_dec {cc : ByteArray} {pc n : Nat} {i : Instr} (h : Decoder.instr pc cc pc = .ok (i, pc + n)) : decode cc pc = .ok (i, n) := by
  show Except.bind (Decoder.instr pc cc pc) _ = _
  rw [h]
  show Except.ok (i, pc + n - pc) = _
  rw [Nat.add_sub_cancel_left]
/-- the byte at p is b -/
noncomputable def bAt (cc : ByteArray) (p b : Nat) : Prop := ∃ h : p < cc.size, cc[p].toNat = b
theorem z_s1 {cc : ByteArray} {p b : Nat} (h : bAt cc p b) : (Reader.s1 : Decoder Int) cc p = .ok (Reader.signed 8 b, p + 1) := by
  show Except.map _ ((Reader.u1 : Decoder Nat) cc p) = _
  rw [z_u1 h]
  rfl
theorem z_u2 {cc : ByteArray} {p a b : Nat} (h : bAt cc p a) (h' : bAt cc (p + 1) b) : (Reader.u2 : Decoder Nat) cc p = .ok (a * 256 + b, p + 2) := by
  refine (z_bnd (z_u1 h)).trans ?_
  refine (z_bnd (z_u1 h')).trans ?_
  rfl
theorem z_s2 {cc : ByteArray} {p a b : Nat} (h : bAt cc p a) (h' : bAt cc (p + 1) b) : (Reader.s2 : Decoder Int) cc p = .ok (Reader.signed 16 (a * 256 + b), p + 2) := by
  show Except.map _ ((Reader.u2 : Decoder Nat) cc p) = _
  rw [z_u2 h h']
  rfl
noncomputable def bsAt (cc : ByteArray) (p : Nat) : List Nat → Prop
  | [] => True
  | b :: t => bAt cc p b ∧ bsAt cc (p + 1) t
noncomputable def e8 (k : Nat) (v : Int) : List Nat := if Reader.signed 8 (v % 256).toNat = v then [k, (v % 256).toNat] else []
noncomputable def e16 (k : Nat) (v : Int) : List Nat := if Reader.signed 16 ((v % 65536).toNat / 256 * 256 + (v % 65536).toNat % 256) = v then [k, (v % 65536).toNat / 256, (v % 65536).toNat % 256] else []
/-- the bytes of an instruction ([] where none are told) -/
noncomputable def enc (i : Instr) : List Nat := match i with
  | .ireturn => [172]
  | .iaload => [46]
  | .iadd => [96]
  | .iastore => [79]
  | .isub => [100]
  | .i2l => [133]
  | .dup => [89]
  | .pop => [87]
  | .return_ => [177]
  | .imul => [104]
  | .iand => [126]
  | .ishl => [120]
  | .irem => [112]
  | .lmul => [105]
  | .ior => [128]
  | .idiv => [108]
  | .dup2 => [92]
  | .baload => [51]
  | .aaload => [50]
  | .lcmp => [148]
  | .iushr => [124]
  | .ineg => [116]
  | .bastore => [84]
  | .ishr => [122]
  | .lreturn => [173]
  | .ldiv => [109]
  | .laload => [47]
  | .ixor => [130]
  | .ladd => [97]
  | .lastore => [80]
  | .lrem => [113]
  | .i2s => [147]
  | .i2b => [145]
  | .arraylength => [190]
  | .aastore => [83]
  | .l2i => [136]
  | .i2c => [146]
  | .castore => [85]
  | .caload => [52]
  | .areturn => [176]
  | .athrow => [191]
  | .aconst_null => [1]
  | .lsub => [101]
  | .lneg => [117]
  | .land => [127]
  | .lor => [129]
  | .lxor => [131]
  | .lshl => [121]
  | .lshr => [123]
  | .lushr => [125]
  | .pop2 => [88]
  | .dup_x1 => [90]
  | .dup_x2 => [91]
  | .aload_n k => [42 + k.val]
  | .iload_n k => [26 + k.val]
  | .istore_n k => [59 + k.val]
  | .astore_n k => [75 + k.val]
  | .lload_n k => [30 + k.val]
  | .lstore_n k => [63 + k.val]
  | .lconst k => [9 + k.val]
  | .iload k => [21, k]
  | .lload k => [22, k]
  | .aload k => [25, k]
  | .istore k => [54, k]
  | .lstore k => [55, k]
  | .astore k => [58, k]
  | .ldc k => [18, k]
  | .getfield k => [180, k / 256, k % 256]
  | .putfield k => [181, k / 256, k % 256]
  | .invokevirtual k => [182, k / 256, k % 256]
  | .invokespecial k => [183, k / 256, k % 256]
  | .invokestatic k => [184, k / 256, k % 256]
  | .new k => [187, k / 256, k % 256]
  | .anewarray k => [189, k / 256, k % 256]
  | .ldc_w k => [19, k / 256, k % 256]
  | .ldc2_w k => [20, k / 256, k % 256]
  | .iconst v => if -1 ≤ v ∧ v ≤ 5 then [(v + 3).toNat] else []
  | .bipush v => e8 16 v
  | .sipush v => e16 17 v
  | .goto v => e16 167 v
  | .iinc k v => if Reader.signed 8 (v % 256).toNat = v then [132, k, (v % 256).toNat] else []
  | .ifCond .eq v => e16 153 v
  | .ifCond .ne v => e16 154 v
  | .ifCond .lt v => e16 155 v
  | .ifCond .ge v => e16 156 v
  | .ifCond .gt v => e16 157 v
  | .ifCond .le v => e16 158 v
  | .if_icmp .eq v => e16 159 v
  | .if_icmp .ne v => e16 160 v
  | .if_icmp .lt v => e16 161 v
  | .if_icmp .ge v => e16 162 v
  | .if_icmp .gt v => e16 163 v
  | .if_icmp .le v => e16 164 v
  | .newarray .boolean => [188, 4]
  | .newarray .char => [188, 5]
  | .newarray .byte => [188, 8]
  | .newarray .short => [188, 9]
  | .newarray .int => [188, 10]
  | .newarray .long => [188, 11]
  | _ => []
section ENC
variable {cc : ByteArray} {pc : Nat}
theorem z_e8 {k : Nat} {v : Int} {f : Int → Instr} (h0 : e8 k v ≠ []) (h : bsAt cc pc (e8 k v)) (hk : ∀ b, bAt cc pc k → bAt cc (pc + 1) b → decode cc pc = .ok (f (Reader.signed 8 b), 2)) : decode cc pc = .ok (f v, 2) := by
  unfold e8 at h0 h
  by_cases c : Reader.signed 8 (v % 256).toNat = v
  · rw [if_pos c] at h
    have z := hk _ h.1 h.2.1
    rwa [c] at z
  · exact absurd (if_neg c) h0
theorem z_e16 {k : Nat} {v : Int} {f : Int → Instr} (h0 : e16 k v ≠ []) (h : bsAt cc pc (e16 k v)) (hk : ∀ a b, bAt cc pc k → bAt cc (pc + 1) a → bAt cc (pc + 1 + 1) b → decode cc pc = .ok (f (Reader.signed 16 (a * 256 + b)), 3)) : decode cc pc = .ok (f v, 3) := by
  unfold e16 at h0 h
  by_cases c : Reader.signed 16 ((v % 65536).toNat / 256 * 256 + (v % 65536).toNat % 256) = v
  · rw [if_pos c] at h
    have z := hk _ _ h.1 h.2.1 h.2.2.1
    rwa [c] at z
  · exact absurd (if_neg c) h0
theorem z_ireturn (h : bAt cc pc 172) : decode cc pc = .ok (.ireturn, 1) := z_dec ((z_bnd (z_u1 h)).trans rfl)
theorem z_iaload (h : bAt cc pc 46) : decode cc pc = .ok (.iaload, 1) := z_dec ((z_bnd (z_u1 h)).trans rfl)
theorem z_iadd (h : bAt cc pc 96) : decode cc pc = .ok (.iadd, 1) := z_dec ((z_bnd (z_u1 h)).trans rfl)
theorem z_iastore (h : bAt cc pc 79) : decode cc pc = .ok (.iastore, 1) := z_dec ((z_bnd (z_u1 h)).trans rfl)
theorem z_isub (h : bAt cc pc 100) : decode cc pc = .ok (.isub, 1) := z_dec ((z_bnd (z_u1 h)).trans rfl)
theorem z_i2l (h : bAt cc pc 133) : decode cc pc = .ok (.i2l, 1) := z_dec ((z_bnd (z_u1 h)).trans rfl)
theorem z_dup (h : bAt cc pc 89) : decode cc pc = .ok (.dup, 1) := z_dec ((z_bnd (z_u1 h)).trans rfl)
theorem z_pop (h : bAt cc pc 87) : decode cc pc = .ok (.pop, 1) := z_dec ((z_bnd (z_u1 h)).trans rfl)
theorem z_return_ (h : bAt cc pc 177) : decode cc pc = .ok (.return_, 1) := z_dec ((z_bnd (z_u1 h)).trans rfl)
theorem z_imul (h : bAt cc pc 104) : decode cc pc = .ok (.imul, 1) := z_dec ((z_bnd (z_u1 h)).trans rfl)
theorem z_iand (h : bAt cc pc 126) : decode cc pc = .ok (.iand, 1) := z_dec ((z_bnd (z_u1 h)).trans rfl)
theorem z_ishl (h : bAt cc pc 120) : decode cc pc = .ok (.ishl, 1) := z_dec ((z_bnd (z_u1 h)).trans rfl)
theorem z_irem (h : bAt cc pc 112) : decode cc pc = .ok (.irem, 1) := z_dec ((z_bnd (z_u1 h)).trans rfl)
theorem z_lmul (h : bAt cc pc 105) : decode cc pc = .ok (.lmul, 1) := z_dec ((z_bnd (z_u1 h)).trans rfl)
theorem z_ior (h : bAt cc pc 128) : decode cc pc = .ok (.ior, 1) := z_dec ((z_bnd (z_u1 h)).trans rfl)
theorem z_idiv (h : bAt cc pc 108) : decode cc pc = .ok (.idiv, 1) := z_dec ((z_bnd (z_u1 h)).trans rfl)
theorem z_dup2 (h : bAt cc pc 92) : decode cc pc = .ok (.dup2, 1) := z_dec ((z_bnd (z_u1 h)).trans rfl)
theorem z_baload (h : bAt cc pc 51) : decode cc pc = .ok (.baload, 1) := z_dec ((z_bnd (z_u1 h)).trans rfl)
theorem z_aaload (h : bAt cc pc 50) : decode cc pc = .ok (.aaload, 1) := z_dec ((z_bnd (z_u1 h)).trans rfl)
theorem z_lcmp (h : bAt cc pc 148) : decode cc pc = .ok (.lcmp, 1) := z_dec ((z_bnd (z_u1 h)).trans rfl)
theorem z_iushr (h : bAt cc pc 124) : decode cc pc = .ok (.iushr, 1) := z_dec ((z_bnd (z_u1 h)).trans rfl)
theorem z_ineg (h : bAt cc pc 116) : decode cc pc = .ok (.ineg, 1) := z_dec ((z_bnd (z_u1 h)).trans rfl)
theorem z_bastore (h : bAt cc pc 84) : decode cc pc = .ok (.bastore, 1) := z_dec ((z_bnd (z_u1 h)).trans rfl)
theorem z_ishr (h : bAt cc pc 122) : decode cc pc = .ok (.ishr, 1) := z_dec ((z_bnd (z_u1 h)).trans rfl)
theorem z_lreturn (h : bAt cc pc 173) : decode cc pc = .ok (.lreturn, 1) := z_dec ((z_bnd (z_u1 h)).trans rfl)
theorem z_ldiv (h : bAt cc pc 109) : decode cc pc = .ok (.ldiv, 1) := z_dec ((z_bnd (z_u1 h)).trans rfl)
theorem z_laload (h : bAt cc pc 47) : decode cc pc = .ok (.laload, 1) := z_dec ((z_bnd (z_u1 h)).trans rfl)
theorem z_ixor (h : bAt cc pc 130) : decode cc pc = .ok (.ixor, 1) := z_dec ((z_bnd (z_u1 h)).trans rfl)
theorem z_ladd (h : bAt cc pc 97) : decode cc pc = .ok (.ladd, 1) := z_dec ((z_bnd (z_u1 h)).trans rfl)
theorem z_lastore (h : bAt cc pc 80) : decode cc pc = .ok (.lastore, 1) := z_dec ((z_bnd (z_u1 h)).trans rfl)
theorem z_lrem (h : bAt cc pc 113) : decode cc pc = .ok (.lrem, 1) := z_dec ((z_bnd (z_u1 h)).trans rfl)
theorem z_i2s (h : bAt cc pc 147) : decode cc pc = .ok (.i2s, 1) := z_dec ((z_bnd (z_u1 h)).trans rfl)
theorem z_i2b (h : bAt cc pc 145) : decode cc pc = .ok (.i2b, 1) := z_dec ((z_bnd (z_u1 h)).trans rfl)
theorem z_arraylength (h : bAt cc pc 190) : decode cc pc = .ok (.arraylength, 1) := z_dec ((z_bnd (z_u1 h)).trans rfl)
theorem z_aastore (h : bAt cc pc 83) : decode cc pc = .ok (.aastore, 1) := z_dec ((z_bnd (z_u1 h)).trans rfl)
theorem z_l2i (h : bAt cc pc 136) : decode cc pc = .ok (.l2i, 1) := z_dec ((z_bnd (z_u1 h)).trans rfl)
theorem z_i2c (h : bAt cc pc 146) : decode cc pc = .ok (.i2c, 1) := z_dec ((z_bnd (z_u1 h)).trans rfl)
theorem z_castore (h : bAt cc pc 85) : decode cc pc = .ok (.castore, 1) := z_dec ((z_bnd (z_u1 h)).trans rfl)
theorem z_caload (h : bAt cc pc 52) : decode cc pc = .ok (.caload, 1) := z_dec ((z_bnd (z_u1 h)).trans rfl)
theorem z_areturn (h : bAt cc pc 176) : decode cc pc = .ok (.areturn, 1) := z_dec ((z_bnd (z_u1 h)).trans rfl)
theorem z_athrow (h : bAt cc pc 191) : decode cc pc = .ok (.athrow, 1) := z_dec ((z_bnd (z_u1 h)).trans rfl)
theorem z_aconst_null (h : bAt cc pc 1) : decode cc pc = .ok (.aconst_null, 1) := z_dec ((z_bnd (z_u1 h)).trans rfl)
theorem z_lsub (h : bAt cc pc 101) : decode cc pc = .ok (.lsub, 1) := z_dec ((z_bnd (z_u1 h)).trans rfl)
theorem z_lneg (h : bAt cc pc 117) : decode cc pc = .ok (.lneg, 1) := z_dec ((z_bnd (z_u1 h)).trans rfl)
theorem z_land (h : bAt cc pc 127) : decode cc pc = .ok (.land, 1) := z_dec ((z_bnd (z_u1 h)).trans rfl)
theorem z_lor (h : bAt cc pc 129) : decode cc pc = .ok (.lor, 1) := z_dec ((z_bnd (z_u1 h)).trans rfl)
theorem z_lxor (h : bAt cc pc 131) : decode cc pc = .ok (.lxor, 1) := z_dec ((z_bnd (z_u1 h)).trans rfl)
theorem z_lshl (h : bAt cc pc 121) : decode cc pc = .ok (.lshl, 1) := z_dec ((z_bnd (z_u1 h)).trans rfl)
theorem z_lshr (h : bAt cc pc 123) : decode cc pc = .ok (.lshr, 1) := z_dec ((z_bnd (z_u1 h)).trans rfl)
theorem z_lushr (h : bAt cc pc 125) : decode cc pc = .ok (.lushr, 1) := z_dec ((z_bnd (z_u1 h)).trans rfl)
theorem z_pop2 (h : bAt cc pc 88) : decode cc pc = .ok (.pop2, 1) := z_dec ((z_bnd (z_u1 h)).trans rfl)
theorem z_dup_x1 (h : bAt cc pc 90) : decode cc pc = .ok (.dup_x1, 1) := z_dec ((z_bnd (z_u1 h)).trans rfl)
theorem z_dup_x2 (h : bAt cc pc 91) : decode cc pc = .ok (.dup_x2, 1) := z_dec ((z_bnd (z_u1 h)).trans rfl)
theorem z_aload_n (k : Fin 4) (h : bAt cc pc (42 + k.val)) : decode cc pc = .ok (.aload_n k, 1) := by
  match k, h with
  | 0, h => exact z_dec ((z_bnd (z_u1 h)).trans rfl)
  | 1, h => exact z_dec ((z_bnd (z_u1 h)).trans rfl)
  | 2, h => exact z_dec ((z_bnd (z_u1 h)).trans rfl)
  | 3, h => exact z_dec ((z_bnd (z_u1 h)).trans rfl)
theorem z_iload_n (k : Fin 4) (h : bAt cc pc (26 + k.val)) : decode cc pc = .ok (.iload_n k, 1) := by
  match k, h with
  | 0, h => exact z_dec ((z_bnd (z_u1 h)).trans rfl)
  | 1, h => exact z_dec ((z_bnd (z_u1 h)).trans rfl)
  | 2, h => exact z_dec ((z_bnd (z_u1 h)).trans rfl)
  | 3, h => exact z_dec ((z_bnd (z_u1 h)).trans rfl)
theorem z_istore_n (k : Fin 4) (h : bAt cc pc (59 + k.val)) : decode cc pc = .ok (.istore_n k, 1) := by
  match k, h with
  | 0, h => exact z_dec ((z_bnd (z_u1 h)).trans rfl)
  | 1, h => exact z_dec ((z_bnd (z_u1 h)).trans rfl)
  | 2, h => exact z_dec ((z_bnd (z_u1 h)).trans rfl)
  | 3, h => exact z_dec ((z_bnd (z_u1 h)).trans rfl)
theorem z_astore_n (k : Fin 4) (h : bAt cc pc (75 + k.val)) : decode cc pc = .ok (.astore_n k, 1) := by
  match k, h with
  | 0, h => exact z_dec ((z_bnd (z_u1 h)).trans rfl)
  | 1, h => exact z_dec ((z_bnd (z_u1 h)).trans rfl)
  | 2, h => exact z_dec ((z_bnd (z_u1 h)).trans rfl)
  | 3, h => exact z_dec ((z_bnd (z_u1 h)).trans rfl)
theorem z_lload_n (k : Fin 4) (h : bAt cc pc (30 + k.val)) : decode cc pc = .ok (.lload_n k, 1) := by
  match k, h with
  | 0, h => exact z_dec ((z_bnd (z_u1 h)).trans rfl)
  | 1, h => exact z_dec ((z_bnd (z_u1 h)).trans rfl)
  | 2, h => exact z_dec ((z_bnd (z_u1 h)).trans rfl)
  | 3, h => exact z_dec ((z_bnd (z_u1 h)).trans rfl)
theorem z_lstore_n (k : Fin 4) (h : bAt cc pc (63 + k.val)) : decode cc pc = .ok (.lstore_n k, 1) := by
  match k, h with
  | 0, h => exact z_dec ((z_bnd (z_u1 h)).trans rfl)
  | 1, h => exact z_dec ((z_bnd (z_u1 h)).trans rfl)
  | 2, h => exact z_dec ((z_bnd (z_u1 h)).trans rfl)
  | 3, h => exact z_dec ((z_bnd (z_u1 h)).trans rfl)
theorem z_lconst (k : Fin 2) (h : bAt cc pc (9 + k.val)) : decode cc pc = .ok (.lconst k, 1) := by
  match k, h with
  | 0, h => exact z_dec ((z_bnd (z_u1 h)).trans rfl)
  | 1, h => exact z_dec ((z_bnd (z_u1 h)).trans rfl)
theorem z_iload {k : Nat} (h : bAt cc pc 21) (h1 : bAt cc (pc + 1) k) : decode cc pc = .ok (.iload k, 2) := z_dec ((z_bnd (z_u1 h)).trans ((z_bnd (z_u1 h1)).trans rfl))
theorem z_lload {k : Nat} (h : bAt cc pc 22) (h1 : bAt cc (pc + 1) k) : decode cc pc = .ok (.lload k, 2) := z_dec ((z_bnd (z_u1 h)).trans ((z_bnd (z_u1 h1)).trans rfl))
theorem z_aload {k : Nat} (h : bAt cc pc 25) (h1 : bAt cc (pc + 1) k) : decode cc pc = .ok (.aload k, 2) := z_dec ((z_bnd (z_u1 h)).trans ((z_bnd (z_u1 h1)).trans rfl))
theorem z_istore {k : Nat} (h : bAt cc pc 54) (h1 : bAt cc (pc + 1) k) : decode cc pc = .ok (.istore k, 2) := z_dec ((z_bnd (z_u1 h)).trans ((z_bnd (z_u1 h1)).trans rfl))
theorem z_lstore {k : Nat} (h : bAt cc pc 55) (h1 : bAt cc (pc + 1) k) : decode cc pc = .ok (.lstore k, 2) := z_dec ((z_bnd (z_u1 h)).trans ((z_bnd (z_u1 h1)).trans rfl))
theorem z_astore {k : Nat} (h : bAt cc pc 58) (h1 : bAt cc (pc + 1) k) : decode cc pc = .ok (.astore k, 2) := z_dec ((z_bnd (z_u1 h)).trans ((z_bnd (z_u1 h1)).trans rfl))
theorem z_ldc {k : Nat} (h : bAt cc pc 18) (h1 : bAt cc (pc + 1) k) : decode cc pc = .ok (.ldc k, 2) := z_dec ((z_bnd (z_u1 h)).trans ((z_bnd (z_u1 h1)).trans rfl))
theorem z_getfield {k : Nat} (h : bAt cc pc 180) (h1 : bAt cc (pc + 1) (k / 256)) (h2 : bAt cc (pc + 1 + 1) (k % 256)) : decode cc pc = .ok (.getfield k, 3) := by
  have z : decode cc pc = .ok (.getfield (k / 256 * 256 + k % 256), 3) := z_dec ((z_bnd (z_u1 h)).trans ((z_bnd (z_u2 h1 h2)).trans rfl))
  rwa [Nat.div_add_mod' k 256] at z
theorem z_putfield {k : Nat} (h : bAt cc pc 181) (h1 : bAt cc (pc + 1) (k / 256)) (h2 : bAt cc (pc + 1 + 1) (k % 256)) : decode cc pc = .ok (.putfield k, 3) := by
  have z : decode cc pc = .ok (.putfield (k / 256 * 256 + k % 256), 3) := z_dec ((z_bnd (z_u1 h)).trans ((z_bnd (z_u2 h1 h2)).trans rfl))
  rwa [Nat.div_add_mod' k 256] at z
theorem z_invokevirtual {k : Nat} (h : bAt cc pc 182) (h1 : bAt cc (pc + 1) (k / 256)) (h2 : bAt cc (pc + 1 + 1) (k % 256)) : decode cc pc = .ok (.invokevirtual k, 3) := by
  have z : decode cc pc = .ok (.invokevirtual (k / 256 * 256 + k % 256), 3) := z_dec ((z_bnd (z_u1 h)).trans ((z_bnd (z_u2 h1 h2)).trans rfl))
  rwa [Nat.div_add_mod' k 256] at z
theorem z_invokespecial {k : Nat} (h : bAt cc pc 183) (h1 : bAt cc (pc + 1) (k / 256)) (h2 : bAt cc (pc + 1 + 1) (k % 256)) : decode cc pc = .ok (.invokespecial k, 3) := by
  have z : decode cc pc = .ok (.invokespecial (k / 256 * 256 + k % 256), 3) := z_dec ((z_bnd (z_u1 h)).trans ((z_bnd (z_u2 h1 h2)).trans rfl))
  rwa [Nat.div_add_mod' k 256] at z
theorem z_invokestatic {k : Nat} (h : bAt cc pc 184) (h1 : bAt cc (pc + 1) (k / 256)) (h2 : bAt cc (pc + 1 + 1) (k % 256)) : decode cc pc = .ok (.invokestatic k, 3) := by
  have z : decode cc pc = .ok (.invokestatic (k / 256 * 256 + k % 256), 3) := z_dec ((z_bnd (z_u1 h)).trans ((z_bnd (z_u2 h1 h2)).trans rfl))
  rwa [Nat.div_add_mod' k 256] at z
theorem z_new {k : Nat} (h : bAt cc pc 187) (h1 : bAt cc (pc + 1) (k / 256)) (h2 : bAt cc (pc + 1 + 1) (k % 256)) : decode cc pc = .ok (.new k, 3) := by
  have z : decode cc pc = .ok (.new (k / 256 * 256 + k % 256), 3) := z_dec ((z_bnd (z_u1 h)).trans ((z_bnd (z_u2 h1 h2)).trans rfl))
  rwa [Nat.div_add_mod' k 256] at z
theorem z_anewarray {k : Nat} (h : bAt cc pc 189) (h1 : bAt cc (pc + 1) (k / 256)) (h2 : bAt cc (pc + 1 + 1) (k % 256)) : decode cc pc = .ok (.anewarray k, 3) := by
  have z : decode cc pc = .ok (.anewarray (k / 256 * 256 + k % 256), 3) := z_dec ((z_bnd (z_u1 h)).trans ((z_bnd (z_u2 h1 h2)).trans rfl))
  rwa [Nat.div_add_mod' k 256] at z
theorem z_ldc_w {k : Nat} (h : bAt cc pc 19) (h1 : bAt cc (pc + 1) (k / 256)) (h2 : bAt cc (pc + 1 + 1) (k % 256)) : decode cc pc = .ok (.ldc_w k, 3) := by
  have z : decode cc pc = .ok (.ldc_w (k / 256 * 256 + k % 256), 3) := z_dec ((z_bnd (z_u1 h)).trans ((z_bnd (z_u2 h1 h2)).trans rfl))
  rwa [Nat.div_add_mod' k 256] at z
theorem z_ldc2_w {k : Nat} (h : bAt cc pc 20) (h1 : bAt cc (pc + 1) (k / 256)) (h2 : bAt cc (pc + 1 + 1) (k % 256)) : decode cc pc = .ok (.ldc2_w k, 3) := by
  have z : decode cc pc = .ok (.ldc2_w (k / 256 * 256 + k % 256), 3) := z_dec ((z_bnd (z_u1 h)).trans ((z_bnd (z_u2 h1 h2)).trans rfl))
  rwa [Nat.div_add_mod' k 256] at z
theorem z_iconst {v : Int} (hv : -1 ≤ v ∧ v ≤ 5) (h : bAt cc pc (v + 3).toNat) : decode cc pc = .ok (.iconst v, 1) := by
  have e : v = -1 ∨ v = 0 ∨ v = 1 ∨ v = 2 ∨ v = 3 ∨ v = 4 ∨ v = 5 := by omega
  rcases e with rfl | rfl | rfl | rfl | rfl | rfl | rfl <;> exact z_dec ((z_bnd (z_u1 h)).trans rfl)
theorem z_bipush (b : Nat) (h : bAt cc pc 16) (h1 : bAt cc (pc + 1) b) : decode cc pc = .ok (.bipush (Reader.signed 8 b), 2) := z_dec ((z_bnd (z_u1 h)).trans ((z_bnd (z_s1 h1)).trans rfl))
theorem z_sipush (a b : Nat) (h : bAt cc pc 17) (h1 : bAt cc (pc + 1) a) (h2 : bAt cc (pc + 1 + 1) b) : decode cc pc = .ok (.sipush (Reader.signed 16 (a * 256 + b)), 3) := z_dec ((z_bnd (z_u1 h)).trans ((z_bnd (z_s2 h1 h2)).trans rfl))
theorem z_goto (a b : Nat) (h : bAt cc pc 167) (h1 : bAt cc (pc + 1) a) (h2 : bAt cc (pc + 1 + 1) b) : decode cc pc = .ok (.goto (Reader.signed 16 (a * 256 + b)), 3) := z_dec ((z_bnd (z_u1 h)).trans ((z_bnd (z_s2 h1 h2)).trans rfl))
theorem z_ifCond_eq (a b : Nat) (h : bAt cc pc 153) (h1 : bAt cc (pc + 1) a) (h2 : bAt cc (pc + 1 + 1) b) : decode cc pc = .ok (.ifCond .eq (Reader.signed 16 (a * 256 + b)), 3) := z_dec ((z_bnd (z_u1 h)).trans ((z_bnd (z_s2 h1 h2)).trans rfl))
theorem z_ifCond_ne (a b : Nat) (h : bAt cc pc 154) (h1 : bAt cc (pc + 1) a) (h2 : bAt cc (pc + 1 + 1) b) : decode cc pc = .ok (.ifCond .ne (Reader.signed 16 (a * 256 + b)), 3) := z_dec ((z_bnd (z_u1 h)).trans ((z_bnd (z_s2 h1 h2)).trans rfl))
theorem z_ifCond_lt (a b : Nat) (h : bAt cc pc 155) (h1 : bAt cc (pc + 1) a) (h2 : bAt cc (pc + 1 + 1) b) : decode cc pc = .ok (.ifCond .lt (Reader.signed 16 (a * 256 + b)), 3) := z_dec ((z_bnd (z_u1 h)).trans ((z_bnd (z_s2 h1 h2)).trans rfl))
theorem z_ifCond_ge (a b : Nat) (h : bAt cc pc 156) (h1 : bAt cc (pc + 1) a) (h2 : bAt cc (pc + 1 + 1) b) : decode cc pc = .ok (.ifCond .ge (Reader.signed 16 (a * 256 + b)), 3) := z_dec ((z_bnd (z_u1 h)).trans ((z_bnd (z_s2 h1 h2)).trans rfl))
theorem z_ifCond_gt (a b : Nat) (h : bAt cc pc 157) (h1 : bAt cc (pc + 1) a) (h2 : bAt cc (pc + 1 + 1) b) : decode cc pc = .ok (.ifCond .gt (Reader.signed 16 (a * 256 + b)), 3) := z_dec ((z_bnd (z_u1 h)).trans ((z_bnd (z_s2 h1 h2)).trans rfl))
theorem z_ifCond_le (a b : Nat) (h : bAt cc pc 158) (h1 : bAt cc (pc + 1) a) (h2 : bAt cc (pc + 1 + 1) b) : decode cc pc = .ok (.ifCond .le (Reader.signed 16 (a * 256 + b)), 3) := z_dec ((z_bnd (z_u1 h)).trans ((z_bnd (z_s2 h1 h2)).trans rfl))
theorem z_if_icmp_eq (a b : Nat) (h : bAt cc pc 159) (h1 : bAt cc (pc + 1) a) (h2 : bAt cc (pc + 1 + 1) b) : decode cc pc = .ok (.if_icmp .eq (Reader.signed 16 (a * 256 + b)), 3) := z_dec ((z_bnd (z_u1 h)).trans ((z_bnd (z_s2 h1 h2)).trans rfl))
theorem z_if_icmp_ne (a b : Nat) (h : bAt cc pc 160) (h1 : bAt cc (pc + 1) a) (h2 : bAt cc (pc + 1 + 1) b) : decode cc pc = .ok (.if_icmp .ne (Reader.signed 16 (a * 256 + b)), 3) := z_dec ((z_bnd (z_u1 h)).trans ((z_bnd (z_s2 h1 h2)).trans rfl))
theorem z_if_icmp_lt (a b : Nat) (h : bAt cc pc 161) (h1 : bAt cc (pc + 1) a) (h2 : bAt cc (pc + 1 + 1) b) : decode cc pc = .ok (.if_icmp .lt (Reader.signed 16 (a * 256 + b)), 3) := z_dec ((z_bnd (z_u1 h)).trans ((z_bnd (z_s2 h1 h2)).trans rfl))
theorem z_if_icmp_ge (a b : Nat) (h : bAt cc pc 162) (h1 : bAt cc (pc + 1) a) (h2 : bAt cc (pc + 1 + 1) b) : decode cc pc = .ok (.if_icmp .ge (Reader.signed 16 (a * 256 + b)), 3) := z_dec ((z_bnd (z_u1 h)).trans ((z_bnd (z_s2 h1 h2)).trans rfl))
theorem z_if_icmp_gt (a b : Nat) (h : bAt cc pc 163) (h1 : bAt cc (pc + 1) a) (h2 : bAt cc (pc + 1 + 1) b) : decode cc pc = .ok (.if_icmp .gt (Reader.signed 16 (a * 256 + b)), 3) := z_dec ((z_bnd (z_u1 h)).trans ((z_bnd (z_s2 h1 h2)).trans rfl))
theorem z_if_icmp_le (a b : Nat) (h : bAt cc pc 164) (h1 : bAt cc (pc + 1) a) (h2 : bAt cc (pc + 1 + 1) b) : decode cc pc = .ok (.if_icmp .le (Reader.signed 16 (a * 256 + b)), 3) := z_dec ((z_bnd (z_u1 h)).trans ((z_bnd (z_s2 h1 h2)).trans rfl))
theorem z_iinc {k b : Nat} (h : bAt cc pc 132) (h1 : bAt cc (pc + 1) k) (h2 : bAt cc (pc + 1 + 1) b) : decode cc pc = .ok (.iinc k (Reader.signed 8 b), 3) := z_dec ((z_bnd (z_u1 h)).trans ((z_bnd (z_u1 h1)).trans ((z_bnd (z_s1 h2)).trans rfl)))
theorem z_na_boolean (h : bAt cc pc 188) (h1 : bAt cc (pc + 1) 4) : decode cc pc = .ok (.newarray .boolean, 2) := z_dec ((z_bnd (z_u1 h)).trans ((z_bnd (z_u1 h1)).trans rfl))
theorem z_na_char (h : bAt cc pc 188) (h1 : bAt cc (pc + 1) 5) : decode cc pc = .ok (.newarray .char, 2) := z_dec ((z_bnd (z_u1 h)).trans ((z_bnd (z_u1 h1)).trans rfl))
theorem z_na_byte (h : bAt cc pc 188) (h1 : bAt cc (pc + 1) 8) : decode cc pc = .ok (.newarray .byte, 2) := z_dec ((z_bnd (z_u1 h)).trans ((z_bnd (z_u1 h1)).trans rfl))
theorem z_na_short (h : bAt cc pc 188) (h1 : bAt cc (pc + 1) 9) : decode cc pc = .ok (.newarray .short, 2) := z_dec ((z_bnd (z_u1 h)).trans ((z_bnd (z_u1 h1)).trans rfl))
theorem z_na_int (h : bAt cc pc 188) (h1 : bAt cc (pc + 1) 10) : decode cc pc = .ok (.newarray .int, 2) := z_dec ((z_bnd (z_u1 h)).trans ((z_bnd (z_u1 h1)).trans rfl))
theorem z_na_long (h : bAt cc pc 188) (h1 : bAt cc (pc + 1) 11) : decode cc pc = .ok (.newarray .long, 2) := z_dec ((z_bnd (z_u1 h)).trans ((z_bnd (z_u1 h1)).trans rfl))
theorem enc_ok {i : Instr} (h0 : enc i ≠ []) (h : bsAt cc pc (enc i)) : decode cc pc = .ok (i, lenI i) := by
  cases i with
  | ireturn => exact z_ireturn h.1
  | iaload => exact z_iaload h.1
  | iadd => exact z_iadd h.1
  | iastore => exact z_iastore h.1
  | isub => exact z_isub h.1
  | i2l => exact z_i2l h.1
  | dup => exact z_dup h.1
  | pop => exact z_pop h.1
  | return_ => exact z_return_ h.1
  | imul => exact z_imul h.1
  | iand => exact z_iand h.1
  | ishl => exact z_ishl h.1
  | irem => exact z_irem h.1
  | lmul => exact z_lmul h.1
  | ior => exact z_ior h.1
  | idiv => exact z_idiv h.1
  | dup2 => exact z_dup2 h.1
  | baload => exact z_baload h.1
  | aaload => exact z_aaload h.1
  | lcmp => exact z_lcmp h.1
  | iushr => exact z_iushr h.1
  | ineg => exact z_ineg h.1
  | bastore => exact z_bastore h.1
  | ishr => exact z_ishr h.1
  | lreturn => exact z_lreturn h.1
  | ldiv => exact z_ldiv h.1
  | laload => exact z_laload h.1
  | ixor => exact z_ixor h.1
  | ladd => exact z_ladd h.1
  | lastore => exact z_lastore h.1
  | lrem => exact z_lrem h.1
  | i2s => exact z_i2s h.1
  | i2b => exact z_i2b h.1
  | arraylength => exact z_arraylength h.1
  | aastore => exact z_aastore h.1
  | l2i => exact z_l2i h.1
  | i2c => exact z_i2c h.1
  | castore => exact z_castore h.1
  | caload => exact z_caload h.1
  | areturn => exact z_areturn h.1
  | athrow => exact z_athrow h.1
  | aconst_null => exact z_aconst_null h.1
  | lsub => exact z_lsub h.1
  | lneg => exact z_lneg h.1
  | land => exact z_land h.1
  | lor => exact z_lor h.1
  | lxor => exact z_lxor h.1
  | lshl => exact z_lshl h.1
  | lshr => exact z_lshr h.1
  | lushr => exact z_lushr h.1
  | pop2 => exact z_pop2 h.1
  | dup_x1 => exact z_dup_x1 h.1
  | dup_x2 => exact z_dup_x2 h.1
  | aload_n k => exact z_aload_n k h.1
  | iload_n k => exact z_iload_n k h.1
  | istore_n k => exact z_istore_n k h.1
  | astore_n k => exact z_astore_n k h.1
  | lload_n k => exact z_lload_n k h.1
  | lstore_n k => exact z_lstore_n k h.1
  | lconst k => exact z_lconst k h.1
  | iload k => exact z_iload h.1 h.2.1
  | lload k => exact z_lload h.1 h.2.1
  | aload k => exact z_aload h.1 h.2.1
  | istore k => exact z_istore h.1 h.2.1
  | lstore k => exact z_lstore h.1 h.2.1
  | astore k => exact z_astore h.1 h.2.1
  | ldc k => exact z_ldc h.1 h.2.1
  | getfield k => exact z_getfield h.1 h.2.1 h.2.2.1
  | putfield k => exact z_putfield h.1 h.2.1 h.2.2.1
  | invokevirtual k => exact z_invokevirtual h.1 h.2.1 h.2.2.1
  | invokespecial k => exact z_invokespecial h.1 h.2.1 h.2.2.1
  | invokestatic k => exact z_invokestatic h.1 h.2.1 h.2.2.1
  | new k => exact z_new h.1 h.2.1 h.2.2.1
  | anewarray k => exact z_anewarray h.1 h.2.1 h.2.2.1
  | ldc_w k => exact z_ldc_w h.1 h.2.1 h.2.2.1
  | ldc2_w k => exact z_ldc2_w h.1 h.2.1 h.2.2.1
  | iconst v =>
    by_cases c : -1 ≤ v ∧ v ≤ 5
    · have h2 : bsAt cc pc (if -1 ≤ v ∧ v ≤ 5 then [(v + 3).toNat] else []) := h
      rw [if_pos c] at h2
      exact z_iconst c h2.1
    · exact absurd (show enc (.iconst v) = [] from if_neg c) h0
  | bipush v => exact z_e8 (f := .bipush) h0 h z_bipush
  | sipush v => exact z_e16 (f := .sipush) h0 h z_sipush
  | goto v => exact z_e16 (f := .goto) h0 h z_goto
  | iinc k v =>
    by_cases c : Reader.signed 8 (v % 256).toNat = v
    · have h2 : bsAt cc pc (if Reader.signed 8 (v % 256).toNat = v then [132, k, (v % 256).toNat] else []) := h
      rw [if_pos c] at h2
      have z := z_iinc h2.1 h2.2.1 h2.2.2.1
      rwa [c] at z
    · exact absurd (show enc (.iinc k v) = [] from if_neg c) h0
  | ifCond c v =>
    cases c with
    | eq => exact z_e16 (f := .ifCond .eq) h0 h z_ifCond_eq
    | ne => exact z_e16 (f := .ifCond .ne) h0 h z_ifCond_ne
    | lt => exact z_e16 (f := .ifCond .lt) h0 h z_ifCond_lt
    | ge => exact z_e16 (f := .ifCond .ge) h0 h z_ifCond_ge
    | gt => exact z_e16 (f := .ifCond .gt) h0 h z_ifCond_gt
    | le => exact z_e16 (f := .ifCond .le) h0 h z_ifCond_le
  | if_icmp c v =>
    cases c with
    | eq => exact z_e16 (f := .if_icmp .eq) h0 h z_if_icmp_eq
    | ne => exact z_e16 (f := .if_icmp .ne) h0 h z_if_icmp_ne
    | lt => exact z_e16 (f := .if_icmp .lt) h0 h z_if_icmp_lt
    | ge => exact z_e16 (f := .if_icmp .ge) h0 h z_if_icmp_ge
    | gt => exact z_e16 (f := .if_icmp .gt) h0 h z_if_icmp_gt
    | le => exact z_e16 (f := .if_icmp .le) h0 h z_if_icmp_le
  | newarray t =>
    cases t with
    | boolean => exact z_na_boolean h.1 h.2.1
    | char => exact z_na_char h.1 h.2.1
    | byte => exact z_na_byte h.1 h.2.1
    | short => exact z_na_short h.1 h.2.1
    | int => exact z_na_int h.1 h.2.1
    | long => exact z_na_long h.1 h.2.1
    | _ => exact absurd rfl h0
  | _ => exact absurd rfl h0
end ENC
noncomputable def gI0 (hs : List Nat) (k : Nat) : Nat := hs.getD k 0
noncomputable def lenB (cc : ByteArray) (pc : Nat) (i : Instr) (h : Nat) : Bool := match isSw i with
  | true => decide (decode cc pc = .ok (i, h))
  | false => decide (decode cc pc = .ok (i, lenI i))
noncomputable def cfxB (own : String) (isI : Bool) (pc : Nat) (i : Instr) (r1 r2 : Nat) (r3 : Int) (hs : List Nat) : Bool := match i with
  | .getfield idx => Nat.blt r1 12 && Nat.blt r2 (nf r1) && decide (r3 = (fkd r1 r2 : Int)) && atC (gI0 hs 0) (Jvm.Cond.fieldLink own idx (wdC r1 r2).1 (wdC r1 r2).2.1 (wdC r1 r2).2.2.1)
  | .putfield idx => Nat.blt r1 12 && Nat.blt r2 (nf r1) && decide (r3 = (fkd r1 r2 : Int)) && atC (gI0 hs 0) (Jvm.Cond.fieldLink own idx (wdC r1 r2).1 (wdC r1 r2).2.1 (wdC r1 r2).2.2.1) && (decide ((wdC r1 r2).2.2.2 = false) || (isI && decide ((wdC r1 r2).1 = own)))
  | .ldc idx => if Nat.beq r1 0 then atC (gI0 hs 0) (Jvm.Cond.constant own idx (Int32.ofInt r3)) else (Nat.beq r1 1 && Nat.blt r2 6 && decide (own = RX11) && decide (sidx.getD r2 0 = idx))
  | .ldc_w idx => if Nat.beq r1 0 then atC (gI0 hs 0) (Jvm.Cond.constant own idx (Int32.ofInt r3)) else (Nat.beq r1 1 && Nat.blt r2 6 && decide (own = RX11) && decide (sidx.getD r2 0 = idx))
  | .ldc2_w idx => atC (gI0 hs 0) (Jvm.Cond.constantLong own idx (Int64.ofInt r3))
  | .new idx => atC (gI0 hs 0) (Jvm.Cond.classLink own idx (wdN r1)) && atC (gI0 hs 1) (Jvm.Cond.instantiable (wdN r1) (nf r1)) && atC (gI0 hs 2) (Jvm.Cond.initialized (wdN r1))
  | .newarray at_ => Nat.blt r1 4 && decide (fty r1 = newarray.typeOf at_) && atC (gI0 hs 0) (Jvm.Cond.arrayClass (newarray.typeOf at_))
  | .anewarray idx => atC (gI0 hs 0) (Jvm.Cond.classLink own idx RX8)
  | .multianewarray idx d => decide (d = 2) && (Nat.beq r1 5 || Nat.beq r1 6) && atC (gI0 hs 0) (Jvm.Cond.classLink own idx ("[" ++ (FieldType.array (fty (r1 - 5))).toString)) && atC (gI0 hs 1) (Jvm.Cond.arrayClass (fty (r1 - 5)))
  | .ifCond _ off => decide (0 ≤ (pc : Int) + off)
  | .if_icmp _ off => decide (0 ≤ (pc : Int) + off)
  | .goto off => decide (0 ≤ (pc : Int) + off)
  | .tableswitch dflt lo hi offs => decide (hi = lo + offs.size - 1) && decide (0 ≤ (pc : Int) + dflt) && offs.toList.all fun o => decide (0 ≤ (pc : Int) + o)
  | .lookupswitch dflt ps => (ps.toList.zip (ps.toList.drop 1)).all (fun (a, next) => a.1 < next.1) && decide (0 ≤ (pc : Int) + dflt) && ps.toList.all fun o => decide (0 ≤ (pc : Int) + o.2)
  | _ => true
noncomputable def cfcB (own : String) (k idx : Nat) (r1 r2 : Nat) (r3 : Int) (hs : List Nat) : Bool := match r2 with
  | 10 => Nat.beq k 2 && atC (gI0 hs 0) (Jvm.Cond.methodLink own idx Lib.Math.max.name)
  | 11 => Nat.beq k 2 && atC (gI0 hs 0) (Jvm.Cond.methodLink own idx Lib.Math.min.name)
  | 12 => Nat.beq k 2 && atC (gI0 hs 0) (Jvm.Cond.methodLink own idx Lib.Math.abs.name)
  | 13 => Nat.beq k 2 && atC (gI0 hs 0) (Jvm.Cond.methodLink own idx arraycopyName)
  | 14 => Nat.beq k 1 && atC (gI0 hs 0) (Jvm.Cond.methodLink own idx objectInit)
  | 0 => match mtab[r1]? with
    | some mi => Nat.beq k 0 && atC (gI0 hs 0) (Jvm.Cond.methodLink own idx mi.1) && atC (gI0 hs 1) (Jvm.Cond.instanceMethod mi.1) && atC (gI0 hs 2) (Jvm.Cond.selects mi.1.cls mi.1 mi.1) && Nat.blt (r3 / 100).toNat 12 && decide (mi.1.cls = wdN (r3 / 100).toNat) && minst.getD r1 false && Nat.beq (r3 % 100).toNat mi.2.2.2.2.2.2
    | none => false
  | 5 => match mtab[r1]? with
    | some mi => Nat.beq k 0 && atC (gI0 hs 0) (Jvm.Cond.methodLink own idx mi.1) && atC (gI0 hs 1) (Jvm.Cond.instanceMethod mi.1) && atC (gI0 hs 2) (Jvm.Cond.selects mi.1.cls mi.1 mi.1) && decide (mi.1.cls = "java/lang/String") && minst.getD r1 false && Nat.beq (r3 % 100).toNat mi.2.2.2.2.2.2
    | none => false
  | 1 => match mtab[r1]? with
    | some mi => Nat.beq k 2 && atC (gI0 hs 0) (Jvm.Cond.methodLink own idx mi.1) && atC (gI0 hs 1) (Jvm.Cond.static mi.1) && !(minst.getD r1 false) && Nat.beq (r3 % 100).toNat mi.2.2.2.2.2.2
    | none => false
  | 3 => match mtab[r1]? with
    | some mi => Nat.beq k 2 && decide (Jvm.Cond.methodLinkNest own idx mi.1 RX10 ∈ nestW) && atC (gI0 hs 1) (Jvm.Cond.static mi.1) && !(minst.getD r1 false) && Nat.beq (r3 % 100).toNat mi.2.2.2.2.2.2
    | none => false
  | 2 => match mtab[r1]? with
    | some mi => Nat.beq k 1 && atC (gI0 hs 0) (Jvm.Cond.methodLink own idx mi.1) && atC (gI0 hs 1) (Jvm.Cond.instanceMethod mi.1) && decide (mi.1.name = "<init>") && decide (mi.2.2.2.1 = none) && minst.getD r1 false && Nat.beq (r3 % 100).toNat mi.2.2.2.2.2.2
    | none => false
  | 4 => match mtab[r1]? with
    | some mi => Nat.beq k 1 && decide (Jvm.Cond.methodLinkNest own idx mi.1 RX10 ∈ nestW) && atC (gI0 hs 1) (Jvm.Cond.instanceMethod mi.1) && decide (mi.1.name = "<init>") && decide (mi.2.2.2.1 = none) && minst.getD r1 false && Nat.beq (r3 % 100).toNat mi.2.2.2.2.2.2
    | none => false
  | _ => false
noncomputable def thB (own : String) (nL : Nat) (i : Instr) (r1 r2 : Nat) (r3 : Int) (hs : List Nat) : Bool := match i with
  | .invokevirtual idx => cfcB own 0 idx r1 r2 r3 hs
  | .invokespecial idx => cfcB own 1 idx r1 r2 r3 hs
  | .invokestatic idx => cfcB own 2 idx r1 r2 r3 hs
  | .istore k => Nat.blt k nL
  | .astore k => Nat.blt k nL
  | .iinc k _ => Nat.blt k nL
  | .lstore k => Nat.blt (k + 1) nL
  | .istore_n k => Nat.blt k nL
  | .astore_n k => Nat.blt k nL
  | .lstore_n k => Nat.blt ((k : Nat) + 1) nL
  | _ => true
noncomputable def rokB (own : String) (isI : Bool) (nL : Nat) (cc : ByteArray) (q : Nat × Instr × Nat × Nat × Int) (hs : List Nat) : Bool :=
  cfxB own isI q.1 q.2.1 q.2.2.1 q.2.2.2.1 q.2.2.2.2 hs && thB own nL q.2.1 q.2.2.1 q.2.2.2.1 q.2.2.2.2 hs
theorem bt {a b : Nat} (h : Nat.blt a b = true) : a < b := Nat.le_of_ble_eq_true h
theorem lenB_ok {cc : ByteArray} {pc : Nat} {i : Instr} {h : Nat} (hb : lenB cc pc i h = true) : ∃ len, decode cc pc = .ok (i, len) ∧ (isSw i = true ∨ len = lenI i) := by
  unfold lenB at hb
  split at hb
  · rename_i hs; exact ⟨h, of_decide_eq_true hb, Or.inl hs⟩
  · exact ⟨_, of_decide_eq_true hb, Or.inr rfl⟩
noncomputable def preB : List Nat → List UInt8 → Option (List UInt8)
  | [], l => some l
  | _ :: _, [] => none
  | k :: ks, b :: l => match Nat.beq b.toNat k with
    | true => preB ks l
    | false => none
theorem preB_ok {cc : ByteArray} : ∀ {ks : List Nat} {p : Nat} {l l' : List UInt8}, l = cc.data.toList.drop p → preB ks l = some l' → bsAt cc p ks ∧ l' = cc.data.toList.drop (p + ks.length)
  | [], p, l, l', h, e => by
    cases e
    exact ⟨trivial, h⟩
  | k :: ks, p, [], l', h, e => nomatch e
  | k :: ks, p, b :: l, l', h, e => by
    unfold preB at e
    have hp : p < cc.data.toList.length := by
      by_cases c : p < cc.data.toList.length
      · exact c
      · rw [List.drop_eq_nil_of_le (by omega)] at h
        cases h
    rw [List.drop_eq_getElem_cons hp] at h
    injection h with h1 h2
    split at e
    · rename_i hb
      obtain ⟨r1, r2⟩ := preB_ok h2 e
      refine ⟨⟨⟨hp, ?_⟩, r1⟩, ?_⟩
      · rw [← Nat.beq_eq.mp hb, h1]
        rfl
      · rw [r2, List.length_cons, Nat.add_assoc, Nat.add_comm 1]
    · cases e
/-- one instruction's bytes; what is behind them -/
noncomputable def stC (cc : ByteArray) (pc : Nat) (l : List UInt8) (i : Instr) (h : Nat) : Option (List UInt8) := match enc i with
  | [] => match lenB cc pc i h with
    | true => some (l.drop (match isSw i with | true => h | false => lenI i))
    | false => none
  | b :: ks => preB (b :: ks) l
theorem enc_l {i : Instr} (h : enc i ≠ []) : (enc i).length = lenI i := by
  cases i <;> first
    | rfl
    | exact absurd rfl h
    | (rename_i v; by_cases c : -1 ≤ v ∧ v ≤ 5 <;> simp_all [enc, lenI] <;> done)
    | (simp only [enc, e8, e16, lenI] at h ⊢; split at h <;> simp_all <;> done)
    | (rename_i c v; cases c <;> simp only [enc, e8, e16, lenI] at h ⊢ <;> split at h <;> simp_all <;> done)
    | (rename_i t; cases t <;> first | rfl | exact absurd rfl h)
theorem stC_ok {cc : ByteArray} {pc : Nat} {l l' : List UInt8} {i : Instr} {h : Nat} (hl : l = cc.data.toList.drop pc) (hs : stC cc pc l i h = some l') : (∃ len, decode cc pc = .ok (i, len) ∧ (isSw i = true ∨ len = lenI i)) ∧ l' = cc.data.toList.drop (pc + (match isSw i with | true => h | false => lenI i)) := by
  unfold stC at hs
  split at hs
  · split at hs
    · rename_i hb
      refine ⟨lenB_ok hb, ?_⟩
      cases hs
      rw [hl, List.drop_drop]
    · cases hs
  · rename_i b ks he
    rw [← he] at hs
    have h0 : enc i ≠ [] := by rw [he]; exact List.cons_ne_nil _ _
    obtain ⟨r1, r2⟩ := preB_ok hl hs
    refine ⟨⟨_, enc_ok h0 r1, Or.inr rfl⟩, ?_⟩
    have hw : isSw i = false := by
      cases i <;> first | rfl | exact absurd rfl h0
    rw [r2, enc_l h0, hw]
theorem cfxB_ok {own : String} {isI : Bool} {pc : Nat} {i : Instr} {r1 r2 : Nat} {r3 : Int} {hs : List Nat} (h : cfxB own isI pc i r1 r2 r3 hs = true) : cfx own isI pc i r1 r2 r3 := by
  cases i
  case getfield idx =>
    simp only [cfxB, Bool.and_eq_true] at h
    exact ⟨bt h.1.1.1, bt h.1.1.2, of_decide_eq_true h.1.2, atC_gw h.2⟩
  case putfield idx =>
    simp only [cfxB, Bool.and_eq_true, Bool.or_eq_true] at h
    exact ⟨bt h.1.1.1.1, bt h.1.1.1.2, of_decide_eq_true h.1.1.2, atC_gw h.1.2, h.2.imp of_decide_eq_true fun z => ⟨z.1, of_decide_eq_true z.2⟩⟩
  case ldc idx =>
    simp only [cfxB] at h
    split at h
    · rename_i e; exact Or.inl ⟨Nat.beq_eq.mp e, atC_gw h⟩
    · simp only [Bool.and_eq_true] at h
      exact Or.inr ⟨Nat.beq_eq.mp h.1.1.1, bt h.1.1.2, of_decide_eq_true h.1.2, of_decide_eq_true h.2⟩
  case ldc_w idx =>
    simp only [cfxB] at h
    split at h
    · rename_i e; exact Or.inl ⟨Nat.beq_eq.mp e, atC_gw h⟩
    · simp only [Bool.and_eq_true] at h
      exact Or.inr ⟨Nat.beq_eq.mp h.1.1.1, bt h.1.1.2, of_decide_eq_true h.1.2, of_decide_eq_true h.2⟩
  case ldc2_w idx => exact atC_gw h
  case new idx =>
    simp only [cfxB, Bool.and_eq_true] at h
    exact ⟨atC_gw h.1.1, atC_gw h.1.2, atC_gw h.2⟩
  case newarray a =>
    simp only [cfxB, Bool.and_eq_true] at h
    exact ⟨bt h.1.1, of_decide_eq_true h.1.2, atC_gw h.2⟩
  case anewarray idx => exact atC_gw h
  case multianewarray idx d =>
    simp only [cfxB, Bool.and_eq_true, Bool.or_eq_true] at h
    exact ⟨of_decide_eq_true h.1.1.1, h.1.1.2.imp Nat.beq_eq.mp Nat.beq_eq.mp, atC_gw h.1.2, atC_gw h.2⟩
  case ifCond c off => exact of_decide_eq_true (p := 0 ≤ (pc : Int) + off) h
  case if_icmp c off => exact of_decide_eq_true (p := 0 ≤ (pc : Int) + off) h
  case goto off => exact of_decide_eq_true (p := 0 ≤ (pc : Int) + off) h
  case tableswitch dflt lo hi offs =>
    simp only [cfxB, Bool.and_eq_true] at h
    exact ⟨of_decide_eq_true h.1.1, of_decide_eq_true h.1.2, fun o ho => of_decide_eq_true (List.all_eq_true.mp h.2 o ho)⟩
  case lookupswitch dflt ps =>
    simp only [cfxB, Bool.and_eq_true] at h
    exact ⟨h.1.1, of_decide_eq_true h.1.2, fun o ho => of_decide_eq_true (List.all_eq_true.mp h.2 o ho)⟩
  all_goals exact trivial
theorem cfcB_ok {own : String} {k idx : Nat} {r1 r2 : Nat} {r3 : Int} {hs : List Nat} {i : Instr} (hi : (k = 0 ∧ i = .invokevirtual idx) ∨ (k = 1 ∧ i = .invokespecial idx) ∨ (k = 2 ∧ i = .invokestatic idx)) (h : cfcB own k idx r1 r2 r3 hs = true) : cfc own i r1 r2 r3 ∧ ∀ mi, mtab[r1]? = some mi → r2 < 10 → (r3 % 100).toNat = mi.2.2.2.2.2.2 := by
  have i0 : k = 0 → i = .invokevirtual idx := fun e => by rcases hi with h | h | h <;> first | exact h.2 | omega
  have i1 : k = 1 → i = .invokespecial idx := fun e => by rcases hi with h | h | h <;> first | exact h.2 | omega
  have i2 : k = 2 → i = .invokestatic idx := fun e => by rcases hi with h | h | h <;> first | exact h.2 | omega
  unfold cfcB at h
  split at h
  · rw [Bool.and_eq_true] at h; exact ⟨⟨idx, i2 (Nat.beq_eq.mp h.1), atC_gw h.2⟩, fun _ _ h => by omega⟩
  · rw [Bool.and_eq_true] at h; exact ⟨⟨idx, i2 (Nat.beq_eq.mp h.1), atC_gw h.2⟩, fun _ _ h => by omega⟩
  · rw [Bool.and_eq_true] at h; exact ⟨⟨idx, i2 (Nat.beq_eq.mp h.1), atC_gw h.2⟩, fun _ _ h => by omega⟩
  · rw [Bool.and_eq_true] at h; exact ⟨⟨idx, i2 (Nat.beq_eq.mp h.1), atC_gw h.2⟩, fun _ _ h => by omega⟩
  · rw [Bool.and_eq_true] at h; exact ⟨⟨idx, i1 (Nat.beq_eq.mp h.1), atC_gw h.2⟩, fun _ _ h => by omega⟩
  · split at h
    · rename_i mi hmi
      simp only [Bool.and_eq_true] at h
      refine ⟨⟨idx, mi, i0 (Nat.beq_eq.mp h.1.1.1.1.1.1.1), hmi, atC_gw h.1.1.1.1.1.1.2, atC_gw h.1.1.1.1.1.2, atC_gw h.1.1.1.1.2, bt h.1.1.1.2, of_decide_eq_true h.1.1.2, h.1.2⟩, fun mi' hm _ => ?_⟩
      rw [hmi] at hm; cases hm; exact Nat.beq_eq.mp h.2
    · cases h
  · split at h
    · rename_i mi hmi
      simp only [Bool.and_eq_true] at h
      refine ⟨⟨idx, mi, i0 (Nat.beq_eq.mp h.1.1.1.1.1.1), hmi, atC_gw h.1.1.1.1.1.2, atC_gw h.1.1.1.1.2, atC_gw h.1.1.1.2, of_decide_eq_true h.1.1.2, h.1.2⟩, fun mi' hm _ => ?_⟩
      rw [hmi] at hm; cases hm; exact Nat.beq_eq.mp h.2
    · cases h
  · split at h
    · rename_i mi hmi
      simp only [Bool.and_eq_true, Bool.not_eq_true'] at h
      refine ⟨⟨idx, mi, i2 (Nat.beq_eq.mp h.1.1.1.1), hmi, atC_gw h.1.1.1.2, atC_gw h.1.1.2, h.1.2⟩, fun mi' hm _ => ?_⟩
      rw [hmi] at hm; cases hm; exact Nat.beq_eq.mp h.2
    · cases h
  · split at h
    · rename_i mi hmi
      simp only [Bool.and_eq_true, Bool.not_eq_true'] at h
      refine ⟨⟨idx, mi, i2 (Nat.beq_eq.mp h.1.1.1.1), hmi, of_decide_eq_true h.1.1.1.2, atC_gw h.1.1.2, h.1.2⟩, fun mi' hm _ => ?_⟩
      rw [hmi] at hm; cases hm; exact Nat.beq_eq.mp h.2
    · cases h
  · split at h
    · rename_i mi hmi
      simp only [Bool.and_eq_true] at h
      refine ⟨⟨idx, mi, i1 (Nat.beq_eq.mp h.1.1.1.1.1.1), hmi, atC_gw h.1.1.1.1.1.2, atC_gw h.1.1.1.1.2, of_decide_eq_true h.1.1.1.2, of_decide_eq_true h.1.1.2, h.1.2⟩, fun mi' hm _ => ?_⟩
      rw [hmi] at hm; cases hm; exact Nat.beq_eq.mp h.2
    · cases h
  · split at h
    · rename_i mi hmi
      simp only [Bool.and_eq_true] at h
      refine ⟨⟨idx, mi, i1 (Nat.beq_eq.mp h.1.1.1.1.1.1), hmi, of_decide_eq_true h.1.1.1.1.1.2, atC_gw h.1.1.1.1.2, of_decide_eq_true h.1.1.1.2, of_decide_eq_true h.1.1.2, h.1.2⟩, fun mi' hm _ => ?_⟩
      rw [hmi] at hm; cases hm; exact Nat.beq_eq.mp h.2
    · cases h
  · cases h
theorem rokB_ok {own : String} {isI : Bool} {nL : Nat} {cc : ByteArray} {q : Nat × Instr × Nat × Nat × Int} {hs : List Nat} (h : rokB own isI nL cc q hs = true) (hd : ∃ len, decode cc q.1 = .ok (q.2.1, len) ∧ (isSw q.2.1 = true ∨ len = lenI q.2.1)) : rok own isI nL cc q := by
  obtain ⟨pc, i, r1, r2, r3⟩ := q
  simp only [rokB, Bool.and_eq_true] at h
  refine ⟨hd, cfxB_ok h.1, ?_⟩
  have h3 := h.2
  cases i <;> first
    | exact trivial
    | exact cfcB_ok (Or.inl ⟨rfl, rfl⟩) h3
    | exact cfcB_ok (Or.inr (Or.inl ⟨rfl, rfl⟩)) h3
    | exact cfcB_ok (Or.inr (Or.inr ⟨rfl, rfl⟩)) h3
    | exact bt h3
noncomputable def allC (own : String) (isI : Bool) (nL : Nat) (cc : ByteArray) : Nat → List UInt8 → AC → List (List Nat) → Bool
  | _, _, [], _ => true
  | pc, l, q :: t, hs => match (match Nat.beq q.1 pc with | true => stC cc q.1 l q.2.1 (gI0 (hs.headD []) 0) | false => stC cc q.1 (cc.data.toList.drop q.1) q.2.1 (gI0 (hs.headD []) 0)) with
    | some l' => rokB own isI nL cc q (hs.headD []) && allC own isI nL cc (q.1 + (match isSw q.2.1 with | true => gI0 (hs.headD []) 0 | false => lenI q.2.1)) l' t hs.tail
    | none => false
theorem allC_ok {own : String} {isI : Bool} {nL : Nat} {cc : ByteArray} : ∀ {ac : AC} {pc : Nat} {l : List UInt8} {hs : List (List Nat)}, l = cc.data.toList.drop pc → allC own isI nL cc pc l ac hs = true → ∀ q ∈ ac, rok own isI nL cc q
  | [], _, _, _, _, _, q, hq => absurd hq List.not_mem_nil
  | q :: t, pc, l, hs, hl, h, q', hq => by
    unfold allC at h
    have key : ∃ l0 l', l0 = cc.data.toList.drop q.1 ∧ stC cc q.1 l0 q.2.1 (gI0 (hs.headD []) 0) = some l' ∧ rokB own isI nL cc q (hs.headD []) = true ∧ allC own isI nL cc (q.1 + (match isSw q.2.1 with | true => gI0 (hs.headD []) 0 | false => lenI q.2.1)) l' t hs.tail = true := by
      split at h
      · rename_i l' hq2
        rw [Bool.and_eq_true] at h
        split at hq2
        · rename_i hb
          exact ⟨l, l', by rw [hl, Nat.beq_eq.mp hb], hq2, h.1, h.2⟩
        · exact ⟨_, l', rfl, hq2, h.1, h.2⟩
      · cases h
    obtain ⟨l0, l', h0, h1, h2, h3⟩ := key
    obtain ⟨r1, r2⟩ := stC_ok h0 h1
    rcases List.mem_cons.mp hq with rfl | hq
    · exact rokB_ok h2 r1
    · exact allC_ok r2 h3 q' hq
noncomputable def acokB (mi : MI) (hs : List (List Nat)) : Bool := match mi.2.2.2.2.1 with
  | [] => true
  | q :: t => allC mi.1.cls (decide (mi.1.name = "<init>")) mi.2.2.1 mi.2.1 q.1 (mi.2.1.data.toList.drop q.1) (q :: t) hs
theorem acokB_ok {mi : MI} {hs : List (List Nat)} (h : acokB mi hs = true) : acok mi := by
  unfold acokB at h
  have key : ∀ q ∈ mi.2.2.2.2.1, rok mi.1.cls (decide (mi.1.name = "<init>")) mi.2.2.1 mi.2.1 q := by
    split at h
    · rename_i he; rw [he]; intro q hq; cases hq
    · rename_i q t he; rw [he]; exact allC_ok rfl h
  exact key
