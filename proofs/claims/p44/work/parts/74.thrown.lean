/-! THE CLASS'S METHODS THAT THROW: post, rock, mess, way, row -/
theorem grq {sh : List (Nat × Nat)} {h : aH} {a r k q : Nat} (hG : GD gE gRL sh h) (hr : gRL[a]? = some r) (hg : gR (eR gE r) k k = some q) : ∃ b, aR h a k = some b ∧ gRL[b]? = some q := by
  obtain ⟨z, z1, z2, z3, z4⟩ := gR_ok hg
  obtain ⟨c, c1, c2⟩ := hG.2.2.2 a r hr z z1 k z2 z3
  rw [z4] at c2
  exact ⟨c, c1, c2⟩
def ac9X10_post : AC := [(0, .iload_n 1, 0, 0, 0), (1, .ifCond .lt 23, 0, 0, 0), (4, .iload_n 1, 0, 0, 0), (5, .aload_n 0, 0, 0, 0), (6, .getfield 26, 10, 2, 2), (9, .getfield 119, 6, 1, 0), (12, .if_icmp .ge 12, 0, 0, 0), (15, .iload_n 2, 0, 0, 0), (16, .ifCond .lt 8, 0, 0, 0), (19, .iload_n 2, 0, 0, 0), (20, .iconst 1, 0, 0, 0), (21, .if_icmp .le 11, 0, 0, 0), (32, .iload_n 2, 0, 0, 0), (33, .ifCond .ne 15, 0, 0, 0), (36, .aload_n 0, 0, 0, 0), (37, .getfield 26, 10, 2, 2), (40, .getfield 140, 6, 3, 2), (43, .iload_n 1, 0, 0, 0), (44, .iaload, 0, 0, 0), (45, .goto 12, 0, 0, 0), (48, .aload_n 0, 0, 0, 0), (49, .getfield 26, 10, 2, 2), (52, .getfield 143, 6, 4, 2), (55, .iload_n 1, 0, 0, 0), (56, .iaload, 0, 0, 0), (57, .ireturn, 0, 0, 0)]
set_option maxRecDepth 100000 in
theorem ok9X10_post : acok (yX10_post, cX10_post, 3, (some .int), ac9X10_post, 10, 0) := acokB_ok (hs := [[], [], [], [], [2068], [1091], [], [], [], [], [], [], [], [], [], [2068], [1097], [], [], [], [], [2068], [1099]]) (by decide +kernel)
def ac9X10_rock : AC := [(0, .iload_n 1, 0, 0, 0), (1, .ifCond .lt 23, 0, 0, 0), (4, .iload_n 1, 0, 0, 0), (5, .aload_n 0, 0, 0, 0), (6, .getfield 53, 10, 7, 2), (9, .getfield 122, 2, 0, 0), (12, .if_icmp .ge 12, 0, 0, 0), (15, .iload_n 2, 0, 0, 0), (16, .ifCond .lt 8, 0, 0, 0), (19, .iload_n 2, 0, 0, 0), (20, .iconst 1, 0, 0, 0), (21, .if_icmp .le 11, 0, 0, 0), (32, .iload_n 2, 0, 0, 0), (33, .ifCond .ne 15, 0, 0, 0), (36, .aload_n 0, 0, 0, 0), (37, .getfield 53, 10, 7, 2), (40, .getfield 146, 2, 1, 2), (43, .iload_n 1, 0, 0, 0), (44, .iaload, 0, 0, 0), (45, .goto 12, 0, 0, 0), (48, .aload_n 0, 0, 0, 0), (49, .getfield 53, 10, 7, 2), (52, .getfield 149, 2, 2, 2), (55, .iload_n 1, 0, 0, 0), (56, .iaload, 0, 0, 0), (57, .ireturn, 0, 0, 0)]
set_option maxRecDepth 100000 in
theorem ok9X10_rock : acok (yX10_rock, cX10_rock, 3, (some .int), ac9X10_rock, 10, 0) := acokB_ok (hs := [[], [], [], [], [2073], [1162], [], [], [], [], [], [], [], [], [], [2073], [1164], [], [], [], [], [2073], [1166]]) (by decide +kernel)
def ac9X10_mess : AC := [(0, .iload_n 1, 0, 0, 0), (1, .ifCond .lt 20, 0, 0, 0), (4, .iload_n 1, 0, 0, 0), (5, .aload_n 0, 0, 0, 0), (6, .getfield 61, 10, 9, 0), (9, .if_icmp .ge 12, 0, 0, 0), (12, .iload_n 2, 0, 0, 0), (13, .ifCond .lt 8, 0, 0, 0), (16, .iload_n 2, 0, 0, 0), (17, .iconst 2, 0, 0, 0), (18, .if_icmp .le 11, 0, 0, 0), (29, .iload_n 2, 0, 0, 0), (30, .ifCond .ne 13, 0, 0, 0), (33, .aload_n 0, 0, 0, 0), (34, .getfield 68, 10, 10, 2), (37, .getfield 152, 8, 7, 2), (40, .iload_n 1, 0, 0, 0), (41, .iaload, 0, 0, 0), (42, .ireturn, 0, 0, 0), (43, .iload_n 2, 0, 0, 0), (44, .iconst 1, 0, 0, 0), (45, .if_icmp .ne 12, 0, 0, 0), (48, .aload_n 0, 0, 0, 0), (49, .getfield 57, 10, 8, 2), (52, .iload_n 1, 0, 0, 0), (53, .iaload, 0, 0, 0), (54, .goto 12, 0, 0, 0), (57, .aload_n 0, 0, 0, 0), (58, .getfield 68, 10, 10, 2), (61, .getfield 155, 8, 8, 2), (64, .iload_n 1, 0, 0, 0), (65, .iaload, 0, 0, 0), (66, .ireturn, 0, 0, 0)]
set_option maxRecDepth 100000 in
theorem ok9X10_mess : acok (yX10_mess, cX10_mess, 3, (some .int), ac9X10_mess, 10, 0) := acokB_ok (hs := [[], [], [], [], [2075], [], [], [], [], [], [], [], [], [], [2076], [1199], [], [], [], [], [], [], [], [2074], [], [], [], [], [2076], [1201]]) (by decide +kernel)
def ac9X10_way : AC := [(0, .iload_n 1, 0, 0, 0), (1, .ifCond .lt 23, 0, 0, 0), (4, .iload_n 1, 0, 0, 0), (5, .aload_n 0, 0, 0, 0), (6, .getfield 68, 10, 10, 2), (9, .getfield 158, 8, 4, 0), (12, .if_icmp .ge 12, 0, 0, 0), (15, .iload_n 2, 0, 0, 0), (16, .ifCond .lt 8, 0, 0, 0), (19, .iload_n 2, 0, 0, 0), (20, .iconst 1, 0, 0, 0), (21, .if_icmp .le 11, 0, 0, 0), (32, .iload_n 2, 0, 0, 0), (33, .ifCond .ne 23, 0, 0, 0), (36, .aload_n 0, 0, 0, 0), (37, .getfield 68, 10, 10, 2), (40, .getfield 161, 8, 5, 2), (43, .iload_n 1, 0, 0, 0), (44, .iaload, 0, 0, 0), (45, .aload_n 0, 0, 0, 0), (46, .getfield 68, 10, 10, 2), (49, .getfield 164, 8, 0, 0), (52, .isub, 0, 0, 0), (53, .goto 12, 0, 0, 0), (56, .aload_n 0, 0, 0, 0), (57, .getfield 68, 10, 10, 2), (60, .getfield 167, 8, 6, 2), (63, .iload_n 1, 0, 0, 0), (64, .iaload, 0, 0, 0), (65, .ireturn, 0, 0, 0)]
set_option maxRecDepth 100000 in
theorem ok9X10_way : acok (yX10_way, cX10_way, 3, (some .int), ac9X10_way, 10, 0) := acokB_ok (hs := [[], [], [], [], [2076], [1191], [], [], [], [], [], [], [], [], [], [2076], [1194], [], [], [], [2076], [1182], [], [], [], [2076], [1197]]) (by decide +kernel)
def ac9X10_row : AC := [(0, .iload_n 1, 0, 0, 0), (1, .ifCond .lt 14, 0, 0, 0), (4, .iload_n 1, 0, 0, 0), (5, .aload_n 0, 0, 0, 0), (6, .getfield 19, 10, 1, 2), (9, .getfield 382, 3, 1, 0), (12, .if_icmp .lt 11, 0, 0, 0), (23, .aload_n 0, 0, 0, 0), (24, .getfield 19, 10, 1, 2), (27, .getfield 383, 3, 0, 2), (30, .iload_n 1, 0, 0, 0), (31, .laload, 0, 0, 0), (32, .lreturn, 0, 0, 0)]
set_option maxRecDepth 100000 in
theorem ok9X10_row : acok (yX10_row, cX10_row, 2, (some .long), ac9X10_row, 10, 0) := acokB_ok (hs := [[], [], [], [], [2067], [1074], [], [], [2067], [1072]]) (by decide +kernel)
def postR (h : aH) (i j : Int) (o : Option Int) : Prop := ∃ b, aR h 0 2 = some b ∧ ((o = none ∧ ¬ (0 ≤ i ∧ i < gi h b 1 ∧ 0 ≤ j ∧ j ≤ 1)) ∨ ((0 ≤ i ∧ i < gi h b 1 ∧ 0 ≤ j ∧ j ≤ 1) ∧ ∃ c, aR h b (if j = 0 then 3 else 4) = some c ∧ o = some (gi h c i.toNat)))
set_option maxRecDepth 4000 in
theorem rn9post {CL : CT} {sh : List (Nat × Nat)} {h : aH} (hG : GD gE gRL sh h) {i j : Int} (ri : r32 i) (rj : r32 j) : wplX CL ac9X10_post (some .int) (fun rv h' => h' = h ∧ ∃ v : Int, postR h i j (some v) ∧ rv = some (.int (I v))) (fun _ pc _ st h' bc bs => pc = 24 ∧ st = [] ∧ h' = h ∧ postR h i j none ∧ 1 ≤ bc ∧ 6 ≤ bs) 0 [(0, .ref 0), (1, .int (I i)), (2, .int (I j))] [] h 1 6 := by
  intro K hK hX9
  obtain ⟨b1, ab1, qb1⟩ := grq (k := 2) hG (a := 0) (r := 0) (by decide +kernel) (q := 5) (by decide +kernel)
  have hB := ab1
  have hX : ∀ ls, postR h i j none → K 24 ls [] h 1 6 := fun ls hr => hX9 _ _ _ _ _ _ ⟨rfl, rfl, rfl, hr, Nat.le_refl _, Nat.le_refl _⟩
  refine x_iload_n 1 hK rfl rfl rfl ?_
  refine x_if_lt 24 4 hK rfl rfl rfl (by omega) (fun c1 => ?_) (fun c1 => ?_)
  · exact hX _ (⟨_, hB, Or.inl ⟨rfl, by omega⟩⟩)
  · refine x_iload_n 5 hK rfl rfl rfl ?_
    refine x_aload_n 6 hK rfl rfl rfl ?_
    refine x_getR 9 hK rfl rfl (shx hG (a := 0) (r := 0) (by decide +kernel) (by decide +kernel)) ab1 ?_
    have g9 := gri 0 10 hG (a := b1) (r := 5) (k := 1) qb1 (by decide +kernel)
    refine x_getI 12 hK rfl (Or.inl rfl) rfl (shx hG (a := b1) (r := 5) qb1 (by decide +kernel)) ?_
    refine x_if_icmp_ge 24 15 hK rfl rfl rfl (by omega) (by omega) (fun c12 => ?_) (fun c12 => ?_)
    · exact hX _ (⟨_, hB, Or.inl ⟨rfl, by omega⟩⟩)
    · refine x_iload_n 16 hK rfl rfl rfl ?_
      refine x_if_lt 24 19 hK rfl rfl rfl (by omega) (fun c16 => ?_) (fun c16 => ?_)
      · exact hX _ (⟨_, hB, Or.inl ⟨rfl, by omega⟩⟩)
      · refine x_iload_n 20 hK rfl rfl rfl ?_
        refine x_iconst 21 hK rfl rfl ?_
        refine x_if_icmp_le 32 24 hK rfl rfl rfl (by omega) (by omega) (fun c21 => ?_) (fun c21 => ?_)
        · refine x_iload_n 33 hK rfl rfl rfl ?_
          refine x_if_ne 48 36 hK rfl rfl rfl (by omega) (fun c33 => ?_) (fun c33 => ?_)
          · refine x_aload_n 49 hK rfl rfl rfl ?_
            refine x_getR 52 hK rfl rfl (shx hG (a := 0) (r := 0) (by decide +kernel) (by decide +kernel)) ab1 ?_
            obtain ⟨b2, ab2, qb2⟩ := grq (k := 4) hG (a := b1) (r := 5) qb1 (q := 7) (by decide +kernel)
            refine x_getR 55 hK rfl rfl (shx hG (a := b1) (r := 5) qb1 (by decide +kernel)) ab2 ?_
            refine x_iload_n 56 hK rfl rfl rfl ?_
            refine x_iaload (n := 10) 57 hK rfl rfl (shx hG (a := b2) (r := 7) qb2 (by decide +kernel)) (by omega) (by omega) (by omega) ?_
            exact x_iret hK rfl ⟨rfl, _, ⟨b1, ab1, Or.inr ⟨by omega, b2, by first | (rw [if_pos (by omega)]; exact ab2) | (rw [if_neg (by omega)]; exact ab2), rfl⟩⟩, rfl⟩
          · refine x_aload_n 37 hK rfl rfl rfl ?_
            refine x_getR 40 hK rfl rfl (shx hG (a := 0) (r := 0) (by decide +kernel) (by decide +kernel)) ab1 ?_
            obtain ⟨b3, ab3, qb3⟩ := grq (k := 3) hG (a := b1) (r := 5) qb1 (q := 6) (by decide +kernel)
            refine x_getR 43 hK rfl rfl (shx hG (a := b1) (r := 5) qb1 (by decide +kernel)) ab3 ?_
            refine x_iload_n 44 hK rfl rfl rfl ?_
            refine x_iaload (n := 10) 45 hK rfl rfl (shx hG (a := b3) (r := 6) qb3 (by decide +kernel)) (by omega) (by omega) (by omega) ?_
            refine x_goto 57 hK rfl rfl ?_
            exact x_iret hK rfl ⟨rfl, _, ⟨b1, ab1, Or.inr ⟨by omega, b3, by first | (rw [if_pos (by omega)]; exact ab3) | (rw [if_neg (by omega)]; exact ab3), rfl⟩⟩, rfl⟩
        · exact hX _ (⟨_, hB, Or.inl ⟨rfl, by omega⟩⟩)
def rockR (h : aH) (i j : Int) (o : Option Int) : Prop := ∃ b, aR h 0 7 = some b ∧ ((o = none ∧ ¬ (0 ≤ i ∧ i < gi h b 0 ∧ 0 ≤ j ∧ j ≤ 1)) ∨ ((0 ≤ i ∧ i < gi h b 0 ∧ 0 ≤ j ∧ j ≤ 1) ∧ ∃ c, aR h b (if j = 0 then 1 else 2) = some c ∧ o = some (gi h c i.toNat)))
set_option maxRecDepth 4000 in
theorem rn9rock {CL : CT} {sh : List (Nat × Nat)} {h : aH} (hG : GD gE gRL sh h) {i j : Int} (ri : r32 i) (rj : r32 j) : wplX CL ac9X10_rock (some .int) (fun rv h' => h' = h ∧ ∃ v : Int, rockR h i j (some v) ∧ rv = some (.int (I v))) (fun _ pc _ st h' bc bs => pc = 24 ∧ st = [] ∧ h' = h ∧ rockR h i j none ∧ 1 ≤ bc ∧ 6 ≤ bs) 0 [(0, .ref 0), (1, .int (I i)), (2, .int (I j))] [] h 1 6 := by
  intro K hK hX9
  obtain ⟨b1, ab1, qb1⟩ := grq (k := 7) hG (a := 0) (r := 0) (by decide +kernel) (q := 13) (by decide +kernel)
  have hB := ab1
  have hX : ∀ ls, rockR h i j none → K 24 ls [] h 1 6 := fun ls hr => hX9 _ _ _ _ _ _ ⟨rfl, rfl, rfl, hr, Nat.le_refl _, Nat.le_refl _⟩
  refine x_iload_n 1 hK rfl rfl rfl ?_
  refine x_if_lt 24 4 hK rfl rfl rfl (by omega) (fun c1 => ?_) (fun c1 => ?_)
  · exact hX _ (⟨_, hB, Or.inl ⟨rfl, by omega⟩⟩)
  · refine x_iload_n 5 hK rfl rfl rfl ?_
    refine x_aload_n 6 hK rfl rfl rfl ?_
    refine x_getR 9 hK rfl rfl (shx hG (a := 0) (r := 0) (by decide +kernel) (by decide +kernel)) ab1 ?_
    have g9 := gri 0 16 hG (a := b1) (r := 13) (k := 0) qb1 (by decide +kernel)
    refine x_getI 12 hK rfl (Or.inl rfl) rfl (shx hG (a := b1) (r := 13) qb1 (by decide +kernel)) ?_
    refine x_if_icmp_ge 24 15 hK rfl rfl rfl (by omega) (by omega) (fun c12 => ?_) (fun c12 => ?_)
    · exact hX _ (⟨_, hB, Or.inl ⟨rfl, by omega⟩⟩)
    · refine x_iload_n 16 hK rfl rfl rfl ?_
      refine x_if_lt 24 19 hK rfl rfl rfl (by omega) (fun c16 => ?_) (fun c16 => ?_)
      · exact hX _ (⟨_, hB, Or.inl ⟨rfl, by omega⟩⟩)
      · refine x_iload_n 20 hK rfl rfl rfl ?_
        refine x_iconst 21 hK rfl rfl ?_
        refine x_if_icmp_le 32 24 hK rfl rfl rfl (by omega) (by omega) (fun c21 => ?_) (fun c21 => ?_)
        · refine x_iload_n 33 hK rfl rfl rfl ?_
          refine x_if_ne 48 36 hK rfl rfl rfl (by omega) (fun c33 => ?_) (fun c33 => ?_)
          · refine x_aload_n 49 hK rfl rfl rfl ?_
            refine x_getR 52 hK rfl rfl (shx hG (a := 0) (r := 0) (by decide +kernel) (by decide +kernel)) ab1 ?_
            obtain ⟨b2, ab2, qb2⟩ := grq (k := 2) hG (a := b1) (r := 13) qb1 (q := 15) (by decide +kernel)
            refine x_getR 55 hK rfl rfl (shx hG (a := b1) (r := 13) qb1 (by decide +kernel)) ab2 ?_
            refine x_iload_n 56 hK rfl rfl rfl ?_
            refine x_iaload (n := 16) 57 hK rfl rfl (shx hG (a := b2) (r := 15) qb2 (by decide +kernel)) (by omega) (by omega) (by omega) ?_
            exact x_iret hK rfl ⟨rfl, _, ⟨b1, ab1, Or.inr ⟨by omega, b2, by first | (rw [if_pos (by omega)]; exact ab2) | (rw [if_neg (by omega)]; exact ab2), rfl⟩⟩, rfl⟩
          · refine x_aload_n 37 hK rfl rfl rfl ?_
            refine x_getR 40 hK rfl rfl (shx hG (a := 0) (r := 0) (by decide +kernel) (by decide +kernel)) ab1 ?_
            obtain ⟨b3, ab3, qb3⟩ := grq (k := 1) hG (a := b1) (r := 13) qb1 (q := 14) (by decide +kernel)
            refine x_getR 43 hK rfl rfl (shx hG (a := b1) (r := 13) qb1 (by decide +kernel)) ab3 ?_
            refine x_iload_n 44 hK rfl rfl rfl ?_
            refine x_iaload (n := 16) 45 hK rfl rfl (shx hG (a := b3) (r := 14) qb3 (by decide +kernel)) (by omega) (by omega) (by omega) ?_
            refine x_goto 57 hK rfl rfl ?_
            exact x_iret hK rfl ⟨rfl, _, ⟨b1, ab1, Or.inr ⟨by omega, b3, by first | (rw [if_pos (by omega)]; exact ab3) | (rw [if_neg (by omega)]; exact ab3), rfl⟩⟩, rfl⟩
        · exact hX _ (⟨_, hB, Or.inl ⟨rfl, by omega⟩⟩)
def messR (h : aH) (i j : Int) (o : Option Int) : Prop := (o = none ∧ ¬ (0 ≤ i ∧ i < gi h 0 9 ∧ 0 ≤ j ∧ j ≤ 2)) ∨ ((0 ≤ i ∧ i < gi h 0 9 ∧ 0 ≤ j ∧ j ≤ 2) ∧ ((j = 1 ∧ ∃ c, aR h 0 8 = some c ∧ o = some (gi h c i.toNat)) ∨ (j ≠ 1 ∧ ∃ b c, aR h 0 10 = some b ∧ aR h b (if j = 0 then 7 else 8) = some c ∧ o = some (gi h c i.toNat))))
set_option maxRecDepth 4000 in
theorem rn9mess {CL : CT} {sh : List (Nat × Nat)} {h : aH} (hG : GD gE gRL sh h) {i j : Int} (ri : r32 i) (rj : r32 j) : wplX CL ac9X10_mess (some .int) (fun rv h' => h' = h ∧ ∃ v : Int, messR h i j (some v) ∧ rv = some (.int (I v))) (fun _ pc _ st h' bc bs => pc = 21 ∧ st = [] ∧ h' = h ∧ messR h i j none ∧ 1 ≤ bc ∧ 6 ≤ bs) 0 [(0, .ref 0), (1, .int (I i)), (2, .int (I j))] [] h 1 6 := by
  intro K hK hX9
  have hX : ∀ ls, messR h i j none → K 21 ls [] h 1 6 := fun ls hr => hX9 _ _ _ _ _ _ ⟨rfl, rfl, rfl, hr, Nat.le_refl _, Nat.le_refl _⟩
  refine x_iload_n 1 hK rfl rfl rfl ?_
  refine x_if_lt 21 4 hK rfl rfl rfl (by omega) (fun c1 => ?_) (fun c1 => ?_)
  · exact hX _ (Or.inl ⟨rfl, by omega⟩)
  · refine x_iload_n 5 hK rfl rfl rfl ?_
    refine x_aload_n 6 hK rfl rfl rfl ?_
    have g6 := gri 0 8 hG (a := 0) (r := 0) (k := 9) (by decide +kernel) (by decide +kernel)
    refine x_getI 9 hK rfl (Or.inl rfl) rfl (shx hG (a := 0) (r := 0) (by decide +kernel) (by decide +kernel)) ?_
    refine x_if_icmp_ge 21 12 hK rfl rfl rfl (by omega) (by omega) (fun c9 => ?_) (fun c9 => ?_)
    · exact hX _ (Or.inl ⟨rfl, by omega⟩)
    · refine x_iload_n 13 hK rfl rfl rfl ?_
      refine x_if_lt 21 16 hK rfl rfl rfl (by omega) (fun c13 => ?_) (fun c13 => ?_)
      · exact hX _ (Or.inl ⟨rfl, by omega⟩)
      · refine x_iload_n 17 hK rfl rfl rfl ?_
        refine x_iconst 18 hK rfl rfl ?_
        refine x_if_icmp_le 29 21 hK rfl rfl rfl (by omega) (by omega) (fun c18 => ?_) (fun c18 => ?_)
        · refine x_iload_n 30 hK rfl rfl rfl ?_
          refine x_if_ne 43 33 hK rfl rfl rfl (by omega) (fun c30 => ?_) (fun c30 => ?_)
          · refine x_iload_n 44 hK rfl rfl rfl ?_
            refine x_iconst 45 hK rfl rfl ?_
            refine x_if_icmp_ne 57 48 hK rfl rfl rfl (by omega) (by omega) (fun c45 => ?_) (fun c45 => ?_)
            · refine x_aload_n 58 hK rfl rfl rfl ?_
              obtain ⟨b1, ab1, qb1⟩ := grq (k := 10) hG (a := 0) (r := 0) (by decide +kernel) (q := 17) (by decide +kernel)
              refine x_getR 61 hK rfl rfl (shx hG (a := 0) (r := 0) (by decide +kernel) (by decide +kernel)) ab1 ?_
              obtain ⟨b2, ab2, qb2⟩ := grq (k := 8) hG (a := b1) (r := 17) qb1 (q := 21) (by decide +kernel)
              refine x_getR 64 hK rfl rfl (shx hG (a := b1) (r := 17) qb1 (by decide +kernel)) ab2 ?_
              refine x_iload_n 65 hK rfl rfl rfl ?_
              refine x_iaload (n := 8) 66 hK rfl rfl (shx hG (a := b2) (r := 21) qb2 (by decide +kernel)) (by omega) (by omega) (by omega) ?_
              exact x_iret hK rfl ⟨rfl, _, Or.inr ⟨by omega, Or.inr ⟨by omega, _, b2, ab1, by first | (rw [if_pos (by omega)]; exact ab2) | (rw [if_neg (by omega)]; exact ab2), rfl⟩⟩, rfl⟩
            · refine x_aload_n 49 hK rfl rfl rfl ?_
              obtain ⟨b3, ab3, qb3⟩ := grq (k := 8) hG (a := 0) (r := 0) (by decide +kernel) (q := 16) (by decide +kernel)
              refine x_getR 52 hK rfl rfl (shx hG (a := 0) (r := 0) (by decide +kernel) (by decide +kernel)) ab3 ?_
              refine x_iload_n 53 hK rfl rfl rfl ?_
              refine x_iaload (n := 8) 54 hK rfl rfl (shx hG (a := b3) (r := 16) qb3 (by decide +kernel)) (by omega) (by omega) (by omega) ?_
              refine x_goto 66 hK rfl rfl ?_
              exact x_iret hK rfl ⟨rfl, _, Or.inr ⟨by omega, Or.inl ⟨by omega, _, ab3, rfl⟩⟩, rfl⟩
          · refine x_aload_n 34 hK rfl rfl rfl ?_
            obtain ⟨b4, ab4, qb4⟩ := grq (k := 10) hG (a := 0) (r := 0) (by decide +kernel) (q := 17) (by decide +kernel)
            refine x_getR 37 hK rfl rfl (shx hG (a := 0) (r := 0) (by decide +kernel) (by decide +kernel)) ab4 ?_
            obtain ⟨b5, ab5, qb5⟩ := grq (k := 7) hG (a := b4) (r := 17) qb4 (q := 20) (by decide +kernel)
            refine x_getR 40 hK rfl rfl (shx hG (a := b4) (r := 17) qb4 (by decide +kernel)) ab5 ?_
            refine x_iload_n 41 hK rfl rfl rfl ?_
            refine x_iaload (n := 8) 42 hK rfl rfl (shx hG (a := b5) (r := 20) qb5 (by decide +kernel)) (by omega) (by omega) (by omega) ?_
            exact x_iret hK rfl ⟨rfl, _, Or.inr ⟨by omega, Or.inr ⟨by omega, _, b5, ab4, by first | (rw [if_pos (by omega)]; exact ab5) | (rw [if_neg (by omega)]; exact ab5), rfl⟩⟩, rfl⟩
        · exact hX _ (Or.inl ⟨rfl, by omega⟩)
def wayR (h : aH) (i j : Int) (o : Option Int) : Prop := ∃ b, aR h 0 10 = some b ∧ ((o = none ∧ ¬ (0 ≤ i ∧ i < gi h b 4 ∧ 0 ≤ j ∧ j ≤ 1)) ∨ ((0 ≤ i ∧ i < gi h b 4 ∧ 0 ≤ j ∧ j ≤ 1) ∧ ∃ c, aR h b (if j = 0 then 5 else 6) = some c ∧ o = some (if j = 0 then (I (gi h c i.toNat - gi h b 0)).toInt else gi h c i.toNat)))
set_option maxRecDepth 4000 in
theorem rn9way {CL : CT} {sh : List (Nat × Nat)} {h : aH} (hG : GD gE gRL sh h) {i j : Int} (ri : r32 i) (rj : r32 j) : wplX CL ac9X10_way (some .int) (fun rv h' => h' = h ∧ ∃ v : Int, wayR h i j (some v) ∧ rv = some (.int (I v))) (fun _ pc _ st h' bc bs => pc = 24 ∧ st = [] ∧ h' = h ∧ wayR h i j none ∧ 1 ≤ bc ∧ 6 ≤ bs) 0 [(0, .ref 0), (1, .int (I i)), (2, .int (I j))] [] h 1 6 := by
  intro K hK hX9
  obtain ⟨b1, ab1, qb1⟩ := grq (k := 10) hG (a := 0) (r := 0) (by decide +kernel) (q := 17) (by decide +kernel)
  have hB := ab1
  have hX : ∀ ls, wayR h i j none → K 24 ls [] h 1 6 := fun ls hr => hX9 _ _ _ _ _ _ ⟨rfl, rfl, rfl, hr, Nat.le_refl _, Nat.le_refl _⟩
  refine x_iload_n 1 hK rfl rfl rfl ?_
  refine x_if_lt 24 4 hK rfl rfl rfl (by omega) (fun c1 => ?_) (fun c1 => ?_)
  · exact hX _ (⟨_, hB, Or.inl ⟨rfl, by omega⟩⟩)
  · refine x_iload_n 5 hK rfl rfl rfl ?_
    refine x_aload_n 6 hK rfl rfl rfl ?_
    refine x_getR 9 hK rfl rfl (shx hG (a := 0) (r := 0) (by decide +kernel) (by decide +kernel)) ab1 ?_
    have g9 := gri 0 12 hG (a := b1) (r := 17) (k := 4) qb1 (by decide +kernel)
    refine x_getI 12 hK rfl (Or.inl rfl) rfl (shx hG (a := b1) (r := 17) qb1 (by decide +kernel)) ?_
    refine x_if_icmp_ge 24 15 hK rfl rfl rfl (by omega) (by omega) (fun c12 => ?_) (fun c12 => ?_)
    · exact hX _ (⟨_, hB, Or.inl ⟨rfl, by omega⟩⟩)
    · refine x_iload_n 16 hK rfl rfl rfl ?_
      refine x_if_lt 24 19 hK rfl rfl rfl (by omega) (fun c16 => ?_) (fun c16 => ?_)
      · exact hX _ (⟨_, hB, Or.inl ⟨rfl, by omega⟩⟩)
      · refine x_iload_n 20 hK rfl rfl rfl ?_
        refine x_iconst 21 hK rfl rfl ?_
        refine x_if_icmp_le 32 24 hK rfl rfl rfl (by omega) (by omega) (fun c21 => ?_) (fun c21 => ?_)
        · refine x_iload_n 33 hK rfl rfl rfl ?_
          refine x_if_ne 56 36 hK rfl rfl rfl (by omega) (fun c33 => ?_) (fun c33 => ?_)
          · refine x_aload_n 57 hK rfl rfl rfl ?_
            refine x_getR 60 hK rfl rfl (shx hG (a := 0) (r := 0) (by decide +kernel) (by decide +kernel)) ab1 ?_
            obtain ⟨b2, ab2, qb2⟩ := grq (k := 6) hG (a := b1) (r := 17) qb1 (q := 19) (by decide +kernel)
            refine x_getR 63 hK rfl rfl (shx hG (a := b1) (r := 17) qb1 (by decide +kernel)) ab2 ?_
            refine x_iload_n 64 hK rfl rfl rfl ?_
            refine x_iaload (n := 12) 65 hK rfl rfl (shx hG (a := b2) (r := 19) qb2 (by decide +kernel)) (by omega) (by omega) (by omega) ?_
            exact x_iret hK rfl ⟨rfl, gi h b2 (i).toNat, ⟨b1, ab1, Or.inr ⟨by omega, b2, by first | (rw [if_pos (by omega)]; exact ab2) | (rw [if_neg (by omega)]; exact ab2), by first | rw [if_pos (by omega)] | rw [if_neg (by omega)]⟩⟩, rfl⟩
          · refine x_aload_n 37 hK rfl rfl rfl ?_
            refine x_getR 40 hK rfl rfl (shx hG (a := 0) (r := 0) (by decide +kernel) (by decide +kernel)) ab1 ?_
            obtain ⟨b3, ab3, qb3⟩ := grq (k := 5) hG (a := b1) (r := 17) qb1 (q := 18) (by decide +kernel)
            refine x_getR 43 hK rfl rfl (shx hG (a := b1) (r := 17) qb1 (by decide +kernel)) ab3 ?_
            refine x_iload_n 44 hK rfl rfl rfl ?_
            refine x_iaload (n := 12) 45 hK rfl rfl (shx hG (a := b3) (r := 18) qb3 (by decide +kernel)) (by omega) (by omega) (by omega) ?_
            refine x_aload_n 46 hK rfl rfl rfl ?_
            refine x_getR 49 hK rfl rfl (shx hG (a := 0) (r := 0) (by decide +kernel) (by decide +kernel)) ab1 ?_
            refine x_getI 52 hK rfl (Or.inl rfl) rfl (shx hG (a := b1) (r := 17) qb1 (by decide +kernel)) ?_
            refine x_isub 53 hK rfl rfl ?_
            refine x_goto 65 hK rfl rfl ?_
            exact x_iret hK rfl ⟨rfl, (I (gi h b3 (i).toNat - gi h b1 0)).toInt, ⟨b1, ab1, Or.inr ⟨by omega, b3, by first | (rw [if_pos (by omega)]; exact ab3) | (rw [if_neg (by omega)]; exact ab3), by first | rw [if_pos (by omega)] | rw [if_neg (by omega)]⟩⟩, by rw [t_I]⟩
        · exact hX _ (⟨_, hB, Or.inl ⟨rfl, by omega⟩⟩)
def rowR (h : aH) (i : Int) (o : Option Int) : Prop := ∃ b, aR h 0 1 = some b ∧ ((o = none ∧ ¬ (0 ≤ i ∧ i < gi h b 1)) ∨ ((0 ≤ i ∧ i < gi h b 1) ∧ ∃ c, aR h b 0 = some c ∧ o = some (aJ h c i.toNat).toInt))
set_option maxRecDepth 4000 in
theorem rn9row {CL : CT} {sh : List (Nat × Nat)} {h : aH} (hG : GD gE gRL sh h) {i : Int} (ri : r32 i) : wplX CL ac9X10_row (some .long) (fun rv h' => h' = h ∧ ∃ v : Int, rowR h i (some v) ∧ rv = some (.long (J v))) (fun _ pc _ st h' bc bs => pc = 15 ∧ st = [] ∧ h' = h ∧ rowR h i none ∧ 1 ≤ bc ∧ 6 ≤ bs) 0 [(0, .ref 0), (1, .int (I i))] [] h 1 6 := by
  intro K hK hX9
  obtain ⟨b1, ab1, qb1⟩ := grq (k := 1) hG (a := 0) (r := 0) (by decide +kernel) (q := 3) (by decide +kernel)
  have hB := ab1
  have hX : ∀ ls, rowR h i none → K 15 ls [] h 1 6 := fun ls hr => hX9 _ _ _ _ _ _ ⟨rfl, rfl, rfl, hr, Nat.le_refl _, Nat.le_refl _⟩
  refine x_iload_n 1 hK rfl rfl rfl ?_
  refine x_if_lt 15 4 hK rfl rfl rfl (by omega) (fun c1 => ?_) (fun c1 => ?_)
  · exact hX _ (⟨_, hB, Or.inl ⟨rfl, by omega⟩⟩)
  · refine x_iload_n 5 hK rfl rfl rfl ?_
    refine x_aload_n 6 hK rfl rfl rfl ?_
    refine x_getR 9 hK rfl rfl (shx hG (a := 0) (r := 0) (by decide +kernel) (by decide +kernel)) ab1 ?_
    have g9 := gri 0 30 hG (a := b1) (r := 3) (k := 1) qb1 (by decide +kernel)
    refine x_getI 12 hK rfl (Or.inl rfl) rfl (shx hG (a := b1) (r := 3) qb1 (by decide +kernel)) ?_
    refine x_if_icmp_lt 23 15 hK rfl rfl rfl (by omega) (by omega) (fun c12 => ?_) (fun c12 => ?_)
    · refine x_aload_n 24 hK rfl rfl rfl ?_
      refine x_getR 27 hK rfl rfl (shx hG (a := 0) (r := 0) (by decide +kernel) (by decide +kernel)) ab1 ?_
      obtain ⟨b2, ab2, qb2⟩ := grq (k := 0) hG (a := b1) (r := 3) qb1 (q := 4) (by decide +kernel)
      refine x_getR 30 hK rfl rfl (shx hG (a := b1) (r := 3) qb1 (by decide +kernel)) ab2 ?_
      refine x_iload_n 31 hK rfl rfl rfl ?_
      refine x_laload (n := 30) 32 hK rfl rfl (shx hG (a := b2) (r := 4) qb2 (by decide +kernel)) (by omega) (by omega) (by omega) ?_
      exact x_lret hK rfl ⟨rfl, _, ⟨b1, ab1, Or.inr ⟨by omega, _, ab2, rfl⟩⟩, rfl⟩
    · exact hX _ (⟨_, hB, Or.inl ⟨rfl, by omega⟩⟩)
