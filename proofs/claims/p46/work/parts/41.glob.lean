/-! THE GLOBAL TABLES: what holds between any two calls, and the roles of the cells -/
def gE : ET := (
  [(110, 17), (109, 6), (2, 80), (103, 2), (1, 30), (106, 5), (0, 10), (0, 10), (104, 4), (0, 40), (0, 40), (105, 5), (0, 40), (102, 3), (0, 16), (0, 16), (0, 8), (108, 9), (0, 12), (0, 12), (0, 8), (0, 8), (108, 9), (0, 12), (0, 12), (0, 8), (0, 8), (101, 5), (4, 15), (4, 3), (3, 3), (108, 9), (0, 12), (0, 12), (0, 8), (0, 8), (108, 9), (0, 12), (0, 12), (0, 8), (0, 8), (100, 6), (0, 30), (0, 31), (0, 31), (0, 30), (0, 9), (107, 3), (0, 25), (6, 25), (1, 9), (0, 9), (5, 8), (0, 9), (111, 53), (1, 40), (0, 10), (3, 10), (0, 16), (0, 16), (0, 8), (0, 57), (0, 57), (0, 80), (0, 32), (0, 80), (0, 80), (0, 80), (0, 4), (0, 912), (0, 60), (0, 60), (0, 30), (0, 9), (0, 9), (0, 14409), (0, 12), (0, 12), (0, 225), (3, 225), (3, 225), (3, 3), (0, 3), (0, 171), (1, 1)],
  [[(9, 9, 0, 8)], [(1, 1, 0, 80), (3, 3, 0, 76), (4, 4, 0, 1), (5, 5, 0, 1)], [(0, 79, 0, 65535)], [(1, 1, 0, 30)], [], [(0, 0, (-1000000), 1000000), (1, 1, 0, 10)], [], [(0, 9, 0, 1)], [(1, 1, 0, 40), (3, 3, 0, 40)], [], [], [(1, 1, 0, 40), (2, 2, 0, 4), (4, 4, 0, 1)], [], [(0, 0, 0, 16)], [], [(0, 15, 0, 8)], [(0, 7, 0, 9)], [(1, 1, 0, 8), (4, 4, 0, 12)], [], [], [], [], [(1, 1, 0, 8), (4, 4, 0, 12)], [], [], [], [], [(1, 1, 0, 14), (2, 2, 0, 15)], [], [], [(0, 2, 0, 1)], [(1, 1, 0, 8), (4, 4, 0, 12)], [], [], [], [], [(1, 1, 0, 8), (4, 4, 0, 12)], [], [], [], [], [(5, 5, 0, 1)], [], [], [], [], [], [(0, 0, 0, 12)], [(0, 24, (-1), 8)], [], [], [], [], [], [(0, 0, 0, 1), (1, 1, 0, 40), (3, 3, 2, 40), (4, 4, 0, 10), (6, 6, 0, 16), (7, 7, 0, 8), (17, 17, 0, 80), (18, 18, 0, 81), (19, 19, 0, 80), (20, 20, 0, 4), (22, 22, 0, 16), (25, 25, 0, 80), (26, 26, 0, 80), (29, 29, 0, 16), (35, 35, 0, 60), (42, 42, 0, 12)], [], [], [(0, 9, 0, 1)], [], [], [(0, 7, 0, 9)], [(1, 1, 0, 8), (3, 3, 0, 12)], [(1, 1, 0, 8), (3, 3, 0, 12)], [], [], [], [], [], [], [(1, 1, 0, 8), (3, 3, 0, 12), (58, 58, 0, 8), (60, 60, 0, 12), (115, 115, 0, 8), (117, 117, 0, 12), (172, 172, 0, 8), (174, 174, 0, 12), (229, 229, 0, 8), (231, 231, 0, 12), (286, 286, 0, 8), (288, 288, 0, 12), (343, 343, 0, 8), (345, 345, 0, 12), (400, 400, 0, 8), (402, 402, 0, 12), (457, 457, 0, 8), (459, 459, 0, 12), (514, 514, 0, 8), (516, 516, 0, 12), (571, 571, 0, 8), (573, 573, 0, 12), (628, 628, 0, 8), (630, 630, 0, 12), (685, 685, 0, 8), (687, 687, 0, 12), (742, 742, 0, 8), (744, 744, 0, 12), (799, 799, 0, 8), (801, 801, 0, 12), (856, 856, 0, 8), (858, 858, 0, 12)], [], [], [], [], [], [], [(0, 11, 0, 24)], [(0, 11, 0, 8)], [], [(0, 224, 0, 1)], [(0, 224, 0, 1)], [(0, 2, 0, 1)], [], [(1, 1, 0, 8), (3, 3, 0, 12), (58, 58, 0, 8), (60, 60, 0, 12), (115, 115, 0, 8), (117, 117, 0, 12)], []],
  [[(0, 0, 1), (1, 1, 3), (2, 2, 5), (3, 3, 5), (4, 4, 8), (5, 5, 8), (6, 6, 11), (7, 7, 13), (8, 8, 16), (10, 10, 17), (11, 11, 22), (12, 12, 27), (13, 13, 41), (14, 14, 47), (15, 15, 51), (16, 16, 52)], [(0, 0, 2)], [], [(0, 0, 4)], [], [(3, 3, 6), (4, 4, 7)], [], [], [(0, 0, 9), (2, 2, 10)], [], [], [(0, 0, 12)], [], [(1, 1, 14), (2, 2, 15)], [], [], [], [(5, 5, 18), (6, 6, 19), (7, 7, 20), (8, 8, 21)], [], [], [], [], [(5, 5, 23), (6, 6, 24), (7, 7, 25), (8, 8, 26)], [], [], [], [], [(0, 0, 28), (3, 3, 29), (4, 4, 30)], [(0, 14, 31)], [(0, 2, 36)], [], [(5, 5, 32), (6, 6, 33), (7, 7, 34), (8, 8, 35)], [], [], [], [], [(5, 5, 37), (6, 6, 38), (7, 7, 39), (8, 8, 40)], [], [], [], [], [(0, 0, 42), (1, 1, 43), (2, 2, 44), (3, 3, 45), (4, 4, 46)], [], [], [], [], [], [(1, 1, 48), (2, 2, 49)], [], [(0, 24, 50)], [], [], [(0, 7, 53)], [], [(2, 2, 55), (9, 9, 56), (10, 10, 57), (11, 11, 58), (12, 12, 59), (13, 13, 60), (14, 14, 61), (15, 15, 62), (16, 16, 63), (21, 21, 64), (23, 23, 65), (24, 24, 66), (27, 27, 67), (28, 28, 68), (30, 30, 69), (33, 33, 70), (34, 34, 71), (36, 36, 72), (37, 37, 73), (38, 38, 74), (41, 41, 75), (43, 43, 76), (44, 44, 77), (45, 45, 78), (46, 46, 79), (47, 47, 80), (50, 50, 81), (51, 51, 82), (52, 52, 83)], [], [], [], [], [], [], [], [], [], [], [], [], [], [], [], [], [], [], [], [], [], [], [], [], [], [], [], [], [], []],
  [true, true, true, true, true, false, false, false, false, false, false, true, true, true, true, true, true, true, true, true, true, true, true, true, true, true, true, true, true, true, true, false, false, false, false, false, false, false, false, false, false, true, true, true, true, true, true, true, true, true, false, true, true, false, true, true, true, true, true, true, true, true, true, true, true, true, true, true, true, true, true, true, true, true, true, true, true, true, true, true, true, true, true, true, true])
def gRL : List Nat := [0, 1, 2, 3, 4, 5, 6, 7, 5, 6, 7, 8, 9, 10, 8, 9, 10, 11, 12, 13, 14, 15, 16, 17, 18, 19, 20, 21, 22, 23, 24, 25, 26, 27, 28, 29, 30, 31, 32, 33, 34, 35, 31, 32, 33, 34, 35, 31, 32, 33, 34, 35, 31, 32, 33, 34, 35, 31, 32, 33, 34, 35, 31, 32, 33, 34, 35, 31, 32, 33, 34, 35, 31, 32, 33, 34, 35, 31, 32, 33, 34, 35, 31, 32, 33, 34, 35, 31, 32, 33, 34, 35, 31, 32, 33, 34, 35, 31, 32, 33, 34, 35, 31, 32, 33, 34, 35, 31, 32, 33, 34, 35, 36, 37, 38, 39, 40, 36, 37, 38, 39, 40, 36, 37, 38, 39, 40, 41, 42, 43, 44, 45, 46, 47, 48, 49, 50, 50, 50, 50, 50, 50, 50, 50, 50, 50, 50, 50, 50, 50, 50, 50, 50, 50, 50, 50, 50, 50, 50, 50, 50, 51, 52, 53, 53, 53, 53, 53, 53, 53, 53, 54, 55, 56, 57, 58, 59, 60, 61, 62, 63, 64, 65, 66, 67, 68, 69, 70, 71, 72, 73, 74, 75, 76, 77, 78, 79, 80, 81, 82, 83, 84]
theorem gEOK : EOK gE gRL (fun _ => none) := eokB_ok (by decide +kernel)
theorem gEL : ELow gE := elB_ok (by decide +kernel)
theorem chkS {SP : CT} (hSP : MONO SP) {sh : List (Nat × Nat)} (sms : List SM) {sm : SM} {d : Nat} (fuel : Nat) (es : List (Bool × Nat)) (cs : List CE) (hc : (sms.all smwf && match mtab[sm.1]? with
  | some mi => chk gE sms mi (slfL gE sm) sm cs es fuel
  | none => false) = true) (hs : ∀ s ∈ sms, SMOK gE gRL sh (CLd SP d) s) : SMOK gE gRL sh (CLd SP (d + 1)) sm := by
  rw [Bool.and_eq_true] at hc
  obtain ⟨hw, hc⟩ := hc
  split at hc
  · rename_i mi hmi
    exact chk_ok gEOK gEL (fun s h => List.all_eq_true.mp hw s h) hs (MONO_CLd hSP d) hmi hc
  · cases hc
/-- two pieces of an argument's range (k = 0 an int, 1 a long) -/
def mun (M1 M2 : MD) : MD := M1 ++ M2.filter fun q => !(M1.any fun z => Nat.beq z.1 q.1 && Nat.beq z.2.1 q.2.1 && Nat.beq z.2.2.1 q.2.2.1 && Nat.beq z.2.2.2 q.2.2.2)
def jn (k i : Nat) (lo t hi : Int) (as : List AV) (a b : SM) : SM := (a.1, as, [], addR i lo t a.2.2.2.1 ++ addR i (t + 1) hi b.2.2.2.1, mun a.2.2.2.2 b.2.2.2.2)
theorem mun_l {M1 M2 : MD} {q : Nat × Nat × Nat × Nat} (h : q ∈ M1) : q ∈ mun M1 M2 := List.mem_append_left _ h
theorem mun_r {M1 M2 : MD} {q : Nat × Nat × Nat × Nat} (h : q ∈ M2) : q ∈ mun M1 M2 := by
  unfold mun
  cases hc : M1.any fun z => Nat.beq z.1 q.1 && Nat.beq z.2.1 q.2.1 && Nat.beq z.2.2.1 q.2.2.1 && Nat.beq z.2.2.2 q.2.2.2 with
  | true =>
    obtain ⟨z, hz, h2⟩ := List.any_eq_true.mp hc
    simp only [Bool.and_eq_true, Nat.beq_eq] at h2
    obtain ⟨z1, z2, z3, z4⟩ := z
    obtain ⟨q1, q2, q3, q4⟩ := q
    obtain ⟨⟨⟨rfl, rfl⟩, rfl⟩, rfl⟩ := h2
    exact List.mem_append_left _ hz
  | false => exact List.mem_append_right _ (List.mem_filter.mpr ⟨h, by rw [hc]; rfl⟩)
theorem SMOK_jn {E : ET} {rl : List Nat} {sh : List (Nat × Nat)} {CL : CT} (hmono : MONO CL) (k : Nat) (hk : k = 0 ∨ k = 1) (i : Nat) (lo t hi : Int) {as : List AV} {a b : SM} (hi1 : as[i]? = some (k, 0, lo, hi)) (e1 : a.2.1 = as.set i (k, 0, lo, t)) (e2 : b.2.1 = as.set i (k, 0, t + 1, hi)) (e3 : b.1 = a.1) (e4 : a.2.2.1 = []) (e5 : b.2.2.1 = []) (e6 : True = True) (s1 : SMOK E rl sh CL a) (s2 : SMOK E rl sh CL b) : SMOK E rl sh CL (jn k i lo t hi as a b) := by
  intro xs h ga hG hov
  obtain ⟨x, hx, gx⟩ := gst_get2 ga hi1
  have key : ∃ n : Int, numV xs[i]? n ∧ lo ≤ n ∧ n ≤ hi ∧ (∀ lo' hi', lo' ≤ n → n ≤ hi' → gv rl (fun _ => none) [] h (k, 0, lo', hi') x) := by
    rcases hk with rfl | rfl
    · obtain ⟨w, rfl, b1, b2, -⟩ := gx
      exact ⟨w.toInt, Or.inl ⟨w, hx, rfl⟩, b1, b2, fun lo' hi' c1 c2 => ⟨w, rfl, c1, c2, trivial⟩⟩
    · obtain ⟨w, rfl, b1, b2, -⟩ := gx
      exact ⟨w.toInt, Or.inr ⟨w, hx, rfl⟩, b1, b2, fun lo' hi' c1 c2 => ⟨w, rfl, c1, c2, trivial⟩⟩
  obtain ⟨n, hn, b1, b2, hg⟩ := key
  show CL a.1 xs h 0 0 _
  by_cases hc : n ≤ t
  · have g1 : gst rl (fun _ => none) [] h a.2.1 xs := by rw [e1]; exact gst_set ga hx (hg _ _ b1 hc)
    refine hmono _ _ _ _ _ _ _ (fun v h' hq => ?_) (s1 xs h g1 hG (by rw [e4]; exact fun q hq => absurd hq List.not_mem_nil))
    obtain ⟨q1, q2, o, hm, q3, q4, q5⟩ := hq
    refine ⟨q1, q2.mono (msub_of fun q hq => mun_l hq), (o.1, o.2.1, (i, lo, t) :: o.2.2), List.mem_append_left _ (List.mem_map.mpr ⟨o, hm, rfl⟩), q3, q4, fun q hq => ?_⟩
    rcases List.mem_cons.mp hq with rfl | hq
    · exact ⟨n, hn, b1, hc⟩
    · exact q5 q hq
  · have g1 : gst rl (fun _ => none) [] h b.2.1 xs := by rw [e2]; exact gst_set ga hx (hg _ _ (by omega) b2)
    rw [← e3]
    refine hmono _ _ _ _ _ _ _ (fun v h' hq => ?_) (s2 xs h g1 hG (by rw [e5]; exact fun q hq => absurd hq List.not_mem_nil))
    obtain ⟨q1, q2, o, hm, q3, q4, q5⟩ := hq
    refine ⟨q1, q2.mono (msub_of fun q hq => mun_r hq), (o.1, o.2.1, (i, t + 1, hi) :: o.2.2), List.mem_append_right _ (List.mem_map.mpr ⟨o, hm, rfl⟩), q3, q4, fun q hq => ?_⟩
    rcases List.mem_cons.mp hq with rfl | hq
    · exact ⟨n, hn, by omega, b2⟩
    · exact q5 q hq
