section
/-! WHAT THE CHECKER SAYS OF METHODS, 1 -/
noncomputable def sX11_delayAt_0 : SM := (mX11_delayAt, [(2, 54, 0, 0), (0, 0, (-2147483648), 2147483647)], [], [([(0, 0, 1, 12)], [(68, 0, 2, 40), (68, 1, 0, 10), (68, 2, (-2147483648), 2147483647), (68, 3, (-11), 11)], [])], [(0, 67, 0, 79), (0, 68, 0, 3)])
theorem kX11_delayAt_0 {SP : CT} (hSP : MONO SP) {sh : List (Nat × Nat)} : SMOK gE gRL sh (CLd SP 5) sX11_delayAt_0 :=
  chkS hSP [sX11_ruled_0] 30 []
  []
  (by decide +kernel) (List.forall_mem_cons.mpr ⟨SMOK_le (Nat.le_of_ble_eq_true rfl : 4 ≤ 4) (kX11_ruled_0 hSP), fun s h => absurd h List.not_mem_nil⟩)
noncomputable def sX11_delay_0 : SM := (mX11_delay, [(2, 54, 0, 0)], [], [([(0, 0, 1, 12)], [(54, 0, 0, 0), (68, 0, 2, 40), (68, 1, 0, 10), (68, 2, (-2147483648), 2147483647), (68, 3, (-11), 11)], [])], [(0, 54, 0, 0), (0, 67, 0, 79), (0, 68, 0, 3)])
theorem kX11_delay_0 {SP : CT} (hSP : MONO SP) {sh : List (Nat × Nat)} : SMOK gE gRL sh (CLd SP 6) sX11_delay_0 :=
  chkS hSP [sX11_delayAt_0] 12 []
  []
  (by decide +kernel) (List.forall_mem_cons.mpr ⟨SMOK_le (Nat.le_of_ble_eq_true rfl : 5 ≤ 5) (kX11_delayAt_0 hSP), fun s h => absurd h List.not_mem_nil⟩)
noncomputable def sX11_comesAt_0 : SM := (mX11_comesAt, [(2, 54, 0, 0), (0, 0, (-2147483648), 2147483647), (0, 0, (-2147483648), 2147483647)], [], [([(0, 0, 0, 0)], [], []), ([(0, 0, 1, 1)], [(68, 0, 2, 40), (68, 1, 0, 10), (68, 2, (-2147483648), 2147483647), (68, 3, (-11), 11)], []), ([(0, 0, 0, 0)], [(68, 0, 2, 40), (68, 1, 0, 10), (68, 2, (-2147483648), 2147483647), (68, 3, (-11), 11)], [])], [(0, 67, 0, 79), (0, 68, 0, 3)])
theorem kX11_comesAt_0 {SP : CT} (hSP : MONO SP) {sh : List (Nat × Nat)} : SMOK gE gRL sh (CLd SP 6) sX11_comesAt_0 :=
  chkS hSP [sX11_delayAt_0, sX11_mayGive_0] 26 []
  []
  (by decide +kernel) (List.forall_mem_cons.mpr ⟨SMOK_le (Nat.le_of_ble_eq_true rfl : 5 ≤ 5) (kX11_delayAt_0 hSP), List.forall_mem_cons.mpr ⟨SMOK_le (Nat.le_of_ble_eq_true rfl : 1 ≤ 5) (kX11_mayGive_0 hSP), fun s h => absurd h List.not_mem_nil⟩⟩)
noncomputable def sX11_laysLeast_0 : SM := (mX11_laysLeast, [(2, 54, 0, 0), (0, 0, 1, 30)], [], [([], [(68, 0, 0, 40)], [])], [(0, 67, 0, 79), (0, 68, 0, 3), (0, 73, 0, 8), (0, 74, 0, 8)])
theorem kX11_laysLeast_0 {SP : CT} (hSP : MONO SP) {sh : List (Nat × Nat)} : SMOK gE gRL sh (CLd SP 7) sX11_laysLeast_0 :=
  chkS hSP [sX11_comesAt_0, sX11_goesBy_0, sX11_goesBy_1, sX11_goesBy_2, sX11_goesBy_3, sX11_goesBy_4, sX11_hitsAt_0, sX11_turned_0] 55 [(false, 0)]
  [((2, [(0, (2, 54, 0, 0)), (1, (0, 0, 1, 30)), (2, (0, 0, 0, 9))], [], [(61, 1, 0, 8)], [(0, 3, 0), (1, 2, 9), (0, 1, 0)]), [(false, 0), (false, 1)]), ((39, [(0, (2, 54, 0, 0)), (1, (0, 0, 1, 30)), (2, (0, 0, 1, 1))], [], [], [(0, 2, 0)]), [(false, 1)]), ((46, [(0, (2, 54, 0, 0)), (1, (0, 0, 1, 30)), (2, (0, 0, 1, 30)), (3, (0, 0, 0, 0))], [], [(61, 3, 0, 12)], [(0, 1, 0), (1, 2, 31), (0, 54, 0)]), [(false, 1), (false, 2)]), ((46, [(0, (2, 54, 0, 0)), (1, (0, 0, 1, 30)), (2, (0, 0, 1, 30)), (3, (0, 0, 1, 1)), (4, (0, 0, 5, 5))], [], [(61, 3, 1, 12)], [(0, 1, 0), (1, 2, 31), (0, 53, 0)]), [(false, 1), (false, 43)]), ((105, [(0, (2, 54, 0, 0)), (1, (0, 0, 1, 30)), (2, (0, 0, 1, 30)), (3, (0, 0, 0, 0))], [], [(61, 3, 0, 12)], [(0, 1, 0), (1, 2, 31), (0, 41, 0)]), [(false, 1)]), ((105, [(0, (2, 54, 0, 0)), (1, (0, 0, 1, 30)), (2, (0, 0, 1, 30)), (3, (0, 0, 1, 1))], [], [(61, 3, 0, 12), (68, 0, 0, 40)], [(0, 1, 0), (1, 2, 31), (0, 40, 0)]), [(false, 1), (false, 12)]), ((156, [(0, (2, 54, 0, 0)), (1, (0, 0, 1, 30)), (2, (0, 0, 1, 30)), (3, (0, 0, 0, 0))], [], [(61, 3, 0, 12), (68, 0, 0, 40)], [(0, 1, 0), (1, 2, 31), (0, 10, 0)]), [(false, 1)]), ((156, [(0, (2, 54, 0, 0)), (1, (0, 0, 1, 30)), (2, (0, 0, 1, 30)), (3, (0, 0, 1, 1))], [], [(61, 3, 0, 12), (68, 0, 0, 40)], [(0, 1, 0), (1, 2, 31), (0, 9, 0)]), [(false, 1)]), ((156, [(0, (2, 54, 0, 0)), (1, (0, 0, 1, 30)), (2, (0, 0, 1, 30)), (3, (0, 0, 2, 2))], [], [(61, 3, 0, 12), (68, 0, 0, 40)], [(0, 1, 0), (1, 2, 31), (0, 8, 0)]), [(false, 1)]), ((156, [(0, (2, 54, 0, 0)), (1, (0, 0, 1, 30)), (2, (0, 0, 1, 30)), (3, (0, 0, 3, 3))], [], [(61, 3, 0, 12), (68, 0, 0, 40)], [(0, 1, 0), (1, 2, 31), (0, 7, 0)]), [(false, 1)]), ((156, [(0, (2, 54, 0, 0)), (1, (0, 0, 1, 30)), (2, (0, 0, 1, 30)), (3, (0, 0, 4, 4))], [], [(61, 3, 0, 12), (68, 0, 0, 40)], [(0, 1, 0), (1, 2, 31), (0, 6, 0)]), [(false, 1)]), ((156, [(0, (2, 54, 0, 0)), (1, (0, 0, 1, 30)), (2, (0, 0, 1, 30)), (3, (0, 0, 5, 5))], [], [(61, 3, 0, 12), (68, 0, 0, 40)], [(0, 1, 0), (1, 2, 31), (0, 5, 0)]), [(false, 1)]), ((156, [(0, (2, 54, 0, 0)), (1, (0, 0, 1, 30)), (2, (0, 0, 1, 30)), (3, (0, 0, 6, 6))], [], [(61, 3, 0, 12), (68, 0, 0, 40)], [(0, 1, 0), (1, 2, 31), (0, 4, 0)]), [(false, 1)]), ((156, [(0, (2, 54, 0, 0)), (1, (0, 0, 1, 30)), (2, (0, 0, 1, 30)), (3, (0, 0, 7, 7))], [], [(61, 3, 0, 12), (68, 0, 0, 40)], [(0, 1, 0), (1, 2, 31), (0, 3, 0)]), [(false, 1)]), ((156, [(0, (2, 54, 0, 0)), (1, (0, 0, 1, 30)), (2, (0, 0, 1, 30)), (3, (0, 0, 8, 8))], [], [(61, 3, 0, 12), (68, 0, 0, 40)], [(0, 1, 0), (1, 2, 31), (0, 2, 0)]), [(false, 1)]), ((156, [(0, (2, 54, 0, 0)), (1, (0, 0, 1, 30)), (2, (0, 0, 1, 30)), (3, (0, 0, 9, 9))], [], [(61, 3, 0, 12), (68, 0, 0, 40)], [(0, 1, 0), (1, 2, 31), (0, 1, 0)]), [(false, 1)]), ((39, [(0, (2, 54, 0, 0)), (1, (0, 0, 1, 30)), (2, (0, 0, 2, 31)), (3, (0, 0, 9, 9))], [], [(61, 3, 0, 12), (68, 0, 0, 40)], [(0, 1, 0), (1, 2, 31), (0, 55, 0)]), [(true, 13)]), ((105, [(0, (2, 54, 0, 0)), (1, (0, 0, 1, 30)), (2, (0, 0, 2, 30)), (3, (0, 0, 2, 2))], [], [(61, 3, 0, 12), (68, 0, 0, 40)], [(0, 1, 0), (1, 2, 31), (0, 39, 0)]), [(true, 10), (false, 1)]), ((105, [(0, (2, 54, 0, 0)), (1, (0, 0, 1, 30)), (2, (0, 0, 3, 30)), (3, (0, 0, 3, 3))], [], [(61, 3, 0, 12), (68, 0, 0, 40)], [(0, 1, 0), (1, 2, 31), (0, 38, 0)]), [(true, 11), (false, 1)]), ((105, [(0, (2, 54, 0, 0)), (1, (0, 0, 1, 30)), (2, (0, 0, 4, 30)), (3, (0, 0, 4, 4))], [], [(61, 3, 0, 12), (68, 0, 0, 40)], [(0, 1, 0), (1, 2, 31), (0, 37, 0)]), [(true, 12), (false, 1)]), ((105, [(0, (2, 54, 0, 0)), (1, (0, 0, 1, 30)), (2, (0, 0, 5, 30)), (3, (0, 0, 5, 5))], [], [(61, 3, 0, 12), (68, 0, 0, 40)], [(0, 1, 0), (1, 2, 31), (0, 36, 0)]), [(true, 13), (false, 1)]), ((105, [(0, (2, 54, 0, 0)), (1, (0, 0, 1, 30)), (2, (0, 0, 6, 30)), (3, (0, 0, 6, 6))], [], [(61, 3, 0, 12), (68, 0, 0, 40)], [(0, 1, 0), (1, 2, 31), (0, 35, 0)]), [(true, 14), (false, 1)]), ((105, [(0, (2, 54, 0, 0)), (1, (0, 0, 1, 30)), (2, (0, 0, 7, 30)), (3, (0, 0, 7, 7))], [], [(61, 3, 0, 12), (68, 0, 0, 40)], [(0, 1, 0), (1, 2, 31), (0, 34, 0)]), [(true, 15), (false, 1)]), ((105, [(0, (2, 54, 0, 0)), (1, (0, 0, 1, 30)), (2, (0, 0, 8, 30)), (3, (0, 0, 8, 8))], [], [(61, 3, 0, 12), (68, 0, 0, 40)], [(0, 1, 0), (1, 2, 31), (0, 33, 0)]), [(true, 16), (false, 1)]), ((105, [(0, (2, 54, 0, 0)), (1, (0, 0, 1, 30)), (2, (0, 0, 9, 30)), (3, (0, 0, 9, 9))], [], [(61, 3, 0, 12), (68, 0, 0, 40)], [(0, 1, 0), (1, 2, 31), (0, 32, 0)]), [(true, 17), (false, 1)]), ((105, [(0, (2, 54, 0, 0)), (1, (0, 0, 1, 30)), (2, (0, 0, 10, 30)), (3, (0, 0, 10, 10))], [], [(61, 3, 0, 12), (68, 0, 0, 40)], [(0, 1, 0), (1, 2, 31), (0, 31, 0)]), [(true, 18), (false, 1)]), ((105, [(0, (2, 54, 0, 0)), (1, (0, 0, 1, 30)), (2, (0, 0, 11, 30)), (3, (0, 0, 11, 11))], [], [(61, 3, 0, 12), (68, 0, 0, 40)], [(0, 1, 0), (1, 2, 31), (0, 30, 0)]), [(true, 19), (false, 1)]), ((105, [(0, (2, 54, 0, 0)), (1, (0, 0, 1, 30)), (2, (0, 0, 12, 30)), (3, (0, 0, 12, 12))], [], [(61, 3, 0, 12), (68, 0, 0, 40)], [(0, 1, 0), (1, 2, 31), (0, 29, 0)]), [(true, 20), (false, 1)]), ((105, [(0, (2, 54, 0, 0)), (1, (0, 0, 1, 30)), (2, (0, 0, 13, 30)), (3, (0, 0, 13, 13))], [], [(61, 3, 0, 12), (68, 0, 0, 40)], [(0, 1, 0), (1, 2, 31), (0, 28, 0)]), [(true, 21), (false, 1)]), ((105, [(0, (2, 54, 0, 0)), (1, (0, 0, 1, 30)), (2, (0, 0, 14, 30)), (3, (0, 0, 14, 14))], [], [(61, 3, 0, 12), (68, 0, 0, 40)], [(0, 1, 0), (1, 2, 31), (0, 27, 0)]), [(true, 22), (false, 1)]), ((105, [(0, (2, 54, 0, 0)), (1, (0, 0, 1, 30)), (2, (0, 0, 15, 30)), (3, (0, 0, 15, 15))], [], [(61, 3, 0, 12), (68, 0, 0, 40)], [(0, 1, 0), (1, 2, 31), (0, 26, 0)]), [(true, 23), (false, 1)]), ((105, [(0, (2, 54, 0, 0)), (1, (0, 0, 1, 30)), (2, (0, 0, 16, 30)), (3, (0, 0, 16, 16))], [], [(61, 3, 0, 12), (68, 0, 0, 40)], [(0, 1, 0), (1, 2, 31), (0, 25, 0)]), [(true, 24), (false, 1)]), ((105, [(0, (2, 54, 0, 0)), (1, (0, 0, 1, 30)), (2, (0, 0, 17, 30)), (3, (0, 0, 17, 17))], [], [(61, 3, 0, 12), (68, 0, 0, 40)], [(0, 1, 0), (1, 2, 31), (0, 24, 0)]), [(true, 25), (false, 1)]), ((105, [(0, (2, 54, 0, 0)), (1, (0, 0, 1, 30)), (2, (0, 0, 18, 30)), (3, (0, 0, 18, 18))], [], [(61, 3, 0, 12), (68, 0, 0, 40)], [(0, 1, 0), (1, 2, 31), (0, 23, 0)]), [(true, 26), (false, 1)]), ((105, [(0, (2, 54, 0, 0)), (1, (0, 0, 1, 30)), (2, (0, 0, 19, 30)), (3, (0, 0, 19, 19))], [], [(61, 3, 0, 12), (68, 0, 0, 40)], [(0, 1, 0), (1, 2, 31), (0, 22, 0)]), [(true, 27), (false, 1)]), ((105, [(0, (2, 54, 0, 0)), (1, (0, 0, 1, 30)), (2, (0, 0, 20, 30)), (3, (0, 0, 20, 20))], [], [(61, 3, 0, 12), (68, 0, 0, 40)], [(0, 1, 0), (1, 2, 31), (0, 21, 0)]), [(true, 28), (false, 1)]), ((105, [(0, (2, 54, 0, 0)), (1, (0, 0, 1, 30)), (2, (0, 0, 21, 30)), (3, (0, 0, 21, 21))], [], [(61, 3, 0, 12), (68, 0, 0, 40)], [(0, 1, 0), (1, 2, 31), (0, 20, 0)]), [(true, 29), (false, 1)]), ((105, [(0, (2, 54, 0, 0)), (1, (0, 0, 1, 30)), (2, (0, 0, 22, 30)), (3, (0, 0, 22, 22))], [], [(61, 3, 0, 12), (68, 0, 0, 40)], [(0, 1, 0), (1, 2, 31), (0, 19, 0)]), [(true, 30), (false, 1)]), ((105, [(0, (2, 54, 0, 0)), (1, (0, 0, 1, 30)), (2, (0, 0, 23, 30)), (3, (0, 0, 23, 23))], [], [(61, 3, 0, 12), (68, 0, 0, 40)], [(0, 1, 0), (1, 2, 31), (0, 18, 0)]), [(true, 31), (false, 1)]), ((105, [(0, (2, 54, 0, 0)), (1, (0, 0, 1, 30)), (2, (0, 0, 24, 30)), (3, (0, 0, 24, 24))], [], [(61, 3, 0, 12), (68, 0, 0, 40)], [(0, 1, 0), (1, 2, 31), (0, 17, 0)]), [(true, 32), (false, 1)]), ((105, [(0, (2, 54, 0, 0)), (1, (0, 0, 1, 30)), (2, (0, 0, 25, 30)), (3, (0, 0, 25, 25))], [], [(61, 3, 0, 12), (68, 0, 0, 40)], [(0, 1, 0), (1, 2, 31), (0, 16, 0)]), [(true, 33), (false, 1)]), ((105, [(0, (2, 54, 0, 0)), (1, (0, 0, 1, 30)), (2, (0, 0, 26, 30)), (3, (0, 0, 26, 26))], [], [(61, 3, 0, 12), (68, 0, 0, 40)], [(0, 1, 0), (1, 2, 31), (0, 15, 0)]), [(true, 34), (false, 1)]), ((105, [(0, (2, 54, 0, 0)), (1, (0, 0, 1, 30)), (2, (0, 0, 27, 30)), (3, (0, 0, 27, 27))], [], [(61, 3, 0, 12), (68, 0, 0, 40)], [(0, 1, 0), (1, 2, 31), (0, 14, 0)]), [(true, 35), (false, 1)]), ((105, [(0, (2, 54, 0, 0)), (1, (0, 0, 1, 30)), (2, (0, 0, 28, 30)), (3, (0, 0, 28, 28))], [], [(61, 3, 0, 12), (68, 0, 0, 40)], [(0, 1, 0), (1, 2, 31), (0, 13, 0)]), [(true, 36), (false, 1)]), ((105, [(0, (2, 54, 0, 0)), (1, (0, 0, 1, 30)), (2, (0, 0, 29, 30)), (3, (0, 0, 29, 29))], [], [(61, 3, 0, 12), (68, 0, 0, 40)], [(0, 1, 0), (1, 2, 31), (0, 12, 0)]), [(true, 37), (false, 1)]), ((105, [(0, (2, 54, 0, 0)), (1, (0, 0, 1, 30)), (2, (0, 0, 30, 30)), (3, (0, 0, 30, 30))], [], [(61, 3, 0, 12), (68, 0, 0, 40)], [(0, 1, 0), (1, 2, 31), (0, 11, 0)]), [(true, 38)]), ((46, [(0, (2, 54, 0, 0)), (1, (0, 0, 1, 30)), (2, (0, 0, 1, 30)), (3, (0, 0, 2, 2)), (4, (0, 0, 8, 8))], [], [(61, 3, 2, 12)], [(0, 1, 0), (1, 2, 31), (0, 52, 0)]), [(true, 41), (false, 1)]), ((46, [(0, (2, 54, 0, 0)), (1, (0, 0, 1, 30)), (2, (0, 0, 1, 30)), (3, (0, 0, 3, 3)), (4, (0, 0, 11, 11))], [], [(61, 3, 3, 12)], [(0, 1, 0), (1, 2, 31), (0, 51, 0)]), [(true, 42), (false, 1)]), ((46, [(0, (2, 54, 0, 0)), (1, (0, 0, 1, 30)), (2, (0, 0, 1, 30)), (3, (0, 0, 4, 4)), (4, (0, 0, 14, 14))], [], [(61, 3, 4, 12)], [(0, 1, 0), (1, 2, 31), (0, 50, 0)]), [(true, 43), (false, 1)]), ((46, [(0, (2, 54, 0, 0)), (1, (0, 0, 1, 30)), (2, (0, 0, 1, 30)), (3, (0, 0, 5, 5)), (4, (0, 0, 17, 17))], [], [(61, 3, 5, 12)], [(0, 1, 0), (1, 2, 31), (0, 49, 0)]), [(true, 44), (false, 1)]), ((46, [(0, (2, 54, 0, 0)), (1, (0, 0, 1, 30)), (2, (0, 0, 1, 30)), (3, (0, 0, 6, 6)), (4, (0, 0, 20, 20))], [], [(61, 3, 6, 12)], [(0, 1, 0), (1, 2, 31), (0, 48, 0)]), [(true, 45), (false, 1)]), ((46, [(0, (2, 54, 0, 0)), (1, (0, 0, 1, 30)), (2, (0, 0, 1, 30)), (3, (0, 0, 7, 7)), (4, (0, 0, 23, 23))], [], [(61, 3, 7, 12)], [(0, 1, 0), (1, 2, 31), (0, 47, 0)]), [(true, 46), (false, 1)]), ((46, [(0, (2, 54, 0, 0)), (1, (0, 0, 1, 30)), (2, (0, 0, 1, 30)), (3, (0, 0, 8, 8)), (4, (0, 0, 26, 26))], [], [(61, 3, 8, 12)], [(0, 1, 0), (1, 2, 31), (0, 46, 0)]), [(true, 47), (false, 1)]), ((46, [(0, (2, 54, 0, 0)), (1, (0, 0, 1, 30)), (2, (0, 0, 1, 30)), (3, (0, 0, 9, 9)), (4, (0, 0, 29, 29))], [], [(61, 3, 9, 12)], [(0, 1, 0), (1, 2, 31), (0, 45, 0)]), [(true, 48), (false, 1)]), ((46, [(0, (2, 54, 0, 0)), (1, (0, 0, 1, 30)), (2, (0, 0, 1, 30)), (3, (0, 0, 10, 10)), (4, (0, 0, 32, 32))], [], [(61, 3, 10, 12)], [(0, 1, 0), (1, 2, 31), (0, 44, 0)]), [(true, 49), (false, 1)]), ((46, [(0, (2, 54, 0, 0)), (1, (0, 0, 1, 30)), (2, (0, 0, 1, 30)), (3, (0, 0, 11, 11)), (4, (0, 0, 35, 35))], [], [(61, 3, 11, 12)], [(0, 1, 0), (1, 2, 31), (0, 43, 0)]), [(true, 50), (false, 1)]), ((46, [(0, (2, 54, 0, 0)), (1, (0, 0, 1, 30)), (2, (0, 0, 1, 30)), (3, (0, 0, 12, 12)), (4, (0, 0, 38, 38))], [], [(61, 3, 12, 12)], [(0, 1, 0), (1, 2, 31), (0, 42, 0)]), [(true, 51)])]
  (by decide +kernel) (List.forall_mem_cons.mpr ⟨SMOK_le (Nat.le_of_ble_eq_true rfl : 6 ≤ 6) (kX11_comesAt_0 hSP), List.forall_mem_cons.mpr ⟨SMOK_le (Nat.le_of_ble_eq_true rfl : 2 ≤ 6) (kX11_goesBy_0 hSP), List.forall_mem_cons.mpr ⟨SMOK_le (Nat.le_of_ble_eq_true rfl : 2 ≤ 6) (kX11_goesBy_1 hSP), List.forall_mem_cons.mpr ⟨SMOK_le (Nat.le_of_ble_eq_true rfl : 2 ≤ 6) (kX11_goesBy_2 hSP), List.forall_mem_cons.mpr ⟨SMOK_le (Nat.le_of_ble_eq_true rfl : 2 ≤ 6) (kX11_goesBy_3 hSP), List.forall_mem_cons.mpr ⟨SMOK_le (Nat.le_of_ble_eq_true rfl : 2 ≤ 6) (kX11_goesBy_4 hSP), List.forall_mem_cons.mpr ⟨SMOK_le (Nat.le_of_ble_eq_true rfl : 2 ≤ 6) (kX11_hitsAt_0 hSP), List.forall_mem_cons.mpr ⟨SMOK_le (Nat.le_of_ble_eq_true rfl : 1 ≤ 6) (kX11_turned_0 hSP), fun s h => absurd h List.not_mem_nil⟩⟩⟩⟩⟩⟩⟩⟩)
noncomputable def sX11_fewestOrders_0 : SM := (mX11_fewestOrders, [(2, 54, 0, 0), (0, 0, 1, 30)], [], [([(0, 0, (-2147483648), 1000)], [(68, 0, 0, 40)], [])], [(0, 67, 0, 79), (0, 68, 0, 3), (0, 73, 0, 8), (0, 74, 0, 8)])
theorem kX11_fewestOrders_0 {SP : CT} (hSP : MONO SP) {sh : List (Nat × Nat)} : SMOK gE gRL sh (CLd SP 8) sX11_fewestOrders_0 :=
  chkS hSP [sX11_laysLeast_0] 14 [(false, 0)]
  [((11, [(0, (2, 54, 0, 0)), (1, (0, 0, 1, 30)), (2, (0, 0, 1000, 1000)), (3, (0, 0, 0, 0))], [], [(68, 0, 0, 40)], [(0, 10, 0)]), [(false, 1)]), ((11, [(0, (2, 54, 0, 0)), (1, (0, 0, 1, 30)), (2, (0, 0, (-2147483648), 1000)), (3, (0, 0, 1, 1))], [], [(68, 0, 0, 40)], [(0, 9, 0)]), [(false, 1)]), ((11, [(0, (2, 54, 0, 0)), (1, (0, 0, 1, 30)), (2, (0, 0, (-2147483648), 1000)), (3, (0, 0, 2, 2))], [], [(68, 0, 0, 40)], [(0, 8, 0)]), [(false, 1)]), ((11, [(0, (2, 54, 0, 0)), (1, (0, 0, 1, 30)), (2, (0, 0, (-2147483648), 1000)), (3, (0, 0, 3, 3))], [], [(68, 0, 0, 40)], [(0, 7, 0)]), [(false, 1)]), ((11, [(0, (2, 54, 0, 0)), (1, (0, 0, 1, 30)), (2, (0, 0, (-2147483648), 1000)), (3, (0, 0, 4, 4))], [], [(68, 0, 0, 40)], [(0, 6, 0)]), [(false, 1)]), ((11, [(0, (2, 54, 0, 0)), (1, (0, 0, 1, 30)), (2, (0, 0, (-2147483648), 1000)), (3, (0, 0, 5, 5))], [], [(68, 0, 0, 40)], [(0, 5, 0)]), [(false, 1)]), ((11, [(0, (2, 54, 0, 0)), (1, (0, 0, 1, 30)), (2, (0, 0, (-2147483648), 1000)), (3, (0, 0, 6, 6))], [], [(68, 0, 0, 40)], [(0, 4, 0)]), [(false, 1)]), ((11, [(0, (2, 54, 0, 0)), (1, (0, 0, 1, 30)), (2, (0, 0, (-2147483648), 1000)), (3, (0, 0, 7, 7))], [], [(68, 0, 0, 40)], [(0, 3, 0)]), [(false, 1)]), ((11, [(0, (2, 54, 0, 0)), (1, (0, 0, 1, 30)), (2, (0, 0, (-2147483648), 1000)), (3, (0, 0, 8, 8))], [], [(68, 0, 0, 40)], [(0, 2, 0)]), [(false, 1)]), ((11, [(0, (2, 54, 0, 0)), (1, (0, 0, 1, 30)), (2, (0, 0, (-2147483648), 1000)), (3, (0, 0, 9, 9))], [], [(68, 0, 0, 40)], [(0, 1, 0)]), [])]
  (by decide +kernel) (List.forall_mem_cons.mpr ⟨SMOK_le (Nat.le_of_ble_eq_true rfl : 7 ≤ 7) (kX11_laysLeast_0 hSP), fun s h => absurd h List.not_mem_nil⟩)
noncomputable def sX11_latest_0 : SM := (mX11_latest, [(2, 54, 0, 0), (0, 0, (-2147483648), 2147483647)], [], [([(0, 0, 0, 29)], [(54, 0, 0, 0), (68, 0, 0, 40), (72, 0, (-1), 2)], []), ([(0, 0, (-2), (-2))], [(54, 0, 0, 0), (68, 0, 0, 40), (72, 0, (-1), 2)], []), ([(0, 0, (-1), (-1))], [(54, 0, 0, 0)], [])], [(0, 54, 0, 0), (0, 67, 0, 79), (0, 68, 0, 3), (0, 72, 0, 29), (0, 73, 0, 8), (0, 74, 0, 8)])
theorem kX11_latest_0 {SP : CT} (hSP : MONO SP) {sh : List (Nat × Nat)} : SMOK gE gRL sh (CLd SP 9) sX11_latest_0 :=
  chkS hSP [sX11_choosesAny_0, sX11_fewestOrders_0, sX11_in_31] 21 [(false, 0)]
  [((23, [(0, (2, 54, 0, 0)), (1, (0, 0, 1, 30)), (2, (0, 0, (-1), 29))], [], [(54, 0, 0, 0), (68, 0, 0, 40), (72, 0, (-1), 2)], [(0, 1, 0), (2, 2, (-1)), (0, 1, 0)]), [(false, 0)])]
  (by decide +kernel) (List.forall_mem_cons.mpr ⟨SMOK_le (Nat.le_of_ble_eq_true rfl : 1 ≤ 8) (kX11_choosesAny_0 hSP), List.forall_mem_cons.mpr ⟨SMOK_le (Nat.le_of_ble_eq_true rfl : 8 ≤ 8) (kX11_fewestOrders_0 hSP), List.forall_mem_cons.mpr ⟨SMOK_le (Nat.le_of_ble_eq_true rfl : 1 ≤ 8) (kX11_in_31 hSP), fun s h => absurd h List.not_mem_nil⟩⟩⟩)
end
section
/-! THE REFERENCE READS A TEXT; the texts that it holds it against -/
/-- what is said of the JDK's own String.length and String.charAt, at the six texts -/
noncomputable def SPt : CT := fun mid as h _ _ Q => (mid = mJ0_length_8abf5 ∧ ∃ b, b < 6 ∧ as = [.ref (1000000 + b)] ∧ Q (some (.int (I (leJ.getD b 0 : Nat)))) h) ∨ (mid = mJ0_charAt_5068e ∧ ∃ (b : Nat) (k : Int), b < 6 ∧ 0 ≤ k ∧ k < (leJ.getD b 0 : Nat) ∧ as = [.ref (1000000 + b), .int (I k)] ∧ Q (some (.int ((byJ.getD b []).getD k.toNat 0))) h)
theorem SPt_mono : MONO SPt := by
  intro mid as h mc ms Q Q' hq hs
  rcases hs with ⟨e, b, h1, h2, h3⟩ | ⟨e, b, k, h1, h2, h3, h4, h5⟩
  · exact Or.inl ⟨e, b, h1, h2, hq _ _ h3⟩
  · exact Or.inr ⟨e, b, k, h1, h2, h3, h4, hq _ _ h5⟩
theorem tx_length {h : aH} {b : Nat} (hb : b < 6) {d : Nat} : CLd SPt (d + 1) mJ0_length_8abf5 [.ref (1000000 + b)] h 0 0 (fun rv h' => h' = h ∧ rv = some (.int (I (leJ.getD b 0 : Nat)))) := Or.inl (Or.inl ⟨rfl, b, hb, rfl, rfl, rfl⟩)
theorem tx_charAt {h : aH} {b : Nat} {k : Int} (hb : b < 6) (h0 : 0 ≤ k) (h1 : k < (leJ.getD b 0 : Nat)) {d : Nat} : CLd SPt (d + 1) mJ0_charAt_5068e [.ref (1000000 + b), .int (I k)] h 0 0 (fun rv h' => h' = h ∧ rv = some (.int ((byJ.getD b []).getD k.toNat 0))) := Or.inl (Or.inr ⟨rfl, b, k, hb, h0, h1, rfl, rfl, rfl⟩)
theorem le_by {b : Nat} (hb : b < 6) : (byJ.getD b []).length = leJ.getD b 0 ∧ leJ.getD b 0 ≤ 13 := by
  have : ∀ b, b < 6 → (byJ.getD b []).length = leJ.getD b 0 ∧ leJ.getD b 0 ≤ 13 := by decide
  exact this b hb
/-- the sign at place a of the reference's text; -1 at its end -/
noncomputable def fm (h : aH) (a : Int) : Int := if 0 ≤ a ∧ a < gi h 171 19 ∧ a < 80 then gi h 180 a.toNat else -1
/-- where a sign stands among some; -1: nowhere -/
noncomputable def fidx (s : Int) : List Int32 → Nat → Int
  | [], _ => -1
  | c :: t, k => if c.toInt = s then k else fidx s t (k + 1)
theorem fidx_cons (s : Int) (c : Int32) (t : List Int32) (k : Nat) : fidx s (c :: t) k = if c.toInt = s then (k : Int) else fidx s t (k + 1) := rfl
theorem drop_getD {l : List Int32} {k : Nat} (hk : k < l.length) : l.drop k = l.getD k 0 :: l.drop (k + 1) := by
  rw [List.drop_eq_getElem_cons hk]
  simp [List.getD, List.getElem?_eq_getElem hk]
theorem fidx_r (s : Int) : ∀ (l : List Int32) (k : Nat), -1 ≤ fidx s l k ∧ fidx s l k < k + l.length
  | [], k => ⟨Int.le_refl _, by show (-1 : Int) < k + 0; omega⟩
  | c :: t, k => by
    unfold fidx
    have := fidx_r s t (k + 1)
    simp only [List.length_cons]
    split <;> omega
/-- (place, end) of the reader -/
theorem at_r {sh : List (Nat × Nat)} {h : aH} (hG : GD gE gRL sh h) : (0 ≤ gi h 171 18 ∧ gi h 171 18 ≤ 81) ∧ (0 ≤ gi h 171 19 ∧ gi h 171 19 ≤ 80) := ⟨gri 0 81 hG (r := 54) rfl rfl, gri 0 80 hG (r := 54) rfl rfl⟩
theorem fm_pos {h : aH} {a : Int} (h0 : 0 ≤ a) (h1 : a < gi h 171 19) (h2 : gi h 171 19 ≤ 80) : fm h a = gi h 180 a.toNat := by
  unfold fm
  rw [if_pos ⟨h0, h1, by omega⟩]
theorem fm_neg {h : aH} {a : Int} (h1 : gi h 171 19 ≤ a) : fm h a = -1 := by
  unfold fm
  rw [if_neg (by omega)]
theorem ctX11_isDigit {SP : CT} (hSP : MONO SP) {sh : List (Nat × Nat)} {h : aH} (hG : GD gE gRL sh h) : CLd SP 2 mX11_isDigit [.ref 171] h 0 0 (fun rv h' => h' = h ∧ ((rv = some (.int (I 1)) ∧ 48 ≤ fm h (gi h 171 18) ∧ fm h (gi h 171 18) ≤ 57 ∧ gi h 171 18 < gi h 171 19) ∨ (rv = some (.int (I 0)) ∧ ¬ (48 ≤ fm h (gi h 171 18) ∧ fm h (gi h 171 18) ≤ 57)))) := by
  refine x_met _ rfl (Nat.le_of_ble_eq_true rfl) (fun K hK => ?_)
  have hmono := MONO_CLd hSP 1
  have ar := at_r hG
  have g18 := gi_r h 171 18
  have g180 := gi_r h 180 (gi h 171 18).toNat
  refine x_aload_n 1 hK rfl rfl rfl ?_
  refine x_getE 4 hK rfl (Or.inl rfl) rfl (sp_171 (h := h) hG) (e := (gi h 171 18)) (rfl) ?_
  refine x_aload_n 5 hK rfl rfl rfl ?_
  refine x_getE 8 hK rfl (Or.inl rfl) rfl (sp_171 (h := h) hG) (e := (gi h 171 19)) (rfl) ?_
  refine x_if_icmp_ge 37 11 hK rfl rfl rfl (by omega) (by omega) (fun c5 => ?_) (fun c5 => ?_)
  · refine x_iconst 38 hK rfl rfl ?_
    first
      | (rw [← fm_pos (h := h) (by omega) (by omega) (by omega)] at i1; exact x_zret hK rfl (by omega) ⟨rfl, Or.inr ⟨rfl, i1⟩⟩)
      | exact x_zret hK rfl (by omega) ⟨rfl, Or.inr ⟨rfl, by rw [fm_neg (by omega)]; omega⟩⟩
  · refine x_aload_n 12 hK rfl rfl rfl ?_
    refine x_getR 15 hK rfl rfl (sp_171 (h := h) hG) (rf_171_16 (h := h) hG) ?_
    refine x_aload_n 16 hK rfl rfl rfl ?_
    refine x_getE 19 hK rfl (Or.inl rfl) rfl (sp_171 (h := h) hG) (e := (gi h 171 18)) (rfl) ?_
    refine x_ialoadE 20 hK rfl rfl (sp_180 (h := h) hG) (by omega) (by omega) (by omega) (e' := (gi h 180 (gi h 171 18).toNat)) (rfl) ?_
    refine x_i2l 21 hK rfl rfl (by omega) ?_
    refine x_ldc2_w 24 hK rfl rfl ?_
    refine x_ldc2_w 27 hK rfl rfl ?_
    refine x_callS 30 hK hmono rfl (Or.inl rfl) rfl [.long (J (gi h 180 (gi h 171 18).toNat)), .long (J 48), .long (J 57)] [] rfl rfl (Nat.le_of_ble_eq_true rfl) (Nat.le_of_ble_eq_true rfl) (CLd_le (Nat.le_of_ble_eq_true rfl) (ctX11_in (by omega) (by omega) (by omega))) ?_
    rintro v9 h9 ⟨e9, ⟨rfl, i1, i2⟩ | ⟨rfl, i1⟩⟩ <;> rw [e9] <;> clear e9
    · refine x_if_eq 37 33 hK rfl rfl rfl (by omega) (fun c => by omega) (fun _ => ?_)
      refine x_iconst 34 hK rfl rfl ?_
      refine x_goto 38 hK rfl rfl ?_
      rw [← fm_pos (h := h) (by omega) (by omega) (by omega)] at i1 i2
      exact x_zret hK rfl (by omega) ⟨rfl, Or.inl ⟨rfl, i1, i2, by omega⟩⟩
    · refine x_if_eq 37 33 hK rfl rfl rfl (by omega) (fun _ => ?_) (fun c => by omega)
      refine x_iconst 38 hK rfl rfl ?_
      first
        | (rw [← fm_pos (h := h) (by omega) (by omega) (by omega)] at i1; exact x_zret hK rfl (by omega) ⟨rfl, Or.inr ⟨rfl, i1⟩⟩)
        | exact x_zret hK rfl (by omega) ⟨rfl, Or.inr ⟨rfl, by rw [fm_neg (by omega)]; omega⟩⟩
theorem ctX11_takes {SP : CT} (hSP : MONO SP) {sh : List (Nat × Nat)} {h : aH} (hG : GD gE gRL sh h) {s : Int} (hs : 0 ≤ s ∧ s ≤ 65535) : CLd SP 2 mX11_takes [.ref 171, .int (I s)] h 0 0 (fun rv h' => GD gE gRL sh h' ∧ FRM gRL [(0, 54, 18, 18)] h h' ∧ ((rv = some (.int (I 1)) ∧ fm h (gi h 171 18) = s ∧ gi h 171 18 < gi h 171 19 ∧ gi h' 171 18 = gi h 171 18 + 1) ∨ (rv = some (.int (I 0)) ∧ fm h (gi h 171 18) ≠ s ∧ gi h' 171 18 = gi h 171 18))) := by
  refine x_met _ rfl (Nat.le_of_ble_eq_true rfl) (fun K hK => ?_)
  have hmono := MONO_CLd hSP 1
  have ar := at_r hG
  have g18 := gi_r h 171 18
  have g180 := gi_r h 180 (gi h 171 18).toNat
  refine x_aload_n 1 hK rfl rfl rfl ?_
  refine x_getE 4 hK rfl (Or.inl rfl) rfl (sp_171 (h := h) hG) (e := (gi h 171 18)) (rfl) ?_
  refine x_aload_n 5 hK rfl rfl rfl ?_
  refine x_getE 8 hK rfl (Or.inl rfl) rfl (sp_171 (h := h) hG) (e := (gi h 171 19)) (rfl) ?_
  refine x_if_icmp_ge 28 11 hK rfl rfl rfl (by omega) (by omega) (fun c5 => ?_) (fun c5 => ?_)
  · refine x_iconst 29 hK rfl rfl ?_
    refine x_istore_n 30 hK rfl rfl [(2, .int (I 0)), (0, .ref 171), (1, .int (I s))] rfl ?_
    refine x_aload_n 31 hK rfl rfl rfl ?_
    refine x_dup 32 hK rfl rfl rfl ?_
    refine x_getE 35 hK rfl (Or.inl rfl) rfl (sp_171 (h := h) hG) (e := (gi h 171 18)) (rfl) ?_
    refine x_iload_n 36 hK rfl rfl rfl ?_
    refine x_callS 39 hK hmono rfl (Or.inl rfl) rfl [.int (I 0)] [.int (I (gi h 171 18)), .ref 171] rfl rfl (Nat.le_of_ble_eq_true rfl) (Nat.le_of_ble_eq_true rfl) (CLd_le (Nat.le_of_ble_eq_true rfl) (ctX11_flag (by omega))) ?_
    rintro v9 h9 ⟨e9, rfl⟩
    rw [e9]
    clear e9
    refine x_iadd 40 hK rfl rfl ?_
    refine x_putI 43 hK rfl rfl (sp_171 (h := h) hG) ?_
    refine x_iload_n 44 hK rfl rfl rfl ?_
    exact x_zret hK rfl (by omega) ⟨GD_w1 (hG) (r := 54) rfl (by omega) rfl (by omega) (by omega), FRM_w (FRM.rf) (r := 54) rfl rfl, Or.inr ⟨rfl, by first | (rw [fm_neg (by omega)]; omega) | (rw [fm_pos (by omega) (by omega) (by omega)]; omega), (gi_same (by omega)).trans (Int.add_zero _)⟩⟩
  · refine x_aload_n 12 hK rfl rfl rfl ?_
    refine x_getR 15 hK rfl rfl (sp_171 (h := h) hG) (rf_171_16 (h := h) hG) ?_
    refine x_aload_n 16 hK rfl rfl rfl ?_
    refine x_getE 19 hK rfl (Or.inl rfl) rfl (sp_171 (h := h) hG) (e := (gi h 171 18)) (rfl) ?_
    refine x_ialoadE 20 hK rfl rfl (sp_180 (h := h) hG) (by omega) (by omega) (by omega) (e' := (gi h 180 (gi h 171 18).toNat)) (rfl) ?_
    refine x_iload_n 21 hK rfl rfl rfl ?_
    refine x_if_icmp_ne 28 24 hK rfl rfl rfl (by omega) (by omega) (fun c23 => ?_) (fun c23 => ?_)
    · refine x_iconst 29 hK rfl rfl ?_
      refine x_istore_n 30 hK rfl rfl [(2, .int (I 0)), (0, .ref 171), (1, .int (I s))] rfl ?_
      refine x_aload_n 31 hK rfl rfl rfl ?_
      refine x_dup 32 hK rfl rfl rfl ?_
      refine x_getE 35 hK rfl (Or.inl rfl) rfl (sp_171 (h := h) hG) (e := (gi h 171 18)) (rfl) ?_
      refine x_iload_n 36 hK rfl rfl rfl ?_
      refine x_callS 39 hK hmono rfl (Or.inl rfl) rfl [.int (I 0)] [.int (I (gi h 171 18)), .ref 171] rfl rfl (Nat.le_of_ble_eq_true rfl) (Nat.le_of_ble_eq_true rfl) (CLd_le (Nat.le_of_ble_eq_true rfl) (ctX11_flag (by omega))) ?_
      rintro v9 h9 ⟨e9, rfl⟩
      rw [e9]
      clear e9
      refine x_iadd 40 hK rfl rfl ?_
      refine x_putI 43 hK rfl rfl (sp_171 (h := h) hG) ?_
      refine x_iload_n 44 hK rfl rfl rfl ?_
      exact x_zret hK rfl (by omega) ⟨GD_w1 (hG) (r := 54) rfl (by omega) rfl (by omega) (by omega), FRM_w (FRM.rf) (r := 54) rfl rfl, Or.inr ⟨rfl, by first | (rw [fm_neg (by omega)]; omega) | (rw [fm_pos (by omega) (by omega) (by omega)]; omega), (gi_same (by omega)).trans (Int.add_zero _)⟩⟩
    · refine x_iconst 25 hK rfl rfl ?_
      refine x_goto 29 hK rfl rfl ?_
      refine x_istore_n 30 hK rfl rfl [(2, .int (I 1)), (0, .ref 171), (1, .int (I s))] rfl ?_
      refine x_aload_n 31 hK rfl rfl rfl ?_
      refine x_dup 32 hK rfl rfl rfl ?_
      refine x_getE 35 hK rfl (Or.inl rfl) rfl (sp_171 (h := h) hG) (e := (gi h 171 18)) (rfl) ?_
      refine x_iload_n 36 hK rfl rfl rfl ?_
      refine x_callS 39 hK hmono rfl (Or.inl rfl) rfl [.int (I 1)] [.int (I (gi h 171 18)), .ref 171] rfl rfl (Nat.le_of_ble_eq_true rfl) (Nat.le_of_ble_eq_true rfl) (CLd_le (Nat.le_of_ble_eq_true rfl) (ctX11_flag (by omega))) ?_
      rintro v9 h9 ⟨e9, rfl⟩
      rw [e9]
      clear e9
      refine x_iadd 40 hK rfl rfl ?_
      refine x_putI 43 hK rfl rfl (sp_171 (h := h) hG) ?_
      refine x_iload_n 44 hK rfl rfl rfl ?_
      exact x_zret hK rfl (by omega) ⟨GD_w1 (hG) (r := 54) rfl (by omega) rfl (by omega) (by omega), FRM_w (FRM.rf) (r := 54) rfl rfl, Or.inl ⟨rfl, by rw [fm_pos (by omega) (by omega) (by omega)]; omega, by omega, gi_same (by omega)⟩⟩
theorem ctX11_begins {SP : CT} (hSP : MONO SP) {sh : List (Nat × Nat)} {h : aH} (hG : GD gE gRL sh h) {n : Int} (hn : 0 ≤ n ∧ n ≤ 80) : CLd SP 1 mX11_begins [.ref 171, .int (I n)] h 0 0 (fun rv h' => rv = some (.int (I (gi h 171 17))) ∧ GD gE gRL sh h' ∧ FRM gRL [(0, 54, 17, 20)] h h' ∧ gi h' 171 17 = 0 ∧ gi h' 171 18 = 0 ∧ gi h' 171 20 = 0 ∧ gi h' 171 19 = min (gi h 171 17) n) := by
  refine x_met _ rfl (Nat.le_of_ble_eq_true rfl) (fun K hK => ?_)
  have hmono := MONO_CLd hSP 0
  have gt := gri 0 80 hG (a := 171) (r := 54) (k := 17) rfl rfl
  refine x_aload_n 1 hK rfl rfl rfl ?_
  refine x_getE 4 hK rfl (Or.inl rfl) rfl (sp_171 (h := h) hG) (e := (gi h 171 17)) (rfl) ?_
  refine x_istore_n 5 hK rfl rfl [(2, .int (I (gi h 171 17))), (0, .ref 171), (1, .int (I n))] rfl ?_
  refine x_aload_n 6 hK rfl rfl rfl ?_
  refine x_iconst 7 hK rfl rfl ?_
  refine x_putI 10 hK rfl rfl (sp_171 (h := h) hG) ?_
  refine x_aload_n 11 hK rfl rfl rfl ?_
  refine x_iconst 12 hK rfl rfl ?_
  refine x_putI 15 hK rfl rfl (sp_171 (h := h) hG) ?_
  refine x_aload_n 16 hK rfl rfl rfl ?_
  refine x_iconst 17 hK rfl rfl ?_
  refine x_putI 20 hK rfl rfl (sp_171 (h := h) hG) ?_
  refine x_aload_n 21 hK rfl rfl rfl ?_
  refine x_iload_n 22 hK rfl rfl rfl ?_
  refine x_iload_n 23 hK rfl rfl rfl ?_
  refine x_min 26 hK rfl rfl (Nat.le_of_ble_eq_true rfl) (by omega) (by omega) ?_
  refine x_putI 29 hK rfl rfl (sp_171 (h := h) hG) ?_
  refine x_iload_n 30 hK rfl rfl rfl ?_
  exact x_iret hK rfl ⟨rfl, GD_w1 (GD_w1 (GD_w1 (GD_w1 (hG) (r := 54) rfl (by omega) rfl (by omega) (by omega)) (r := 54) rfl (by omega) rfl (by omega) (by omega)) (r := 54) rfl (by omega) rfl (by omega) (by omega)) (r := 54) rfl (by omega) rfl (by omega) (by omega), FRM_w (FRM_w (FRM_w (FRM_w (FRM.rf) (r := 54) rfl rfl) (r := 54) rfl rfl) (r := 54) rfl rfl) (r := 54) rfl rfl, (gi_k (by decide) _).trans ((gi_k (by decide) _).trans ((gi_k (by decide) _).trans (gi_same (by omega)))), (gi_k (by decide) _).trans ((gi_k (by decide) _).trans (gi_same (by omega))), (gi_k (by decide) _).trans (gi_same (by omega)), gi_same (by omega)⟩
theorem ctX11_faultOf {SP : CT} (hSP : MONO SP) {sh : List (Nat × Nat)} {h : aH} (hG : GD gE gRL sh h) {n m e : Int} (hn : r32 n) (hm : 0 ≤ m ∧ m ≤ 80) (he : e = 0 ∨ e = 1) : CLd SP 1 mX11_faultOf [.ref 171, .int (I n), .int (I m), .int (I e)] h 0 0 (fun rv h' => h' = h ∧ rv = some (.int (I (if m < n ∧ ((e = 1 ∧ gi h 171 18 = gi h 171 19) ∨ m ≤ gi h 171 18) then -1 - m else if e = 1 ∧ gi h 171 18 = gi h 171 19 then 0 else -1 - gi h 171 18)))) := by
  refine x_met _ rfl (Nat.le_of_ble_eq_true rfl) (fun K hK => ?_)
  have hmono := MONO_CLd hSP 0
  have ar := at_r hG
  have g18 := gi_r h 171 18
  refine x_iload_n 1 hK rfl rfl rfl ?_
  refine x_if_eq 19 4 hK rfl rfl rfl (by omega) (fun c2 => ?_) (fun c2 => ?_)
  · refine x_iconst 20 hK rfl rfl ?_
    refine x_istore 22 hK rfl rfl [(4, .int (I 0)), (0, .ref 171), (1, .int (I n)), (2, .int (I m)), (3, .int (I e))] rfl ?_
    refine x_iload_n 23 hK rfl rfl rfl ?_
    refine x_iload_n 24 hK rfl rfl rfl ?_
    refine x_if_icmp_le 44 27 hK rfl rfl rfl (by omega) (by omega) (fun c7 => ?_) (fun c7 => ?_)
    · refine x_iload 46 hK rfl rfl rfl ?_
      refine x_if_eq 53 49 hK rfl rfl rfl (by omega) (fun _ => ?_) (fun c => by omega)
      refine x_iconst 54 hK rfl rfl ?_
      refine x_aload_n 55 hK rfl rfl rfl ?_
      refine x_getE 58 hK rfl (Or.inl rfl) rfl (sp_171 (h := h) hG) (e := (gi h 171 18)) (rfl) ?_
      refine x_isub 59 hK rfl rfl ?_
      refine x_iret hK rfl ⟨rfl, ?_⟩
      rw [if_neg (by omega), if_neg (by omega)]
    · refine x_iload 29 hK rfl rfl rfl ?_
      refine x_if_ne 40 32 hK rfl rfl rfl (by omega) (fun c => by omega) (fun _ => ?_)
      refine x_aload_n 33 hK rfl rfl rfl ?_
      refine x_getE 36 hK rfl (Or.inl rfl) rfl (sp_171 (h := h) hG) (e := (gi h 171 18)) (rfl) ?_
      refine x_iload_n 37 hK rfl rfl rfl ?_
      refine x_if_icmp_lt 44 40 hK rfl rfl rfl (by omega) (by omega) (fun c20 => ?_) (fun c20 => ?_)
      · refine x_iload 46 hK rfl rfl rfl ?_
        refine x_if_eq 53 49 hK rfl rfl rfl (by omega) (fun _ => ?_) (fun c => by omega)
        refine x_iconst 54 hK rfl rfl ?_
        refine x_aload_n 55 hK rfl rfl rfl ?_
        refine x_getE 58 hK rfl (Or.inl rfl) rfl (sp_171 (h := h) hG) (e := (gi h 171 18)) (rfl) ?_
        refine x_isub 59 hK rfl rfl ?_
        refine x_iret hK rfl ⟨rfl, ?_⟩
        rw [if_neg (by omega), if_neg (by omega)]
      · refine x_iconst 41 hK rfl rfl ?_
        refine x_iload_n 42 hK rfl rfl rfl ?_
        refine x_isub 43 hK rfl rfl ?_
        refine x_iret hK rfl ⟨rfl, ?_⟩
        rw [if_pos (by omega)]
  · refine x_aload_n 5 hK rfl rfl rfl ?_
    refine x_getE 8 hK rfl (Or.inl rfl) rfl (sp_171 (h := h) hG) (e := (gi h 171 18)) (rfl) ?_
    refine x_aload_n 9 hK rfl rfl rfl ?_
    refine x_getE 12 hK rfl (Or.inl rfl) rfl (sp_171 (h := h) hG) (e := (gi h 171 19)) (rfl) ?_
    refine x_if_icmp_ne 19 15 hK rfl rfl rfl (by omega) (by omega) (fun c36 => ?_) (fun c36 => ?_)
    · refine x_iconst 20 hK rfl rfl ?_
      refine x_istore 22 hK rfl rfl [(4, .int (I 0)), (0, .ref 171), (1, .int (I n)), (2, .int (I m)), (3, .int (I e))] rfl ?_
      refine x_iload_n 23 hK rfl rfl rfl ?_
      refine x_iload_n 24 hK rfl rfl rfl ?_
      refine x_if_icmp_le 44 27 hK rfl rfl rfl (by omega) (by omega) (fun c41 => ?_) (fun c41 => ?_)
      · refine x_iload 46 hK rfl rfl rfl ?_
        refine x_if_eq 53 49 hK rfl rfl rfl (by omega) (fun _ => ?_) (fun c => by omega)
        refine x_iconst 54 hK rfl rfl ?_
        refine x_aload_n 55 hK rfl rfl rfl ?_
        refine x_getE 58 hK rfl (Or.inl rfl) rfl (sp_171 (h := h) hG) (e := (gi h 171 18)) (rfl) ?_
        refine x_isub 59 hK rfl rfl ?_
        refine x_iret hK rfl ⟨rfl, ?_⟩
        rw [if_neg (by omega), if_neg (by omega)]
      · refine x_iload 29 hK rfl rfl rfl ?_
        refine x_if_ne 40 32 hK rfl rfl rfl (by omega) (fun c => by omega) (fun _ => ?_)
        refine x_aload_n 33 hK rfl rfl rfl ?_
        refine x_getE 36 hK rfl (Or.inl rfl) rfl (sp_171 (h := h) hG) (e := (gi h 171 18)) (rfl) ?_
        refine x_iload_n 37 hK rfl rfl rfl ?_
        refine x_if_icmp_lt 44 40 hK rfl rfl rfl (by omega) (by omega) (fun c54 => ?_) (fun c54 => ?_)
        · refine x_iload 46 hK rfl rfl rfl ?_
          refine x_if_eq 53 49 hK rfl rfl rfl (by omega) (fun _ => ?_) (fun c => by omega)
          refine x_iconst 54 hK rfl rfl ?_
          refine x_aload_n 55 hK rfl rfl rfl ?_
          refine x_getE 58 hK rfl (Or.inl rfl) rfl (sp_171 (h := h) hG) (e := (gi h 171 18)) (rfl) ?_
          refine x_isub 59 hK rfl rfl ?_
          refine x_iret hK rfl ⟨rfl, ?_⟩
          rw [if_neg (by omega), if_neg (by omega)]
        · refine x_iconst 41 hK rfl rfl ?_
          refine x_iload_n 42 hK rfl rfl rfl ?_
          refine x_isub 43 hK rfl rfl ?_
          refine x_iret hK rfl ⟨rfl, ?_⟩
          rw [if_pos (by omega)]
    · refine x_iconst 16 hK rfl rfl ?_
      refine x_goto 20 hK rfl rfl ?_
      refine x_istore 22 hK rfl rfl [(4, .int (I 1)), (0, .ref 171), (1, .int (I n)), (2, .int (I m)), (3, .int (I e))] rfl ?_
      refine x_iload_n 23 hK rfl rfl rfl ?_
      refine x_iload_n 24 hK rfl rfl rfl ?_
      refine x_if_icmp_le 44 27 hK rfl rfl rfl (by omega) (by omega) (fun c71 => ?_) (fun c71 => ?_)
      · refine x_iload 46 hK rfl rfl rfl ?_
        refine x_if_eq 53 49 hK rfl rfl rfl (by omega) (fun c => by omega) (fun _ => ?_)
        refine x_iconst 50 hK rfl rfl ?_
        refine x_goto 59 hK rfl rfl ?_
        refine x_iret hK rfl ⟨rfl, ?_⟩
        rw [if_neg (by omega), if_pos (by omega)]
      · refine x_iload 29 hK rfl rfl rfl ?_
        refine x_if_ne 40 32 hK rfl rfl rfl (by omega) (fun _ => ?_) (fun c => by omega)
        refine x_iconst 41 hK rfl rfl ?_
        refine x_iload_n 42 hK rfl rfl rfl ?_
        refine x_isub 43 hK rfl rfl ?_
        refine x_iret hK rfl ⟨rfl, ?_⟩
        rw [if_pos (by omega)]
theorem ctX11_number {SP : CT} (hSP : MONO SP) {sh : List (Nat × Nat)} {h : aH} (hG : GD gE gRL sh h) {n : Int} (hn : 1 ≤ n ∧ n ≤ 3) : CLd SP 3 mX11_number [.ref 171, .int (I n)] h 0 0 (fun rv h' => (∃ e, rv = some (.int (I e)) ∧ (e = if (tkv (fm h) n.toNat (gi h 171 18) 0).2 = gi h 171 18 then -1 else (tkv (fm h) n.toNat (gi h 171 18) 0).1) ∧ (e = -1 ∨ (0 ≤ e ∧ (n = 1 → e ≤ 9) ∧ (n = 2 → e ≤ 99) ∧ e ≤ 999)) ∧ (0 ≤ e → gi h 171 18 < gi h' 171 18) ∧ (e = -1 → gi h' 171 18 = gi h 171 18)) ∧ GD gE gRL sh h' ∧ FRM gRL [(0, 54, 18, 18)] h h' ∧ gi h' 171 18 = (tkv (fm h) n.toNat (gi h 171 18) 0).2 ∧ gi h 171 18 ≤ gi h' 171 18 ∧ (gi h 171 18 ≤ gi h 171 19 → gi h' 171 18 ≤ gi h 171 19)) := by
  refine x_met _ rfl (Nat.le_of_ble_eq_true rfl) (fun K hK => ?_)
  have hmono := MONO_CLd hSP 2
  have ar := at_r hG
  have g18 := gi_r h 171 18
  have loop : ∀ (m : Nat) (r v : Int) (h1 : aH) (ls : List (Nat × Value)), ((n - r).toNat = m) → 0 ≤ r → r ≤ n → (0 ≤ v ∧ (r = 0 → v = 0) ∧ (r = 1 → v ≤ 9) ∧ (r = 2 → v ≤ 99) ∧ v ≤ 999) → tkv (fm h) m (gi h 171 18 + r) v = (tkv (fm h) n.toNat (gi h 171 18) 0) → gi h1 171 18 = gi h 171 18 + r → (r = 0 ∨ gi h 171 18 + r ≤ gi h 171 19) → (r = 0 → 48 ≤ fm h (gi h 171 18) ∧ fm h (gi h 171 18) ≤ 57) → lk ls 0 = some (.ref 171) → lk ls 1 = some (.int (I n)) → lk ls 2 = some (.int (I v)) → lk ls 3 = some (.int (I r)) → GD gE gRL sh h1 → FRM gRL [(0, 54, 18, 18)] h h1 → K 13 ls [] h1 0 0 := by
    intro m
    induction m with
    | zero =>
      intro r v h1 ls hm h0 hr hv htk hat h80 hd0 l0 l1 l2 l3 hG1 hF
      have e1 : (v, gi h 171 18 + r) = (tkv (fm h) n.toNat (gi h 171 18) 0) := htk
      refine x_iload_n 14 hK rfl rfl l3 ?_
      refine x_iload_n 15 hK rfl rfl l1 ?_
      refine x_if_icmp_ge 59 18 hK rfl rfl rfl (by omega) (by omega) (fun _ => ?_) (fun c => by omega)
      refine x_iload_n 60 hK rfl rfl l2 ?_
      refine x_iret hK rfl ?_
      rw [← e1]
      refine ⟨⟨v, rfl, ?_, by omega, by omega, by omega⟩, hG1, hF, hat, by omega, by omega⟩
      rw [if_neg (by show ¬ (_ + _ = _); omega)]
    | succ m ih =>
      intro r v h1 ls hm h0 hr hv htk hat h80 hd0 l0 l1 l2 l3 hG1 hF
      have f3 : gi h1 171 19 = gi h 171 19 := FRM_gi hF (r := 54) rfl rfl
      have fs : ∀ j, gi h1 180 j = gi h 180 j := fun j => FRM_gi hF (r := 63) rfl rfl
      have hfx : fm h1 (gi h1 171 18) = fm h (gi h 171 18 + r) := by unfold fm; rw [hat, f3, fs]
      have hst := fun z => tkv_step (f := fm h) (n := m) (a := gi h 171 18 + r) (v := v) z
      have hsp := fun z => tkv_stop (f := fm h) (n := m + 1) (a := gi h 171 18 + r) (v := v) z
      refine x_iload_n 14 hK rfl rfl l3 ?_
      refine x_iload_n 15 hK rfl rfl l1 ?_
      refine x_if_icmp_ge 59 18 hK rfl rfl rfl (by omega) (by omega) (fun c => by omega) (fun _ => ?_)
      refine x_aload_n 19 hK rfl rfl l0 ?_
      refine x_callV 22 hK hmono rfl rfl [.ref 171] [] rfl rfl (Nat.le_of_ble_eq_true rfl) (Nat.le_of_ble_eq_true rfl) rfl (sp_171 (h := h1) hG1) (CLd_le (Nat.le_of_ble_eq_true rfl) (ctX11_isDigit hSP hG1)) ?_
      rw [hfx, f3, hat]
      rintro v9 h9 ⟨e9, ⟨rfl, d1, d2, d3⟩ | ⟨rfl, d1⟩⟩ <;> rw [e9] <;> clear e9
      · refine x_if_eq 59 25 hK rfl rfl rfl (by omega) (fun c => by omega) (fun _ => ?_)
        refine x_bipush 27 hK rfl rfl rfl ?_
        refine x_iload_n 28 hK rfl rfl l2 ?_
        refine x_imul 29 hK rfl rfl ?_
        refine x_aload_n 30 hK rfl rfl l0 ?_
        refine x_getR 33 hK rfl rfl (sp_171 (h := h1) hG1) (rf_171_16 (h := h1) hG1) ?_
        refine x_aload_n 34 hK rfl rfl l0 ?_
        refine x_getE 37 hK rfl (Or.inl rfl) rfl (sp_171 (h := h1) hG1) (e := (gi h 171 18 + r)) (hat) ?_
        have hpos := fm_pos (h := h) (a := gi h 171 18 + r) (by omega) d3 (by omega)
        rw [hpos] at d1 d2 hst
        have g180 := gi_r h 180 (gi h 171 18 + r).toNat
        refine x_ialoadE 38 hK rfl rfl (sp_180 (h := h1) hG1) (by omega) (by omega) (by omega) (e' := gi h 180 (gi h 171 18 + r).toNat) (fs _) ?_
        generalize gi h 180 (gi h 171 18 + r).toNat = s at *
        refine x_iadd 39 hK rfl rfl ?_
        refine x_bipush 41 hK rfl rfl rfl ?_
        refine x_isub 42 hK rfl rfl ?_
        refine x_istore_n 43 hK rfl rfl _ rfl ?_
        refine x_aload_n 44 hK rfl rfl (lk1_n l0 (by decide) (Or.inl rfl)) ?_
        refine x_dup 45 hK rfl rfl rfl ?_
        refine x_getE 48 hK rfl (Or.inl rfl) rfl (sp_171 (h := h1) hG1) (e := (gi h 171 18 + r)) (hat) ?_
        refine x_iconst 49 hK rfl rfl ?_
        refine x_iadd 50 hK rfl rfl ?_
        refine x_putI 53 hK rfl rfl (sp_171 (h := h1) hG1) ?_
        refine x_iinc 56 hK rfl rfl (lk1_n l3 (by decide) (Or.inl rfl)) _ rfl ?_
        refine x_goto 13 hK rfl rfl ?_
        refine ih (r + 1) _ _ _ (by omega) (by omega) (by omega) (by omega) ?_ ((gi_same (by omega)).trans (by omega)) (by omega) (by omega) (lk1_n (lk1_n l0 (by decide) (Or.inl rfl)) (by decide) (Or.inl rfl)) (lk1_n (lk1_n l1 (by decide) (Or.inl rfl)) (by decide) (Or.inl rfl)) (lk1_n lk1_s (by decide) (Or.inl rfl)) lk1_s (GD_w1 (hG1) (r := 54) rfl (by omega) rfl (by omega) (by omega)) (FRM_w (hF) (r := 54) rfl rfl)
        rw [← htk, hst ⟨d1, d2⟩, show gi h 171 18 + (r + 1) = gi h 171 18 + r + 1 by omega, show 10 * v + s - 48 = v * 10 + s - 48 by omega]
      · have e1 : (v, gi h 171 18 + r) = (tkv (fm h) n.toNat (gi h 171 18) 0) := (hsp d1).symm.trans htk
        have hr0 : r ≠ 0 := fun z => d1 (by rw [z, Int.add_zero]; exact hd0 z)
        refine x_if_eq 59 25 hK rfl rfl rfl (by omega) (fun _ => ?_) (fun c => by omega)
        refine x_iload_n 60 hK rfl rfl l2 ?_
        refine x_iret hK rfl ?_
        rw [← e1]
        refine ⟨⟨v, rfl, ?_, by omega, by omega, by omega⟩, hG1, hF, hat, by omega, by omega⟩
        rw [if_neg (by show ¬ (_ + _ = _); omega)]
  refine x_aload_n 1 hK rfl rfl rfl ?_
  refine x_callV 4 hK hmono rfl rfl [.ref 171] [] rfl rfl (Nat.le_of_ble_eq_true rfl) (Nat.le_of_ble_eq_true rfl) rfl (sp_171 (h := h) hG) (CLd_le (Nat.le_of_ble_eq_true rfl) (ctX11_isDigit hSP hG)) ?_
  rintro v9 h9 ⟨e9, ⟨rfl, d1, d2, d3⟩ | ⟨rfl, d1⟩⟩ <;> rw [e9] <;> clear e9
  · refine x_if_ne 9 7 hK rfl rfl rfl (by omega) (fun _ => ?_) (fun c => by omega)
    refine x_iconst 10 hK rfl rfl ?_
    refine x_istore_n 11 hK rfl rfl [(2, .int (I 0)), (0, .ref 171), (1, .int (I n))] rfl ?_
    refine x_iconst 12 hK rfl rfl ?_
    refine x_istore_n 13 hK rfl rfl [(3, .int (I 0)), (2, .int (I 0)), (0, .ref 171), (1, .int (I n))] rfl ?_
    exact loop _ 0 0 h _ rfl (by omega) (by omega) (by omega) (by rw [Int.add_zero, Int.sub_zero]) (by omega) (by omega) (fun _ => ⟨d1, d2⟩) rfl rfl rfl rfl hG FRM.rf
  · refine x_if_ne 9 7 hK rfl rfl rfl (by omega) (fun c => by omega) (fun _ => ?_)
    refine x_iconst 8 hK rfl rfl ?_
    have e1 : tkv (fm h) n.toNat (gi h 171 18) 0 = (0, gi h 171 18) := tkv_stop d1
    refine x_iret hK rfl ?_
    rw [e1]
    refine ⟨⟨-1, rfl, ?_, by omega, by omega, by omega⟩, hG, FRM.rf, rfl, by omega, by omega⟩
    rw [if_pos rfl]
theorem ctX11_numberIn {SP : CT} (hSP : MONO SP) {sh : List (Nat × Nat)} {h : aH} (hG : GD gE gRL sh h) {n lo hi : Int} (hn : 1 ≤ n ∧ n ≤ 3) (hlo : r32 lo) (hhi : r32 hi) : CLd SP 4 mX11_numberIn [.ref 171, .int (I n), .int (I lo), .int (I hi)] h 0 0 (fun rv h' => (∃ e, rv = some (.int (I e)) ∧ (e = -1 ∨ (lo ≤ e ∧ e ≤ hi ∧ 0 ≤ e ∧ (n = 1 → e ≤ 9) ∧ (n = 2 → e ≤ 99) ∧ e ≤ 999)) ∧ e = (if (tkv (fm h) n.toNat (gi h 171 18) 0).2 = gi h 171 18 then -1 else if lo ≤ (tkv (fm h) n.toNat (gi h 171 18) 0).1 ∧ (tkv (fm h) n.toNat (gi h 171 18) 0).1 ≤ hi then (tkv (fm h) n.toNat (gi h 171 18) 0).1 else -1) ∧ (0 ≤ e → gi h 171 18 < gi h' 171 18)) ∧ GD gE gRL sh h' ∧ FRM gRL [(0, 54, 18, 18)] h h' ∧ gi h' 171 18 = (if (tkv (fm h) n.toNat (gi h 171 18) 0).2 = gi h 171 18 then (tkv (fm h) n.toNat (gi h 171 18) 0).2 else if lo ≤ (tkv (fm h) n.toNat (gi h 171 18) 0).1 ∧ (tkv (fm h) n.toNat (gi h 171 18) 0).1 ≤ hi then (tkv (fm h) n.toNat (gi h 171 18) 0).2 else (tkv (fm h) n.toNat (gi h 171 18) 0).2 - 1) ∧ gi h 171 18 ≤ gi h' 171 18 ∧ (gi h 171 18 ≤ gi h 171 19 → gi h' 171 18 ≤ gi h 171 19)) := by
  refine x_met _ rfl (Nat.le_of_ble_eq_true rfl) (fun K hK => ?_)
  have hmono := MONO_CLd hSP 3
  have ar := at_r hG
  have g18 := gi_r h 171 18
  refine x_aload_n 1 hK rfl rfl rfl ?_
  refine x_iload_n 2 hK rfl rfl rfl ?_
  refine x_callV 5 hK hmono rfl rfl [.ref 171, .int (I n)] [] rfl rfl (Nat.le_of_ble_eq_true rfl) (Nat.le_of_ble_eq_true rfl) rfl (sp_171 (h := h) hG) (CLd_le (Nat.le_of_ble_eq_true rfl) (ctX11_number hSP hG hn)) ?_
  rintro v9 h9 ⟨⟨e, rfl, he, hr, hup, hsm⟩, hG9, hF9, hat, hle, hto⟩
  generalize (tkv (fm h) n.toNat (gi h 171 18) 0) = t at *
  have g9 := gi_r h9 171 18
  have ar9 := at_r hG9
  have hcase : (e = -1 ∧ t.2 = gi h 171 18) ∨ (0 ≤ e ∧ e = t.1 ∧ t.2 ≠ gi h 171 18) := by
    by_cases et : t.2 = gi h 171 18
    · rw [if_pos et] at he; exact Or.inl ⟨he, et⟩
    · rw [if_neg et] at he
      refine Or.inr ⟨?_, he, et⟩
      rcases hr with hr | hr
      · have := hsm hr; omega
      · exact hr.1
  refine x_istore 7 hK rfl rfl [(4, .int (I e)), (0, .ref 171), (1, .int (I n)), (2, .int (I lo)), (3, .int (I hi))] rfl ?_
  refine x_iload 9 hK rfl rfl rfl ?_
  refine x_if_lt 25 12 hK rfl rfl rfl (by omega) (fun c6 => ?_) (fun c6 => ?_)
  · refine x_iload 27 hK rfl rfl rfl ?_
    rcases hcase with ⟨q0, q1⟩ | ⟨q0, q1, q2⟩
    · refine x_iret hK rfl ⟨⟨e, rfl, Or.inl q0, ?_, by omega⟩, hG9, hF9, ?_, hle, hto⟩
      · rw [if_pos q1]; exact q0
      · rw [if_pos q1]; exact hat
    · first
      | omega
      | (refine x_iret hK rfl ⟨⟨e, rfl, Or.inr ⟨by omega, by omega, by omega, by omega, by omega, by omega⟩, ?_, hup⟩, hG9, hF9, ?_, hle, hto⟩
         · rw [if_neg q2, if_pos (by omega)]; exact q1
         · rw [if_neg q2, if_pos (by omega)]; exact hat)
  · refine x_iload 14 hK rfl rfl rfl ?_
    refine x_i2l 15 hK rfl rfl (by omega) ?_
    refine x_iload_n 16 hK rfl rfl rfl ?_
    refine x_i2l 17 hK rfl rfl (by omega) ?_
    refine x_iload_n 18 hK rfl rfl rfl ?_
    refine x_i2l 19 hK rfl rfl (by omega) ?_
    refine x_callS 22 hK hmono rfl (Or.inl rfl) rfl [.long (J e), .long (J lo), .long (J hi)] [] rfl rfl (Nat.le_of_ble_eq_true rfl) (Nat.le_of_ble_eq_true rfl) (CLd_le (Nat.le_of_ble_eq_true rfl) (ctX11_in (by omega) (by omega) (by omega))) ?_
    rintro v8 h8 ⟨e8, ⟨rfl, i1, i2⟩ | ⟨rfl, i1⟩⟩ <;> rw [e8] <;> clear e8
    · refine x_if_eq 28 25 hK rfl rfl rfl (by omega) (fun c => by omega) (fun _ => ?_)
      refine x_iload 27 hK rfl rfl rfl ?_
      rcases hcase with ⟨q0, q1⟩ | ⟨q0, q1, q2⟩
      · refine x_iret hK rfl ⟨⟨e, rfl, Or.inl q0, ?_, by omega⟩, hG9, hF9, ?_, hle, hto⟩
        · rw [if_pos q1]; exact q0
        · rw [if_pos q1]; exact hat
      · first
        | omega
        | (refine x_iret hK rfl ⟨⟨e, rfl, Or.inr ⟨by omega, by omega, by omega, by omega, by omega, by omega⟩, ?_, hup⟩, hG9, hF9, ?_, hle, hto⟩
           · rw [if_neg q2, if_pos (by omega)]; exact q1
           · rw [if_neg q2, if_pos (by omega)]; exact hat)
    · refine x_if_eq 28 25 hK rfl rfl rfl (by omega) (fun _ => ?_) (fun c => by omega)
      refine x_aload_n 29 hK rfl rfl rfl ?_
      refine x_dup 30 hK rfl rfl rfl ?_
      refine x_getE 33 hK rfl (Or.inl rfl) rfl (sp_171 (h := h9) hG9) (e := (gi h9 171 18)) (rfl) ?_
      refine x_iconst 34 hK rfl rfl ?_
      refine x_isub 35 hK rfl rfl ?_
      refine x_putI 38 hK rfl rfl (sp_171 (h := h9) hG9) ?_
      refine x_iconst 39 hK rfl rfl ?_
      obtain ⟨q0, q1, q2⟩ := hcase.resolve_left (by omega)
      refine x_iret hK rfl ⟨⟨-1, rfl, Or.inl rfl, ?_, by omega⟩, GD_w1 (hG9) (r := 54) rfl (by omega) rfl (by omega) (by omega), FRM_w (hF9) (r := 54) rfl rfl, ?_, ?_, ?_⟩
      · rw [if_neg q2, if_neg (by omega)]
      · rw [if_neg q2, if_neg (by omega), gi_same (by omega)]; omega
      · rw [gi_same (by omega)]; have := hup q0; omega
      · rw [gi_same (by omega)]; intro z; have := hto z; omega
theorem ctX11_among (hSP : MONO SPt) {sh : List (Nat × Nat)} {h : aH} (hG : GD gE gRL sh h) {b : Nat} (hb : b < 6) : CLd SPt 2 mX11_among [.ref 171, .ref (1000000 + b)] h 0 0 (fun rv h' => h' = h ∧ rv = some (.int (I (fidx (fm h (gi h 171 18)) (byJ.getD b []) 0))) ∧ (gi h 171 19 ≤ gi h 171 18 → fidx (fm h (gi h 171 18)) (byJ.getD b []) 0 = -1)) := by
  refine x_met _ rfl (Nat.le_of_ble_eq_true rfl) (fun K hK => ?_)
  have hmono := MONO_CLd hSP 1
  have ar := at_r hG
  have g18 := gi_r h 171 18
  obtain ⟨hl1, hl2⟩ := le_by hb
  have hby : ∀ c ∈ byJ.getD b [], c.toInt ≠ -1 := by
    have : ∀ b, b < 6 → ∀ c ∈ byJ.getD b [], c.toInt ≠ -1 := by decide
    exact this b hb
  have hm1 : ∀ (l : List Int32) (k : Nat), (∀ c ∈ l, c.toInt ≠ -1) → fidx (-1) l k = -1 := by
    intro l
    induction l with
    | nil => intro k _; rfl
    | cons c t ih =>
      intro k hc
      unfold fidx
      rw [if_neg (hc c List.mem_cons_self)]
      exact ih (k + 1) fun c' h' => hc c' (List.mem_cons_of_mem _ h')
  have hend : gi h 171 19 ≤ gi h 171 18 → fidx (fm h (gi h 171 18)) (byJ.getD b []) 0 = -1 := fun z => by
    rw [fm_neg z]
    exact hm1 _ _ hby
  have loop : ∀ (m : Nat) (k : Nat) (ls : List (Nat × Value)), leJ.getD b 0 - k = m → k ≤ leJ.getD b 0 → fidx (fm h (gi h 171 18)) ((byJ.getD b []).drop k) k = fidx (fm h (gi h 171 18)) (byJ.getD b []) 0 → lk ls 0 = some (.ref 171) → lk ls 1 = some (.ref (1000000 + b)) → lk ls 2 = some (.int (I (k : Int))) → K 2 ls [] h 0 0 := by
    intro m
    induction m using Nat.strongRecOn with
    | ind m ih =>
    intro k ls hm hk hf l0 l1 l2
    refine x_iload_n 3 hK rfl rfl l2 ?_
    refine x_aload_n 4 hK rfl rfl l1 ?_
    refine x_callT 7 hK hmono rfl rfl [.ref (1000000 + b)] [.int (I (k : Int))] rfl rfl (Nat.le_of_ble_eq_true rfl) (Nat.le_of_ble_eq_true rfl) rfl hb (CLd_le (Nat.le_of_ble_eq_true rfl : 1 ≤ 1) (tx_length hb)) ?_
    rintro v9 h9 ⟨e9, rfl⟩
    rw [e9]
    clear e9
    refine x_if_icmp_ge 46 10 hK rfl rfl rfl (by omega) (by omega) (fun c4 => ?_) (fun c4 => ?_)
    · refine x_iconst 47 hK rfl rfl ?_
      first
        | exact x_iret hK rfl ⟨rfl, by rw [hend (by omega)], hend⟩
        | (refine x_iret hK rfl ⟨rfl, ?_, hend⟩
           rw [← hf, List.drop_eq_nil_of_le (by omega)]
           rfl)
    · refine x_aload_n 11 hK rfl rfl l0 ?_
      refine x_getE 14 hK rfl (Or.inl rfl) rfl (sp_171 (h := h) hG) (e := (gi h 171 18)) (rfl) ?_
      refine x_aload_n 15 hK rfl rfl l0 ?_
      refine x_getE 18 hK rfl (Or.inl rfl) rfl (sp_171 (h := h) hG) (e := (gi h 171 19)) (rfl) ?_
      refine x_if_icmp_ge 46 21 hK rfl rfl rfl (by omega) (by omega) (fun c11 => ?_) (fun c11 => ?_)
      · refine x_iconst 47 hK rfl rfl ?_
        first
          | exact x_iret hK rfl ⟨rfl, by rw [hend (by omega)], hend⟩
          | (refine x_iret hK rfl ⟨rfl, ?_, hend⟩
             rw [← hf, List.drop_eq_nil_of_le (by omega)]
             rfl)
      · refine x_aload_n 22 hK rfl rfl l1 ?_
        refine x_iload_n 23 hK rfl rfl l2 ?_
        refine x_callT 26 hK hmono rfl rfl [.ref (1000000 + b), .int (I (k : Int))] [] rfl rfl (Nat.le_of_ble_eq_true rfl) (Nat.le_of_ble_eq_true rfl) rfl hb (CLd_le (Nat.le_of_ble_eq_true rfl : 1 ≤ 1) (tx_charAt hb (by omega) (by omega))) ?_
        rintro v9 h9 ⟨e9, rfl⟩
        rw [e9]
        clear e9
        have hdr := drop_getD (l := byJ.getD b []) (k := k) (by omega)
        rw [hdr, fidx_cons] at hf
        have hp := fm_pos (h := h) (a := gi h 171 18) (by omega) (by omega) (by omega)
        have g180 := gi_r h 180 (gi h 171 18).toNat
        rw [Int.toNat_natCast, ← t_I ((byJ.getD b []).getD k 0)]
        have gc := r_I ((byJ.getD b []).getD k 0)
        generalize ((byJ.getD b []).getD k 0).toInt = c at *
        refine x_aload_n 27 hK rfl rfl l0 ?_
        refine x_getR 30 hK rfl rfl (sp_171 (h := h) hG) (rf_171_16 (h := h) hG) ?_
        refine x_aload_n 31 hK rfl rfl l0 ?_
        refine x_getE 34 hK rfl (Or.inl rfl) rfl (sp_171 (h := h) hG) (e := (gi h 171 18)) (rfl) ?_
        refine x_ialoadE 35 hK rfl rfl (sp_180 (h := h) hG) (by omega) (by omega) (by omega) (e' := (gi h 180 (gi h 171 18).toNat)) (rfl) ?_
        refine x_if_icmp_ne 40 38 hK rfl rfl rfl (by omega) (by omega) (fun c22 => ?_) (fun c22 => ?_)
        · refine x_iinc 43 hK rfl rfl l2 _ rfl ?_
          refine x_goto 2 hK rfl rfl ?_
          refine ih _ (by omega) (k + 1) _ rfl (by omega) ?_ (lk1_n l0 (by decide) (Or.inl rfl)) (lk1_n l1 (by decide) (Or.inl rfl)) lk1_s
          rw [← hf, if_neg (by omega)]
        · refine x_iload_n 39 hK rfl rfl l2 ?_
          refine x_iret hK rfl ⟨rfl, ?_, hend⟩
          rw [← hf, if_pos (by omega)]
  refine x_iconst 1 hK rfl rfl ?_
  refine x_istore_n 2 hK rfl rfl [(2, .int (I 0)), (0, .ref 171), (1, .ref (1000000 + b))] rfl ?_
  exact loop _ 0 _ rfl (by omega) rfl rfl rfl rfl
theorem ctX11_takesOf (hSP : MONO SPt) {sh : List (Nat × Nat)} {h : aH} (hG : GD gE gRL sh h) {b : Nat} (hb : b < 6) : CLd SPt 3 mX11_takesOf [.ref 171, .ref (1000000 + b)] h 0 0 (fun rv h' => (∃ e, rv = some (.int (I e)) ∧ e = fidx (fm h (gi h 171 18)) (byJ.getD b []) 0 ∧ -1 ≤ e ∧ e ≤ 12 ∧ gi h' 171 18 = gi h 171 18 + (if e < 0 then 0 else 1) ∧ (0 ≤ e → gi h 171 18 < gi h 171 19)) ∧ GD gE gRL sh h' ∧ FRM gRL [(0, 54, 18, 18)] h h') := by
  refine x_met _ rfl (Nat.le_of_ble_eq_true rfl) (fun K hK => ?_)
  have hmono := MONO_CLd hSP 2
  have ar := at_r hG
  have g18 := gi_r h 171 18
  obtain ⟨hl1, hl2⟩ := le_by hb
  have hr := fidx_r (fm h (gi h 171 18)) (byJ.getD b []) 0
  refine x_aload_n 1 hK rfl rfl rfl ?_
  refine x_aload_n 2 hK rfl rfl rfl ?_
  refine x_callV 5 hK hmono rfl rfl [.ref 171, .ref (1000000 + b)] [] rfl rfl (Nat.le_of_ble_eq_true rfl) (Nat.le_of_ble_eq_true rfl) rfl (sp_171 (h := h) hG) (CLd_le (Nat.le_of_ble_eq_true rfl) (ctX11_among hSP hG hb)) ?_
  rintro v9 h9 ⟨e9, rfl, hend⟩
  rw [e9]
  clear e9
  generalize he : fidx (fm h (gi h 171 18)) (byJ.getD b []) 0 = e at *
  refine x_istore_n 6 hK rfl rfl [(2, .int (I e)), (0, .ref 171), (1, .ref (1000000 + b))] rfl ?_
  refine x_aload_n 7 hK rfl rfl rfl ?_
  refine x_dup 8 hK rfl rfl rfl ?_
  refine x_getE 11 hK rfl (Or.inl rfl) rfl (sp_171 (h := h) hG) (e := (gi h 171 18)) (rfl) ?_
  refine x_iload_n 12 hK rfl rfl rfl ?_
  refine x_if_lt 19 15 hK rfl rfl rfl (by omega) (fun c9 => ?_) (fun c9 => ?_)
  · refine x_iconst 20 hK rfl rfl ?_
    refine x_callS 23 hK hmono rfl (Or.inl rfl) rfl [.int (I 0)] [.int (I (gi h 171 18)), .ref 171] rfl rfl (Nat.le_of_ble_eq_true rfl) (Nat.le_of_ble_eq_true rfl) (CLd_le (Nat.le_of_ble_eq_true rfl) (ctX11_flag (by omega))) ?_
    rintro v9 h9 ⟨e9, rfl⟩
    rw [e9]
    clear e9
    refine x_iadd 24 hK rfl rfl ?_
    refine x_putI 27 hK rfl rfl (sp_171 (h := h) hG) ?_
    refine x_iload_n 28 hK rfl rfl rfl ?_
    refine x_iret hK rfl ⟨⟨e, rfl, rfl, by omega, by omega, ?_, fun z => ?_⟩, GD_w1 (hG) (r := 54) rfl (by omega) rfl (by omega) (by omega), FRM_w (FRM.rf) (r := 54) rfl rfl⟩
    · rw [gi_same (by omega), if_pos (by omega)]
    · omega
  · refine x_iconst 16 hK rfl rfl ?_
    refine x_goto 20 hK rfl rfl ?_
    refine x_callS 23 hK hmono rfl (Or.inl rfl) rfl [.int (I 1)] [.int (I (gi h 171 18)), .ref 171] rfl rfl (Nat.le_of_ble_eq_true rfl) (Nat.le_of_ble_eq_true rfl) (CLd_le (Nat.le_of_ble_eq_true rfl) (ctX11_flag (by omega))) ?_
    rintro v9 h9 ⟨e9, rfl⟩
    rw [e9]
    clear e9
    refine x_iadd 24 hK rfl rfl ?_
    refine x_putI 27 hK rfl rfl (sp_171 (h := h) hG) ?_
    refine x_iload_n 28 hK rfl rfl rfl ?_
    refine x_iret hK rfl ⟨⟨e, rfl, rfl, by omega, by omega, ?_, fun z => ?_⟩, GD_w1 (hG) (r := 54) rfl (by omega) rfl (by omega) (by omega), FRM_w (FRM.rf) (r := 54) rfl rfl⟩
    · rw [gi_same (by omega), if_neg (by omega)]
    · by_cases c9 : gi h 171 18 < gi h 171 19
      · exact c9
      · have := hend (by omega); omega
end
section
/-! ORDERS, STEPS, VOYAGES (the reference): safe, and by how much the step's number grows -/
theorem mHas_no {M : MD} {r k : Nat} (h : (M.all fun q => !(Nat.beq q.1 0 && Nat.beq q.2.1 r && Nat.ble q.2.2.1 k && Nat.ble k q.2.2.2)) = true) : mHas M 0 r k = false := by
  cases hc : mHas M 0 r k with
  | false => rfl
  | true =>
    obtain ⟨q, hq, h2⟩ := List.any_eq_true.mp hc
    have := List.all_eq_true.mp h q hq
    rw [h2] at this
    cases this
theorem tm2 (a : Int) : -1 ≤ a.tmod 2 ∧ a.tmod 2 ≤ 1 := by
  by_cases c : 0 ≤ a
  · rw [Int.tmod_eq_emod_of_nonneg c]; omega
  · have e : a.tmod 2 = -((-a).tmod 2) := by rw [Int.neg_tmod, Int.neg_neg]
    rw [e, Int.tmod_eq_emod_of_nonneg (by omega)]; omega
theorem ctX11_turned {SP : CT} (hSP : MONO SP) {sh : List (Nat × Nat)} {h : aH} (hG : GD gE gRL sh h) {v : Int} : CLd SP 1 mX11_turned [.ref 171, .int (I v)] h 0 0 (fun rv h' => h' = h ∧ rv = some (.int (I (if (gi h 171 5).tmod 2 = 1 then -v else v)))) := by
  refine x_met _ rfl (Nat.le_of_ble_eq_true rfl) (fun K hK => ?_)
  have hmono := MONO_CLd hSP 0
  refine x_aload_n 1 hK rfl rfl rfl ?_
  refine x_getE 4 hK rfl (Or.inl rfl) rfl (sp_171 (h := h) hG) (e := (gi h 171 5)) (rfl) ?_
  refine x_iconst 5 hK rfl rfl ?_
  refine x_irem 6 hK rfl rfl (gi_r _ _ _) (by omega) (by omega) (by omega) ?_
  have tm := tm2 (gi h 171 5)
  generalize (gi h 171 5).tmod 2 = t at *
  refine x_iconst 7 hK rfl rfl ?_
  refine x_if_icmp_ne 15 10 hK rfl rfl rfl (by omega) (by omega) (fun c6 => ?_) (fun c6 => ?_)
  · refine x_iload_n 16 hK rfl rfl rfl ?_
    exact x_iret hK rfl ⟨rfl, by rw [if_neg (by omega)]⟩
  · refine x_iload_n 11 hK rfl rfl rfl ?_
    refine x_ineg 12 hK rfl rfl ?_
    refine x_goto 16 hK rfl rfl ?_
    exact x_iret hK rfl ⟨rfl, by rw [if_pos (by omega)]⟩
end
section
/-! THE REFERENCE READS A VOYAGE, A SHIP, ROCKS, MESSES: safe -/
theorem gi_to {a k l : Nat} {h : aH} (e : k = l) : gi h a k = gi h a l := by rw [e]
theorem NB.up {b c : Int} {h : aH} (n : NB b h) (e : b ≤ c) : NB c h := n.mono e
end
section
/-! THE REFERENCE READS A RULE: safe, and the rule that it makes can be worked out -/
theorem hgt_congr {c c' : Nat → Int} : ∀ (k : Nat), (∀ j, j < k → c' j = c j) → hgt c' k = hgt c k
  | 0, _ => rfl
  | k + 1, h => by
    show hgt c' k + (if c' k = 3000 then 0 else if 2000 ≤ c' k then -1 else 1) = hgt c k + (if c k = 3000 then 0 else if 2000 ≤ c k then -1 else 1)
    rw [hgt_congr k (fun j hj => h j (by omega)), h k (by omega)]
theorem hgt_le (c : Nat → Int) : ∀ k : Nat, hgt c k ≤ k
  | 0 => Int.le_refl _
  | k + 1 => by
    have := hgt_le c k
    show hgt c k + (if c k = 3000 then 0 else if 2000 ≤ c k then -1 else 1) ≤ ((k + 1 : Nat) : Int)
    split
    · omega
    · split <;> omega
/-- a piece of code that can be worked out, and by how much the stack grows -/
noncomputable def SEG (c : Nat → Int) (a b : Nat) (d : Int) : Prop := a ≤ b ∧ hgt c b = hgt c a + d ∧ ∀ k : Nat, a ≤ k → k < b → hgt c a ≤ hgt c k ∧ (c k = 3000 → hgt c a + 1 ≤ hgt c k) ∧ (c k ≠ 3000 → 2000 ≤ c k → hgt c a + 2 ≤ hgt c k) ∧ (1000 ≤ c k → c k < 2000 → c k ≤ 1003)
theorem SEG.rf {c : Nat → Int} {a : Nat} : SEG c a a 0 := ⟨Nat.le_refl _, (Int.add_zero _).symm, fun k h1 h2 => absurd h2 (by omega)⟩
theorem SEG.snoc {c : Nat → Int} {a b : Nat} {d e : Int} (s : SEG c a b d) (h0 : 0 ≤ d) (hk : (c b = 3000 ∧ 1 ≤ d ∧ e = d) ∨ (c b ≠ 3000 ∧ 2000 ≤ c b ∧ 2 ≤ d ∧ e = d - 1) ∨ (c b < 2000 ∧ c b ≤ 1003 ∧ e = d + 1)) : SEG c a (b + 1) e := by
  obtain ⟨s1, s2, s3⟩ := s
  have hs : hgt c (b + 1) = hgt c b + (if c b = 3000 then 0 else if 2000 ≤ c b then -1 else 1) := rfl
  refine ⟨by omega, ?_, fun k h1 h2 => ?_⟩
  · rw [hs]
    rcases hk with ⟨q, q2, q3⟩ | ⟨q1, q2, q3, q4⟩ | ⟨q, q2, q3⟩
    · rw [if_pos q]; omega
    · rw [if_neg q1, if_pos q2]; omega
    · rw [if_neg (by omega), if_neg (by omega)]; omega
  · by_cases c1 : k < b
    · exact s3 k h1 c1
    · obtain rfl : k = b := by omega
      refine ⟨by omega, fun q => by omega, fun q1 q2 => by omega, fun q1 q2 => by omega⟩
theorem SEG.trans {c : Nat → Int} {a b e : Nat} {d f : Int} (s : SEG c a b d) (t : SEG c b e f) (h0 : 0 ≤ d) : SEG c a e (d + f) := by
  have s1 := s.1
  have t1 := t.1
  have s2 := s.2.1
  refine ⟨by omega, by rw [t.2.1, s.2.1]; omega, fun k h1 h2 => ?_⟩
  by_cases c1 : k < b
  · exact s.2.2 k h1 c1
  · obtain ⟨u1, u2, u3, u4⟩ := t.2.2 k (by omega) h2
    exact ⟨by omega, fun q => by have := u2 q; omega, fun q1 q2 => by have := u3 q1 q2; omega, u4⟩
theorem SEG.congr {c c' : Nat → Int} {a b : Nat} {d : Int} (s : SEG c a b d) (h : ∀ j, j < b → c' j = c j) : SEG c' a b d := by
  have s1 := s.1
  have ha : hgt c' a = hgt c a := hgt_congr a fun j hj => h j (by omega)
  refine ⟨s1, by rw [ha, hgt_congr b h]; exact s.2.1, fun k h1 h2 => ?_⟩
  rw [ha, hgt_congr k (fun j hj => h j (by omega)), h k h2]
  exact s.2.2 k h1 h2
/-- what a reader of the rule keeps; n signs taken that no code stands for yet -/
noncomputable def RF (sh : List (Nat × Nat)) (h h' : aH) (n : Int) : Prop := GD gE gRL sh h' ∧ FRM gRL [(0, 54, 18, 18), (0, 54, 20, 20), (0, 54, 26, 26), (0, 66, 0, 79)] h h' ∧ gi h 171 18 ≤ gi h' 171 18 ∧ gi h' 171 18 ≤ gi h 171 19 ∧ gi h 171 26 ≤ gi h' 171 26 ∧ gi h' 171 26 - gi h 171 26 + n ≤ gi h' 171 18 - gi h 171 18 ∧ ∀ j : Nat, (j : Int) < gi h 171 26 → gi h' 183 j = gi h 183 j
noncomputable def RW (sh : List (Nat × Nat)) (h h' : aH) (d n : Int) : Prop := RF sh h h' n ∧ SEG (fun k => gi h' 183 k) (gi h 171 26).toNat (gi h' 171 26).toNat d
/-- what a code does that is written down -/
noncomputable def CW (sh : List (Nat × Nat)) (h h' : aH) (v : Int) : Prop := GD gE gRL sh h' ∧ FRM gRL [(0, 54, 26, 26), (0, 66, 0, 79)] h h' ∧ gi h' 171 26 = gi h 171 26 + 1 ∧ gi h' 183 (gi h 171 26).toNat = v ∧ ∀ j, j ≠ (gi h 171 26).toNat → gi h' 183 j = gi h 183 j
theorem RF.len {sh : List (Nat × Nat)} {h h' : aH} {n : Int} (w : RF sh h h' n) : 0 ≤ gi h' 171 26 := (gri 0 80 w.1 (r := 54) rfl rfl).1
theorem RF.rf {sh : List (Nat × Nat)} {h : aH} (hG : GD gE gRL sh h) (ha : gi h 171 18 ≤ gi h 171 19) : RF sh h h 0 := ⟨hG, FRM.rf, Int.le_refl _, ha, Int.le_refl _, by omega, fun _ _ => rfl⟩
theorem RW.rf {sh : List (Nat × Nat)} {h : aH} (hG : GD gE gRL sh h) (ha : gi h 171 18 ≤ gi h 171 19) : RW sh h h 0 0 := ⟨RF.rf hG ha, SEG.rf⟩
theorem RF.le {sh : List (Nat × Nat)} {h h' : aH} {n m : Int} (w : RF sh h h' n) (hm : m ≤ n) : RF sh h h' m := ⟨w.1, w.2.1, w.2.2.1, w.2.2.2.1, w.2.2.2.2.1, by have := w.2.2.2.2.2.1; omega, w.2.2.2.2.2.2⟩
theorem RW.le {sh : List (Nat × Nat)} {h h' : aH} {d n m : Int} (w : RW sh h h' d n) (hm : m ≤ n) : RW sh h h' d m := ⟨w.1.le hm, w.2⟩
theorem RF.to {sh : List (Nat × Nat)} {h h' : aH} {n : Int} (w : RF sh h h' n) : gi h' 171 19 = gi h 171 19 := FRM_gi w.2.1 (r := 54) rfl rfl
theorem RF.ints {sh : List (Nat × Nat)} {h h' : aH} {n : Int} (w : RF sh h h' n) : GD gE gRL sh h' ∧ gi h 171 18 ≤ gi h' 171 18 ∧ gi h' 171 18 ≤ gi h 171 19 ∧ gi h 171 26 ≤ gi h' 171 26 ∧ gi h' 171 26 - gi h 171 26 + n ≤ gi h' 171 18 - gi h 171 18 ∧ gi h' 171 19 = gi h 171 19 ∧ 0 ≤ gi h' 171 26 ∧ (0 ≤ gi h' 171 20 ∧ gi h' 171 20 ≤ 4) ∧ gi h' 171 19 ≤ 80 := ⟨w.1, w.2.2.1, w.2.2.2.1, w.2.2.2.2.1, w.2.2.2.2.2.1, w.to, w.len, gri 0 4 w.1 (r := 54) rfl rfl, (at_r w.1).2.2⟩
theorem RF.take {sh : List (Nat × Nat)} {h h1 h2 : aH} {n q : Int} (w : RF sh h h1 n) (hG : GD gE gRL sh h2) (hF : FRM gRL [(0, 54, 18, 18)] h1 h2) (hq : 0 ≤ q) (h1q : gi h1 171 18 + q ≤ gi h2 171 18) (h2t : gi h2 171 18 ≤ gi h1 171 19) : RF sh h h2 (n + q) := by
  have wt := w.to
  obtain ⟨w1, w2, w3, w4, w5, w6, w7⟩ := w
  have e26 : gi h2 171 26 = gi h1 171 26 := FRM_gi hF (r := 54) rfl rfl
  refine ⟨hG, w2.trans (hF.mono rfl), by omega, by omega, by omega, by omega, fun j hj => ?_⟩
  rw [FRM_gi hF (r := 66) rfl rfl]
  exact w7 j hj
theorem RW.take {sh : List (Nat × Nat)} {h h1 h2 : aH} {d n q : Int} (w : RW sh h h1 d n) (hG : GD gE gRL sh h2) (hF : FRM gRL [(0, 54, 18, 18)] h1 h2) (hq : 0 ≤ q) (h1q : gi h1 171 18 + q ≤ gi h2 171 18) (h2t : gi h2 171 18 ≤ gi h1 171 19) : RW sh h h2 d (n + q) := by
  refine ⟨w.1.take hG hF hq h1q h2t, ?_⟩
  rw [show gi h2 171 26 = gi h1 171 26 from FRM_gi hF (r := 54) rfl rfl]
  exact w.2.congr fun j _ => FRM_gi hF (r := 66) rfl rfl
theorem RF.nest {sh : List (Nat × Nat)} {h h1 : aH} {n e : Int} (w : RF sh h h1 n) (hG : GD gE gRL sh (wI h1 171 20 e)) : RF sh h (wI h1 171 20 e) n := by
  obtain ⟨w1, w2, w3, w4, w5, w6, w7⟩ := w
  refine ⟨hG, FRM_w w2 (r := 54) rfl rfl, ?_, ?_, ?_, ?_, ?_⟩
  · rw [gi_k (by decide)]; exact w3
  · rw [gi_k (by decide)]; exact w4
  · rw [gi_k (by decide)]; exact w5
  · rw [gi_k (by decide), gi_k (by decide)]; exact w6
  · intro j hj
    rw [gi_a (by decide)]
    exact w7 j hj
theorem RW.nest {sh : List (Nat × Nat)} {h h1 : aH} {d n e : Int} (w : RW sh h h1 d n) (hG : GD gE gRL sh (wI h1 171 20 e)) : RW sh h (wI h1 171 20 e) d n := by
  refine ⟨w.1.nest hG, ?_⟩
  rw [gi_k (by decide)]
  exact w.2.congr fun j _ => gi_a (by decide) _
theorem RF.call {sh : List (Nat × Nat)} {h h1 h2 : aH} {n : Int} (w : RF sh h h1 n) (t : RF sh h1 h2 0) : RF sh h h2 n := by
  have wt := w.to
  obtain ⟨w1, w2, w3, w4, w5, w6, w7⟩ := w
  obtain ⟨t1, t2, t3, t4, t5, t6, t7⟩ := t
  refine ⟨t1, w2.trans t2, by omega, by omega, by omega, by omega, fun j hj => ?_⟩
  rw [t7 j (by omega)]
  exact w7 j hj
theorem RW.call {sh : List (Nat × Nat)} {h h1 h2 : aH} {d n e : Int} (w : RW sh h h1 d n) (t : RW sh h1 h2 e 0) (hd : 0 ≤ d) : RW sh h h2 (d + e) n := by
  refine ⟨w.1.call t.1, ?_⟩
  have z := w.1.len
  exact (w.2.congr fun j hj => t.1.2.2.2.2.2.2 j (by omega)).trans t.2 hd
theorem RF.code {sh : List (Nat × Nat)} {h h1 h2 : aH} {n v : Int} (w : RF sh h h1 (n + 1)) (t : CW sh h1 h2 v) : RF sh h h2 n := by
  have z0 := w.len
  obtain ⟨w1, w2, w3, w4, w5, w6, w7⟩ := w
  obtain ⟨t1, t2, t3, t4, t5⟩ := t
  have e18 : gi h2 171 18 = gi h1 171 18 := FRM_gi t2 (r := 54) rfl rfl
  refine ⟨t1, w2.trans (t2.mono rfl), by omega, by omega, by omega, by omega, fun j hj => ?_⟩
  rw [t5 j (by omega)]
  exact w7 j hj
theorem RW.code {sh : List (Nat × Nat)} {h h1 h2 : aH} {d e n v : Int} (w : RW sh h h1 d (n + 1)) (t : CW sh h1 h2 v) (hd : 0 ≤ d) (hk : (v = 3000 ∧ 1 ≤ d ∧ e = d) ∨ (v ≠ 3000 ∧ 2000 ≤ v ∧ 2 ≤ d ∧ e = d - 1) ∨ (v < 2000 ∧ v ≤ 1003 ∧ e = d + 1)) : RW sh h h2 e n := by
  refine ⟨w.1.code t, ?_⟩
  have z := w.1.len
  have e26 := t.2.2.1
  rw [show (gi h2 171 26).toNat = (gi h1 171 26).toNat + 1 by omega]
  refine (w.2.congr (c' := fun k => gi h2 183 k) fun j hj => t.2.2.2.2 j (by omega)).snoc hd ?_
  rw [show gi h2 183 (gi h1 171 26).toNat = v from t.2.2.2.1]
  exact hk
theorem tkv_le (f : Int → Int) : ∀ (n : Nat) (a v : Int), a ≤ (tkv f n a v).2
  | 0, a, v => Int.le_refl _
  | n + 1, a, v => by
    show a ≤ (if 48 ≤ f a ∧ f a ≤ 57 then tkv f n (a + 1) (v * 10 + f a - 48) else (v, a)).2
    split
    · have := tkv_le f n (a + 1) (v * 10 + f a - 48)
      omega
    · exact Int.le_refl _
theorem ctX11_codes {SP : CT} (hSP : MONO SP) {sh : List (Nat × Nat)} {h : aH} (hG : GD gE gRL sh h) {v : Int} (hv : r32 v) (hl : 0 ≤ gi h 171 26 ∧ gi h 171 26 < 80) : CLd SP 1 mX11_codes [.ref 171, .int (I v)] h 0 0 (fun rv h' => rv = none ∧ CW sh h h' v) := by
  refine x_met _ rfl (Nat.le_of_ble_eq_true rfl) (fun K hK => ?_)
  have hmono := MONO_CLd hSP 0
  refine x_aload_n 1 hK rfl rfl rfl ?_
  refine x_getR 4 hK rfl rfl (sp_171 (h := h) hG) (rf_171_24 (h := h) hG) ?_
  refine x_aload_n 5 hK rfl rfl rfl ?_
  refine x_getE 8 hK rfl (Or.inl rfl) rfl (sp_171 (h := h) hG) (e := (gi h 171 26)) (rfl) ?_
  refine x_iload_n 9 hK rfl rfl rfl ?_
  refine x_iastore 10 hK rfl rfl (sp_183 (h := h) hG) (by first | exact gi_r _ _ _ | omega) (by first | exact gi_r _ _ _ | omega) (by first | exact gi_r _ _ _ | omega) ?_
  refine x_aload_n 11 hK rfl rfl rfl ?_
  refine x_dup 12 hK rfl rfl rfl ?_
  refine x_getE 15 hK rfl (Or.inl rfl) rfl (sp_171 (h := h) hG) (e := (gi h 171 26)) (gi_a (by decide) _) ?_
  refine x_iconst 16 hK rfl rfl ?_
  refine x_iadd 17 hK rfl rfl ?_
  refine x_putI 20 hK rfl rfl (sp_171 (h := h) hG) ?_
  have s26 : gi (wI (wI h 183 (gi h 171 26).toNat v) 171 26 ((gi h 171 26) + 1)) 171 26 = ((gi h 171 26) + 1) := gi_same (by first | exact gi_r _ _ _ | omega)
  exact x_vret hK rfl ⟨rfl, GD_w1 (GD_wn (hG) (r := 66) rfl rfl) (r := 54) rfl (by omega) rfl (by omega) (by omega), FRM_w (FRM_wn 0 79 (FRM.rf) (r := 66) rfl rfl rfl (by omega) (by omega)) (r := 54) rfl rfl, s26, (gi_a (by decide) _).trans (gi_same hv), fun j hj => (gi_a (by decide) _).trans (gi_k hj _)⟩
end
