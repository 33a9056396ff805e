/-! WHAT THE CHECKER SAYS OF METHODS, 0 -/
noncomputable def sX9_append_0 : SM := (mX9_append, [(2, 1, 0, 0), (0, 0, 0, 65535)], [], [([], [(1, 1, 1, 80)], []), ([], [(1, 1, 80, 80)], [])], [(0, 1, 1, 1), (0, 2, 0, 79)])
theorem kX9_append_0 {SP : CT} (hSP : MONO SP) {sh : List (Nat × Nat)} : SMOK gE gRL sh (CLd SP 1) sX9_append_0 :=
  chkS hSP [] 20 []
  []
  (by decide +kernel) (fun s h => absurd h List.not_mem_nil)
noncomputable def sX10_sign_0 : SM := (mX10_sign, [(2, 0, 0, 0), (0, 0, (-2147483648), 2147483647)], [], [([(0, 0, 80, 80)], [(1, 1, 80, 80)], []), ([(0, 0, 1, 80)], [(1, 1, 1, 80)], []), ([(0, 0, (-1), (-1))], [], [])], [(0, 1, 1, 1), (0, 2, 0, 79)])
theorem kX10_sign_0 {SP : CT} (hSP : MONO SP) {sh : List (Nat × Nat)} : SMOK gE gRL sh (CLd SP 2) sX10_sign_0 :=
  chkS hSP [sX9_append_0] 17 [(false, 0)]
  [((19, [(0, (2, 0, 0, 0)), (1, (0, 0, (-2147483648), 2147483647)), (2, (0, 0, 24, 24))], [], [], [(0, 9, 0)]), [(false, 1), (false, 2)]), ((19, [(0, (2, 0, 0, 0)), (1, (0, 0, (-2147483648), 2147483647)), (2, (0, 0, 16, 16))], [], [], [(0, 7, 0)]), [(false, 2), (false, 3)]), ((19, [(0, (2, 0, 0, 0)), (1, (0, 0, (-2147483648), 2147483647)), (2, (0, 0, 16, 16))], [], [], [(0, 8, 0)]), [(false, 1), (false, 2)]), ((19, [(0, (2, 0, 0, 0)), (1, (0, 0, (-2147483648), 2147483647)), (2, (0, 0, 8, 8))], [], [], [(0, 5, 0)]), [(false, 2), (false, 3)]), ((19, [(0, (2, 0, 0, 0)), (1, (0, 0, (-2147483648), 2147483647)), (2, (0, 0, 8, 8))], [], [], [(0, 6, 0)]), [(false, 1), (false, 2)]), ((19, [(0, (2, 0, 0, 0)), (1, (0, 0, (-2147483648), 2147483647)), (2, (0, 0, 0, 0))], [], [], [(0, 3, 0)]), [(false, 2), (false, 3)]), ((19, [(0, (2, 0, 0, 0)), (1, (0, 0, (-2147483648), 2147483647)), (2, (0, 0, 0, 0))], [], [], [(0, 4, 0)]), [(false, 1), (false, 2)]), ((19, [(0, (2, 0, 0, 0)), (1, (0, 0, (-2147483648), 2147483647)), (2, (0, 0, (-8), (-8)))], [], [(1, 1, 80, 80)], [(0, 1, 0)]), []), ((19, [(0, (2, 0, 0, 0)), (1, (0, 0, (-2147483648), 2147483647)), (2, (0, 0, (-8), (-8)))], [], [(1, 1, 1, 80)], [(0, 2, 0)]), [])]
  (by decide +kernel) (List.forall_mem_cons.mpr ⟨SMOK_le (Nat.le_of_ble_eq_true rfl : 1 ≤ 1) (kX9_append_0 hSP), fun s h => absurd h List.not_mem_nil⟩)
noncomputable def sX10_end_0 : SM := (mX10_end, [(2, 0, 0, 0), (0, 0, (-2147483648), 2147483647)], [], [([(0, 0, 0, 0)], [], []), ([(0, 0, 1, 1)], [(1, 1, 0, 80)], [])], [(0, 1, 1, 1)])
theorem kX10_end_0 {SP : CT} (hSP : MONO SP) {sh : List (Nat × Nat)} : SMOK gE gRL sh (CLd SP 1) sX10_end_0 :=
  chkS hSP [] 19 []
  []
  (by decide +kernel) (fun s h => absurd h List.not_mem_nil)
noncomputable def sX9_open_0 : SM := (mX9_open, [(2, 1, 0, 0), (0, 0, 43, 43)], [], [([], [(1, 2, 0, 0), (1, 3, 0, 43), (1, 4, 1, 1), (1, 5, 0, 0)], []), ([], [(1, 2, 0, 0), (1, 3, 0, 43), (1, 4, 0, 0), (1, 5, 0, 0)], [])], [(0, 1, 2, 5)])
theorem kX9_open_0 {SP : CT} (hSP : MONO SP) {sh : List (Nat × Nat)} : SMOK gE gRL sh (CLd SP 1) sX9_open_0 :=
  chkS hSP [] 29 []
  []
  (by decide +kernel) (fun s h => absurd h List.not_mem_nil)
noncomputable def sX9_ended_0 : SM := (mX9_ended, [(2, 1, 0, 0)], [], [([(0, 0, 1, 1)], [], []), ([(0, 0, 0, 0)], [], [])], [])
theorem kX9_ended_0 {SP : CT} (hSP : MONO SP) {sh : List (Nat × Nat)} : SMOK gE gRL sh (CLd SP 1) sX9_ended_0 :=
  chkS hSP [] 12 []
  []
  (by decide +kernel) (fun s h => absurd h List.not_mem_nil)
noncomputable def sX9_next_0 : SM := (mX9_next, [(2, 1, 0, 0)], [], [([(0, 0, 0, 65535)], [], []), ([(0, 0, (-1), (-1))], [], [])], [])
theorem kX9_next_0 {SP : CT} (hSP : MONO SP) {sh : List (Nat × Nat)} : SMOK gE gRL sh (CLd SP 1) sX9_next_0 :=
  chkS hSP [] 25 []
  []
  (by decide +kernel) (fun s h => absurd h List.not_mem_nil)
noncomputable def sX9_take_0 : SM := (mX9_take, [(2, 1, 0, 0), (0, 0, (-2147483648), 2147483647)], [], [([(0, 0, 0, 0)], [], []), ([(0, 0, 1, 1)], [(1, 2, (-2147483648), 2147483647)], [])], [(0, 1, 2, 2)])
theorem kX9_take_0 {SP : CT} (hSP : MONO SP) {sh : List (Nat × Nat)} : SMOK gE gRL sh (CLd SP 2) sX9_take_0 :=
  chkS hSP [sX9_next_0] 28 []
  []
  (by decide +kernel) (List.forall_mem_cons.mpr ⟨SMOK_le (Nat.le_of_ble_eq_true rfl : 1 ≤ 1) (kX9_next_0 hSP), fun s h => absurd h List.not_mem_nil⟩)
noncomputable def sX6_addPost_0 : SM := (mX6_addPost, [(2, 5, 0, 0), (0, 0, 0, 39), (0, 0, 1, 1)], [], [([], [], [])], [(0, 5, 1, 2), (0, 6, 0, 9), (0, 7, 0, 9)])
theorem kX6_addPost_0 {SP : CT} (hSP : MONO SP) {sh : List (Nat × Nat)} : SMOK gE gRL sh (CLd SP 1) sX6_addPost_0 :=
  chkS hSP [] 32 []
  []
  (by decide +kernel) (fun s h => absurd h List.not_mem_nil)
noncomputable def sX6_addPost_1 : SM := (mX6_addPost, [(2, 5, 0, 0), (0, 0, 0, 39), (0, 0, 0, 0)], [], [([], [], [])], [(0, 5, 1, 2), (0, 6, 0, 9), (0, 7, 0, 9)])
theorem kX6_addPost_1 {SP : CT} (hSP : MONO SP) {sh : List (Nat × Nat)} : SMOK gE gRL sh (CLd SP 1) sX6_addPost_1 :=
  chkS hSP [] 32 []
  []
  (by decide +kernel) (fun s h => absurd h List.not_mem_nil)
noncomputable def sX9_faultAtEnd_0 : SM := (mX9_faultAtEnd, [(2, 1, 0, 0)], [], [([(0, 0, 0, 76)], [], []), ([(0, 0, (-1), (-1))], [], [])], [])
theorem kX9_faultAtEnd_0 {SP : CT} (hSP : MONO SP) {sh : List (Nat × Nat)} : SMOK gE gRL sh (CLd SP 1) sX9_faultAtEnd_0 :=
  chkS hSP [] 11 []
  []
  (by decide +kernel) (fun s h => absurd h List.not_mem_nil)
noncomputable def sX9_open_1 : SM := (mX9_open, [(2, 1, 0, 0), (0, 0, 76, 76)], [], [([], [(1, 2, 0, 0), (1, 3, 0, 76), (1, 4, 1, 1), (1, 5, 0, 0)], []), ([], [(1, 2, 0, 0), (1, 3, 0, 76), (1, 4, 0, 0), (1, 5, 0, 0)], [])], [(0, 1, 2, 5)])
theorem kX9_open_1 {SP : CT} (hSP : MONO SP) {sh : List (Nat × Nat)} : SMOK gE gRL sh (CLd SP 1) sX9_open_1 :=
  chkS hSP [] 29 []
  []
  (by decide +kernel) (fun s h => absurd h List.not_mem_nil)
noncomputable def sX9_open_2 : SM := (mX9_open, [(2, 1, 0, 0), (0, 0, 39, 39)], [], [([], [(1, 2, 0, 0), (1, 3, 0, 39), (1, 4, 1, 1), (1, 5, 0, 0)], []), ([], [(1, 2, 0, 0), (1, 3, 0, 39), (1, 4, 0, 0), (1, 5, 0, 0)], [])], [(0, 1, 2, 5)])
theorem kX9_open_2 {SP : CT} (hSP : MONO SP) {sh : List (Nat × Nat)} : SMOK gE gRL sh (CLd SP 1) sX9_open_2 :=
  chkS hSP [] 29 []
  []
  (by decide +kernel) (fun s h => absurd h List.not_mem_nil)
noncomputable def sX1_forgetAll_0 : SM := (mX1_forgetAll, [(2, 27, 0, 0)], [], [([], [(27, 2, 0, 0), (30, 0, 0, 0), (30, 1, 0, 0), (30, 2, 0, 0)], [])], [(0, 27, 2, 2), (0, 30, 0, 2)])
theorem kX1_forgetAll_0 {SP : CT} (hSP : MONO SP) {sh : List (Nat × Nat)} : SMOK gE gRL sh (CLd SP 1) sX1_forgetAll_0 :=
  chkS hSP [] 12 [(false, 0)]
  [((7, [(0, (2, 27, 0, 0)), (1, (0, 0, 0, 0))], [], [(27, 2, 0, 0)], [(0, 4, 0)]), [(false, 1)]), ((7, [(0, (2, 27, 0, 0)), (1, (0, 0, 1, 1))], [], [(27, 2, 0, 0), (30, 0, 0, 0)], [(0, 3, 0)]), [(false, 1)]), ((7, [(0, (2, 27, 0, 0)), (1, (0, 0, 2, 2))], [], [(27, 2, 0, 0), (30, 0, 0, 0), (30, 1, 0, 0)], [(0, 2, 0)]), [(false, 1)]), ((7, [(0, (2, 27, 0, 0)), (1, (0, 0, 3, 3))], [], [(27, 2, 0, 0), (30, 0, 0, 0), (30, 1, 0, 0), (30, 2, 0, 0)], [(0, 1, 0)]), [])]
  (by decide +kernel) (fun s h => absurd h List.not_mem_nil)
noncomputable def sX9_open_3 : SM := (mX9_open, [(2, 1, 0, 0), (0, 0, 40, 40)], [], [([], [(1, 2, 0, 0), (1, 3, 0, 40), (1, 4, 1, 1), (1, 5, 0, 0)], []), ([], [(1, 2, 0, 0), (1, 3, 0, 40), (1, 4, 0, 0), (1, 5, 0, 0)], [])], [(0, 1, 2, 5)])
theorem kX9_open_3 {SP : CT} (hSP : MONO SP) {sh : List (Nat × Nat)} : SMOK gE gRL sh (CLd SP 1) sX9_open_3 :=
  chkS hSP [] 29 []
  []
  (by decide +kernel) (fun s h => absurd h List.not_mem_nil)
noncomputable def sX10_put_0 : SM := (mX10_put, [(0, 0, (-2147483648), 2147483647), (0, 0, 0, 0), (0, 0, 9, 9)], [], [([(0, 0, 0, 9)], [], [])], [])
theorem kX10_put_0 {SP : CT} (hSP : MONO SP) {sh : List (Nat × Nat)} : SMOK gE gRL sh (CLd SP 1) sX10_put_0 :=
  chkS hSP [] 8 []
  []
  (by decide +kernel) (fun s h => absurd h List.not_mem_nil)
noncomputable def sX10_entry_0 : SM := (mX10_entry, [(0, 0, 0, 3), (0, 0, (-2147483648), 2147483647)], [], [([(0, 0, (-128), 127)], [], []), ([(0, 0, (-32768), 32767)], [], []), ([(0, 0, (-2147483648), 2147483647)], [], [])], [])
theorem kX10_entry_0 {SP : CT} (hSP : MONO SP) {sh : List (Nat × Nat)} : SMOK gE gRL sh (CLd SP 1) sX10_entry_0 :=
  chkS hSP [] 16 []
  []
  (by decide +kernel) (fun s h => absurd h List.not_mem_nil)
noncomputable def sX10_sheet_0 : SM := (mX10_sheet, [(2, 0, 0, 0), (0, 0, (-2147483648), 2147483647), (0, 0, (-2147483648), 2147483647), (0, 0, (-2147483648), 2147483647), (0, 0, (-2147483648), 2147483647)], [], [([(0, 0, (-3), (-3))], [(16, 0, 0, 9)], []), ([(0, 0, (-2147483648), 2147483647)], [(16, 0, 0, 9)], []), ([(0, 0, (-1), (-1))], [], []), ([(0, 0, (-2), (-2))], [], [])], [(0, 16, 0, 7)])
theorem kX10_sheet_0 {SP : CT} (hSP : MONO SP) {sh : List (Nat × Nat)} : SMOK gE gRL sh (CLd SP 2) sX10_sheet_0 :=
  chkS hSP [sX10_entry_0, sX10_put_0] 80 [(false, 0)]
  [((47, [(0, (2, 0, 0, 0)), (1, (0, 0, 0, 3)), (2, (0, 0, (-2147483648), 8)), (3, (0, 0, (-2147483648), 2147483647)), (4, (0, 0, (-2147483648), 2147483647)), (5, (0, 0, 0, 8)), (6, (0, 0, (-2147483648), 2147483647)), (7, (0, 0, 0, 8))], [], [(0, 9, 0, 8), (16, 0, 0, 9)], [(0, 1, 0), (1, 7, 8), (0, 1, 0)]), [(false, 0)])]
  (by decide +kernel) (List.forall_mem_cons.mpr ⟨SMOK_le (Nat.le_of_ble_eq_true rfl : 1 ≤ 1) (kX10_entry_0 hSP), List.forall_mem_cons.mpr ⟨SMOK_le (Nat.le_of_ble_eq_true rfl : 1 ≤ 1) (kX10_put_0 hSP), fun s h => absurd h List.not_mem_nil⟩⟩)
noncomputable def sX10_put_1 : SM := (mX10_put, [(0, 0, (-2147483648), 2147483647), (0, 0, 1, 1), (0, 0, 12, 12)], [], [([(0, 0, 1, 12)], [], [])], [])
theorem kX10_put_1 {SP : CT} (hSP : MONO SP) {sh : List (Nat × Nat)} : SMOK gE gRL sh (CLd SP 1) sX10_put_1 :=
  chkS hSP [] 8 []
  []
  (by decide +kernel) (fun s h => absurd h List.not_mem_nil)
noncomputable def sX4_push_0 : SM := (mX4_push, [(2, 8, 0, 0), (0, 0, (-2147483648), 2147483647)], [], [([], [], [])], [(0, 8, 3, 3), (0, 10, 0, 39)])
theorem kX4_push_0 {SP : CT} (hSP : MONO SP) {sh : List (Nat × Nat)} : SMOK gE gRL sh (CLd SP 1) sX4_push_0 :=
  chkS hSP [] 20 []
  []
  (by decide +kernel) (fun s h => absurd h List.not_mem_nil)
noncomputable def sX4_pop_0 : SM := (mX4_pop, [(2, 8, 0, 0)], [], [([(0, 0, 0, 0)], [], []), ([(0, 0, (-2147483648), 2147483647)], [], [])], [(0, 8, 3, 3)])
theorem kX4_pop_0 {SP : CT} (hSP : MONO SP) {sh : List (Nat × Nat)} : SMOK gE gRL sh (CLd SP 1) sX4_pop_0 :=
  chkS hSP [] 19 []
  []
  (by decide +kernel) (fun s h => absurd h List.not_mem_nil)
noncomputable def sX5_rank_0 : SM := (mX5_rank, [(0, 0, 1, 2147483647)], [], [([(0, 0, 4, 4)], [], []), ([(0, 0, 1, 1)], [], []), ([(0, 0, 3, 3)], [], []), ([(0, 0, 2, 2)], [], []), ([(0, 0, 0, 0)], [], [])], [])
theorem kX5_rank_0 {SP : CT} (hSP : MONO SP) {sh : List (Nat × Nat)} : SMOK gE gRL sh (CLd SP 1) sX5_rank_0 :=
  chkS hSP [] 22 []
  []
  (by decide +kernel) (fun s h => absurd h List.not_mem_nil)
noncomputable def sX4_valueOf_0 : SM := (mX4_valueOf, [(0, 0, 1, 2147483647), (2, 5, 0, 0), (0, 0, (-2147483648), 2147483647)], [], [([(0, 0, (-2147483648), 2147483647)], [], []), ([(0, 0, 0, 10)], [], []), ([(0, 0, (-1000000), 1000000)], [], [])], [])
theorem kX4_valueOf_0 {SP : CT} (hSP : MONO SP) {sh : List (Nat × Nat)} : SMOK gE gRL sh (CLd SP 1) sX4_valueOf_0 :=
  chkS hSP [] 15 []
  []
  (by decide +kernel) (fun s h => absurd h List.not_mem_nil)
noncomputable def sX4_apply_0 : SM := (mX4_apply, [(0, 0, 1, 2147483647), (0, 0, (-2147483648), 2147483647), (0, 0, (-2147483648), (-1))], [], [([(0, 0, 1, 1)], [], []), ([(0, 0, 0, 0)], [], []), ([(0, 0, (-2147483648), 2147483647)], [], [])], [])
theorem kX4_apply_0 {SP : CT} (hSP : MONO SP) {sh : List (Nat × Nat)} : SMOK gE gRL sh (CLd SP 1) sX4_apply_0 :=
  chkS hSP [] 46 []
  []
  (by decide +kernel) (fun s h => absurd h List.not_mem_nil)
noncomputable def sX4_apply_1 : SM := (mX4_apply, [(0, 0, 1, 2147483647), (0, 0, (-2147483648), 2147483647), (0, 0, 0, 0)], [], [([(0, 0, 1, 1)], [], []), ([(0, 0, 0, 0)], [], []), ([(0, 0, (-2147483648), 2147483647)], [], [])], [])
theorem kX4_apply_1 {SP : CT} (hSP : MONO SP) {sh : List (Nat × Nat)} : SMOK gE gRL sh (CLd SP 1) sX4_apply_1 :=
  chkS hSP [] 45 []
  []
  (by decide +kernel) (fun s h => absurd h List.not_mem_nil)
noncomputable def sX4_apply_2 : SM := (mX4_apply, [(0, 0, 1, 2147483647), (0, 0, (-2147483648), 2147483647), (0, 0, 1, 2147483647)], [], [([(0, 0, 1, 1)], [], []), ([(0, 0, 0, 0)], [], []), ([(0, 0, (-2147483648), 2147483647)], [], [])], [])
theorem kX4_apply_2 {SP : CT} (hSP : MONO SP) {sh : List (Nat × Nat)} : SMOK gE gRL sh (CLd SP 1) sX4_apply_2 :=
  chkS hSP [] 46 []
  []
  (by decide +kernel) (fun s h => absurd h List.not_mem_nil)
noncomputable def sX4_apply_3 : SM := (jn 0 2 (-2147483648) (-1) 2147483647 [(0, 0, 1, 2147483647), (0, 0, (-2147483648), 2147483647), (0, 0, (-2147483648), 2147483647)] sX4_apply_0 (jn 0 2 0 0 2147483647 [(0, 0, 1, 2147483647), (0, 0, (-2147483648), 2147483647), (0, 0, 0, 2147483647)] sX4_apply_1 sX4_apply_2))
theorem kX4_apply_3 {SP : CT} (hSP : MONO SP) {sh : List (Nat × Nat)} : SMOK gE gRL sh (CLd SP 1) sX4_apply_3 :=
  SMOK_jn (MONO_CLd hSP 1) 0 (by decide) 2 (-2147483648) (-1) 2147483647 (as := [(0, 0, 1, 2147483647), (0, 0, (-2147483648), 2147483647), (0, 0, (-2147483648), 2147483647)]) rfl rfl rfl rfl rfl rfl rfl (SMOK_le (Nat.le_of_ble_eq_true rfl : 1 ≤ 1) (kX4_apply_0 hSP)) (SMOK_jn (MONO_CLd hSP 1) 0 (by decide) 2 0 0 2147483647 (as := [(0, 0, 1, 2147483647), (0, 0, (-2147483648), 2147483647), (0, 0, 0, 2147483647)]) rfl rfl rfl rfl rfl rfl rfl (SMOK_le (Nat.le_of_ble_eq_true rfl : 1 ≤ 1) (kX4_apply_1 hSP)) (SMOK_le (Nat.le_of_ble_eq_true rfl : 1 ≤ 1) (kX4_apply_2 hSP)))
noncomputable def sX4_work_0 : SM := (mX4_work, [(2, 8, 0, 0), (2, 5, 0, 0), (0, 0, (-2147483648), 2147483647)], [], [([(0, 0, (-2147483648), 2147483647)], [], []), ([(0, 0, 0, 0)], [], [])], [(0, 8, 3, 3), (0, 10, 0, 39)])
theorem kX4_work_0 {SP : CT} (hSP : MONO SP) {sh : List (Nat × Nat)} : SMOK gE gRL sh (CLd SP 2) sX4_work_0 :=
  chkS hSP [sX4_apply_1, sX4_apply_3, sX4_pop_0, sX4_push_0, sX4_valueOf_0, sX5_rank_0] 528 [(false, 0)]
  [((7, [(0, (2, 508, 0, 0)), (1, (2, 5, 0, 0)), (2, (0, 0, (-2147483648), 2147483647)), (3, (0, 0, 0, 57))], [], [(508, 1, 0, 40)], [(0, 1, 0), (1, 3, 40), (0, 1, 0)]), [(false, 0)])]
  (by decide +kernel) (List.forall_mem_cons.mpr ⟨SMOK_le (Nat.le_of_ble_eq_true rfl : 1 ≤ 1) (kX4_apply_1 hSP), List.forall_mem_cons.mpr ⟨SMOK_le (Nat.le_of_ble_eq_true rfl : 1 ≤ 1) (kX4_apply_3 hSP), List.forall_mem_cons.mpr ⟨SMOK_le (Nat.le_of_ble_eq_true rfl : 1 ≤ 1) (kX4_pop_0 hSP), List.forall_mem_cons.mpr ⟨SMOK_le (Nat.le_of_ble_eq_true rfl : 1 ≤ 1) (kX4_push_0 hSP), List.forall_mem_cons.mpr ⟨SMOK_le (Nat.le_of_ble_eq_true rfl : 1 ≤ 1) (kX4_valueOf_0 hSP), List.forall_mem_cons.mpr ⟨SMOK_le (Nat.le_of_ble_eq_true rfl : 1 ≤ 1) (kX5_rank_0 hSP), fun s h => absurd h List.not_mem_nil⟩⟩⟩⟩⟩⟩)
noncomputable def sX10_put_2 : SM := (mX10_put, [(0, 0, 0, 0), (0, 0, 1, 1), (0, 0, 12, 12)], [], [([(0, 0, 1, 1)], [], [])], [])
theorem kX10_put_2 {SP : CT} (hSP : MONO SP) {sh : List (Nat × Nat)} : SMOK gE gRL sh (CLd SP 1) sX10_put_2 :=
  chkS hSP [] 8 []
  []
  (by decide +kernel) (fun s h => absurd h List.not_mem_nil)
noncomputable def sX10_delayAt_0 : SM := (mX10_delayAt, [(2, 0, 0, 0), (0, 0, (-2147483648), 2147483647)], [], [([(0, 0, 1, 12)], [], []), ([(0, 0, 1, 1)], [], [])], [(0, 8, 3, 3), (0, 10, 0, 39)])
theorem kX10_delayAt_0 {SP : CT} (hSP : MONO SP) {sh : List (Nat × Nat)} : SMOK gE gRL sh (CLd SP 3) sX10_delayAt_0 :=
  chkS hSP [sX10_put_2, sX10_put_1, sX4_work_0] 40 []
  []
  (by decide +kernel) (List.forall_mem_cons.mpr ⟨SMOK_le (Nat.le_of_ble_eq_true rfl : 1 ≤ 2) (kX10_put_2 hSP), List.forall_mem_cons.mpr ⟨SMOK_le (Nat.le_of_ble_eq_true rfl : 1 ≤ 2) (kX10_put_1 hSP), List.forall_mem_cons.mpr ⟨SMOK_le (Nat.le_of_ble_eq_true rfl : 2 ≤ 2) (kX4_work_0 hSP), fun s h => absurd h List.not_mem_nil⟩⟩⟩)
noncomputable def sX10_delay_0 : SM := (mX10_delay, [(2, 0, 0, 0)], [], [([(0, 0, 1, 1)], [], []), ([(0, 0, 1, 12)], [], [])], [(0, 8, 3, 3), (0, 10, 0, 39)])
theorem kX10_delay_0 {SP : CT} (hSP : MONO SP) {sh : List (Nat × Nat)} : SMOK gE gRL sh (CLd SP 4) sX10_delay_0 :=
  chkS hSP [sX10_delayAt_0] 9 []
  []
  (by decide +kernel) (List.forall_mem_cons.mpr ⟨SMOK_le (Nat.le_of_ble_eq_true rfl : 3 ≤ 3) (kX10_delayAt_0 hSP), fun s h => absurd h List.not_mem_nil⟩)
noncomputable def sX8_gaveNow_0 : SM := (mX8_gaveNow, [(2, 17, 0, 0)], [], [([(0, 0, 1, 1)], [], []), ([(0, 0, 0, 0)], [], [])], [])
theorem kX8_gaveNow_0 {SP : CT} (hSP : MONO SP) {sh : List (Nat × Nat)} : SMOK gE gRL sh (CLd SP 1) sX8_gaveNow_0 :=
  chkS hSP [] 12 []
  []
  (by decide +kernel) (fun s h => absurd h List.not_mem_nil)
noncomputable def sX10_orderRefusal_0 : SM := (mX10_orderRefusal, [(2, 0, 0, 0)], [], [([(0, 0, (-3), (-3))], [], []), ([(0, 0, 0, 0)], [], []), ([(0, 0, (-2), (-2))], [], [])], [])
theorem kX10_orderRefusal_0 {SP : CT} (hSP : MONO SP) {sh : List (Nat × Nat)} : SMOK gE gRL sh (CLd SP 2) sX10_orderRefusal_0 :=
  chkS hSP [sX8_gaveNow_0] 19 []
  []
  (by decide +kernel) (List.forall_mem_cons.mpr ⟨SMOK_le (Nat.le_of_ble_eq_true rfl : 1 ≤ 1) (kX8_gaveNow_0 hSP), fun s h => absurd h List.not_mem_nil⟩)
noncomputable def sX8_copyFrom_0 : SM := (mX8_copyFrom, [(2, 31, 0, 0), (2, 17, 0, 0)], [], [([], [], [])], [(0, 31, 0, 4), (0, 32, 0, 11), (0, 33, 0, 11), (0, 34, 0, 7), (0, 35, 0, 7)])
theorem kX8_copyFrom_0 {SP : CT} (hSP : MONO SP) {sh : List (Nat × Nat)} : SMOK gE gRL sh (CLd SP 1) sX8_copyFrom_0 :=
  chkS hSP [] 55 []
  []
  (by decide +kernel) (fun s h => absurd h List.not_mem_nil)
noncomputable def sX1_remember_0 : SM := (mX1_remember, [(2, 27, 0, 0), (2, 17, 0, 0)], [], [([], [(27, 2, 1, 15)], []), ([], [(27, 1, 0, 14), (27, 2, 15, 15)], [])], [(0, 27, 1, 2), (0, 31, 0, 4), (0, 32, 0, 11), (0, 33, 0, 11), (0, 34, 0, 7), (0, 35, 0, 7)])
theorem kX1_remember_0 {SP : CT} (hSP : MONO SP) {sh : List (Nat × Nat)} : SMOK gE gRL sh (CLd SP 2) sX1_remember_0 :=
  chkS hSP [sX8_copyFrom_0] 35 []
  []
  (by decide +kernel) (List.forall_mem_cons.mpr ⟨SMOK_le (Nat.le_of_ble_eq_true rfl : 1 ≤ 1) (kX8_copyFrom_0 hSP), fun s h => absurd h List.not_mem_nil⟩)
noncomputable def sX8_addOrder_0 : SM := (mX8_addOrder, [(2, 17, 0, 0), (0, 0, (-2147483648), 2147483647), (0, 0, (-2147483648), 2147483647)], [], [([], [(17, 3, (-2147483648), 2147483647), (17, 4, 1, 12)], []), ([], [(17, 3, (-2147483648), 2147483647), (17, 4, 1, 12), (18, 0, (-2147483648), 2147483647), (19, 0, (-2147483648), 2147483647)], []), ([], [(17, 4, 12, 12)], [])], [(0, 17, 3, 4), (0, 18, 0, 11), (0, 19, 0, 11)])
theorem kX8_addOrder_0 {SP : CT} (hSP : MONO SP) {sh : List (Nat × Nat)} : SMOK gE gRL sh (CLd SP 1) sX8_addOrder_0 :=
  chkS hSP [] 85 [(false, 0)]
  [((15, [(0, (2, 17, 0, 0)), (1, (0, 0, (-2147483648), 2147483647)), (2, (0, 0, (-2147483648), 2147483647)), (3, (0, 0, 0, 11))], [], [(17, 4, 0, 11)], [(0, 1, 0), (2, 3, 0), (0, 1, 0)]), [(false, 0)])]
  (by decide +kernel) (fun s h => absurd h List.not_mem_nil)
noncomputable def sX10_giveOrder_0 : SM := (mX10_giveOrder, [(2, 0, 0, 0), (0, 0, (-2147483648), 2147483647)], [], [([(0, 0, 1, 1)], [(17, 4, 12, 12)], []), ([(0, 0, 1, 1)], [(17, 3, (-2147483648), 2147483647), (17, 4, 1, 12), (18, 0, (-2147483648), 2147483647), (19, 0, (-2147483648), 2147483647)], []), ([(0, 0, 1, 1)], [(17, 3, (-2147483648), 2147483647), (17, 4, 1, 12)], []), ([(0, 0, 1, 12)], [(17, 4, 12, 12)], []), ([(0, 0, 1, 12)], [(17, 3, (-2147483648), 2147483647), (17, 4, 1, 12), (18, 0, (-2147483648), 2147483647), (19, 0, (-2147483648), 2147483647)], []), ([(0, 0, 1, 12)], [(17, 3, (-2147483648), 2147483647), (17, 4, 1, 12)], [])], [(0, 8, 3, 3), (0, 10, 0, 39), (0, 17, 3, 4), (0, 18, 0, 11), (0, 19, 0, 11)])
theorem kX10_giveOrder_0 {SP : CT} (hSP : MONO SP) {sh : List (Nat × Nat)} : SMOK gE gRL sh (CLd SP 4) sX10_giveOrder_0 :=
  chkS hSP [sX10_delayAt_0, sX8_addOrder_0] 65 []
  []
  (by decide +kernel) (List.forall_mem_cons.mpr ⟨SMOK_le (Nat.le_of_ble_eq_true rfl : 3 ≤ 3) (kX10_delayAt_0 hSP), List.forall_mem_cons.mpr ⟨SMOK_le (Nat.le_of_ble_eq_true rfl : 1 ≤ 3) (kX8_addOrder_0 hSP), fun s h => absurd h List.not_mem_nil⟩⟩)
noncomputable def sX10_order_0 : SM := (mX10_order, [(2, 0, 0, 0), (0, 0, (-2147483648), 2147483647)], [], [([(0, 0, (-1), (-1))], [], []), ([(0, 0, (-2), (-2))], [], []), ([(0, 0, 1, 12)], [(17, 4, 1, 12), (27, 2, 1, 15)], []), ([(0, 0, 1, 1)], [(17, 4, 1, 12), (27, 2, 1, 15)], []), ([(0, 0, (-3), (-3))], [], [])], [(0, 8, 3, 3), (0, 10, 0, 39), (0, 17, 3, 4), (0, 18, 0, 11), (0, 19, 0, 11), (0, 27, 1, 2), (0, 31, 0, 4), (0, 32, 0, 11), (0, 33, 0, 11), (0, 34, 0, 7), (0, 35, 0, 7)])
theorem kX10_order_0 {SP : CT} (hSP : MONO SP) {sh : List (Nat × Nat)} : SMOK gE gRL sh (CLd SP 5) sX10_order_0 :=
  chkS hSP [sX10_giveOrder_0, sX10_orderRefusal_0, sX1_remember_0] 50 []
  []
  (by decide +kernel) (List.forall_mem_cons.mpr ⟨SMOK_le (Nat.le_of_ble_eq_true rfl : 4 ≤ 4) (kX10_giveOrder_0 hSP), List.forall_mem_cons.mpr ⟨SMOK_le (Nat.le_of_ble_eq_true rfl : 2 ≤ 4) (kX10_orderRefusal_0 hSP), List.forall_mem_cons.mpr ⟨SMOK_le (Nat.le_of_ble_eq_true rfl : 2 ≤ 4) (kX1_remember_0 hSP), fun s h => absurd h List.not_mem_nil⟩⟩⟩)
noncomputable def sX10_passRefusal_0 : SM := (mX10_passRefusal, [(2, 0, 0, 0), (0, 0, (-2147483648), (-1)), (0, 0, (-2147483648), 2147483647), (0, 0, (-2147483648), (-1))], [], [([(0, 0, (-1), (-1))], [], [])], [])
theorem kX10_passRefusal_0 {SP : CT} (hSP : MONO SP) {sh : List (Nat × Nat)} : SMOK gE gRL sh (CLd SP 1) sX10_passRefusal_0 :=
  chkS hSP [] 6 []
  []
  (by decide +kernel) (fun s h => absurd h List.not_mem_nil)
noncomputable def sX10_passRefusal_1 : SM := (mX10_passRefusal, [(2, 0, 0, 0), (0, 0, (-2147483648), (-1)), (0, 0, (-2147483648), 2147483647), (0, 0, 0, 0)], [], [([(0, 0, (-1), (-1))], [], [])], [])
theorem kX10_passRefusal_1 {SP : CT} (hSP : MONO SP) {sh : List (Nat × Nat)} : SMOK gE gRL sh (CLd SP 1) sX10_passRefusal_1 :=
  chkS hSP [] 6 []
  []
  (by decide +kernel) (fun s h => absurd h List.not_mem_nil)
noncomputable def sX10_passRefusal_2 : SM := (mX10_passRefusal, [(2, 0, 0, 0), (0, 0, (-2147483648), (-1)), (0, 0, (-2147483648), 2147483647), (0, 0, 1, 1)], [], [([(0, 0, (-1), (-1))], [], [])], [])
theorem kX10_passRefusal_2 {SP : CT} (hSP : MONO SP) {sh : List (Nat × Nat)} : SMOK gE gRL sh (CLd SP 1) sX10_passRefusal_2 :=
  chkS hSP [] 6 []
  []
  (by decide +kernel) (fun s h => absurd h List.not_mem_nil)
noncomputable def sX10_passRefusal_3 : SM := (mX10_passRefusal, [(2, 0, 0, 0), (0, 0, (-2147483648), (-1)), (0, 0, (-2147483648), 2147483647), (0, 0, 2, 2147483647)], [], [([(0, 0, (-1), (-1))], [], [])], [])
theorem kX10_passRefusal_3 {SP : CT} (hSP : MONO SP) {sh : List (Nat × Nat)} : SMOK gE gRL sh (CLd SP 1) sX10_passRefusal_3 :=
  chkS hSP [] 6 []
  []
  (by decide +kernel) (fun s h => absurd h List.not_mem_nil)
noncomputable def sX10_passRefusal_4 : SM := (jn 0 3 (-2147483648) (-1) 2147483647 [(2, 0, 0, 0), (0, 0, (-2147483648), (-1)), (0, 0, (-2147483648), 2147483647), (0, 0, (-2147483648), 2147483647)] sX10_passRefusal_0 (jn 0 3 0 0 2147483647 [(2, 0, 0, 0), (0, 0, (-2147483648), (-1)), (0, 0, (-2147483648), 2147483647), (0, 0, 0, 2147483647)] sX10_passRefusal_1 (jn 0 3 1 1 2147483647 [(2, 0, 0, 0), (0, 0, (-2147483648), (-1)), (0, 0, (-2147483648), 2147483647), (0, 0, 1, 2147483647)] sX10_passRefusal_2 sX10_passRefusal_3)))
theorem kX10_passRefusal_4 {SP : CT} (hSP : MONO SP) {sh : List (Nat × Nat)} : SMOK gE gRL sh (CLd SP 1) sX10_passRefusal_4 :=
  SMOK_jn (MONO_CLd hSP 1) 0 (by decide) 3 (-2147483648) (-1) 2147483647 (as := [(2, 0, 0, 0), (0, 0, (-2147483648), (-1)), (0, 0, (-2147483648), 2147483647), (0, 0, (-2147483648), 2147483647)]) rfl rfl rfl rfl rfl rfl rfl (SMOK_le (Nat.le_of_ble_eq_true rfl : 1 ≤ 1) (kX10_passRefusal_0 hSP)) (SMOK_jn (MONO_CLd hSP 1) 0 (by decide) 3 0 0 2147483647 (as := [(2, 0, 0, 0), (0, 0, (-2147483648), (-1)), (0, 0, (-2147483648), 2147483647), (0, 0, 0, 2147483647)]) rfl rfl rfl rfl rfl rfl rfl (SMOK_le (Nat.le_of_ble_eq_true rfl : 1 ≤ 1) (kX10_passRefusal_1 hSP)) (SMOK_jn (MONO_CLd hSP 1) 0 (by decide) 3 1 1 2147483647 (as := [(2, 0, 0, 0), (0, 0, (-2147483648), (-1)), (0, 0, (-2147483648), 2147483647), (0, 0, 1, 2147483647)]) rfl rfl rfl rfl rfl rfl rfl (SMOK_le (Nat.le_of_ble_eq_true rfl : 1 ≤ 1) (kX10_passRefusal_2 hSP)) (SMOK_le (Nat.le_of_ble_eq_true rfl : 1 ≤ 1) (kX10_passRefusal_3 hSP))))
noncomputable def sX10_passRefusal_5 : SM := (mX10_passRefusal, [(2, 0, 0, 0), (0, 0, 0, 0), (0, 0, (-2147483648), 2147483647), (0, 0, (-2147483648), (-1))], [], [([(0, 0, (-1), (-1))], [], [])], [])
theorem kX10_passRefusal_5 {SP : CT} (hSP : MONO SP) {sh : List (Nat × Nat)} : SMOK gE gRL sh (CLd SP 1) sX10_passRefusal_5 :=
  chkS hSP [] 24 []
  []
  (by decide +kernel) (fun s h => absurd h List.not_mem_nil)
noncomputable def sX10_passRefusal_6 : SM := (mX10_passRefusal, [(2, 0, 0, 0), (0, 0, 0, 0), (0, 0, (-2147483648), 2147483647), (0, 0, 0, 0)], [], [([(0, 0, (-1), (-1))], [], [])], [])
theorem kX10_passRefusal_6 {SP : CT} (hSP : MONO SP) {sh : List (Nat × Nat)} : SMOK gE gRL sh (CLd SP 1) sX10_passRefusal_6 :=
  chkS hSP [] 36 []
  []
  (by decide +kernel) (fun s h => absurd h List.not_mem_nil)
noncomputable def sX10_passRefusal_7 : SM := (mX10_passRefusal, [(2, 0, 0, 0), (0, 0, 0, 0), (0, 0, (-2147483648), 2147483647), (0, 0, 1, 1)], [], [([(0, 0, (-1), (-1))], [], []), ([(0, 0, (-2), (-2))], [], []), ([(0, 0, (-3), (-3))], [], []), ([(0, 0, 0, 0)], [], [])], [])
theorem kX10_passRefusal_7 {SP : CT} (hSP : MONO SP) {sh : List (Nat × Nat)} : SMOK gE gRL sh (CLd SP 1) sX10_passRefusal_7 :=
  chkS hSP [] 64 []
  []
  (by decide +kernel) (fun s h => absurd h List.not_mem_nil)
noncomputable def sX10_passRefusal_8 : SM := (mX10_passRefusal, [(2, 0, 0, 0), (0, 0, 0, 0), (0, 0, (-2147483648), 2147483647), (0, 0, 2, 2147483647)], [], [([(0, 0, (-1), (-1))], [], [])], [])
theorem kX10_passRefusal_8 {SP : CT} (hSP : MONO SP) {sh : List (Nat × Nat)} : SMOK gE gRL sh (CLd SP 1) sX10_passRefusal_8 :=
  chkS hSP [] 27 []
  []
  (by decide +kernel) (fun s h => absurd h List.not_mem_nil)
noncomputable def sX10_passRefusal_9 : SM := (jn 0 3 (-2147483648) (-1) 2147483647 [(2, 0, 0, 0), (0, 0, 0, 0), (0, 0, (-2147483648), 2147483647), (0, 0, (-2147483648), 2147483647)] sX10_passRefusal_5 (jn 0 3 0 0 2147483647 [(2, 0, 0, 0), (0, 0, 0, 0), (0, 0, (-2147483648), 2147483647), (0, 0, 0, 2147483647)] sX10_passRefusal_6 (jn 0 3 1 1 2147483647 [(2, 0, 0, 0), (0, 0, 0, 0), (0, 0, (-2147483648), 2147483647), (0, 0, 1, 2147483647)] sX10_passRefusal_7 sX10_passRefusal_8)))
theorem kX10_passRefusal_9 {SP : CT} (hSP : MONO SP) {sh : List (Nat × Nat)} : SMOK gE gRL sh (CLd SP 1) sX10_passRefusal_9 :=
  SMOK_jn (MONO_CLd hSP 1) 0 (by decide) 3 (-2147483648) (-1) 2147483647 (as := [(2, 0, 0, 0), (0, 0, 0, 0), (0, 0, (-2147483648), 2147483647), (0, 0, (-2147483648), 2147483647)]) rfl rfl rfl rfl rfl rfl rfl (SMOK_le (Nat.le_of_ble_eq_true rfl : 1 ≤ 1) (kX10_passRefusal_5 hSP)) (SMOK_jn (MONO_CLd hSP 1) 0 (by decide) 3 0 0 2147483647 (as := [(2, 0, 0, 0), (0, 0, 0, 0), (0, 0, (-2147483648), 2147483647), (0, 0, 0, 2147483647)]) rfl rfl rfl rfl rfl rfl rfl (SMOK_le (Nat.le_of_ble_eq_true rfl : 1 ≤ 1) (kX10_passRefusal_6 hSP)) (SMOK_jn (MONO_CLd hSP 1) 0 (by decide) 3 1 1 2147483647 (as := [(2, 0, 0, 0), (0, 0, 0, 0), (0, 0, (-2147483648), 2147483647), (0, 0, 1, 2147483647)]) rfl rfl rfl rfl rfl rfl rfl (SMOK_le (Nat.le_of_ble_eq_true rfl : 1 ≤ 1) (kX10_passRefusal_7 hSP)) (SMOK_le (Nat.le_of_ble_eq_true rfl : 1 ≤ 1) (kX10_passRefusal_8 hSP))))
noncomputable def sX10_passRefusal_10 : SM := (mX10_passRefusal, [(2, 0, 0, 0), (0, 0, 1, 1), (0, 0, (-2147483648), 2147483647), (0, 0, (-2147483648), (-1))], [], [([(0, 0, (-1), (-1))], [], [])], [])
theorem kX10_passRefusal_10 {SP : CT} (hSP : MONO SP) {sh : List (Nat × Nat)} : SMOK gE gRL sh (CLd SP 1) sX10_passRefusal_10 :=
  chkS hSP [] 24 []
  []
  (by decide +kernel) (fun s h => absurd h List.not_mem_nil)
noncomputable def sX10_passRefusal_11 : SM := (mX10_passRefusal, [(2, 0, 0, 0), (0, 0, 1, 1), (0, 0, (-2147483648), 2147483647), (0, 0, 0, 0)], [], [([(0, 0, (-2), (-2))], [], []), ([(0, 0, (-3), (-3))], [], []), ([(0, 0, 0, 0)], [], []), ([(0, 0, (-1), (-1))], [], [])], [])
theorem kX10_passRefusal_11 {SP : CT} (hSP : MONO SP) {sh : List (Nat × Nat)} : SMOK gE gRL sh (CLd SP 1) sX10_passRefusal_11 :=
  chkS hSP [] 61 []
  []
  (by decide +kernel) (fun s h => absurd h List.not_mem_nil)
noncomputable def sX10_passRefusal_12 : SM := (mX10_passRefusal, [(2, 0, 0, 0), (0, 0, 1, 1), (0, 0, (-2147483648), 2147483647), (0, 0, 1, 1)], [], [([(0, 0, (-1), (-1))], [], []), ([(0, 0, (-2), (-2))], [], []), ([(0, 0, (-3), (-3))], [], []), ([(0, 0, 0, 0)], [], [])], [])
theorem kX10_passRefusal_12 {SP : CT} (hSP : MONO SP) {sh : List (Nat × Nat)} : SMOK gE gRL sh (CLd SP 1) sX10_passRefusal_12 :=
  chkS hSP [] 64 []
  []
  (by decide +kernel) (fun s h => absurd h List.not_mem_nil)
noncomputable def sX10_passRefusal_13 : SM := (mX10_passRefusal, [(2, 0, 0, 0), (0, 0, 1, 1), (0, 0, (-2147483648), 2147483647), (0, 0, 2, 2147483647)], [], [([(0, 0, (-1), (-1))], [], [])], [])
theorem kX10_passRefusal_13 {SP : CT} (hSP : MONO SP) {sh : List (Nat × Nat)} : SMOK gE gRL sh (CLd SP 1) sX10_passRefusal_13 :=
  chkS hSP [] 27 []
  []
  (by decide +kernel) (fun s h => absurd h List.not_mem_nil)
noncomputable def sX10_passRefusal_14 : SM := (jn 0 3 (-2147483648) (-1) 2147483647 [(2, 0, 0, 0), (0, 0, 1, 1), (0, 0, (-2147483648), 2147483647), (0, 0, (-2147483648), 2147483647)] sX10_passRefusal_10 (jn 0 3 0 0 2147483647 [(2, 0, 0, 0), (0, 0, 1, 1), (0, 0, (-2147483648), 2147483647), (0, 0, 0, 2147483647)] sX10_passRefusal_11 (jn 0 3 1 1 2147483647 [(2, 0, 0, 0), (0, 0, 1, 1), (0, 0, (-2147483648), 2147483647), (0, 0, 1, 2147483647)] sX10_passRefusal_12 sX10_passRefusal_13)))
theorem kX10_passRefusal_14 {SP : CT} (hSP : MONO SP) {sh : List (Nat × Nat)} : SMOK gE gRL sh (CLd SP 1) sX10_passRefusal_14 :=
  SMOK_jn (MONO_CLd hSP 1) 0 (by decide) 3 (-2147483648) (-1) 2147483647 (as := [(2, 0, 0, 0), (0, 0, 1, 1), (0, 0, (-2147483648), 2147483647), (0, 0, (-2147483648), 2147483647)]) rfl rfl rfl rfl rfl rfl rfl (SMOK_le (Nat.le_of_ble_eq_true rfl : 1 ≤ 1) (kX10_passRefusal_10 hSP)) (SMOK_jn (MONO_CLd hSP 1) 0 (by decide) 3 0 0 2147483647 (as := [(2, 0, 0, 0), (0, 0, 1, 1), (0, 0, (-2147483648), 2147483647), (0, 0, 0, 2147483647)]) rfl rfl rfl rfl rfl rfl rfl (SMOK_le (Nat.le_of_ble_eq_true rfl : 1 ≤ 1) (kX10_passRefusal_11 hSP)) (SMOK_jn (MONO_CLd hSP 1) 0 (by decide) 3 1 1 2147483647 (as := [(2, 0, 0, 0), (0, 0, 1, 1), (0, 0, (-2147483648), 2147483647), (0, 0, 1, 2147483647)]) rfl rfl rfl rfl rfl rfl rfl (SMOK_le (Nat.le_of_ble_eq_true rfl : 1 ≤ 1) (kX10_passRefusal_12 hSP)) (SMOK_le (Nat.le_of_ble_eq_true rfl : 1 ≤ 1) (kX10_passRefusal_13 hSP))))
noncomputable def sX10_passRefusal_15 : SM := (mX10_passRefusal, [(2, 0, 0, 0), (0, 0, 2, 2), (0, 0, (-2147483648), 2147483647), (0, 0, (-2147483648), (-1))], [], [([(0, 0, (-1), (-1))], [], [])], [])
theorem kX10_passRefusal_15 {SP : CT} (hSP : MONO SP) {sh : List (Nat × Nat)} : SMOK gE gRL sh (CLd SP 1) sX10_passRefusal_15 :=
  chkS hSP [] 24 []
  []
  (by decide +kernel) (fun s h => absurd h List.not_mem_nil)
noncomputable def sX10_passRefusal_16 : SM := (mX10_passRefusal, [(2, 0, 0, 0), (0, 0, 2, 2), (0, 0, (-2147483648), 2147483647), (0, 0, 0, 0)], [], [([(0, 0, (-2), (-2))], [], []), ([(0, 0, (-3), (-3))], [], []), ([(0, 0, 0, 0)], [], []), ([(0, 0, (-1), (-1))], [], [])], [])
theorem kX10_passRefusal_16 {SP : CT} (hSP : MONO SP) {sh : List (Nat × Nat)} : SMOK gE gRL sh (CLd SP 1) sX10_passRefusal_16 :=
  chkS hSP [] 61 []
  []
  (by decide +kernel) (fun s h => absurd h List.not_mem_nil)
noncomputable def sX10_passRefusal_17 : SM := (mX10_passRefusal, [(2, 0, 0, 0), (0, 0, 2, 2), (0, 0, (-2147483648), 2147483647), (0, 0, 1, 1)], [], [([(0, 0, (-1), (-1))], [], []), ([(0, 0, (-2), (-2))], [], []), ([(0, 0, (-3), (-3))], [], []), ([(0, 0, 0, 0)], [], [])], [])
theorem kX10_passRefusal_17 {SP : CT} (hSP : MONO SP) {sh : List (Nat × Nat)} : SMOK gE gRL sh (CLd SP 1) sX10_passRefusal_17 :=
  chkS hSP [] 64 []
  []
  (by decide +kernel) (fun s h => absurd h List.not_mem_nil)
noncomputable def sX10_passRefusal_18 : SM := (mX10_passRefusal, [(2, 0, 0, 0), (0, 0, 2, 2), (0, 0, (-2147483648), 2147483647), (0, 0, 2, 2147483647)], [], [([(0, 0, (-1), (-1))], [], [])], [])
theorem kX10_passRefusal_18 {SP : CT} (hSP : MONO SP) {sh : List (Nat × Nat)} : SMOK gE gRL sh (CLd SP 1) sX10_passRefusal_18 :=
  chkS hSP [] 27 []
  []
  (by decide +kernel) (fun s h => absurd h List.not_mem_nil)
noncomputable def sX10_passRefusal_19 : SM := (jn 0 3 (-2147483648) (-1) 2147483647 [(2, 0, 0, 0), (0, 0, 2, 2), (0, 0, (-2147483648), 2147483647), (0, 0, (-2147483648), 2147483647)] sX10_passRefusal_15 (jn 0 3 0 0 2147483647 [(2, 0, 0, 0), (0, 0, 2, 2), (0, 0, (-2147483648), 2147483647), (0, 0, 0, 2147483647)] sX10_passRefusal_16 (jn 0 3 1 1 2147483647 [(2, 0, 0, 0), (0, 0, 2, 2), (0, 0, (-2147483648), 2147483647), (0, 0, 1, 2147483647)] sX10_passRefusal_17 sX10_passRefusal_18)))
theorem kX10_passRefusal_19 {SP : CT} (hSP : MONO SP) {sh : List (Nat × Nat)} : SMOK gE gRL sh (CLd SP 1) sX10_passRefusal_19 :=
  SMOK_jn (MONO_CLd hSP 1) 0 (by decide) 3 (-2147483648) (-1) 2147483647 (as := [(2, 0, 0, 0), (0, 0, 2, 2), (0, 0, (-2147483648), 2147483647), (0, 0, (-2147483648), 2147483647)]) rfl rfl rfl rfl rfl rfl rfl (SMOK_le (Nat.le_of_ble_eq_true rfl : 1 ≤ 1) (kX10_passRefusal_15 hSP)) (SMOK_jn (MONO_CLd hSP 1) 0 (by decide) 3 0 0 2147483647 (as := [(2, 0, 0, 0), (0, 0, 2, 2), (0, 0, (-2147483648), 2147483647), (0, 0, 0, 2147483647)]) rfl rfl rfl rfl rfl rfl rfl (SMOK_le (Nat.le_of_ble_eq_true rfl : 1 ≤ 1) (kX10_passRefusal_16 hSP)) (SMOK_jn (MONO_CLd hSP 1) 0 (by decide) 3 1 1 2147483647 (as := [(2, 0, 0, 0), (0, 0, 2, 2), (0, 0, (-2147483648), 2147483647), (0, 0, 1, 2147483647)]) rfl rfl rfl rfl rfl rfl rfl (SMOK_le (Nat.le_of_ble_eq_true rfl : 1 ≤ 1) (kX10_passRefusal_17 hSP)) (SMOK_le (Nat.le_of_ble_eq_true rfl : 1 ≤ 1) (kX10_passRefusal_18 hSP))))
noncomputable def sX10_passRefusal_20 : SM := (mX10_passRefusal, [(2, 0, 0, 0), (0, 0, 3, 3), (0, 0, (-2147483648), 2147483647), (0, 0, (-2147483648), (-1))], [], [([(0, 0, (-1), (-1))], [], [])], [])
theorem kX10_passRefusal_20 {SP : CT} (hSP : MONO SP) {sh : List (Nat × Nat)} : SMOK gE gRL sh (CLd SP 1) sX10_passRefusal_20 :=
  chkS hSP [] 24 []
  []
  (by decide +kernel) (fun s h => absurd h List.not_mem_nil)
noncomputable def sX10_passRefusal_21 : SM := (mX10_passRefusal, [(2, 0, 0, 0), (0, 0, 3, 3), (0, 0, (-2147483648), 2147483647), (0, 0, 0, 0)], [], [([(0, 0, (-2), (-2))], [], []), ([(0, 0, (-3), (-3))], [], []), ([(0, 0, 0, 0)], [], []), ([(0, 0, (-1), (-1))], [], [])], [])
theorem kX10_passRefusal_21 {SP : CT} (hSP : MONO SP) {sh : List (Nat × Nat)} : SMOK gE gRL sh (CLd SP 1) sX10_passRefusal_21 :=
  chkS hSP [] 61 []
  []
  (by decide +kernel) (fun s h => absurd h List.not_mem_nil)
noncomputable def sX10_passRefusal_22 : SM := (mX10_passRefusal, [(2, 0, 0, 0), (0, 0, 3, 3), (0, 0, (-2147483648), 2147483647), (0, 0, 1, 1)], [], [([(0, 0, (-1), (-1))], [], []), ([(0, 0, (-2), (-2))], [], []), ([(0, 0, (-3), (-3))], [], []), ([(0, 0, 0, 0)], [], [])], [])
theorem kX10_passRefusal_22 {SP : CT} (hSP : MONO SP) {sh : List (Nat × Nat)} : SMOK gE gRL sh (CLd SP 1) sX10_passRefusal_22 :=
  chkS hSP [] 64 []
  []
  (by decide +kernel) (fun s h => absurd h List.not_mem_nil)
noncomputable def sX10_passRefusal_23 : SM := (mX10_passRefusal, [(2, 0, 0, 0), (0, 0, 3, 3), (0, 0, (-2147483648), 2147483647), (0, 0, 2, 2147483647)], [], [([(0, 0, (-1), (-1))], [], [])], [])
theorem kX10_passRefusal_23 {SP : CT} (hSP : MONO SP) {sh : List (Nat × Nat)} : SMOK gE gRL sh (CLd SP 1) sX10_passRefusal_23 :=
  chkS hSP [] 27 []
  []
  (by decide +kernel) (fun s h => absurd h List.not_mem_nil)
noncomputable def sX10_passRefusal_24 : SM := (jn 0 3 (-2147483648) (-1) 2147483647 [(2, 0, 0, 0), (0, 0, 3, 3), (0, 0, (-2147483648), 2147483647), (0, 0, (-2147483648), 2147483647)] sX10_passRefusal_20 (jn 0 3 0 0 2147483647 [(2, 0, 0, 0), (0, 0, 3, 3), (0, 0, (-2147483648), 2147483647), (0, 0, 0, 2147483647)] sX10_passRefusal_21 (jn 0 3 1 1 2147483647 [(2, 0, 0, 0), (0, 0, 3, 3), (0, 0, (-2147483648), 2147483647), (0, 0, 1, 2147483647)] sX10_passRefusal_22 sX10_passRefusal_23)))
theorem kX10_passRefusal_24 {SP : CT} (hSP : MONO SP) {sh : List (Nat × Nat)} : SMOK gE gRL sh (CLd SP 1) sX10_passRefusal_24 :=
  SMOK_jn (MONO_CLd hSP 1) 0 (by decide) 3 (-2147483648) (-1) 2147483647 (as := [(2, 0, 0, 0), (0, 0, 3, 3), (0, 0, (-2147483648), 2147483647), (0, 0, (-2147483648), 2147483647)]) rfl rfl rfl rfl rfl rfl rfl (SMOK_le (Nat.le_of_ble_eq_true rfl : 1 ≤ 1) (kX10_passRefusal_20 hSP)) (SMOK_jn (MONO_CLd hSP 1) 0 (by decide) 3 0 0 2147483647 (as := [(2, 0, 0, 0), (0, 0, 3, 3), (0, 0, (-2147483648), 2147483647), (0, 0, 0, 2147483647)]) rfl rfl rfl rfl rfl rfl rfl (SMOK_le (Nat.le_of_ble_eq_true rfl : 1 ≤ 1) (kX10_passRefusal_21 hSP)) (SMOK_jn (MONO_CLd hSP 1) 0 (by decide) 3 1 1 2147483647 (as := [(2, 0, 0, 0), (0, 0, 3, 3), (0, 0, (-2147483648), 2147483647), (0, 0, 1, 2147483647)]) rfl rfl rfl rfl rfl rfl rfl (SMOK_le (Nat.le_of_ble_eq_true rfl : 1 ≤ 1) (kX10_passRefusal_22 hSP)) (SMOK_le (Nat.le_of_ble_eq_true rfl : 1 ≤ 1) (kX10_passRefusal_23 hSP))))
noncomputable def sX10_passRefusal_25 : SM := (mX10_passRefusal, [(2, 0, 0, 0), (0, 0, 4, 4), (0, 0, (-2147483648), 2147483647), (0, 0, (-2147483648), (-1))], [], [([(0, 0, (-1), (-1))], [], [])], [])
theorem kX10_passRefusal_25 {SP : CT} (hSP : MONO SP) {sh : List (Nat × Nat)} : SMOK gE gRL sh (CLd SP 1) sX10_passRefusal_25 :=
  chkS hSP [] 24 []
  []
  (by decide +kernel) (fun s h => absurd h List.not_mem_nil)
noncomputable def sX10_passRefusal_26 : SM := (mX10_passRefusal, [(2, 0, 0, 0), (0, 0, 4, 4), (0, 0, (-2147483648), 2147483647), (0, 0, 0, 0)], [], [([(0, 0, (-2), (-2))], [], []), ([(0, 0, (-3), (-3))], [], []), ([(0, 0, 0, 0)], [], []), ([(0, 0, (-1), (-1))], [], [])], [])
theorem kX10_passRefusal_26 {SP : CT} (hSP : MONO SP) {sh : List (Nat × Nat)} : SMOK gE gRL sh (CLd SP 1) sX10_passRefusal_26 :=
  chkS hSP [] 61 []
  []
  (by decide +kernel) (fun s h => absurd h List.not_mem_nil)
noncomputable def sX10_passRefusal_27 : SM := (mX10_passRefusal, [(2, 0, 0, 0), (0, 0, 4, 4), (0, 0, (-2147483648), 2147483647), (0, 0, 1, 1)], [], [([(0, 0, (-1), (-1))], [], []), ([(0, 0, (-2), (-2))], [], []), ([(0, 0, (-3), (-3))], [], []), ([(0, 0, 0, 0)], [], [])], [])
theorem kX10_passRefusal_27 {SP : CT} (hSP : MONO SP) {sh : List (Nat × Nat)} : SMOK gE gRL sh (CLd SP 1) sX10_passRefusal_27 :=
  chkS hSP [] 64 []
  []
  (by decide +kernel) (fun s h => absurd h List.not_mem_nil)
noncomputable def sX10_passRefusal_28 : SM := (mX10_passRefusal, [(2, 0, 0, 0), (0, 0, 4, 4), (0, 0, (-2147483648), 2147483647), (0, 0, 2, 2147483647)], [], [([(0, 0, (-1), (-1))], [], [])], [])
theorem kX10_passRefusal_28 {SP : CT} (hSP : MONO SP) {sh : List (Nat × Nat)} : SMOK gE gRL sh (CLd SP 1) sX10_passRefusal_28 :=
  chkS hSP [] 27 []
  []
  (by decide +kernel) (fun s h => absurd h List.not_mem_nil)
noncomputable def sX10_passRefusal_29 : SM := (jn 0 3 (-2147483648) (-1) 2147483647 [(2, 0, 0, 0), (0, 0, 4, 4), (0, 0, (-2147483648), 2147483647), (0, 0, (-2147483648), 2147483647)] sX10_passRefusal_25 (jn 0 3 0 0 2147483647 [(2, 0, 0, 0), (0, 0, 4, 4), (0, 0, (-2147483648), 2147483647), (0, 0, 0, 2147483647)] sX10_passRefusal_26 (jn 0 3 1 1 2147483647 [(2, 0, 0, 0), (0, 0, 4, 4), (0, 0, (-2147483648), 2147483647), (0, 0, 1, 2147483647)] sX10_passRefusal_27 sX10_passRefusal_28)))
theorem kX10_passRefusal_29 {SP : CT} (hSP : MONO SP) {sh : List (Nat × Nat)} : SMOK gE gRL sh (CLd SP 1) sX10_passRefusal_29 :=
  SMOK_jn (MONO_CLd hSP 1) 0 (by decide) 3 (-2147483648) (-1) 2147483647 (as := [(2, 0, 0, 0), (0, 0, 4, 4), (0, 0, (-2147483648), 2147483647), (0, 0, (-2147483648), 2147483647)]) rfl rfl rfl rfl rfl rfl rfl (SMOK_le (Nat.le_of_ble_eq_true rfl : 1 ≤ 1) (kX10_passRefusal_25 hSP)) (SMOK_jn (MONO_CLd hSP 1) 0 (by decide) 3 0 0 2147483647 (as := [(2, 0, 0, 0), (0, 0, 4, 4), (0, 0, (-2147483648), 2147483647), (0, 0, 0, 2147483647)]) rfl rfl rfl rfl rfl rfl rfl (SMOK_le (Nat.le_of_ble_eq_true rfl : 1 ≤ 1) (kX10_passRefusal_26 hSP)) (SMOK_jn (MONO_CLd hSP 1) 0 (by decide) 3 1 1 2147483647 (as := [(2, 0, 0, 0), (0, 0, 4, 4), (0, 0, (-2147483648), 2147483647), (0, 0, 1, 2147483647)]) rfl rfl rfl rfl rfl rfl rfl (SMOK_le (Nat.le_of_ble_eq_true rfl : 1 ≤ 1) (kX10_passRefusal_27 hSP)) (SMOK_le (Nat.le_of_ble_eq_true rfl : 1 ≤ 1) (kX10_passRefusal_28 hSP))))
noncomputable def sX10_passRefusal_30 : SM := (mX10_passRefusal, [(2, 0, 0, 0), (0, 0, 5, 5), (0, 0, (-2147483648), 2147483647), (0, 0, (-2147483648), (-1))], [], [([(0, 0, (-1), (-1))], [], [])], [])
theorem kX10_passRefusal_30 {SP : CT} (hSP : MONO SP) {sh : List (Nat × Nat)} : SMOK gE gRL sh (CLd SP 1) sX10_passRefusal_30 :=
  chkS hSP [] 24 []
  []
  (by decide +kernel) (fun s h => absurd h List.not_mem_nil)
noncomputable def sX10_passRefusal_31 : SM := (mX10_passRefusal, [(2, 0, 0, 0), (0, 0, 5, 5), (0, 0, (-2147483648), 2147483647), (0, 0, 0, 0)], [], [([(0, 0, (-2), (-2))], [], []), ([(0, 0, (-3), (-3))], [], []), ([(0, 0, 0, 0)], [], []), ([(0, 0, (-1), (-1))], [], [])], [])
theorem kX10_passRefusal_31 {SP : CT} (hSP : MONO SP) {sh : List (Nat × Nat)} : SMOK gE gRL sh (CLd SP 1) sX10_passRefusal_31 :=
  chkS hSP [] 61 []
  []
  (by decide +kernel) (fun s h => absurd h List.not_mem_nil)
noncomputable def sX10_passRefusal_32 : SM := (mX10_passRefusal, [(2, 0, 0, 0), (0, 0, 5, 5), (0, 0, (-2147483648), 2147483647), (0, 0, 1, 1)], [], [([(0, 0, (-1), (-1))], [], []), ([(0, 0, (-2), (-2))], [], []), ([(0, 0, (-3), (-3))], [], []), ([(0, 0, 0, 0)], [], [])], [])
theorem kX10_passRefusal_32 {SP : CT} (hSP : MONO SP) {sh : List (Nat × Nat)} : SMOK gE gRL sh (CLd SP 1) sX10_passRefusal_32 :=
  chkS hSP [] 64 []
  []
  (by decide +kernel) (fun s h => absurd h List.not_mem_nil)
noncomputable def sX10_passRefusal_33 : SM := (mX10_passRefusal, [(2, 0, 0, 0), (0, 0, 5, 5), (0, 0, (-2147483648), 2147483647), (0, 0, 2, 2147483647)], [], [([(0, 0, (-1), (-1))], [], [])], [])
theorem kX10_passRefusal_33 {SP : CT} (hSP : MONO SP) {sh : List (Nat × Nat)} : SMOK gE gRL sh (CLd SP 1) sX10_passRefusal_33 :=
  chkS hSP [] 27 []
  []
  (by decide +kernel) (fun s h => absurd h List.not_mem_nil)
noncomputable def sX10_passRefusal_34 : SM := (jn 0 3 (-2147483648) (-1) 2147483647 [(2, 0, 0, 0), (0, 0, 5, 5), (0, 0, (-2147483648), 2147483647), (0, 0, (-2147483648), 2147483647)] sX10_passRefusal_30 (jn 0 3 0 0 2147483647 [(2, 0, 0, 0), (0, 0, 5, 5), (0, 0, (-2147483648), 2147483647), (0, 0, 0, 2147483647)] sX10_passRefusal_31 (jn 0 3 1 1 2147483647 [(2, 0, 0, 0), (0, 0, 5, 5), (0, 0, (-2147483648), 2147483647), (0, 0, 1, 2147483647)] sX10_passRefusal_32 sX10_passRefusal_33)))
theorem kX10_passRefusal_34 {SP : CT} (hSP : MONO SP) {sh : List (Nat × Nat)} : SMOK gE gRL sh (CLd SP 1) sX10_passRefusal_34 :=
  SMOK_jn (MONO_CLd hSP 1) 0 (by decide) 3 (-2147483648) (-1) 2147483647 (as := [(2, 0, 0, 0), (0, 0, 5, 5), (0, 0, (-2147483648), 2147483647), (0, 0, (-2147483648), 2147483647)]) rfl rfl rfl rfl rfl rfl rfl (SMOK_le (Nat.le_of_ble_eq_true rfl : 1 ≤ 1) (kX10_passRefusal_30 hSP)) (SMOK_jn (MONO_CLd hSP 1) 0 (by decide) 3 0 0 2147483647 (as := [(2, 0, 0, 0), (0, 0, 5, 5), (0, 0, (-2147483648), 2147483647), (0, 0, 0, 2147483647)]) rfl rfl rfl rfl rfl rfl rfl (SMOK_le (Nat.le_of_ble_eq_true rfl : 1 ≤ 1) (kX10_passRefusal_31 hSP)) (SMOK_jn (MONO_CLd hSP 1) 0 (by decide) 3 1 1 2147483647 (as := [(2, 0, 0, 0), (0, 0, 5, 5), (0, 0, (-2147483648), 2147483647), (0, 0, 1, 2147483647)]) rfl rfl rfl rfl rfl rfl rfl (SMOK_le (Nat.le_of_ble_eq_true rfl : 1 ≤ 1) (kX10_passRefusal_32 hSP)) (SMOK_le (Nat.le_of_ble_eq_true rfl : 1 ≤ 1) (kX10_passRefusal_33 hSP))))
noncomputable def sX10_passRefusal_35 : SM := (mX10_passRefusal, [(2, 0, 0, 0), (0, 0, 6, 6), (0, 0, (-2147483648), 2147483647), (0, 0, (-2147483648), (-1))], [], [([(0, 0, (-1), (-1))], [], [])], [])
theorem kX10_passRefusal_35 {SP : CT} (hSP : MONO SP) {sh : List (Nat × Nat)} : SMOK gE gRL sh (CLd SP 1) sX10_passRefusal_35 :=
  chkS hSP [] 24 []
  []
  (by decide +kernel) (fun s h => absurd h List.not_mem_nil)
noncomputable def sX10_passRefusal_36 : SM := (mX10_passRefusal, [(2, 0, 0, 0), (0, 0, 6, 6), (0, 0, (-2147483648), 2147483647), (0, 0, 0, 0)], [], [([(0, 0, (-2), (-2))], [], []), ([(0, 0, (-3), (-3))], [], []), ([(0, 0, 0, 0)], [], []), ([(0, 0, (-1), (-1))], [], [])], [])
theorem kX10_passRefusal_36 {SP : CT} (hSP : MONO SP) {sh : List (Nat × Nat)} : SMOK gE gRL sh (CLd SP 1) sX10_passRefusal_36 :=
  chkS hSP [] 61 []
  []
  (by decide +kernel) (fun s h => absurd h List.not_mem_nil)
noncomputable def sX10_passRefusal_37 : SM := (mX10_passRefusal, [(2, 0, 0, 0), (0, 0, 6, 6), (0, 0, (-2147483648), 2147483647), (0, 0, 1, 1)], [], [([(0, 0, (-1), (-1))], [], []), ([(0, 0, (-2), (-2))], [], []), ([(0, 0, (-3), (-3))], [], []), ([(0, 0, 0, 0)], [], [])], [])
theorem kX10_passRefusal_37 {SP : CT} (hSP : MONO SP) {sh : List (Nat × Nat)} : SMOK gE gRL sh (CLd SP 1) sX10_passRefusal_37 :=
  chkS hSP [] 64 []
  []
  (by decide +kernel) (fun s h => absurd h List.not_mem_nil)
noncomputable def sX10_passRefusal_38 : SM := (mX10_passRefusal, [(2, 0, 0, 0), (0, 0, 6, 6), (0, 0, (-2147483648), 2147483647), (0, 0, 2, 2147483647)], [], [([(0, 0, (-1), (-1))], [], [])], [])
theorem kX10_passRefusal_38 {SP : CT} (hSP : MONO SP) {sh : List (Nat × Nat)} : SMOK gE gRL sh (CLd SP 1) sX10_passRefusal_38 :=
  chkS hSP [] 27 []
  []
  (by decide +kernel) (fun s h => absurd h List.not_mem_nil)
noncomputable def sX10_passRefusal_39 : SM := (jn 0 3 (-2147483648) (-1) 2147483647 [(2, 0, 0, 0), (0, 0, 6, 6), (0, 0, (-2147483648), 2147483647), (0, 0, (-2147483648), 2147483647)] sX10_passRefusal_35 (jn 0 3 0 0 2147483647 [(2, 0, 0, 0), (0, 0, 6, 6), (0, 0, (-2147483648), 2147483647), (0, 0, 0, 2147483647)] sX10_passRefusal_36 (jn 0 3 1 1 2147483647 [(2, 0, 0, 0), (0, 0, 6, 6), (0, 0, (-2147483648), 2147483647), (0, 0, 1, 2147483647)] sX10_passRefusal_37 sX10_passRefusal_38)))
theorem kX10_passRefusal_39 {SP : CT} (hSP : MONO SP) {sh : List (Nat × Nat)} : SMOK gE gRL sh (CLd SP 1) sX10_passRefusal_39 :=
  SMOK_jn (MONO_CLd hSP 1) 0 (by decide) 3 (-2147483648) (-1) 2147483647 (as := [(2, 0, 0, 0), (0, 0, 6, 6), (0, 0, (-2147483648), 2147483647), (0, 0, (-2147483648), 2147483647)]) rfl rfl rfl rfl rfl rfl rfl (SMOK_le (Nat.le_of_ble_eq_true rfl : 1 ≤ 1) (kX10_passRefusal_35 hSP)) (SMOK_jn (MONO_CLd hSP 1) 0 (by decide) 3 0 0 2147483647 (as := [(2, 0, 0, 0), (0, 0, 6, 6), (0, 0, (-2147483648), 2147483647), (0, 0, 0, 2147483647)]) rfl rfl rfl rfl rfl rfl rfl (SMOK_le (Nat.le_of_ble_eq_true rfl : 1 ≤ 1) (kX10_passRefusal_36 hSP)) (SMOK_jn (MONO_CLd hSP 1) 0 (by decide) 3 1 1 2147483647 (as := [(2, 0, 0, 0), (0, 0, 6, 6), (0, 0, (-2147483648), 2147483647), (0, 0, 1, 2147483647)]) rfl rfl rfl rfl rfl rfl rfl (SMOK_le (Nat.le_of_ble_eq_true rfl : 1 ≤ 1) (kX10_passRefusal_37 hSP)) (SMOK_le (Nat.le_of_ble_eq_true rfl : 1 ≤ 1) (kX10_passRefusal_38 hSP))))
noncomputable def sX10_passRefusal_40 : SM := (mX10_passRefusal, [(2, 0, 0, 0), (0, 0, 7, 7), (0, 0, (-2147483648), 2147483647), (0, 0, (-2147483648), (-1))], [], [([(0, 0, (-1), (-1))], [], [])], [])
theorem kX10_passRefusal_40 {SP : CT} (hSP : MONO SP) {sh : List (Nat × Nat)} : SMOK gE gRL sh (CLd SP 1) sX10_passRefusal_40 :=
  chkS hSP [] 24 []
  []
  (by decide +kernel) (fun s h => absurd h List.not_mem_nil)
noncomputable def sX10_passRefusal_41 : SM := (mX10_passRefusal, [(2, 0, 0, 0), (0, 0, 7, 7), (0, 0, (-2147483648), 2147483647), (0, 0, 0, 0)], [], [([(0, 0, (-2), (-2))], [], []), ([(0, 0, (-3), (-3))], [], []), ([(0, 0, 0, 0)], [], []), ([(0, 0, (-1), (-1))], [], [])], [])
theorem kX10_passRefusal_41 {SP : CT} (hSP : MONO SP) {sh : List (Nat × Nat)} : SMOK gE gRL sh (CLd SP 1) sX10_passRefusal_41 :=
  chkS hSP [] 61 []
  []
  (by decide +kernel) (fun s h => absurd h List.not_mem_nil)
noncomputable def sX10_passRefusal_42 : SM := (mX10_passRefusal, [(2, 0, 0, 0), (0, 0, 7, 7), (0, 0, (-2147483648), 2147483647), (0, 0, 1, 1)], [], [([(0, 0, (-1), (-1))], [], [])], [])
theorem kX10_passRefusal_42 {SP : CT} (hSP : MONO SP) {sh : List (Nat × Nat)} : SMOK gE gRL sh (CLd SP 1) sX10_passRefusal_42 :=
  chkS hSP [] 41 []
  []
  (by decide +kernel) (fun s h => absurd h List.not_mem_nil)
noncomputable def sX10_passRefusal_43 : SM := (mX10_passRefusal, [(2, 0, 0, 0), (0, 0, 7, 7), (0, 0, (-2147483648), 2147483647), (0, 0, 2, 2147483647)], [], [([(0, 0, (-1), (-1))], [], [])], [])
theorem kX10_passRefusal_43 {SP : CT} (hSP : MONO SP) {sh : List (Nat × Nat)} : SMOK gE gRL sh (CLd SP 1) sX10_passRefusal_43 :=
  chkS hSP [] 27 []
  []
  (by decide +kernel) (fun s h => absurd h List.not_mem_nil)
noncomputable def sX10_passRefusal_44 : SM := (jn 0 3 (-2147483648) (-1) 2147483647 [(2, 0, 0, 0), (0, 0, 7, 7), (0, 0, (-2147483648), 2147483647), (0, 0, (-2147483648), 2147483647)] sX10_passRefusal_40 (jn 0 3 0 0 2147483647 [(2, 0, 0, 0), (0, 0, 7, 7), (0, 0, (-2147483648), 2147483647), (0, 0, 0, 2147483647)] sX10_passRefusal_41 (jn 0 3 1 1 2147483647 [(2, 0, 0, 0), (0, 0, 7, 7), (0, 0, (-2147483648), 2147483647), (0, 0, 1, 2147483647)] sX10_passRefusal_42 sX10_passRefusal_43)))
theorem kX10_passRefusal_44 {SP : CT} (hSP : MONO SP) {sh : List (Nat × Nat)} : SMOK gE gRL sh (CLd SP 1) sX10_passRefusal_44 :=
  SMOK_jn (MONO_CLd hSP 1) 0 (by decide) 3 (-2147483648) (-1) 2147483647 (as := [(2, 0, 0, 0), (0, 0, 7, 7), (0, 0, (-2147483648), 2147483647), (0, 0, (-2147483648), 2147483647)]) rfl rfl rfl rfl rfl rfl rfl (SMOK_le (Nat.le_of_ble_eq_true rfl : 1 ≤ 1) (kX10_passRefusal_40 hSP)) (SMOK_jn (MONO_CLd hSP 1) 0 (by decide) 3 0 0 2147483647 (as := [(2, 0, 0, 0), (0, 0, 7, 7), (0, 0, (-2147483648), 2147483647), (0, 0, 0, 2147483647)]) rfl rfl rfl rfl rfl rfl rfl (SMOK_le (Nat.le_of_ble_eq_true rfl : 1 ≤ 1) (kX10_passRefusal_41 hSP)) (SMOK_jn (MONO_CLd hSP 1) 0 (by decide) 3 1 1 2147483647 (as := [(2, 0, 0, 0), (0, 0, 7, 7), (0, 0, (-2147483648), 2147483647), (0, 0, 1, 2147483647)]) rfl rfl rfl rfl rfl rfl rfl (SMOK_le (Nat.le_of_ble_eq_true rfl : 1 ≤ 1) (kX10_passRefusal_42 hSP)) (SMOK_le (Nat.le_of_ble_eq_true rfl : 1 ≤ 1) (kX10_passRefusal_43 hSP))))
noncomputable def sX10_passRefusal_45 : SM := (mX10_passRefusal, [(2, 0, 0, 0), (0, 0, 8, 2147483647), (0, 0, (-2147483648), 2147483647), (0, 0, (-2147483648), (-1))], [], [([(0, 0, (-1), (-1))], [], [])], [])
theorem kX10_passRefusal_45 {SP : CT} (hSP : MONO SP) {sh : List (Nat × Nat)} : SMOK gE gRL sh (CLd SP 1) sX10_passRefusal_45 :=
  chkS hSP [] 10 []
  []
  (by decide +kernel) (fun s h => absurd h List.not_mem_nil)
noncomputable def sX10_passRefusal_46 : SM := (mX10_passRefusal, [(2, 0, 0, 0), (0, 0, 8, 2147483647), (0, 0, (-2147483648), 2147483647), (0, 0, 0, 0)], [], [([(0, 0, (-1), (-1))], [], [])], [])
theorem kX10_passRefusal_46 {SP : CT} (hSP : MONO SP) {sh : List (Nat × Nat)} : SMOK gE gRL sh (CLd SP 1) sX10_passRefusal_46 :=
  chkS hSP [] 10 []
  []
  (by decide +kernel) (fun s h => absurd h List.not_mem_nil)
noncomputable def sX10_passRefusal_47 : SM := (mX10_passRefusal, [(2, 0, 0, 0), (0, 0, 8, 2147483647), (0, 0, (-2147483648), 2147483647), (0, 0, 1, 1)], [], [([(0, 0, (-1), (-1))], [], [])], [])
theorem kX10_passRefusal_47 {SP : CT} (hSP : MONO SP) {sh : List (Nat × Nat)} : SMOK gE gRL sh (CLd SP 1) sX10_passRefusal_47 :=
  chkS hSP [] 10 []
  []
  (by decide +kernel) (fun s h => absurd h List.not_mem_nil)
noncomputable def sX10_passRefusal_48 : SM := (mX10_passRefusal, [(2, 0, 0, 0), (0, 0, 8, 2147483647), (0, 0, (-2147483648), 2147483647), (0, 0, 2, 2147483647)], [], [([(0, 0, (-1), (-1))], [], [])], [])
theorem kX10_passRefusal_48 {SP : CT} (hSP : MONO SP) {sh : List (Nat × Nat)} : SMOK gE gRL sh (CLd SP 1) sX10_passRefusal_48 :=
  chkS hSP [] 10 []
  []
  (by decide +kernel) (fun s h => absurd h List.not_mem_nil)
noncomputable def sX10_passRefusal_49 : SM := (jn 0 3 (-2147483648) (-1) 2147483647 [(2, 0, 0, 0), (0, 0, 8, 2147483647), (0, 0, (-2147483648), 2147483647), (0, 0, (-2147483648), 2147483647)] sX10_passRefusal_45 (jn 0 3 0 0 2147483647 [(2, 0, 0, 0), (0, 0, 8, 2147483647), (0, 0, (-2147483648), 2147483647), (0, 0, 0, 2147483647)] sX10_passRefusal_46 (jn 0 3 1 1 2147483647 [(2, 0, 0, 0), (0, 0, 8, 2147483647), (0, 0, (-2147483648), 2147483647), (0, 0, 1, 2147483647)] sX10_passRefusal_47 sX10_passRefusal_48)))
theorem kX10_passRefusal_49 {SP : CT} (hSP : MONO SP) {sh : List (Nat × Nat)} : SMOK gE gRL sh (CLd SP 1) sX10_passRefusal_49 :=
  SMOK_jn (MONO_CLd hSP 1) 0 (by decide) 3 (-2147483648) (-1) 2147483647 (as := [(2, 0, 0, 0), (0, 0, 8, 2147483647), (0, 0, (-2147483648), 2147483647), (0, 0, (-2147483648), 2147483647)]) rfl rfl rfl rfl rfl rfl rfl (SMOK_le (Nat.le_of_ble_eq_true rfl : 1 ≤ 1) (kX10_passRefusal_45 hSP)) (SMOK_jn (MONO_CLd hSP 1) 0 (by decide) 3 0 0 2147483647 (as := [(2, 0, 0, 0), (0, 0, 8, 2147483647), (0, 0, (-2147483648), 2147483647), (0, 0, 0, 2147483647)]) rfl rfl rfl rfl rfl rfl rfl (SMOK_le (Nat.le_of_ble_eq_true rfl : 1 ≤ 1) (kX10_passRefusal_46 hSP)) (SMOK_jn (MONO_CLd hSP 1) 0 (by decide) 3 1 1 2147483647 (as := [(2, 0, 0, 0), (0, 0, 8, 2147483647), (0, 0, (-2147483648), 2147483647), (0, 0, 1, 2147483647)]) rfl rfl rfl rfl rfl rfl rfl (SMOK_le (Nat.le_of_ble_eq_true rfl : 1 ≤ 1) (kX10_passRefusal_47 hSP)) (SMOK_le (Nat.le_of_ble_eq_true rfl : 1 ≤ 1) (kX10_passRefusal_48 hSP))))
noncomputable def sX10_passRefusal_50 : SM := (jn 0 1 (-2147483648) (-1) 2147483647 [(2, 0, 0, 0), (0, 0, (-2147483648), 2147483647), (0, 0, (-2147483648), 2147483647), (0, 0, (-2147483648), 2147483647)] sX10_passRefusal_4 (jn 0 1 0 0 2147483647 [(2, 0, 0, 0), (0, 0, 0, 2147483647), (0, 0, (-2147483648), 2147483647), (0, 0, (-2147483648), 2147483647)] sX10_passRefusal_9 (jn 0 1 1 1 2147483647 [(2, 0, 0, 0), (0, 0, 1, 2147483647), (0, 0, (-2147483648), 2147483647), (0, 0, (-2147483648), 2147483647)] sX10_passRefusal_14 (jn 0 1 2 2 2147483647 [(2, 0, 0, 0), (0, 0, 2, 2147483647), (0, 0, (-2147483648), 2147483647), (0, 0, (-2147483648), 2147483647)] sX10_passRefusal_19 (jn 0 1 3 3 2147483647 [(2, 0, 0, 0), (0, 0, 3, 2147483647), (0, 0, (-2147483648), 2147483647), (0, 0, (-2147483648), 2147483647)] sX10_passRefusal_24 (jn 0 1 4 4 2147483647 [(2, 0, 0, 0), (0, 0, 4, 2147483647), (0, 0, (-2147483648), 2147483647), (0, 0, (-2147483648), 2147483647)] sX10_passRefusal_29 (jn 0 1 5 5 2147483647 [(2, 0, 0, 0), (0, 0, 5, 2147483647), (0, 0, (-2147483648), 2147483647), (0, 0, (-2147483648), 2147483647)] sX10_passRefusal_34 (jn 0 1 6 6 2147483647 [(2, 0, 0, 0), (0, 0, 6, 2147483647), (0, 0, (-2147483648), 2147483647), (0, 0, (-2147483648), 2147483647)] sX10_passRefusal_39 (jn 0 1 7 7 2147483647 [(2, 0, 0, 0), (0, 0, 7, 2147483647), (0, 0, (-2147483648), 2147483647), (0, 0, (-2147483648), 2147483647)] sX10_passRefusal_44 sX10_passRefusal_49)))))))))
theorem kX10_passRefusal_50 {SP : CT} (hSP : MONO SP) {sh : List (Nat × Nat)} : SMOK gE gRL sh (CLd SP 1) sX10_passRefusal_50 :=
  SMOK_jn (MONO_CLd hSP 1) 0 (by decide) 1 (-2147483648) (-1) 2147483647 (as := [(2, 0, 0, 0), (0, 0, (-2147483648), 2147483647), (0, 0, (-2147483648), 2147483647), (0, 0, (-2147483648), 2147483647)]) rfl rfl rfl rfl rfl rfl rfl (SMOK_le (Nat.le_of_ble_eq_true rfl : 1 ≤ 1) (kX10_passRefusal_4 hSP)) (SMOK_jn (MONO_CLd hSP 1) 0 (by decide) 1 0 0 2147483647 (as := [(2, 0, 0, 0), (0, 0, 0, 2147483647), (0, 0, (-2147483648), 2147483647), (0, 0, (-2147483648), 2147483647)]) rfl rfl rfl rfl rfl rfl rfl (SMOK_le (Nat.le_of_ble_eq_true rfl : 1 ≤ 1) (kX10_passRefusal_9 hSP)) (SMOK_jn (MONO_CLd hSP 1) 0 (by decide) 1 1 1 2147483647 (as := [(2, 0, 0, 0), (0, 0, 1, 2147483647), (0, 0, (-2147483648), 2147483647), (0, 0, (-2147483648), 2147483647)]) rfl rfl rfl rfl rfl rfl rfl (SMOK_le (Nat.le_of_ble_eq_true rfl : 1 ≤ 1) (kX10_passRefusal_14 hSP)) (SMOK_jn (MONO_CLd hSP 1) 0 (by decide) 1 2 2 2147483647 (as := [(2, 0, 0, 0), (0, 0, 2, 2147483647), (0, 0, (-2147483648), 2147483647), (0, 0, (-2147483648), 2147483647)]) rfl rfl rfl rfl rfl rfl rfl (SMOK_le (Nat.le_of_ble_eq_true rfl : 1 ≤ 1) (kX10_passRefusal_19 hSP)) (SMOK_jn (MONO_CLd hSP 1) 0 (by decide) 1 3 3 2147483647 (as := [(2, 0, 0, 0), (0, 0, 3, 2147483647), (0, 0, (-2147483648), 2147483647), (0, 0, (-2147483648), 2147483647)]) rfl rfl rfl rfl rfl rfl rfl (SMOK_le (Nat.le_of_ble_eq_true rfl : 1 ≤ 1) (kX10_passRefusal_24 hSP)) (SMOK_jn (MONO_CLd hSP 1) 0 (by decide) 1 4 4 2147483647 (as := [(2, 0, 0, 0), (0, 0, 4, 2147483647), (0, 0, (-2147483648), 2147483647), (0, 0, (-2147483648), 2147483647)]) rfl rfl rfl rfl rfl rfl rfl (SMOK_le (Nat.le_of_ble_eq_true rfl : 1 ≤ 1) (kX10_passRefusal_29 hSP)) (SMOK_jn (MONO_CLd hSP 1) 0 (by decide) 1 5 5 2147483647 (as := [(2, 0, 0, 0), (0, 0, 5, 2147483647), (0, 0, (-2147483648), 2147483647), (0, 0, (-2147483648), 2147483647)]) rfl rfl rfl rfl rfl rfl rfl (SMOK_le (Nat.le_of_ble_eq_true rfl : 1 ≤ 1) (kX10_passRefusal_34 hSP)) (SMOK_jn (MONO_CLd hSP 1) 0 (by decide) 1 6 6 2147483647 (as := [(2, 0, 0, 0), (0, 0, 6, 2147483647), (0, 0, (-2147483648), 2147483647), (0, 0, (-2147483648), 2147483647)]) rfl rfl rfl rfl rfl rfl rfl (SMOK_le (Nat.le_of_ble_eq_true rfl : 1 ≤ 1) (kX10_passRefusal_39 hSP)) (SMOK_jn (MONO_CLd hSP 1) 0 (by decide) 1 7 7 2147483647 (as := [(2, 0, 0, 0), (0, 0, 7, 2147483647), (0, 0, (-2147483648), 2147483647), (0, 0, (-2147483648), 2147483647)]) rfl rfl rfl rfl rfl rfl rfl (SMOK_le (Nat.le_of_ble_eq_true rfl : 1 ≤ 1) (kX10_passRefusal_44 hSP)) (SMOK_le (Nat.le_of_ble_eq_true rfl : 1 ≤ 1) (kX10_passRefusal_49 hSP))))))))))
noncomputable def sX10_moveFood_0 : SM := (mX10_moveFood, [(2, 0, 0, 0), (0, 0, 7, 7), (0, 0, (-2147483648), 2147483647), (0, 0, 0, 0)], [], [([], [(20, 6, (-2147483648), 2147483647), (20, 7, (-2147483648), 2147483647)], [])], [(0, 20, 6, 7)])
theorem kX10_moveFood_0 {SP : CT} (hSP : MONO SP) {sh : List (Nat × Nat)} : SMOK gE gRL sh (CLd SP 1) sX10_moveFood_0 :=
  chkS hSP [] 28 []
  []
  (by decide +kernel) (fun s h => absurd h List.not_mem_nil)
noncomputable def sX10_moveFood_1 : SM := (mX10_moveFood, [(2, 0, 0, 0), (0, 0, 6, 6), (0, 0, (-2147483648), 2147483647), (0, 0, 1, 1)], [], [([], [(20, 6, (-2147483648), 2147483647), (20, 7, (-2147483648), 2147483647)], [])], [(0, 20, 6, 7)])
theorem kX10_moveFood_1 {SP : CT} (hSP : MONO SP) {sh : List (Nat × Nat)} : SMOK gE gRL sh (CLd SP 1) sX10_moveFood_1 :=
  chkS hSP [] 29 []
  []
  (by decide +kernel) (fun s h => absurd h List.not_mem_nil)
noncomputable def sX10_moveFood_2 : SM := (mX10_moveFood, [(2, 0, 0, 0), (0, 0, 6, 6), (0, 0, (-2147483648), 2147483647), (0, 0, 0, 0)], [], [([], [(20, 5, (-2147483648), 2147483647), (20, 6, (-2147483648), 2147483647)], [])], [(0, 20, 5, 6)])
theorem kX10_moveFood_2 {SP : CT} (hSP : MONO SP) {sh : List (Nat × Nat)} : SMOK gE gRL sh (CLd SP 1) sX10_moveFood_2 :=
  chkS hSP [] 28 []
  []
  (by decide +kernel) (fun s h => absurd h List.not_mem_nil)
noncomputable def sX10_moveFood_3 : SM := (mX10_moveFood, [(2, 0, 0, 0), (0, 0, 5, 5), (0, 0, (-2147483648), 2147483647), (0, 0, 1, 1)], [], [([], [(20, 5, (-2147483648), 2147483647), (20, 6, (-2147483648), 2147483647)], [])], [(0, 20, 5, 6)])
theorem kX10_moveFood_3 {SP : CT} (hSP : MONO SP) {sh : List (Nat × Nat)} : SMOK gE gRL sh (CLd SP 1) sX10_moveFood_3 :=
  chkS hSP [] 29 []
  []
  (by decide +kernel) (fun s h => absurd h List.not_mem_nil)
noncomputable def sX10_moveFood_4 : SM := (mX10_moveFood, [(2, 0, 0, 0), (0, 0, 5, 5), (0, 0, (-2147483648), 2147483647), (0, 0, 0, 0)], [], [([], [(20, 4, (-2147483648), 2147483647), (20, 5, (-2147483648), 2147483647)], [])], [(0, 20, 4, 5)])
theorem kX10_moveFood_4 {SP : CT} (hSP : MONO SP) {sh : List (Nat × Nat)} : SMOK gE gRL sh (CLd SP 1) sX10_moveFood_4 :=
  chkS hSP [] 28 []
  []
  (by decide +kernel) (fun s h => absurd h List.not_mem_nil)
noncomputable def sX10_moveFood_5 : SM := (mX10_moveFood, [(2, 0, 0, 0), (0, 0, 4, 4), (0, 0, (-2147483648), 2147483647), (0, 0, 1, 1)], [], [([], [(20, 4, (-2147483648), 2147483647), (20, 5, (-2147483648), 2147483647)], [])], [(0, 20, 4, 5)])
theorem kX10_moveFood_5 {SP : CT} (hSP : MONO SP) {sh : List (Nat × Nat)} : SMOK gE gRL sh (CLd SP 1) sX10_moveFood_5 :=
  chkS hSP [] 29 []
  []
  (by decide +kernel) (fun s h => absurd h List.not_mem_nil)
noncomputable def sX10_moveFood_6 : SM := (mX10_moveFood, [(2, 0, 0, 0), (0, 0, 4, 4), (0, 0, (-2147483648), 2147483647), (0, 0, 0, 0)], [], [([], [(20, 3, (-2147483648), 2147483647), (20, 4, (-2147483648), 2147483647)], [])], [(0, 20, 3, 4)])
theorem kX10_moveFood_6 {SP : CT} (hSP : MONO SP) {sh : List (Nat × Nat)} : SMOK gE gRL sh (CLd SP 1) sX10_moveFood_6 :=
  chkS hSP [] 28 []
  []
  (by decide +kernel) (fun s h => absurd h List.not_mem_nil)
noncomputable def sX10_moveFood_7 : SM := (mX10_moveFood, [(2, 0, 0, 0), (0, 0, 3, 3), (0, 0, (-2147483648), 2147483647), (0, 0, 1, 1)], [], [([], [(20, 3, (-2147483648), 2147483647), (20, 4, (-2147483648), 2147483647)], [])], [(0, 20, 3, 4)])
theorem kX10_moveFood_7 {SP : CT} (hSP : MONO SP) {sh : List (Nat × Nat)} : SMOK gE gRL sh (CLd SP 1) sX10_moveFood_7 :=
  chkS hSP [] 29 []
  []
  (by decide +kernel) (fun s h => absurd h List.not_mem_nil)
noncomputable def sX10_moveFood_8 : SM := (mX10_moveFood, [(2, 0, 0, 0), (0, 0, 3, 3), (0, 0, (-2147483648), 2147483647), (0, 0, 0, 0)], [], [([], [(20, 2, (-2147483648), 2147483647), (20, 3, (-2147483648), 2147483647)], [])], [(0, 20, 2, 3)])
theorem kX10_moveFood_8 {SP : CT} (hSP : MONO SP) {sh : List (Nat × Nat)} : SMOK gE gRL sh (CLd SP 1) sX10_moveFood_8 :=
  chkS hSP [] 28 []
  []
  (by decide +kernel) (fun s h => absurd h List.not_mem_nil)
noncomputable def sX10_moveFood_9 : SM := (mX10_moveFood, [(2, 0, 0, 0), (0, 0, 2, 2), (0, 0, (-2147483648), 2147483647), (0, 0, 1, 1)], [], [([], [(20, 2, (-2147483648), 2147483647), (20, 3, (-2147483648), 2147483647)], [])], [(0, 20, 2, 3)])
theorem kX10_moveFood_9 {SP : CT} (hSP : MONO SP) {sh : List (Nat × Nat)} : SMOK gE gRL sh (CLd SP 1) sX10_moveFood_9 :=
  chkS hSP [] 29 []
  []
  (by decide +kernel) (fun s h => absurd h List.not_mem_nil)
noncomputable def sX10_moveFood_10 : SM := (mX10_moveFood, [(2, 0, 0, 0), (0, 0, 2, 2), (0, 0, (-2147483648), 2147483647), (0, 0, 0, 0)], [], [([], [(20, 1, (-2147483648), 2147483647), (20, 2, (-2147483648), 2147483647)], [])], [(0, 20, 1, 2)])
theorem kX10_moveFood_10 {SP : CT} (hSP : MONO SP) {sh : List (Nat × Nat)} : SMOK gE gRL sh (CLd SP 1) sX10_moveFood_10 :=
  chkS hSP [] 28 []
  []
  (by decide +kernel) (fun s h => absurd h List.not_mem_nil)
noncomputable def sX10_moveFood_11 : SM := (mX10_moveFood, [(2, 0, 0, 0), (0, 0, 1, 1), (0, 0, (-2147483648), 2147483647), (0, 0, 1, 1)], [], [([], [(20, 1, (-2147483648), 2147483647), (20, 2, (-2147483648), 2147483647)], [])], [(0, 20, 1, 2)])
theorem kX10_moveFood_11 {SP : CT} (hSP : MONO SP) {sh : List (Nat × Nat)} : SMOK gE gRL sh (CLd SP 1) sX10_moveFood_11 :=
  chkS hSP [] 29 []
  []
  (by decide +kernel) (fun s h => absurd h List.not_mem_nil)
noncomputable def sX10_moveFood_12 : SM := (mX10_moveFood, [(2, 0, 0, 0), (0, 0, 1, 1), (0, 0, (-2147483648), 2147483647), (0, 0, 0, 0)], [], [([], [(20, 0, (-2147483648), 2147483647), (20, 1, (-2147483648), 2147483647)], [])], [(0, 20, 0, 1)])
theorem kX10_moveFood_12 {SP : CT} (hSP : MONO SP) {sh : List (Nat × Nat)} : SMOK gE gRL sh (CLd SP 1) sX10_moveFood_12 :=
  chkS hSP [] 28 []
  []
  (by decide +kernel) (fun s h => absurd h List.not_mem_nil)
noncomputable def sX10_moveFood_13 : SM := (mX10_moveFood, [(2, 0, 0, 0), (0, 0, 0, 0), (0, 0, (-2147483648), 2147483647), (0, 0, 1, 1)], [], [([], [(20, 0, (-2147483648), 2147483647), (20, 1, (-2147483648), 2147483647)], [])], [(0, 20, 0, 1)])
theorem kX10_moveFood_13 {SP : CT} (hSP : MONO SP) {sh : List (Nat × Nat)} : SMOK gE gRL sh (CLd SP 1) sX10_moveFood_13 :=
  chkS hSP [] 29 []
  []
  (by decide +kernel) (fun s h => absurd h List.not_mem_nil)
noncomputable def sX10_pass_0 : SM := (mX10_pass, [(2, 0, 0, 0), (0, 0, (-2147483648), 2147483647), (0, 0, (-2147483648), 2147483647), (0, 0, (-2147483648), 2147483647)], [], [([(0, 0, (-1), (-1))], [], []), ([(0, 0, (-2147483648), 2147483647)], [(27, 2, 1, 15)], []), ([(0, 0, (-3), (-3))], [], []), ([(0, 0, (-2), (-2))], [], [])], [(0, 20, 0, 7), (0, 27, 1, 2), (0, 31, 0, 4), (0, 32, 0, 11), (0, 33, 0, 11), (0, 34, 0, 7), (0, 35, 0, 7)])
theorem kX10_pass_0 {SP : CT} (hSP : MONO SP) {sh : List (Nat × Nat)} : SMOK gE gRL sh (CLd SP 3) sX10_pass_0 :=
  chkS hSP [sX10_moveFood_0, sX10_moveFood_1, sX10_moveFood_2, sX10_moveFood_3, sX10_moveFood_4, sX10_moveFood_5, sX10_moveFood_6, sX10_moveFood_7, sX10_moveFood_8, sX10_moveFood_9, sX10_moveFood_10, sX10_moveFood_11, sX10_moveFood_12, sX10_moveFood_13, sX10_passRefusal_50, sX1_remember_0] 767 []
  []
  (by decide +kernel) (List.forall_mem_cons.mpr ⟨SMOK_le (Nat.le_of_ble_eq_true rfl : 1 ≤ 2) (kX10_moveFood_0 hSP), List.forall_mem_cons.mpr ⟨SMOK_le (Nat.le_of_ble_eq_true rfl : 1 ≤ 2) (kX10_moveFood_1 hSP), List.forall_mem_cons.mpr ⟨SMOK_le (Nat.le_of_ble_eq_true rfl : 1 ≤ 2) (kX10_moveFood_2 hSP), List.forall_mem_cons.mpr ⟨SMOK_le (Nat.le_of_ble_eq_true rfl : 1 ≤ 2) (kX10_moveFood_3 hSP), List.forall_mem_cons.mpr ⟨SMOK_le (Nat.le_of_ble_eq_true rfl : 1 ≤ 2) (kX10_moveFood_4 hSP), List.forall_mem_cons.mpr ⟨SMOK_le (Nat.le_of_ble_eq_true rfl : 1 ≤ 2) (kX10_moveFood_5 hSP), List.forall_mem_cons.mpr ⟨SMOK_le (Nat.le_of_ble_eq_true rfl : 1 ≤ 2) (kX10_moveFood_6 hSP), List.forall_mem_cons.mpr ⟨SMOK_le (Nat.le_of_ble_eq_true rfl : 1 ≤ 2) (kX10_moveFood_7 hSP), List.forall_mem_cons.mpr ⟨SMOK_le (Nat.le_of_ble_eq_true rfl : 1 ≤ 2) (kX10_moveFood_8 hSP), List.forall_mem_cons.mpr ⟨SMOK_le (Nat.le_of_ble_eq_true rfl : 1 ≤ 2) (kX10_moveFood_9 hSP), List.forall_mem_cons.mpr ⟨SMOK_le (Nat.le_of_ble_eq_true rfl : 1 ≤ 2) (kX10_moveFood_10 hSP), List.forall_mem_cons.mpr ⟨SMOK_le (Nat.le_of_ble_eq_true rfl : 1 ≤ 2) (kX10_moveFood_11 hSP), List.forall_mem_cons.mpr ⟨SMOK_le (Nat.le_of_ble_eq_true rfl : 1 ≤ 2) (kX10_moveFood_12 hSP), List.forall_mem_cons.mpr ⟨SMOK_le (Nat.le_of_ble_eq_true rfl : 1 ≤ 2) (kX10_moveFood_13 hSP), List.forall_mem_cons.mpr ⟨SMOK_le (Nat.le_of_ble_eq_true rfl : 1 ≤ 2) (kX10_passRefusal_50 hSP), List.forall_mem_cons.mpr ⟨SMOK_le (Nat.le_of_ble_eq_true rfl : 2 ≤ 2) (kX1_remember_0 hSP), fun s h => absurd h List.not_mem_nil⟩⟩⟩⟩⟩⟩⟩⟩⟩⟩⟩⟩⟩⟩⟩⟩)
noncomputable def sX10_cook_0 : SM := (mX10_cook, [(2, 0, 0, 0), (0, 0, (-2147483648), 2147483647), (0, 0, (-2147483648), 2147483647)], [], [([(0, 0, (-1), (-1))], [], []), ([(0, 0, (-2147483648), 2147483647)], [(27, 1, 0, 14), (27, 2, 15, 15)], []), ([(0, 0, (-2147483648), 2147483647)], [(27, 2, 1, 15)], [])], [(0, 20, 0, 7), (0, 27, 1, 2), (0, 31, 0, 4), (0, 32, 0, 11), (0, 33, 0, 11), (0, 34, 0, 7), (0, 35, 0, 7)])
theorem kX10_cook_0 {SP : CT} (hSP : MONO SP) {sh : List (Nat × Nat)} : SMOK gE gRL sh (CLd SP 3) sX10_cook_0 :=
  chkS hSP [sX1_remember_0] 54 []
  []
  (by decide +kernel) (List.forall_mem_cons.mpr ⟨SMOK_le (Nat.le_of_ble_eq_true rfl : 2 ≤ 2) (kX1_remember_0 hSP), fun s h => absurd h List.not_mem_nil⟩)
noncomputable def sX10_put_3 : SM := (mX10_put, [(0, 0, (-2147483648), 2147483647), (0, 0, 0, 0), (0, 0, 8, 8)], [], [([(0, 0, 0, 8)], [], [])], [])
theorem kX10_put_3 {SP : CT} (hSP : MONO SP) {sh : List (Nat × Nat)} : SMOK gE gRL sh (CLd SP 1) sX10_put_3 :=
  chkS hSP [] 8 []
  []
  (by decide +kernel) (fun s h => absurd h List.not_mem_nil)
noncomputable def sX10_keepOnSea_0 : SM := (mX10_keepOnSea, [(0, 0, (-2147483648), 2147483647)], [], [([(0, 0, 0, 8)], [], [])], [])
theorem kX10_keepOnSea_0 {SP : CT} (hSP : MONO SP) {sh : List (Nat × Nat)} : SMOK gE gRL sh (CLd SP 2) sX10_keepOnSea_0 :=
  chkS hSP [sX10_put_3] 7 []
  []
  (by decide +kernel) (List.forall_mem_cons.mpr ⟨SMOK_le (Nat.le_of_ble_eq_true rfl : 1 ≤ 1) (kX10_put_3 hSP), fun s h => absurd h List.not_mem_nil⟩)
noncomputable def sX8_doDueOrders_0 : SM := (mX8_doDueOrders, [(2, 17, 0, 0)], [], [([], [(17, 4, 0, 12)], [])], [(0, 17, 1, 1), (0, 17, 4, 4), (0, 18, 0, 11), (0, 19, 0, 11)])
theorem kX8_doDueOrders_0 {SP : CT} (hSP : MONO SP) {sh : List (Nat × Nat)} : SMOK gE gRL sh (CLd SP 3) sX8_doDueOrders_0 :=
  chkS hSP [sX10_keepOnSea_0] 75 [(false, 0)]
  [((2, [(0, (2, 17, 0, 0)), (1, (0, 0, 0, 0))], [], [], [(0, 13, 0)]), [(false, 1)]), ((2, [(0, (2, 17, 0, 0)), (1, (0, 0, 1, 1))], [], [(17, 1, 0, 8), (17, 4, 1, 12)], [(0, 12, 0)]), [(false, 1)]), ((2, [(0, (2, 17, 0, 0)), (1, (0, 0, 2, 2))], [], [(17, 1, 0, 8), (17, 4, 2, 12)], [(0, 11, 0)]), [(false, 1)]), ((2, [(0, (2, 17, 0, 0)), (1, (0, 0, 3, 3))], [], [(17, 1, 0, 8), (17, 4, 3, 12)], [(0, 10, 0)]), [(false, 1)]), ((2, [(0, (2, 17, 0, 0)), (1, (0, 0, 4, 4))], [], [(17, 1, 0, 8), (17, 4, 4, 12)], [(0, 9, 0)]), [(false, 1)]), ((2, [(0, (2, 17, 0, 0)), (1, (0, 0, 5, 5))], [], [(17, 1, 0, 8), (17, 4, 5, 12)], [(0, 8, 0)]), [(false, 1)]), ((2, [(0, (2, 17, 0, 0)), (1, (0, 0, 6, 6))], [], [(17, 1, 0, 8), (17, 4, 6, 12)], [(0, 7, 0)]), [(false, 1)]), ((2, [(0, (2, 17, 0, 0)), (1, (0, 0, 7, 7))], [], [(17, 1, 0, 8), (17, 4, 7, 12)], [(0, 6, 0)]), [(false, 1)]), ((2, [(0, (2, 17, 0, 0)), (1, (0, 0, 8, 8))], [], [(17, 1, 0, 8), (17, 4, 8, 12)], [(0, 5, 0)]), [(false, 1)]), ((2, [(0, (2, 17, 0, 0)), (1, (0, 0, 9, 9))], [], [(17, 1, 0, 8), (17, 4, 9, 12)], [(0, 4, 0)]), [(false, 1)]), ((2, [(0, (2, 17, 0, 0)), (1, (0, 0, 10, 10))], [], [(17, 1, 0, 8), (17, 4, 10, 12)], [(0, 3, 0)]), [(false, 1)]), ((2, [(0, (2, 17, 0, 0)), (1, (0, 0, 11, 11))], [], [(17, 1, 0, 8), (17, 4, 11, 12)], [(0, 2, 0)]), [(false, 1)]), ((2, [(0, (2, 17, 0, 0)), (1, (0, 0, 12, 12))], [], [(17, 1, 0, 8), (17, 4, 12, 12)], [(0, 1, 0)]), [])]
  (by decide +kernel) (List.forall_mem_cons.mpr ⟨SMOK_le (Nat.le_of_ble_eq_true rfl : 2 ≤ 2) (kX10_keepOnSea_0 hSP), fun s h => absurd h List.not_mem_nil⟩)
noncomputable def sX8_eat_0 : SM := (mX8_eat, [(2, 17, 0, 0), (0, 0, 0, 0), (0, 0, 0, 9)], [], [([(0, 0, 0, 0)], [(20, 0, 0, 0), (21, 0, (-2147483648), 2147483647)], []), ([(0, 0, 1, 1)], [(20, 0, (-9), 2147483647)], [])], [(0, 20, 0, 0), (0, 21, 0, 0)])
theorem kX8_eat_0 {SP : CT} (hSP : MONO SP) {sh : List (Nat × Nat)} : SMOK gE gRL sh (CLd SP 1) sX8_eat_0 :=
  chkS hSP [] 33 []
  []
  (by decide +kernel) (fun s h => absurd h List.not_mem_nil)
noncomputable def sX8_eat_1 : SM := (mX8_eat, [(2, 17, 0, 0), (0, 0, 0, 1), (0, 0, 0, 9)], [], [([(0, 0, 0, 0)], [], []), ([(0, 0, 1, 1)], [], [])], [(0, 20, 0, 1), (0, 21, 0, 1)])
theorem kX8_eat_1 {SP : CT} (hSP : MONO SP) {sh : List (Nat × Nat)} : SMOK gE gRL sh (CLd SP 1) sX8_eat_1 :=
  chkS hSP [] 33 []
  []
  (by decide +kernel) (fun s h => absurd h List.not_mem_nil)
noncomputable def sX8_eat_2 : SM := (mX8_eat, [(2, 17, 0, 0), (0, 0, 0, 2), (0, 0, 0, 9)], [], [([(0, 0, 0, 0)], [], []), ([(0, 0, 1, 1)], [], [])], [(0, 20, 0, 2), (0, 21, 0, 2)])
theorem kX8_eat_2 {SP : CT} (hSP : MONO SP) {sh : List (Nat × Nat)} : SMOK gE gRL sh (CLd SP 1) sX8_eat_2 :=
  chkS hSP [] 33 []
  []
  (by decide +kernel) (fun s h => absurd h List.not_mem_nil)
noncomputable def sX8_eat_3 : SM := (mX8_eat, [(2, 17, 0, 0), (0, 0, 0, 3), (0, 0, 0, 9)], [], [([(0, 0, 0, 0)], [], []), ([(0, 0, 1, 1)], [], [])], [(0, 20, 0, 3), (0, 21, 0, 3)])
theorem kX8_eat_3 {SP : CT} (hSP : MONO SP) {sh : List (Nat × Nat)} : SMOK gE gRL sh (CLd SP 1) sX8_eat_3 :=
  chkS hSP [] 33 []
  []
  (by decide +kernel) (fun s h => absurd h List.not_mem_nil)
noncomputable def sX8_eat_4 : SM := (mX8_eat, [(2, 17, 0, 0), (0, 0, 0, 4), (0, 0, 0, 9)], [], [([(0, 0, 0, 0)], [], []), ([(0, 0, 1, 1)], [], [])], [(0, 20, 0, 4), (0, 21, 0, 4)])
theorem kX8_eat_4 {SP : CT} (hSP : MONO SP) {sh : List (Nat × Nat)} : SMOK gE gRL sh (CLd SP 1) sX8_eat_4 :=
  chkS hSP [] 33 []
  []
  (by decide +kernel) (fun s h => absurd h List.not_mem_nil)
noncomputable def sX8_eat_5 : SM := (mX8_eat, [(2, 17, 0, 0), (0, 0, 0, 5), (0, 0, 0, 9)], [], [([(0, 0, 0, 0)], [], []), ([(0, 0, 1, 1)], [], [])], [(0, 20, 0, 5), (0, 21, 0, 5)])
theorem kX8_eat_5 {SP : CT} (hSP : MONO SP) {sh : List (Nat × Nat)} : SMOK gE gRL sh (CLd SP 1) sX8_eat_5 :=
  chkS hSP [] 33 []
  []
  (by decide +kernel) (fun s h => absurd h List.not_mem_nil)
noncomputable def sX8_eat_6 : SM := (mX8_eat, [(2, 17, 0, 0), (0, 0, 0, 6), (0, 0, 0, 9)], [], [([(0, 0, 0, 0)], [], []), ([(0, 0, 1, 1)], [], [])], [(0, 20, 0, 6), (0, 21, 0, 6)])
theorem kX8_eat_6 {SP : CT} (hSP : MONO SP) {sh : List (Nat × Nat)} : SMOK gE gRL sh (CLd SP 1) sX8_eat_6 :=
  chkS hSP [] 33 []
  []
  (by decide +kernel) (fun s h => absurd h List.not_mem_nil)
noncomputable def sX8_eat_7 : SM := (mX8_eat, [(2, 17, 0, 0), (0, 0, 0, 7), (0, 0, 0, 9)], [], [([(0, 0, 0, 0)], [], []), ([(0, 0, 1, 1)], [], [])], [(0, 20, 0, 7), (0, 21, 0, 7)])
theorem kX8_eat_7 {SP : CT} (hSP : MONO SP) {sh : List (Nat × Nat)} : SMOK gE gRL sh (CLd SP 1) sX8_eat_7 :=
  chkS hSP [] 33 []
  []
  (by decide +kernel) (fun s h => absurd h List.not_mem_nil)
noncomputable def sX10_goStep_0 : SM := (mX10_goStep, [(2, 0, 0, 0)], [], [([(0, 0, (-2147483648), 2147483647)], [(17, 4, 0, 12)], [])], [(0, 17, 0, 2), (0, 17, 4, 4), (0, 18, 0, 11), (0, 19, 0, 11), (0, 20, 0, 7), (0, 21, 0, 7)])
theorem kX10_goStep_0 {SP : CT} (hSP : MONO SP) {sh : List (Nat × Nat)} : SMOK gE gRL sh (CLd SP 4) sX10_goStep_0 :=
  chkS hSP [sX8_doDueOrders_0, sX8_eat_0, sX8_eat_1, sX8_eat_2, sX8_eat_3, sX8_eat_4, sX8_eat_5, sX8_eat_6, sX8_eat_7] 42 [(false, 0)]
  [((22, [(0, (2, 0, 0, 0)), (1, (0, 0, 0, 16))], [], [(13, 0, 0, 16), (17, 4, 0, 12)], [(0, 2, 0), (1, 1, 16), (0, 1, 0)]), [(false, 0), (false, 1)]), ((94, [(0, (2, 0, 0, 0)), (1, (0, 0, (-2147483648), 2147483647)), (2, (0, 0, 0, 8))], [], [(0, 9, 0, 8), (17, 4, 0, 12)], [(0, 1, 0), (1, 2, 8), (0, 1, 0)]), [(false, 0)])]
  (by decide +kernel) (List.forall_mem_cons.mpr ⟨SMOK_le (Nat.le_of_ble_eq_true rfl : 3 ≤ 3) (kX8_doDueOrders_0 hSP), List.forall_mem_cons.mpr ⟨SMOK_le (Nat.le_of_ble_eq_true rfl : 1 ≤ 3) (kX8_eat_0 hSP), List.forall_mem_cons.mpr ⟨SMOK_le (Nat.le_of_ble_eq_true rfl : 1 ≤ 3) (kX8_eat_1 hSP), List.forall_mem_cons.mpr ⟨SMOK_le (Nat.le_of_ble_eq_true rfl : 1 ≤ 3) (kX8_eat_2 hSP), List.forall_mem_cons.mpr ⟨SMOK_le (Nat.le_of_ble_eq_true rfl : 1 ≤ 3) (kX8_eat_3 hSP), List.forall_mem_cons.mpr ⟨SMOK_le (Nat.le_of_ble_eq_true rfl : 1 ≤ 3) (kX8_eat_4 hSP), List.forall_mem_cons.mpr ⟨SMOK_le (Nat.le_of_ble_eq_true rfl : 1 ≤ 3) (kX8_eat_5 hSP), List.forall_mem_cons.mpr ⟨SMOK_le (Nat.le_of_ble_eq_true rfl : 1 ≤ 3) (kX8_eat_6 hSP), List.forall_mem_cons.mpr ⟨SMOK_le (Nat.le_of_ble_eq_true rfl : 1 ≤ 3) (kX8_eat_7 hSP), fun s h => absurd h List.not_mem_nil⟩⟩⟩⟩⟩⟩⟩⟩⟩)
noncomputable def sX3_clear_0 : SM := (mX3_clear, [(2, 3, 0, 0)], [], [([], [(3, 1, 0, 0)], [])], [(0, 3, 1, 1)])
theorem kX3_clear_0 {SP : CT} (hSP : MONO SP) {sh : List (Nat × Nat)} : SMOK gE gRL sh (CLd SP 1) sX3_clear_0 :=
  chkS hSP [] 6 []
  []
  (by decide +kernel) (fun s h => absurd h List.not_mem_nil)
noncomputable def sX3_add_0 : SM := (mX3_add, [(2, 3, 0, 0), (1, 0, (-9223372036854775808), 9223372036854775807)], [], [([], [(3, 1, 1, 30)], []), ([], [(3, 1, 30, 30)], [])], [(0, 3, 1, 1), (1, 4, 0, 29)])
theorem kX3_add_0 {SP : CT} (hSP : MONO SP) {sh : List (Nat × Nat)} : SMOK gE gRL sh (CLd SP 1) sX3_add_0 :=
  chkS hSP [] 20 []
  []
  (by decide +kernel) (fun s h => absurd h List.not_mem_nil)
noncomputable def sX3_tellTwo_0 : SM := (mX3_tellTwo, [(2, 3, 0, 0), (1, 0, (-9223372036854775808), 9223372036854775807), (1, 0, (-9223372036854775808), 9223372036854775807)], [], [([], [(3, 1, 30, 30)], []), ([], [(3, 1, 1, 30)], [])], [(0, 3, 1, 1), (1, 4, 0, 29)])
theorem kX3_tellTwo_0 {SP : CT} (hSP : MONO SP) {sh : List (Nat × Nat)} : SMOK gE gRL sh (CLd SP 2) sX3_tellTwo_0 :=
  chkS hSP [sX3_add_0, sX3_clear_0] 17 []
  []
  (by decide +kernel) (List.forall_mem_cons.mpr ⟨SMOK_le (Nat.le_of_ble_eq_true rfl : 1 ≤ 1) (kX3_add_0 hSP), List.forall_mem_cons.mpr ⟨SMOK_le (Nat.le_of_ble_eq_true rfl : 1 ≤ 1) (kX3_clear_0 hSP), fun s h => absurd h List.not_mem_nil⟩⟩)
noncomputable def sX10_steps_0 : SM := (mX10_steps, [(2, 0, 0, 0), (0, 0, (-2147483648), 2147483647)], [], [([(0, 0, 0, 8)], [(3, 1, 1, 30), (17, 4, 0, 12), (27, 1, 0, 14), (27, 2, 1, 15)], []), ([(0, 0, 0, 8)], [(3, 1, 30, 30), (17, 4, 0, 12), (27, 1, 0, 14), (27, 2, 1, 15)], []), ([(0, 0, (-1), (-1))], [], [])], [(0, 3, 1, 1), (0, 17, 0, 2), (0, 17, 4, 4), (0, 18, 0, 11), (0, 19, 0, 11), (0, 20, 0, 7), (0, 21, 0, 7), (0, 27, 1, 2), (0, 31, 0, 4), (0, 32, 0, 11), (0, 33, 0, 11), (0, 34, 0, 7), (0, 35, 0, 7), (1, 4, 0, 29)])
theorem kX10_steps_0 {SP : CT} (hSP : MONO SP) {sh : List (Nat × Nat)} : SMOK gE gRL sh (CLd SP 5) sX10_steps_0 :=
  chkS hSP [sX10_goStep_0, sX1_remember_0, sX3_tellTwo_0] 32 [(false, 0)]
  [((36, [(0, (2, 0, 0, 0)), (1, (0, 0, 0, 60)), (2, (0, 0, (-2147483648), 2147483647)), (3, (0, 0, (-2147483648), 2147483647)), (4, (0, 0, 0, 60))], [], [(17, 4, 0, 12), (27, 1, 0, 14), (27, 2, 1, 15)], [(0, 1, 0), (1, 4, 60), (0, 1, 0)]), [(false, 0)])]
  (by decide +kernel) (List.forall_mem_cons.mpr ⟨SMOK_le (Nat.le_of_ble_eq_true rfl : 4 ≤ 4) (kX10_goStep_0 hSP), List.forall_mem_cons.mpr ⟨SMOK_le (Nat.le_of_ble_eq_true rfl : 2 ≤ 4) (kX1_remember_0 hSP), List.forall_mem_cons.mpr ⟨SMOK_le (Nat.le_of_ble_eq_true rfl : 2 ≤ 4) (kX3_tellTwo_0 hSP), fun s h => absurd h List.not_mem_nil⟩⟩⟩)
noncomputable def sX9_open_4 : SM := (mX9_open, [(2, 1, 0, 0), (0, 0, 60, 60)], [], [([], [(1, 2, 0, 0), (1, 3, 0, 60), (1, 4, 1, 1), (1, 5, 0, 0)], []), ([], [(1, 2, 0, 0), (1, 3, 0, 60), (1, 4, 0, 0), (1, 5, 0, 0)], [])], [(0, 1, 2, 5)])
theorem kX9_open_4 {SP : CT} (hSP : MONO SP) {sh : List (Nat × Nat)} : SMOK gE gRL sh (CLd SP 1) sX9_open_4 :=
  chkS hSP [] 29 []
  []
  (by decide +kernel) (fun s h => absurd h List.not_mem_nil)
noncomputable def sX10_isDigit_0 : SM := (mX10_isDigit, [(0, 0, (-1), (-1))], [], [([(0, 0, 0, 0)], [], [])], [])
theorem kX10_isDigit_0 {SP : CT} (hSP : MONO SP) {sh : List (Nat × Nat)} : SMOK gE gRL sh (CLd SP 1) sX10_isDigit_0 :=
  chkS hSP [] 7 []
  []
  (by decide +kernel) (fun s h => absurd h List.not_mem_nil)
noncomputable def sX10_isDigit_1 : SM := (mX10_isDigit, [(0, 0, 0, 65535)], [], [([(0, 0, 1, 1)], [], []), ([(0, 0, 0, 0)], [], [])], [])
theorem kX10_isDigit_1 {SP : CT} (hSP : MONO SP) {sh : List (Nat × Nat)} : SMOK gE gRL sh (CLd SP 1) sX10_isDigit_1 :=
  chkS hSP [] 15 []
  []
  (by decide +kernel) (fun s h => absurd h List.not_mem_nil)
noncomputable def sX10_voyageFault_0 : SM := (mX10_voyageFault, [(2, 0, 0, 0)], [], [([(0, 0, (-2147483648), 2147483647)], [(1, 2, (-2147483648), 2147483647)], []), ([(0, 0, (-1), (-1))], [], []), ([(0, 0, 0, 76)], [], [])], [(0, 1, 2, 2)])
theorem kX10_voyageFault_0 {SP : CT} (hSP : MONO SP) {sh : List (Nat × Nat)} : SMOK gE gRL sh (CLd SP 2) sX10_voyageFault_0 :=
  chkS hSP [sX10_isDigit_0, sX10_isDigit_1, sX9_ended_0, sX9_faultAtEnd_0, sX9_next_0] 124 [(false, 0)]
  [((2, [(0, (2, 0, 0, 0)), (1, (0, 0, 0, 60))], [], [], [(0, 1, 0), (1, 1, 60), (0, 1, 0)]), [(false, 0)])]
  (by decide +kernel) (List.forall_mem_cons.mpr ⟨SMOK_le (Nat.le_of_ble_eq_true rfl : 1 ≤ 1) (kX10_isDigit_0 hSP), List.forall_mem_cons.mpr ⟨SMOK_le (Nat.le_of_ble_eq_true rfl : 1 ≤ 1) (kX10_isDigit_1 hSP), List.forall_mem_cons.mpr ⟨SMOK_le (Nat.le_of_ble_eq_true rfl : 1 ≤ 1) (kX9_ended_0 hSP), List.forall_mem_cons.mpr ⟨SMOK_le (Nat.le_of_ble_eq_true rfl : 1 ≤ 1) (kX9_faultAtEnd_0 hSP), List.forall_mem_cons.mpr ⟨SMOK_le (Nat.le_of_ble_eq_true rfl : 1 ≤ 1) (kX9_next_0 hSP), fun s h => absurd h List.not_mem_nil⟩⟩⟩⟩⟩)
noncomputable def sX8_copyFrom_1 : SM := (mX8_copyFrom, [(2, 22, 0, 0), (2, 17, 0, 0)], [], [([], [(22, 0, (-2147483648), 2147483647), (22, 1, 0, 8), (22, 2, (-2147483648), 2147483647), (22, 3, (-2147483648), 2147483647), (22, 4, 0, 12)], [])], [(0, 22, 0, 4), (0, 23, 0, 11), (0, 24, 0, 11), (0, 25, 0, 7), (0, 26, 0, 7)])
theorem kX8_copyFrom_1 {SP : CT} (hSP : MONO SP) {sh : List (Nat × Nat)} : SMOK gE gRL sh (CLd SP 1) sX8_copyFrom_1 :=
  chkS hSP [] 55 []
  []
  (by decide +kernel) (fun s h => absurd h List.not_mem_nil)
noncomputable def sX10_passRefusal_51 : SM := (mX10_passRefusal, [(2, 0, 0, 0), (0, 0, 0, 0), (0, 0, 1, 1), (0, 0, 1, 1)], [], [([(0, 0, (-1), (-1))], [], []), ([(0, 0, (-2), (-2))], [], []), ([(0, 0, (-3), (-3))], [], []), ([(0, 0, 0, 0)], [], [])], [])
theorem kX10_passRefusal_51 {SP : CT} (hSP : MONO SP) {sh : List (Nat × Nat)} : SMOK gE gRL sh (CLd SP 1) sX10_passRefusal_51 :=
  chkS hSP [] 60 []
  []
  (by decide +kernel) (fun s h => absurd h List.not_mem_nil)
noncomputable def sX10_passRefusal_52 : SM := (mX10_passRefusal, [(2, 0, 0, 0), (0, 0, 1, 1), (0, 0, 1, 1), (0, 0, 1, 1)], [], [([(0, 0, (-1), (-1))], [], []), ([(0, 0, (-2), (-2))], [], []), ([(0, 0, (-3), (-3))], [], []), ([(0, 0, 0, 0)], [], [])], [])
theorem kX10_passRefusal_52 {SP : CT} (hSP : MONO SP) {sh : List (Nat × Nat)} : SMOK gE gRL sh (CLd SP 1) sX10_passRefusal_52 :=
  chkS hSP [] 60 []
  []
  (by decide +kernel) (fun s h => absurd h List.not_mem_nil)
noncomputable def sX10_passRefusal_53 : SM := (mX10_passRefusal, [(2, 0, 0, 0), (0, 0, 2, 2), (0, 0, 1, 1), (0, 0, 1, 1)], [], [([(0, 0, (-1), (-1))], [], []), ([(0, 0, (-2), (-2))], [], []), ([(0, 0, (-3), (-3))], [], []), ([(0, 0, 0, 0)], [], [])], [])
theorem kX10_passRefusal_53 {SP : CT} (hSP : MONO SP) {sh : List (Nat × Nat)} : SMOK gE gRL sh (CLd SP 1) sX10_passRefusal_53 :=
  chkS hSP [] 60 []
  []
  (by decide +kernel) (fun s h => absurd h List.not_mem_nil)
noncomputable def sX10_passRefusal_54 : SM := (mX10_passRefusal, [(2, 0, 0, 0), (0, 0, 3, 3), (0, 0, 1, 1), (0, 0, 1, 1)], [], [([(0, 0, (-1), (-1))], [], []), ([(0, 0, (-2), (-2))], [], []), ([(0, 0, (-3), (-3))], [], []), ([(0, 0, 0, 0)], [], [])], [])
theorem kX10_passRefusal_54 {SP : CT} (hSP : MONO SP) {sh : List (Nat × Nat)} : SMOK gE gRL sh (CLd SP 1) sX10_passRefusal_54 :=
  chkS hSP [] 60 []
  []
  (by decide +kernel) (fun s h => absurd h List.not_mem_nil)
noncomputable def sX10_passRefusal_55 : SM := (mX10_passRefusal, [(2, 0, 0, 0), (0, 0, 4, 4), (0, 0, 1, 1), (0, 0, 1, 1)], [], [([(0, 0, (-1), (-1))], [], []), ([(0, 0, (-2), (-2))], [], []), ([(0, 0, (-3), (-3))], [], []), ([(0, 0, 0, 0)], [], [])], [])
theorem kX10_passRefusal_55 {SP : CT} (hSP : MONO SP) {sh : List (Nat × Nat)} : SMOK gE gRL sh (CLd SP 1) sX10_passRefusal_55 :=
  chkS hSP [] 60 []
  []
  (by decide +kernel) (fun s h => absurd h List.not_mem_nil)
noncomputable def sX10_passRefusal_56 : SM := (mX10_passRefusal, [(2, 0, 0, 0), (0, 0, 5, 5), (0, 0, 1, 1), (0, 0, 1, 1)], [], [([(0, 0, (-1), (-1))], [], []), ([(0, 0, (-2), (-2))], [], []), ([(0, 0, (-3), (-3))], [], []), ([(0, 0, 0, 0)], [], [])], [])
theorem kX10_passRefusal_56 {SP : CT} (hSP : MONO SP) {sh : List (Nat × Nat)} : SMOK gE gRL sh (CLd SP 1) sX10_passRefusal_56 :=
  chkS hSP [] 60 []
  []
  (by decide +kernel) (fun s h => absurd h List.not_mem_nil)
noncomputable def sX10_passRefusal_57 : SM := (mX10_passRefusal, [(2, 0, 0, 0), (0, 0, 6, 6), (0, 0, 1, 1), (0, 0, 1, 1)], [], [([(0, 0, (-1), (-1))], [], []), ([(0, 0, (-2), (-2))], [], []), ([(0, 0, (-3), (-3))], [], []), ([(0, 0, 0, 0)], [], [])], [])
theorem kX10_passRefusal_57 {SP : CT} (hSP : MONO SP) {sh : List (Nat × Nat)} : SMOK gE gRL sh (CLd SP 1) sX10_passRefusal_57 :=
  chkS hSP [] 60 []
  []
  (by decide +kernel) (fun s h => absurd h List.not_mem_nil)
noncomputable def sX10_passRefusal_58 : SM := (mX10_passRefusal, [(2, 0, 0, 0), (0, 0, 7, 7), (0, 0, 1, 1), (0, 0, 1, 1)], [], [([(0, 0, (-1), (-1))], [], [])], [])
theorem kX10_passRefusal_58 {SP : CT} (hSP : MONO SP) {sh : List (Nat × Nat)} : SMOK gE gRL sh (CLd SP 1) sX10_passRefusal_58 :=
  chkS hSP [] 37 []
  []
  (by decide +kernel) (fun s h => absurd h List.not_mem_nil)
noncomputable def sX10_passRefusal_59 : SM := (mX10_passRefusal, [(2, 0, 0, 0), (0, 0, 8, 9), (0, 0, 1, 1), (0, 0, 1, 1)], [], [([(0, 0, (-1), (-1))], [], [])], [])
theorem kX10_passRefusal_59 {SP : CT} (hSP : MONO SP) {sh : List (Nat × Nat)} : SMOK gE gRL sh (CLd SP 1) sX10_passRefusal_59 :=
  chkS hSP [] 10 []
  []
  (by decide +kernel) (fun s h => absurd h List.not_mem_nil)
noncomputable def sX10_passRefusal_60 : SM := (jn 0 1 0 0 9 [(2, 0, 0, 0), (0, 0, 0, 9), (0, 0, 1, 1), (0, 0, 1, 1)] sX10_passRefusal_51 (jn 0 1 1 1 9 [(2, 0, 0, 0), (0, 0, 1, 9), (0, 0, 1, 1), (0, 0, 1, 1)] sX10_passRefusal_52 (jn 0 1 2 2 9 [(2, 0, 0, 0), (0, 0, 2, 9), (0, 0, 1, 1), (0, 0, 1, 1)] sX10_passRefusal_53 (jn 0 1 3 3 9 [(2, 0, 0, 0), (0, 0, 3, 9), (0, 0, 1, 1), (0, 0, 1, 1)] sX10_passRefusal_54 (jn 0 1 4 4 9 [(2, 0, 0, 0), (0, 0, 4, 9), (0, 0, 1, 1), (0, 0, 1, 1)] sX10_passRefusal_55 (jn 0 1 5 5 9 [(2, 0, 0, 0), (0, 0, 5, 9), (0, 0, 1, 1), (0, 0, 1, 1)] sX10_passRefusal_56 (jn 0 1 6 6 9 [(2, 0, 0, 0), (0, 0, 6, 9), (0, 0, 1, 1), (0, 0, 1, 1)] sX10_passRefusal_57 (jn 0 1 7 7 9 [(2, 0, 0, 0), (0, 0, 7, 9), (0, 0, 1, 1), (0, 0, 1, 1)] sX10_passRefusal_58 sX10_passRefusal_59))))))))
theorem kX10_passRefusal_60 {SP : CT} (hSP : MONO SP) {sh : List (Nat × Nat)} : SMOK gE gRL sh (CLd SP 1) sX10_passRefusal_60 :=
  SMOK_jn (MONO_CLd hSP 1) 0 (by decide) 1 0 0 9 (as := [(2, 0, 0, 0), (0, 0, 0, 9), (0, 0, 1, 1), (0, 0, 1, 1)]) rfl rfl rfl rfl rfl rfl rfl (SMOK_le (Nat.le_of_ble_eq_true rfl : 1 ≤ 1) (kX10_passRefusal_51 hSP)) (SMOK_jn (MONO_CLd hSP 1) 0 (by decide) 1 1 1 9 (as := [(2, 0, 0, 0), (0, 0, 1, 9), (0, 0, 1, 1), (0, 0, 1, 1)]) rfl rfl rfl rfl rfl rfl rfl (SMOK_le (Nat.le_of_ble_eq_true rfl : 1 ≤ 1) (kX10_passRefusal_52 hSP)) (SMOK_jn (MONO_CLd hSP 1) 0 (by decide) 1 2 2 9 (as := [(2, 0, 0, 0), (0, 0, 2, 9), (0, 0, 1, 1), (0, 0, 1, 1)]) rfl rfl rfl rfl rfl rfl rfl (SMOK_le (Nat.le_of_ble_eq_true rfl : 1 ≤ 1) (kX10_passRefusal_53 hSP)) (SMOK_jn (MONO_CLd hSP 1) 0 (by decide) 1 3 3 9 (as := [(2, 0, 0, 0), (0, 0, 3, 9), (0, 0, 1, 1), (0, 0, 1, 1)]) rfl rfl rfl rfl rfl rfl rfl (SMOK_le (Nat.le_of_ble_eq_true rfl : 1 ≤ 1) (kX10_passRefusal_54 hSP)) (SMOK_jn (MONO_CLd hSP 1) 0 (by decide) 1 4 4 9 (as := [(2, 0, 0, 0), (0, 0, 4, 9), (0, 0, 1, 1), (0, 0, 1, 1)]) rfl rfl rfl rfl rfl rfl rfl (SMOK_le (Nat.le_of_ble_eq_true rfl : 1 ≤ 1) (kX10_passRefusal_55 hSP)) (SMOK_jn (MONO_CLd hSP 1) 0 (by decide) 1 5 5 9 (as := [(2, 0, 0, 0), (0, 0, 5, 9), (0, 0, 1, 1), (0, 0, 1, 1)]) rfl rfl rfl rfl rfl rfl rfl (SMOK_le (Nat.le_of_ble_eq_true rfl : 1 ≤ 1) (kX10_passRefusal_56 hSP)) (SMOK_jn (MONO_CLd hSP 1) 0 (by decide) 1 6 6 9 (as := [(2, 0, 0, 0), (0, 0, 6, 9), (0, 0, 1, 1), (0, 0, 1, 1)]) rfl rfl rfl rfl rfl rfl rfl (SMOK_le (Nat.le_of_ble_eq_true rfl : 1 ≤ 1) (kX10_passRefusal_57 hSP)) (SMOK_jn (MONO_CLd hSP 1) 0 (by decide) 1 7 7 9 (as := [(2, 0, 0, 0), (0, 0, 7, 9), (0, 0, 1, 1), (0, 0, 1, 1)]) rfl rfl rfl rfl rfl rfl rfl (SMOK_le (Nat.le_of_ble_eq_true rfl : 1 ≤ 1) (kX10_passRefusal_58 hSP)) (SMOK_le (Nat.le_of_ble_eq_true rfl : 1 ≤ 1) (kX10_passRefusal_59 hSP)))))))))
noncomputable def sX10_moveFood_14 : SM := (mX10_moveFood, [(2, 0, 0, 0), (0, 0, 6, 6), (0, 0, 1, 1), (0, 0, 1, 1)], [], [([], [(20, 6, (-2147483648), 2147483647), (20, 7, (-2147483648), 2147483647)], [])], [(0, 20, 6, 7)])
theorem kX10_moveFood_14 {SP : CT} (hSP : MONO SP) {sh : List (Nat × Nat)} : SMOK gE gRL sh (CLd SP 1) sX10_moveFood_14 :=
  chkS hSP [] 29 []
  []
  (by decide +kernel) (fun s h => absurd h List.not_mem_nil)
noncomputable def sX10_moveFood_15 : SM := (mX10_moveFood, [(2, 0, 0, 0), (0, 0, 5, 5), (0, 0, 1, 1), (0, 0, 1, 1)], [], [([], [(20, 5, (-2147483648), 2147483647), (20, 6, (-2147483648), 2147483647)], [])], [(0, 20, 5, 6)])
theorem kX10_moveFood_15 {SP : CT} (hSP : MONO SP) {sh : List (Nat × Nat)} : SMOK gE gRL sh (CLd SP 1) sX10_moveFood_15 :=
  chkS hSP [] 29 []
  []
  (by decide +kernel) (fun s h => absurd h List.not_mem_nil)
noncomputable def sX10_moveFood_16 : SM := (mX10_moveFood, [(2, 0, 0, 0), (0, 0, 4, 4), (0, 0, 1, 1), (0, 0, 1, 1)], [], [([], [(20, 4, (-2147483648), 2147483647), (20, 5, (-2147483648), 2147483647)], [])], [(0, 20, 4, 5)])
theorem kX10_moveFood_16 {SP : CT} (hSP : MONO SP) {sh : List (Nat × Nat)} : SMOK gE gRL sh (CLd SP 1) sX10_moveFood_16 :=
  chkS hSP [] 29 []
  []
  (by decide +kernel) (fun s h => absurd h List.not_mem_nil)
noncomputable def sX10_moveFood_17 : SM := (mX10_moveFood, [(2, 0, 0, 0), (0, 0, 3, 3), (0, 0, 1, 1), (0, 0, 1, 1)], [], [([], [(20, 3, (-2147483648), 2147483647), (20, 4, (-2147483648), 2147483647)], [])], [(0, 20, 3, 4)])
theorem kX10_moveFood_17 {SP : CT} (hSP : MONO SP) {sh : List (Nat × Nat)} : SMOK gE gRL sh (CLd SP 1) sX10_moveFood_17 :=
  chkS hSP [] 29 []
  []
  (by decide +kernel) (fun s h => absurd h List.not_mem_nil)
noncomputable def sX10_moveFood_18 : SM := (mX10_moveFood, [(2, 0, 0, 0), (0, 0, 2, 2), (0, 0, 1, 1), (0, 0, 1, 1)], [], [([], [(20, 2, (-2147483648), 2147483647), (20, 3, (-2147483648), 2147483647)], [])], [(0, 20, 2, 3)])
theorem kX10_moveFood_18 {SP : CT} (hSP : MONO SP) {sh : List (Nat × Nat)} : SMOK gE gRL sh (CLd SP 1) sX10_moveFood_18 :=
  chkS hSP [] 29 []
  []
  (by decide +kernel) (fun s h => absurd h List.not_mem_nil)
noncomputable def sX10_moveFood_19 : SM := (mX10_moveFood, [(2, 0, 0, 0), (0, 0, 1, 1), (0, 0, 1, 1), (0, 0, 1, 1)], [], [([], [(20, 1, (-2147483648), 2147483647), (20, 2, (-2147483648), 2147483647)], [])], [(0, 20, 1, 2)])
theorem kX10_moveFood_19 {SP : CT} (hSP : MONO SP) {sh : List (Nat × Nat)} : SMOK gE gRL sh (CLd SP 1) sX10_moveFood_19 :=
  chkS hSP [] 29 []
  []
  (by decide +kernel) (fun s h => absurd h List.not_mem_nil)
noncomputable def sX10_moveFood_20 : SM := (mX10_moveFood, [(2, 0, 0, 0), (0, 0, 0, 0), (0, 0, 1, 1), (0, 0, 1, 1)], [], [([], [(20, 0, (-2147483648), 2147483647), (20, 1, (-2147483648), 2147483647)], [])], [(0, 20, 0, 1)])
theorem kX10_moveFood_20 {SP : CT} (hSP : MONO SP) {sh : List (Nat × Nat)} : SMOK gE gRL sh (CLd SP 1) sX10_moveFood_20 :=
  chkS hSP [] 29 []
  []
  (by decide +kernel) (fun s h => absurd h List.not_mem_nil)
noncomputable def sX10_passRefusal_61 : SM := (mX10_passRefusal, [(2, 0, 0, 0), (0, 0, (-1), (-1)), (0, 0, 1, 1), (0, 0, 1, 1)], [], [([(0, 0, (-1), (-1))], [], [])], [])
theorem kX10_passRefusal_61 {SP : CT} (hSP : MONO SP) {sh : List (Nat × Nat)} : SMOK gE gRL sh (CLd SP 1) sX10_passRefusal_61 :=
  chkS hSP [] 6 []
  []
  (by decide +kernel) (fun s h => absurd h List.not_mem_nil)
noncomputable def sX8_copyFrom_2 : SM := (mX8_copyFrom, [(2, 31, 0, 0), (2, 22, 0, 0)], [], [([], [], [])], [(0, 31, 0, 4), (0, 32, 0, 11), (0, 33, 0, 11), (0, 34, 0, 7), (0, 35, 0, 7)])
theorem kX8_copyFrom_2 {SP : CT} (hSP : MONO SP) {sh : List (Nat × Nat)} : SMOK gE gRL sh (CLd SP 1) sX8_copyFrom_2 :=
  chkS hSP [] 55 []
  []
  (by decide +kernel) (fun s h => absurd h List.not_mem_nil)
noncomputable def sX1_remember_1 : SM := (mX1_remember, [(2, 27, 0, 0), (2, 22, 0, 0)], [], [([], [(27, 2, 1, 15)], []), ([], [(27, 1, 0, 14), (27, 2, 15, 15)], [])], [(0, 27, 1, 2), (0, 31, 0, 4), (0, 32, 0, 11), (0, 33, 0, 11), (0, 34, 0, 7), (0, 35, 0, 7)])
theorem kX1_remember_1 {SP : CT} (hSP : MONO SP) {sh : List (Nat × Nat)} : SMOK gE gRL sh (CLd SP 2) sX1_remember_1 :=
  chkS hSP [sX8_copyFrom_2] 35 []
  []
  (by decide +kernel) (List.forall_mem_cons.mpr ⟨SMOK_le (Nat.le_of_ble_eq_true rfl : 1 ≤ 1) (kX8_copyFrom_2 hSP), fun s h => absurd h List.not_mem_nil⟩)
noncomputable def sX8_copyFrom_3 : SM := (mX8_copyFrom, [(2, 17, 0, 0), (2, 31, 0, 0)], [], [([], [(17, 0, (-2147483648), 2147483647), (17, 1, 0, 8), (17, 2, (-2147483648), 2147483647), (17, 3, (-2147483648), 2147483647), (17, 4, 0, 12)], [])], [(0, 17, 0, 4), (0, 18, 0, 11), (0, 19, 0, 11), (0, 20, 0, 7), (0, 21, 0, 7)])
theorem kX8_copyFrom_3 {SP : CT} (hSP : MONO SP) {sh : List (Nat × Nat)} : SMOK gE gRL sh (CLd SP 1) sX8_copyFrom_3 :=
  chkS hSP [] 55 []
  []
  (by decide +kernel) (fun s h => absurd h List.not_mem_nil)
noncomputable def sX1_bringBack_0 : SM := (mX1_bringBack, [(2, 27, 0, 0), (2, 17, 0, 0)], [], [([(0, 0, 0, 0)], [(27, 2, 0, 0)], []), ([(0, 0, 1, 1)], [(17, 0, (-2147483648), 2147483647), (17, 1, 0, 8), (17, 2, (-2147483648), 2147483647), (17, 3, (-2147483648), 2147483647), (17, 4, 0, 12), (27, 2, 0, 14)], [])], [(0, 17, 0, 4), (0, 18, 0, 11), (0, 19, 0, 11), (0, 20, 0, 7), (0, 21, 0, 7), (0, 27, 2, 2)])
theorem kX1_bringBack_0 {SP : CT} (hSP : MONO SP) {sh : List (Nat × Nat)} : SMOK gE gRL sh (CLd SP 2) sX1_bringBack_0 :=
  chkS hSP [sX8_copyFrom_3] 27 []
  []
  (by decide +kernel) (List.forall_mem_cons.mpr ⟨SMOK_le (Nat.le_of_ble_eq_true rfl : 1 ≤ 1) (kX8_copyFrom_3 hSP), fun s h => absurd h List.not_mem_nil⟩)
noncomputable def sX10_undo_0 : SM := (mX10_undo, [(2, 0, 0, 0)], [], [([(0, 0, 0, 14)], [(17, 0, (-2147483648), 2147483647), (17, 1, 0, 8), (17, 2, (-2147483648), 2147483647), (17, 3, (-2147483648), 2147483647), (17, 4, 0, 12), (27, 2, 0, 14)], []), ([(0, 0, (-1), (-1))], [(27, 2, 0, 0)], [])], [(0, 17, 0, 4), (0, 18, 0, 11), (0, 19, 0, 11), (0, 20, 0, 7), (0, 21, 0, 7), (0, 27, 2, 2)])
theorem kX10_undo_0 {SP : CT} (hSP : MONO SP) {sh : List (Nat × Nat)} : SMOK gE gRL sh (CLd SP 3) sX10_undo_0 :=
  chkS hSP [sX1_bringBack_0] 16 []
  []
  (by decide +kernel) (List.forall_mem_cons.mpr ⟨SMOK_le (Nat.le_of_ble_eq_true rfl : 2 ≤ 2) (kX1_bringBack_0 hSP), fun s h => absurd h List.not_mem_nil⟩)
noncomputable def sX8_laneIn_0 : SM := (mX8_laneIn, [(2, 17, 0, 0), (0, 0, (-2147483648), 2147483647)], [], [([(0, 0, 0, 8)], [], [])], [])
theorem kX8_laneIn_0 {SP : CT} (hSP : MONO SP) {sh : List (Nat × Nat)} : SMOK gE gRL sh (CLd SP 3) sX8_laneIn_0 :=
  chkS hSP [sX10_keepOnSea_0] 29 [(false, 0)]
  [((7, [(0, (2, 17, 0, 0)), (1, (0, 0, (-2147483648), 2147483647)), (2, (0, 0, 0, 8)), (3, (0, 0, 0, 0))], [], [], [(0, 13, 0)]), [(false, 1)]), ((7, [(0, (2, 17, 0, 0)), (1, (0, 0, (-2147483648), 2147483647)), (2, (0, 0, 0, 8)), (3, (0, 0, 1, 1))], [], [(17, 4, 1, 12)], [(0, 12, 0)]), [(false, 1)]), ((7, [(0, (2, 17, 0, 0)), (1, (0, 0, (-2147483648), 2147483647)), (2, (0, 0, 0, 8)), (3, (0, 0, 2, 2))], [], [(17, 4, 2, 12)], [(0, 11, 0)]), [(false, 1)]), ((7, [(0, (2, 17, 0, 0)), (1, (0, 0, (-2147483648), 2147483647)), (2, (0, 0, 0, 8)), (3, (0, 0, 3, 3))], [], [(17, 4, 3, 12)], [(0, 10, 0)]), [(false, 1)]), ((7, [(0, (2, 17, 0, 0)), (1, (0, 0, (-2147483648), 2147483647)), (2, (0, 0, 0, 8)), (3, (0, 0, 4, 4))], [], [(17, 4, 4, 12)], [(0, 9, 0)]), [(false, 1)]), ((7, [(0, (2, 17, 0, 0)), (1, (0, 0, (-2147483648), 2147483647)), (2, (0, 0, 0, 8)), (3, (0, 0, 5, 5))], [], [(17, 4, 5, 12)], [(0, 8, 0)]), [(false, 1)]), ((7, [(0, (2, 17, 0, 0)), (1, (0, 0, (-2147483648), 2147483647)), (2, (0, 0, 0, 8)), (3, (0, 0, 6, 6))], [], [(17, 4, 6, 12)], [(0, 7, 0)]), [(false, 1)]), ((7, [(0, (2, 17, 0, 0)), (1, (0, 0, (-2147483648), 2147483647)), (2, (0, 0, 0, 8)), (3, (0, 0, 7, 7))], [], [(17, 4, 7, 12)], [(0, 6, 0)]), [(false, 1)]), ((7, [(0, (2, 17, 0, 0)), (1, (0, 0, (-2147483648), 2147483647)), (2, (0, 0, 0, 8)), (3, (0, 0, 8, 8))], [], [(17, 4, 8, 12)], [(0, 5, 0)]), [(false, 1)]), ((7, [(0, (2, 17, 0, 0)), (1, (0, 0, (-2147483648), 2147483647)), (2, (0, 0, 0, 8)), (3, (0, 0, 9, 9))], [], [(17, 4, 9, 12)], [(0, 4, 0)]), [(false, 1)]), ((7, [(0, (2, 17, 0, 0)), (1, (0, 0, (-2147483648), 2147483647)), (2, (0, 0, 0, 8)), (3, (0, 0, 10, 10))], [], [(17, 4, 10, 12)], [(0, 3, 0)]), [(false, 1)]), ((7, [(0, (2, 17, 0, 0)), (1, (0, 0, (-2147483648), 2147483647)), (2, (0, 0, 0, 8)), (3, (0, 0, 11, 11))], [], [(17, 4, 11, 12)], [(0, 2, 0)]), [(false, 1)]), ((7, [(0, (2, 17, 0, 0)), (1, (0, 0, (-2147483648), 2147483647)), (2, (0, 0, 0, 8)), (3, (0, 0, 12, 12))], [], [(17, 4, 12, 12)], [(0, 1, 0)]), [])]
  (by decide +kernel) (List.forall_mem_cons.mpr ⟨SMOK_le (Nat.le_of_ble_eq_true rfl : 2 ≤ 2) (kX10_keepOnSea_0 hSP), fun s h => absurd h List.not_mem_nil⟩)
noncomputable def sX3_tellOne_0 : SM := (mX3_tellOne, [(2, 3, 0, 0), (1, 0, (-9223372036854775808), 9223372036854775807)], [], [([], [(3, 1, 30, 30)], []), ([], [(3, 1, 1, 30)], [])], [(0, 3, 1, 1), (1, 4, 0, 29)])
theorem kX3_tellOne_0 {SP : CT} (hSP : MONO SP) {sh : List (Nat × Nat)} : SMOK gE gRL sh (CLd SP 2) sX3_tellOne_0 :=
  chkS hSP [sX3_add_0, sX3_clear_0] 9 []
  []
  (by decide +kernel) (List.forall_mem_cons.mpr ⟨SMOK_le (Nat.le_of_ble_eq_true rfl : 1 ≤ 1) (kX3_add_0 hSP), List.forall_mem_cons.mpr ⟨SMOK_le (Nat.le_of_ble_eq_true rfl : 1 ≤ 1) (kX3_clear_0 hSP), fun s h => absurd h List.not_mem_nil⟩⟩)
noncomputable def sX10_lane_0 : SM := (mX10_lane, [(2, 0, 0, 0), (0, 0, (-2147483648), 2147483647)], [], [([(0, 0, 0, 8)], [(3, 1, 1, 30)], []), ([(0, 0, 0, 8)], [(3, 1, 30, 30)], []), ([(0, 0, (-1), (-1))], [], [])], [(0, 3, 1, 1), (1, 4, 0, 29)])
theorem kX10_lane_0 {SP : CT} (hSP : MONO SP) {sh : List (Nat × Nat)} : SMOK gE gRL sh (CLd SP 4) sX10_lane_0 :=
  chkS hSP [sX3_tellOne_0, sX8_laneIn_0] 57 [(false, 0)]
  [((16, [(0, (2, 0, 0, 0)), (1, (0, 0, 0, 60)), (2, (0, 0, (-2147483648), 2147483647)), (3, (0, 0, 0, 16))], [], [(13, 0, 0, 16)], [(0, 1, 0), (1, 3, 16), (0, 1, 0)]), [(false, 0)])]
  (by decide +kernel) (List.forall_mem_cons.mpr ⟨SMOK_le (Nat.le_of_ble_eq_true rfl : 2 ≤ 3) (kX3_tellOne_0 hSP), List.forall_mem_cons.mpr ⟨SMOK_le (Nat.le_of_ble_eq_true rfl : 3 ≤ 3) (kX8_laneIn_0 hSP), fun s h => absurd h List.not_mem_nil⟩⟩)
noncomputable def sX10_strikes_0 : SM := (mX10_strikes, [(2, 0, 0, 0)], [], [([(0, 0, (-2), (-2))], [], []), ([(0, 0, 1, 1000)], [(3, 1, 1, 30)], []), ([(0, 0, 1, 1000)], [(3, 1, 30, 30)], [])], [(0, 3, 1, 1), (1, 4, 0, 29)])
theorem kX10_strikes_0 {SP : CT} (hSP : MONO SP) {sh : List (Nat × Nat)} : SMOK gE gRL sh (CLd SP 4) sX10_strikes_0 :=
  chkS hSP [sX3_tellOne_0, sX8_laneIn_0] 59 [(false, 0)]
  [((8, [(0, (2, 0, 0, 0)), (1, (0, 0, 1, 1000)), (2, (0, 0, (-1), 15)), (3, (0, 0, 0, 16))], [], [(13, 0, 0, 16)], [(0, 1, 0), (1, 3, 16), (0, 1, 0)]), [(false, 0)])]
  (by decide +kernel) (List.forall_mem_cons.mpr ⟨SMOK_le (Nat.le_of_ble_eq_true rfl : 2 ≤ 3) (kX3_tellOne_0 hSP), List.forall_mem_cons.mpr ⟨SMOK_le (Nat.le_of_ble_eq_true rfl : 3 ≤ 3) (kX8_laneIn_0 hSP), fun s h => absurd h List.not_mem_nil⟩⟩)
noncomputable def sJ7_fill_53178_0 : SM := (mJ7_fill_53178, [(2, 43, 0, 0), (0, 0, 0, 0)], [], [([], [(43, 0, 0, 0), (43, 1, 0, 0), (43, 2, 0, 0), (43, 3, 0, 0), (43, 4, 0, 0), (43, 5, 0, 0), (43, 6, 0, 0), (43, 7, 0, 0), (43, 8, 0, 0), (43, 9, 0, 0), (43, 10, 0, 0), (43, 11, 0, 0), (43, 12, 0, 0), (43, 13, 0, 0), (43, 14, 0, 0), (43, 15, 0, 0), (43, 16, 0, 0), (43, 17, 0, 0), (43, 18, 0, 0), (43, 19, 0, 0), (43, 20, 0, 0), (43, 21, 0, 0), (43, 22, 0, 0), (43, 23, 0, 0), (43, 24, 0, 0), (43, 25, 0, 0), (43, 26, 0, 0), (43, 27, 0, 0), (43, 28, 0, 0), (43, 29, 0, 0), (43, 30, 0, 0)], [])], [(0, 43, 0, 30)])
theorem kJ7_fill_53178_0 {SP : CT} (hSP : MONO SP) {sh : List (Nat × Nat)} : SMOK gE gRL sh (CLd SP 1) sJ7_fill_53178_0 :=
  chkS hSP [] 11 [(false, 0)]
  [((5, [(0, (2, 43, 0, 0)), (1, (0, 0, 0, 0)), (2, (0, 0, 0, 0)), (3, (0, 0, 31, 31))], [], [], [(0, 32, 0)]), [(false, 1)]), ((5, [(0, (2, 43, 0, 0)), (1, (0, 0, 0, 0)), (2, (0, 0, 1, 1)), (3, (0, 0, 31, 31))], [], [(43, 0, 0, 0)], [(0, 31, 0)]), [(false, 1)]), ((5, [(0, (2, 43, 0, 0)), (1, (0, 0, 0, 0)), (2, (0, 0, 2, 2)), (3, (0, 0, 31, 31))], [], [(43, 0, 0, 0), (43, 1, 0, 0)], [(0, 30, 0)]), [(false, 1)]), ((5, [(0, (2, 43, 0, 0)), (1, (0, 0, 0, 0)), (2, (0, 0, 3, 3)), (3, (0, 0, 31, 31))], [], [(43, 0, 0, 0), (43, 1, 0, 0), (43, 2, 0, 0)], [(0, 29, 0)]), [(false, 1)]), ((5, [(0, (2, 43, 0, 0)), (1, (0, 0, 0, 0)), (2, (0, 0, 4, 4)), (3, (0, 0, 31, 31))], [], [(43, 0, 0, 0), (43, 1, 0, 0), (43, 2, 0, 0), (43, 3, 0, 0)], [(0, 28, 0)]), [(false, 1)]), ((5, [(0, (2, 43, 0, 0)), (1, (0, 0, 0, 0)), (2, (0, 0, 5, 5)), (3, (0, 0, 31, 31))], [], [(43, 0, 0, 0), (43, 1, 0, 0), (43, 2, 0, 0), (43, 3, 0, 0), (43, 4, 0, 0)], [(0, 27, 0)]), [(false, 1)]), ((5, [(0, (2, 43, 0, 0)), (1, (0, 0, 0, 0)), (2, (0, 0, 6, 6)), (3, (0, 0, 31, 31))], [], [(43, 0, 0, 0), (43, 1, 0, 0), (43, 2, 0, 0), (43, 3, 0, 0), (43, 4, 0, 0), (43, 5, 0, 0)], [(0, 26, 0)]), [(false, 1)]), ((5, [(0, (2, 43, 0, 0)), (1, (0, 0, 0, 0)), (2, (0, 0, 7, 7)), (3, (0, 0, 31, 31))], [], [(43, 0, 0, 0), (43, 1, 0, 0), (43, 2, 0, 0), (43, 3, 0, 0), (43, 4, 0, 0), (43, 5, 0, 0), (43, 6, 0, 0)], [(0, 25, 0)]), [(false, 1)]), ((5, [(0, (2, 43, 0, 0)), (1, (0, 0, 0, 0)), (2, (0, 0, 8, 8)), (3, (0, 0, 31, 31))], [], [(43, 0, 0, 0), (43, 1, 0, 0), (43, 2, 0, 0), (43, 3, 0, 0), (43, 4, 0, 0), (43, 5, 0, 0), (43, 6, 0, 0), (43, 7, 0, 0)], [(0, 24, 0)]), [(false, 1)]), ((5, [(0, (2, 43, 0, 0)), (1, (0, 0, 0, 0)), (2, (0, 0, 9, 9)), (3, (0, 0, 31, 31))], [], [(43, 0, 0, 0), (43, 1, 0, 0), (43, 2, 0, 0), (43, 3, 0, 0), (43, 4, 0, 0), (43, 5, 0, 0), (43, 6, 0, 0), (43, 7, 0, 0), (43, 8, 0, 0)], [(0, 23, 0)]), [(false, 1)]), ((5, [(0, (2, 43, 0, 0)), (1, (0, 0, 0, 0)), (2, (0, 0, 10, 10)), (3, (0, 0, 31, 31))], [], [(43, 0, 0, 0), (43, 1, 0, 0), (43, 2, 0, 0), (43, 3, 0, 0), (43, 4, 0, 0), (43, 5, 0, 0), (43, 6, 0, 0), (43, 7, 0, 0), (43, 8, 0, 0), (43, 9, 0, 0)], [(0, 22, 0)]), [(false, 1)]), ((5, [(0, (2, 43, 0, 0)), (1, (0, 0, 0, 0)), (2, (0, 0, 11, 11)), (3, (0, 0, 31, 31))], [], [(43, 0, 0, 0), (43, 1, 0, 0), (43, 2, 0, 0), (43, 3, 0, 0), (43, 4, 0, 0), (43, 5, 0, 0), (43, 6, 0, 0), (43, 7, 0, 0), (43, 8, 0, 0), (43, 9, 0, 0), (43, 10, 0, 0)], [(0, 21, 0)]), [(false, 1)]), ((5, [(0, (2, 43, 0, 0)), (1, (0, 0, 0, 0)), (2, (0, 0, 12, 12)), (3, (0, 0, 31, 31))], [], [(43, 0, 0, 0), (43, 1, 0, 0), (43, 2, 0, 0), (43, 3, 0, 0), (43, 4, 0, 0), (43, 5, 0, 0), (43, 6, 0, 0), (43, 7, 0, 0), (43, 8, 0, 0), (43, 9, 0, 0), (43, 10, 0, 0), (43, 11, 0, 0)], [(0, 20, 0)]), [(false, 1)]), ((5, [(0, (2, 43, 0, 0)), (1, (0, 0, 0, 0)), (2, (0, 0, 13, 13)), (3, (0, 0, 31, 31))], [], [(43, 0, 0, 0), (43, 1, 0, 0), (43, 2, 0, 0), (43, 3, 0, 0), (43, 4, 0, 0), (43, 5, 0, 0), (43, 6, 0, 0), (43, 7, 0, 0), (43, 8, 0, 0), (43, 9, 0, 0), (43, 10, 0, 0), (43, 11, 0, 0), (43, 12, 0, 0)], [(0, 19, 0)]), [(false, 1)]), ((5, [(0, (2, 43, 0, 0)), (1, (0, 0, 0, 0)), (2, (0, 0, 14, 14)), (3, (0, 0, 31, 31))], [], [(43, 0, 0, 0), (43, 1, 0, 0), (43, 2, 0, 0), (43, 3, 0, 0), (43, 4, 0, 0), (43, 5, 0, 0), (43, 6, 0, 0), (43, 7, 0, 0), (43, 8, 0, 0), (43, 9, 0, 0), (43, 10, 0, 0), (43, 11, 0, 0), (43, 12, 0, 0), (43, 13, 0, 0)], [(0, 18, 0)]), [(false, 1)]), ((5, [(0, (2, 43, 0, 0)), (1, (0, 0, 0, 0)), (2, (0, 0, 15, 15)), (3, (0, 0, 31, 31))], [], [(43, 0, 0, 0), (43, 1, 0, 0), (43, 2, 0, 0), (43, 3, 0, 0), (43, 4, 0, 0), (43, 5, 0, 0), (43, 6, 0, 0), (43, 7, 0, 0), (43, 8, 0, 0), (43, 9, 0, 0), (43, 10, 0, 0), (43, 11, 0, 0), (43, 12, 0, 0), (43, 13, 0, 0), (43, 14, 0, 0)], [(0, 17, 0)]), [(false, 1)]), ((5, [(0, (2, 43, 0, 0)), (1, (0, 0, 0, 0)), (2, (0, 0, 16, 16)), (3, (0, 0, 31, 31))], [], [(43, 0, 0, 0), (43, 1, 0, 0), (43, 2, 0, 0), (43, 3, 0, 0), (43, 4, 0, 0), (43, 5, 0, 0), (43, 6, 0, 0), (43, 7, 0, 0), (43, 8, 0, 0), (43, 9, 0, 0), (43, 10, 0, 0), (43, 11, 0, 0), (43, 12, 0, 0), (43, 13, 0, 0), (43, 14, 0, 0), (43, 15, 0, 0)], [(0, 16, 0)]), [(false, 1)]), ((5, [(0, (2, 43, 0, 0)), (1, (0, 0, 0, 0)), (2, (0, 0, 17, 17)), (3, (0, 0, 31, 31))], [], [(43, 0, 0, 0), (43, 1, 0, 0), (43, 2, 0, 0), (43, 3, 0, 0), (43, 4, 0, 0), (43, 5, 0, 0), (43, 6, 0, 0), (43, 7, 0, 0), (43, 8, 0, 0), (43, 9, 0, 0), (43, 10, 0, 0), (43, 11, 0, 0), (43, 12, 0, 0), (43, 13, 0, 0), (43, 14, 0, 0), (43, 15, 0, 0), (43, 16, 0, 0)], [(0, 15, 0)]), [(false, 1)]), ((5, [(0, (2, 43, 0, 0)), (1, (0, 0, 0, 0)), (2, (0, 0, 18, 18)), (3, (0, 0, 31, 31))], [], [(43, 0, 0, 0), (43, 1, 0, 0), (43, 2, 0, 0), (43, 3, 0, 0), (43, 4, 0, 0), (43, 5, 0, 0), (43, 6, 0, 0), (43, 7, 0, 0), (43, 8, 0, 0), (43, 9, 0, 0), (43, 10, 0, 0), (43, 11, 0, 0), (43, 12, 0, 0), (43, 13, 0, 0), (43, 14, 0, 0), (43, 15, 0, 0), (43, 16, 0, 0), (43, 17, 0, 0)], [(0, 14, 0)]), [(false, 1)]), ((5, [(0, (2, 43, 0, 0)), (1, (0, 0, 0, 0)), (2, (0, 0, 19, 19)), (3, (0, 0, 31, 31))], [], [(43, 0, 0, 0), (43, 1, 0, 0), (43, 2, 0, 0), (43, 3, 0, 0), (43, 4, 0, 0), (43, 5, 0, 0), (43, 6, 0, 0), (43, 7, 0, 0), (43, 8, 0, 0), (43, 9, 0, 0), (43, 10, 0, 0), (43, 11, 0, 0), (43, 12, 0, 0), (43, 13, 0, 0), (43, 14, 0, 0), (43, 15, 0, 0), (43, 16, 0, 0), (43, 17, 0, 0), (43, 18, 0, 0)], [(0, 13, 0)]), [(false, 1)]), ((5, [(0, (2, 43, 0, 0)), (1, (0, 0, 0, 0)), (2, (0, 0, 20, 20)), (3, (0, 0, 31, 31))], [], [(43, 0, 0, 0), (43, 1, 0, 0), (43, 2, 0, 0), (43, 3, 0, 0), (43, 4, 0, 0), (43, 5, 0, 0), (43, 6, 0, 0), (43, 7, 0, 0), (43, 8, 0, 0), (43, 9, 0, 0), (43, 10, 0, 0), (43, 11, 0, 0), (43, 12, 0, 0), (43, 13, 0, 0), (43, 14, 0, 0), (43, 15, 0, 0), (43, 16, 0, 0), (43, 17, 0, 0), (43, 18, 0, 0), (43, 19, 0, 0)], [(0, 12, 0)]), [(false, 1)]), ((5, [(0, (2, 43, 0, 0)), (1, (0, 0, 0, 0)), (2, (0, 0, 21, 21)), (3, (0, 0, 31, 31))], [], [(43, 0, 0, 0), (43, 1, 0, 0), (43, 2, 0, 0), (43, 3, 0, 0), (43, 4, 0, 0), (43, 5, 0, 0), (43, 6, 0, 0), (43, 7, 0, 0), (43, 8, 0, 0), (43, 9, 0, 0), (43, 10, 0, 0), (43, 11, 0, 0), (43, 12, 0, 0), (43, 13, 0, 0), (43, 14, 0, 0), (43, 15, 0, 0), (43, 16, 0, 0), (43, 17, 0, 0), (43, 18, 0, 0), (43, 19, 0, 0), (43, 20, 0, 0)], [(0, 11, 0)]), [(false, 1)]), ((5, [(0, (2, 43, 0, 0)), (1, (0, 0, 0, 0)), (2, (0, 0, 22, 22)), (3, (0, 0, 31, 31))], [], [(43, 0, 0, 0), (43, 1, 0, 0), (43, 2, 0, 0), (43, 3, 0, 0), (43, 4, 0, 0), (43, 5, 0, 0), (43, 6, 0, 0), (43, 7, 0, 0), (43, 8, 0, 0), (43, 9, 0, 0), (43, 10, 0, 0), (43, 11, 0, 0), (43, 12, 0, 0), (43, 13, 0, 0), (43, 14, 0, 0), (43, 15, 0, 0), (43, 16, 0, 0), (43, 17, 0, 0), (43, 18, 0, 0), (43, 19, 0, 0), (43, 20, 0, 0), (43, 21, 0, 0)], [(0, 10, 0)]), [(false, 1)]), ((5, [(0, (2, 43, 0, 0)), (1, (0, 0, 0, 0)), (2, (0, 0, 23, 23)), (3, (0, 0, 31, 31))], [], [(43, 0, 0, 0), (43, 1, 0, 0), (43, 2, 0, 0), (43, 3, 0, 0), (43, 4, 0, 0), (43, 5, 0, 0), (43, 6, 0, 0), (43, 7, 0, 0), (43, 8, 0, 0), (43, 9, 0, 0), (43, 10, 0, 0), (43, 11, 0, 0), (43, 12, 0, 0), (43, 13, 0, 0), (43, 14, 0, 0), (43, 15, 0, 0), (43, 16, 0, 0), (43, 17, 0, 0), (43, 18, 0, 0), (43, 19, 0, 0), (43, 20, 0, 0), (43, 21, 0, 0), (43, 22, 0, 0)], [(0, 9, 0)]), [(false, 1)]), ((5, [(0, (2, 43, 0, 0)), (1, (0, 0, 0, 0)), (2, (0, 0, 24, 24)), (3, (0, 0, 31, 31))], [], [(43, 0, 0, 0), (43, 1, 0, 0), (43, 2, 0, 0), (43, 3, 0, 0), (43, 4, 0, 0), (43, 5, 0, 0), (43, 6, 0, 0), (43, 7, 0, 0), (43, 8, 0, 0), (43, 9, 0, 0), (43, 10, 0, 0), (43, 11, 0, 0), (43, 12, 0, 0), (43, 13, 0, 0), (43, 14, 0, 0), (43, 15, 0, 0), (43, 16, 0, 0), (43, 17, 0, 0), (43, 18, 0, 0), (43, 19, 0, 0), (43, 20, 0, 0), (43, 21, 0, 0), (43, 22, 0, 0), (43, 23, 0, 0)], [(0, 8, 0)]), [(false, 1)]), ((5, [(0, (2, 43, 0, 0)), (1, (0, 0, 0, 0)), (2, (0, 0, 25, 25)), (3, (0, 0, 31, 31))], [], [(43, 0, 0, 0), (43, 1, 0, 0), (43, 2, 0, 0), (43, 3, 0, 0), (43, 4, 0, 0), (43, 5, 0, 0), (43, 6, 0, 0), (43, 7, 0, 0), (43, 8, 0, 0), (43, 9, 0, 0), (43, 10, 0, 0), (43, 11, 0, 0), (43, 12, 0, 0), (43, 13, 0, 0), (43, 14, 0, 0), (43, 15, 0, 0), (43, 16, 0, 0), (43, 17, 0, 0), (43, 18, 0, 0), (43, 19, 0, 0), (43, 20, 0, 0), (43, 21, 0, 0), (43, 22, 0, 0), (43, 23, 0, 0), (43, 24, 0, 0)], [(0, 7, 0)]), [(false, 1)]), ((5, [(0, (2, 43, 0, 0)), (1, (0, 0, 0, 0)), (2, (0, 0, 26, 26)), (3, (0, 0, 31, 31))], [], [(43, 0, 0, 0), (43, 1, 0, 0), (43, 2, 0, 0), (43, 3, 0, 0), (43, 4, 0, 0), (43, 5, 0, 0), (43, 6, 0, 0), (43, 7, 0, 0), (43, 8, 0, 0), (43, 9, 0, 0), (43, 10, 0, 0), (43, 11, 0, 0), (43, 12, 0, 0), (43, 13, 0, 0), (43, 14, 0, 0), (43, 15, 0, 0), (43, 16, 0, 0), (43, 17, 0, 0), (43, 18, 0, 0), (43, 19, 0, 0), (43, 20, 0, 0), (43, 21, 0, 0), (43, 22, 0, 0), (43, 23, 0, 0), (43, 24, 0, 0), (43, 25, 0, 0)], [(0, 6, 0)]), [(false, 1)]), ((5, [(0, (2, 43, 0, 0)), (1, (0, 0, 0, 0)), (2, (0, 0, 27, 27)), (3, (0, 0, 31, 31))], [], [(43, 0, 0, 0), (43, 1, 0, 0), (43, 2, 0, 0), (43, 3, 0, 0), (43, 4, 0, 0), (43, 5, 0, 0), (43, 6, 0, 0), (43, 7, 0, 0), (43, 8, 0, 0), (43, 9, 0, 0), (43, 10, 0, 0), (43, 11, 0, 0), (43, 12, 0, 0), (43, 13, 0, 0), (43, 14, 0, 0), (43, 15, 0, 0), (43, 16, 0, 0), (43, 17, 0, 0), (43, 18, 0, 0), (43, 19, 0, 0), (43, 20, 0, 0), (43, 21, 0, 0), (43, 22, 0, 0), (43, 23, 0, 0), (43, 24, 0, 0), (43, 25, 0, 0), (43, 26, 0, 0)], [(0, 5, 0)]), [(false, 1)]), ((5, [(0, (2, 43, 0, 0)), (1, (0, 0, 0, 0)), (2, (0, 0, 28, 28)), (3, (0, 0, 31, 31))], [], [(43, 0, 0, 0), (43, 1, 0, 0), (43, 2, 0, 0), (43, 3, 0, 0), (43, 4, 0, 0), (43, 5, 0, 0), (43, 6, 0, 0), (43, 7, 0, 0), (43, 8, 0, 0), (43, 9, 0, 0), (43, 10, 0, 0), (43, 11, 0, 0), (43, 12, 0, 0), (43, 13, 0, 0), (43, 14, 0, 0), (43, 15, 0, 0), (43, 16, 0, 0), (43, 17, 0, 0), (43, 18, 0, 0), (43, 19, 0, 0), (43, 20, 0, 0), (43, 21, 0, 0), (43, 22, 0, 0), (43, 23, 0, 0), (43, 24, 0, 0), (43, 25, 0, 0), (43, 26, 0, 0), (43, 27, 0, 0)], [(0, 4, 0)]), [(false, 1)]), ((5, [(0, (2, 43, 0, 0)), (1, (0, 0, 0, 0)), (2, (0, 0, 29, 29)), (3, (0, 0, 31, 31))], [], [(43, 0, 0, 0), (43, 1, 0, 0), (43, 2, 0, 0), (43, 3, 0, 0), (43, 4, 0, 0), (43, 5, 0, 0), (43, 6, 0, 0), (43, 7, 0, 0), (43, 8, 0, 0), (43, 9, 0, 0), (43, 10, 0, 0), (43, 11, 0, 0), (43, 12, 0, 0), (43, 13, 0, 0), (43, 14, 0, 0), (43, 15, 0, 0), (43, 16, 0, 0), (43, 17, 0, 0), (43, 18, 0, 0), (43, 19, 0, 0), (43, 20, 0, 0), (43, 21, 0, 0), (43, 22, 0, 0), (43, 23, 0, 0), (43, 24, 0, 0), (43, 25, 0, 0), (43, 26, 0, 0), (43, 27, 0, 0), (43, 28, 0, 0)], [(0, 3, 0)]), [(false, 1)]), ((5, [(0, (2, 43, 0, 0)), (1, (0, 0, 0, 0)), (2, (0, 0, 30, 30)), (3, (0, 0, 31, 31))], [], [(43, 0, 0, 0), (43, 1, 0, 0), (43, 2, 0, 0), (43, 3, 0, 0), (43, 4, 0, 0), (43, 5, 0, 0), (43, 6, 0, 0), (43, 7, 0, 0), (43, 8, 0, 0), (43, 9, 0, 0), (43, 10, 0, 0), (43, 11, 0, 0), (43, 12, 0, 0), (43, 13, 0, 0), (43, 14, 0, 0), (43, 15, 0, 0), (43, 16, 0, 0), (43, 17, 0, 0), (43, 18, 0, 0), (43, 19, 0, 0), (43, 20, 0, 0), (43, 21, 0, 0), (43, 22, 0, 0), (43, 23, 0, 0), (43, 24, 0, 0), (43, 25, 0, 0), (43, 26, 0, 0), (43, 27, 0, 0), (43, 28, 0, 0), (43, 29, 0, 0)], [(0, 2, 0)]), [(false, 1)]), ((5, [(0, (2, 43, 0, 0)), (1, (0, 0, 0, 0)), (2, (0, 0, 31, 31)), (3, (0, 0, 31, 31))], [], [(43, 0, 0, 0), (43, 1, 0, 0), (43, 2, 0, 0), (43, 3, 0, 0), (43, 4, 0, 0), (43, 5, 0, 0), (43, 6, 0, 0), (43, 7, 0, 0), (43, 8, 0, 0), (43, 9, 0, 0), (43, 10, 0, 0), (43, 11, 0, 0), (43, 12, 0, 0), (43, 13, 0, 0), (43, 14, 0, 0), (43, 15, 0, 0), (43, 16, 0, 0), (43, 17, 0, 0), (43, 18, 0, 0), (43, 19, 0, 0), (43, 20, 0, 0), (43, 21, 0, 0), (43, 22, 0, 0), (43, 23, 0, 0), (43, 24, 0, 0), (43, 25, 0, 0), (43, 26, 0, 0), (43, 27, 0, 0), (43, 28, 0, 0), (43, 29, 0, 0), (43, 30, 0, 0)], [(0, 1, 0)]), [])]
  (by decide +kernel) (fun s h => absurd h List.not_mem_nil)
noncomputable def sX10_lookAhead_0 : SM := (mX10_lookAhead, [(2, 0, 0, 0)], [], [([], [(41, 5, 0, 1), (43, 0, 0, 0)], [])], [(0, 8, 3, 3), (0, 10, 0, 39), (0, 41, 5, 5), (0, 42, 0, 29), (0, 43, 0, 30)])
theorem kX10_lookAhead_0 {SP : CT} (hSP : MONO SP) {sh : List (Nat × Nat)} : SMOK gE gRL sh (CLd SP 4) sX10_lookAhead_0 :=
  chkS hSP [sJ7_fill_53178_0, sX10_delayAt_0] 49 [(false, 0)]
  [((27, [(0, (2, 0, 0, 0)), (1, (0, 0, 0, 30))], [], [(41, 5, 0, 1)], [(0, 2, 0), (1, 1, 30), (0, 1, 0)]), [(false, 0), (false, 1)]), ((100, [(0, (2, 0, 0, 0)), (1, (0, 0, 0, 16))], [], [(13, 0, 0, 16), (41, 5, 0, 1), (43, 0, 0, 0)], [(0, 1, 0), (1, 1, 16), (0, 1, 0)]), [(false, 0)])]
  (by decide +kernel) (List.forall_mem_cons.mpr ⟨SMOK_le (Nat.le_of_ble_eq_true rfl : 1 ≤ 3) (kJ7_fill_53178_0 hSP), List.forall_mem_cons.mpr ⟨SMOK_le (Nat.le_of_ble_eq_true rfl : 3 ≤ 3) (kX10_delayAt_0 hSP), fun s h => absurd h List.not_mem_nil⟩⟩)
noncomputable def sX10_firstFree_0 : SM := (mX10_firstFree, [(2, 0, 0, 0)], [], [([(0, 0, 0, 0)], [], []), ([(0, 0, 1, 1)], [], [])], [])
theorem kX10_firstFree_0 {SP : CT} (hSP : MONO SP) {sh : List (Nat × Nat)} : SMOK gE gRL sh (CLd SP 2) sX10_firstFree_0 :=
  chkS hSP [sX8_gaveNow_0] 12 []
  []
  (by decide +kernel) (List.forall_mem_cons.mpr ⟨SMOK_le (Nat.le_of_ble_eq_true rfl : 1 ≤ 1) (kX8_gaveNow_0 hSP), fun s h => absurd h List.not_mem_nil⟩)
noncomputable def sX0_moved_0 : SM := (mX0_moved, [(0, 0, (-2147483648), 2147483647), (0, 0, (-2147483648), 2147483647)], [], [([(0, 0, (-2147483648), 2147483647)], [], []), ([(0, 0, 0, 511)], [], [])], [])
theorem kX0_moved_0 {SP : CT} (hSP : MONO SP) {sh : List (Nat × Nat)} : SMOK gE gRL sh (CLd SP 1) sX0_moved_0 :=
  chkS hSP [] 27 []
  []
  (by decide +kernel) (fun s h => absurd h List.not_mem_nil)
noncomputable def sX10_widened_0 : SM := (mX10_widened, [(0, 0, (-2147483648), 2147483647)], [], [([(0, 0, 0, 511)], [], [])], [])
theorem kX10_widened_0 {SP : CT} (hSP : MONO SP) {sh : List (Nat × Nat)} : SMOK gE gRL sh (CLd SP 1) sX10_widened_0 :=
  chkS hSP [] 14 []
  []
  (by decide +kernel) (fun s h => absurd h List.not_mem_nil)
noncomputable def sX0_reach_0 : SM := (mX0_reach, [(2, 41, 0, 0), (2, 17, 0, 0), (0, 0, 1, 1), (0, 0, 30, 30), (0, 0, 0, 0)], [], [([], [], [])], [(0, 44, 0, 30)])
theorem kX0_reach_0 {SP : CT} (hSP : MONO SP) {sh : List (Nat × Nat)} : SMOK gE gRL sh (CLd SP 2) sX0_reach_0 :=
  chkS hSP [sX0_moved_0, sX10_widened_0] 39 [(false, 0)]
  [((18, [(0, (2, 41, 0, 0)), (1, (2, 17, 0, 0)), (2, (0, 0, 1, 1)), (3, (0, 0, 30, 30)), (4, (0, 0, 0, 0)), (5, (0, 0, 0, 12)), (6, (0, 0, 1, 31))], [], [(17, 4, 0, 12)], [(0, 1, 0), (1, 6, 31), (0, 3, 0)]), [(false, 1)]), ((35, [(0, (2, 41, 0, 0)), (1, (2, 17, 0, 0)), (2, (0, 0, 1, 1)), (3, (0, 0, 30, 30)), (4, (0, 0, 0, 0)), (5, (0, 0, 0, 12)), (6, (0, 0, 1, 30)), (7, (0, 0, (-2147483648), 2147483647))], [], [(17, 4, 0, 12)], [(0, 1, 0), (1, 6, 31), (0, 2, 0), (1, 5, 12), (0, 1, 0)]), [(false, 0), (false, 1)]), ((92, [(0, (2, 41, 0, 0)), (1, (2, 17, 0, 0)), (2, (0, 0, 1, 1)), (3, (0, 0, 30, 30)), (4, (0, 0, 0, 0)), (5, (0, 0, 0, 12)), (6, (0, 0, 1, 30)), (7, (0, 0, (-2147483648), 2147483647)), (8, (0, 0, 1, 30))], [], [(17, 4, 0, 12)], [(0, 1, 0), (1, 6, 31), (0, 1, 0), (1, 8, 30), (0, 1, 0)]), [(true, 1), (false, 0)])]
  (by decide +kernel) (List.forall_mem_cons.mpr ⟨SMOK_le (Nat.le_of_ble_eq_true rfl : 1 ≤ 1) (kX0_moved_0 hSP), List.forall_mem_cons.mpr ⟨SMOK_le (Nat.le_of_ble_eq_true rfl : 1 ≤ 1) (kX10_widened_0 hSP), fun s h => absurd h List.not_mem_nil⟩⟩)
noncomputable def sX0_reach_1 : SM := (mX0_reach, [(2, 41, 0, 0), (2, 17, 0, 0), (0, 0, 0, 0), (0, 0, 30, 30), (0, 0, 0, 0)], [], [([], [], [])], [(0, 44, 0, 30)])
theorem kX0_reach_1 {SP : CT} (hSP : MONO SP) {sh : List (Nat × Nat)} : SMOK gE gRL sh (CLd SP 2) sX0_reach_1 :=
  chkS hSP [sX0_moved_0, sX10_widened_0] 39 [(false, 0)]
  [((18, [(0, (2, 41, 0, 0)), (1, (2, 17, 0, 0)), (2, (0, 0, 0, 0)), (3, (0, 0, 30, 30)), (4, (0, 0, 0, 0)), (5, (0, 0, 0, 12)), (6, (0, 0, 1, 31))], [], [(17, 4, 0, 12)], [(0, 1, 0), (1, 6, 31), (0, 3, 0)]), [(false, 1)]), ((35, [(0, (2, 41, 0, 0)), (1, (2, 17, 0, 0)), (2, (0, 0, 0, 0)), (3, (0, 0, 30, 30)), (4, (0, 0, 0, 0)), (5, (0, 0, 0, 12)), (6, (0, 0, 1, 30)), (7, (0, 0, (-2147483648), 2147483647))], [], [(17, 4, 0, 12)], [(0, 1, 0), (1, 6, 31), (0, 2, 0), (1, 5, 12), (0, 1, 0)]), [(false, 0), (false, 1)]), ((92, [(0, (2, 41, 0, 0)), (1, (2, 17, 0, 0)), (2, (0, 0, 0, 0)), (3, (0, 0, 30, 30)), (4, (0, 0, 0, 0)), (5, (0, 0, 0, 12)), (6, (0, 0, 1, 30)), (7, (0, 0, (-2147483648), 2147483647)), (8, (0, 0, 0, 30))], [], [(17, 4, 0, 12)], [(0, 1, 0), (1, 6, 31), (0, 1, 0), (1, 8, 30), (0, 1, 0)]), [(true, 1), (false, 0)])]
  (by decide +kernel) (List.forall_mem_cons.mpr ⟨SMOK_le (Nat.le_of_ble_eq_true rfl : 1 ≤ 1) (kX0_moved_0 hSP), List.forall_mem_cons.mpr ⟨SMOK_le (Nat.le_of_ble_eq_true rfl : 1 ≤ 1) (kX10_widened_0 hSP), fun s h => absurd h List.not_mem_nil⟩⟩)
noncomputable def sX10_clears_0 : SM := (mX10_clears, [(2, 0, 0, 0)], [], [([(0, 0, (-2147483648), 2147483647)], [(3, 1, 1, 30), (41, 5, 0, 1), (43, 0, 0, 0)], []), ([(0, 0, (-2147483648), 2147483647)], [(3, 1, 30, 30), (41, 5, 0, 1), (43, 0, 0, 0)], [])], [(0, 3, 1, 1), (0, 8, 3, 3), (0, 10, 0, 39), (0, 41, 5, 5), (0, 42, 0, 29), (0, 43, 0, 30), (0, 44, 0, 30), (1, 4, 0, 29)])
theorem kX10_clears_0 {SP : CT} (hSP : MONO SP) {sh : List (Nat × Nat)} : SMOK gE gRL sh (CLd SP 5) sX10_clears_0 :=
  chkS hSP [sX0_reach_0, sX0_reach_1, sX10_firstFree_0, sX10_lookAhead_0, sX3_tellOne_0] 90 [(false, 0)]
  [((28, [(0, (2, 0, 0, 0)), (1, (0, 0, (-2147483648), 2147483647)), (2, (0, 0, (-2147483648), 2147483647)), (3, (0, 0, 0, 16))], [], [(13, 0, 0, 16), (41, 5, 0, 1), (43, 0, 0, 0)], [(0, 1, 0), (1, 3, 16), (0, 1, 0)]), [(false, 0)])]
  (by decide +kernel) (List.forall_mem_cons.mpr ⟨SMOK_le (Nat.le_of_ble_eq_true rfl : 2 ≤ 4) (kX0_reach_0 hSP), List.forall_mem_cons.mpr ⟨SMOK_le (Nat.le_of_ble_eq_true rfl : 2 ≤ 4) (kX0_reach_1 hSP), List.forall_mem_cons.mpr ⟨SMOK_le (Nat.le_of_ble_eq_true rfl : 2 ≤ 4) (kX10_firstFree_0 hSP), List.forall_mem_cons.mpr ⟨SMOK_le (Nat.le_of_ble_eq_true rfl : 4 ≤ 4) (kX10_lookAhead_0 hSP), List.forall_mem_cons.mpr ⟨SMOK_le (Nat.le_of_ble_eq_true rfl : 2 ≤ 4) (kX3_tellOne_0 hSP), fun s h => absurd h List.not_mem_nil⟩⟩⟩⟩⟩)
noncomputable def sX0_freeOrders_0 : SM := (mX0_freeOrders, [(2, 41, 0, 0), (0, 0, 1, 1), (0, 0, 1, 30)], [], [([], [], [])], [(0, 45, 0, 29)])
theorem kX0_freeOrders_0 {SP : CT} (hSP : MONO SP) {sh : List (Nat × Nat)} : SMOK gE gRL sh (CLd SP 1) sX0_freeOrders_0 :=
  chkS hSP [] 31 [(false, 0)]
  [((2, [(0, (2, 41, 0, 0)), (1, (0, 0, 1, 1)), (2, (0, 0, 1, 30)), (3, (0, 0, 0, 30))], [], [], [(0, 1, 0), (1, 3, 30), (0, 1, 0)]), [(false, 0)])]
  (by decide +kernel) (fun s h => absurd h List.not_mem_nil)
noncomputable def sJ7_fill_53178_1 : SM := (mJ7_fill_53178, [(2, 46, 0, 0), (0, 0, 1000, 1000)], [], [([], [(46, 0, 1000, 1000), (46, 1, 1000, 1000), (46, 2, 1000, 1000), (46, 3, 1000, 1000), (46, 4, 1000, 1000), (46, 5, 1000, 1000), (46, 6, 1000, 1000), (46, 7, 1000, 1000), (46, 8, 1000, 1000)], [])], [(0, 46, 0, 8)])
theorem kJ7_fill_53178_1 {SP : CT} (hSP : MONO SP) {sh : List (Nat × Nat)} : SMOK gE gRL sh (CLd SP 1) sJ7_fill_53178_1 :=
  chkS hSP [] 11 [(false, 0)]
  [((5, [(0, (2, 46, 0, 0)), (1, (0, 0, 1000, 1000)), (2, (0, 0, 0, 0)), (3, (0, 0, 9, 9))], [], [], [(0, 10, 0)]), [(false, 1)]), ((5, [(0, (2, 46, 0, 0)), (1, (0, 0, 1000, 1000)), (2, (0, 0, 1, 1)), (3, (0, 0, 9, 9))], [], [(46, 0, 1000, 1000)], [(0, 9, 0)]), [(false, 1)]), ((5, [(0, (2, 46, 0, 0)), (1, (0, 0, 1000, 1000)), (2, (0, 0, 2, 2)), (3, (0, 0, 9, 9))], [], [(46, 0, 1000, 1000), (46, 1, 1000, 1000)], [(0, 8, 0)]), [(false, 1)]), ((5, [(0, (2, 46, 0, 0)), (1, (0, 0, 1000, 1000)), (2, (0, 0, 3, 3)), (3, (0, 0, 9, 9))], [], [(46, 0, 1000, 1000), (46, 1, 1000, 1000), (46, 2, 1000, 1000)], [(0, 7, 0)]), [(false, 1)]), ((5, [(0, (2, 46, 0, 0)), (1, (0, 0, 1000, 1000)), (2, (0, 0, 4, 4)), (3, (0, 0, 9, 9))], [], [(46, 0, 1000, 1000), (46, 1, 1000, 1000), (46, 2, 1000, 1000), (46, 3, 1000, 1000)], [(0, 6, 0)]), [(false, 1)]), ((5, [(0, (2, 46, 0, 0)), (1, (0, 0, 1000, 1000)), (2, (0, 0, 5, 5)), (3, (0, 0, 9, 9))], [], [(46, 0, 1000, 1000), (46, 1, 1000, 1000), (46, 2, 1000, 1000), (46, 3, 1000, 1000), (46, 4, 1000, 1000)], [(0, 5, 0)]), [(false, 1)]), ((5, [(0, (2, 46, 0, 0)), (1, (0, 0, 1000, 1000)), (2, (0, 0, 6, 6)), (3, (0, 0, 9, 9))], [], [(46, 0, 1000, 1000), (46, 1, 1000, 1000), (46, 2, 1000, 1000), (46, 3, 1000, 1000), (46, 4, 1000, 1000), (46, 5, 1000, 1000)], [(0, 4, 0)]), [(false, 1)]), ((5, [(0, (2, 46, 0, 0)), (1, (0, 0, 1000, 1000)), (2, (0, 0, 7, 7)), (3, (0, 0, 9, 9))], [], [(46, 0, 1000, 1000), (46, 1, 1000, 1000), (46, 2, 1000, 1000), (46, 3, 1000, 1000), (46, 4, 1000, 1000), (46, 5, 1000, 1000), (46, 6, 1000, 1000)], [(0, 3, 0)]), [(false, 1)]), ((5, [(0, (2, 46, 0, 0)), (1, (0, 0, 1000, 1000)), (2, (0, 0, 8, 8)), (3, (0, 0, 9, 9))], [], [(46, 0, 1000, 1000), (46, 1, 1000, 1000), (46, 2, 1000, 1000), (46, 3, 1000, 1000), (46, 4, 1000, 1000), (46, 5, 1000, 1000), (46, 6, 1000, 1000), (46, 7, 1000, 1000)], [(0, 2, 0)]), [(false, 1)]), ((5, [(0, (2, 46, 0, 0)), (1, (0, 0, 1000, 1000)), (2, (0, 0, 9, 9)), (3, (0, 0, 9, 9))], [], [(46, 0, 1000, 1000), (46, 1, 1000, 1000), (46, 2, 1000, 1000), (46, 3, 1000, 1000), (46, 4, 1000, 1000), (46, 5, 1000, 1000), (46, 6, 1000, 1000), (46, 7, 1000, 1000), (46, 8, 1000, 1000)], [(0, 1, 0)]), [])]
  (by decide +kernel) (fun s h => absurd h List.not_mem_nil)
noncomputable def sX0_moveCosts_0 : SM := (mX0_moveCosts, [(2, 41, 0, 0), (0, 0, (-2147483648), 2147483647)], [], [([], [(46, 0, 1000, 1000)], []), ([], [(46, 8, 1000, 1000)], []), ([], [], [])], [(0, 46, 0, 8)])
theorem kX0_moveCosts_0 {SP : CT} (hSP : MONO SP) {sh : List (Nat × Nat)} : SMOK gE gRL sh (CLd SP 1) sX0_moveCosts_0 :=
  chkS hSP [] 62 []
  []
  (by decide +kernel) (fun s h => absurd h List.not_mem_nil)
noncomputable def sX0_doChosen_0 : SM := (mX0_doChosen, [(2, 41, 0, 0), (0, 0, (-2147483648), 2147483647)], [], [([], [], [])], [(0, 46, 0, 8)])
theorem kX0_doChosen_0 {SP : CT} (hSP : MONO SP) {sh : List (Nat × Nat)} : SMOK gE gRL sh (CLd SP 2) sX0_doChosen_0 :=
  chkS hSP [sX0_moveCosts_0] 55 [(false, 0), (false, 1)]
  [((11, [(0, (2, 41, 0, 0)), (1, (0, 0, 2, 2)), (2, (0, 0, (-2147483648), 2147483647)), (3, (0, 0, 0, 9))], [], [], [(0, 1, 0), (1, 3, 9), (0, 1, 0)]), [(false, 0)]), ((101, [(0, (2, 41, 0, 0)), (1, (0, 0, (-2147483648), 2147483647)), (2, (0, 0, 0, 9))], [], [], [(0, 2, 0), (1, 2, 9), (0, 1, 0)]), [(false, 0)])]
  (by decide +kernel) (List.forall_mem_cons.mpr ⟨SMOK_le (Nat.le_of_ble_eq_true rfl : 1 ≤ 1) (kX0_moveCosts_0 hSP), fun s h => absurd h List.not_mem_nil⟩)
noncomputable def sX0_fewestOrders_0 : SM := (mX0_fewestOrders, [(2, 41, 0, 0), (2, 17, 0, 0), (0, 0, 1, 30)], [], [([(0, 0, (-2147483648), 1000)], [], [])], [(0, 46, 0, 8)])
theorem kX0_fewestOrders_0 {SP : CT} (hSP : MONO SP) {sh : List (Nat × Nat)} : SMOK gE gRL sh (CLd SP 3) sX0_fewestOrders_0 :=
  chkS hSP [sJ7_fill_53178_1, sX0_doChosen_0, sX0_moveCosts_0] 39 [(false, 0)]
  [((25, [(0, (2, 41, 0, 0)), (1, (2, 17, 0, 0)), (2, (0, 0, 1, 30)), (3, (0, 0, 0, 12)), (4, (0, 0, 1, 31))], [], [(17, 4, 0, 12)], [(0, 2, 0), (1, 4, 31), (0, 4, 0)]), [(false, 1), (false, 4)]), ((31, [(0, (2, 41, 0, 0)), (1, (2, 17, 0, 0)), (2, (0, 0, 1, 30)), (3, (0, 0, 0, 12)), (4, (0, 0, 1, 30))], [], [(17, 4, 0, 12)], [(0, 2, 0), (1, 4, 31), (0, 3, 0), (1, 3, 12), (0, 1, 0)]), [(false, 0), (false, 1)]), ((82, [(0, (2, 41, 0, 0)), (1, (2, 17, 0, 0)), (2, (0, 0, 1, 30)), (3, (0, 0, 0, 12)), (4, (0, 0, 1, 30)), (5, (0, 0, 0, 30))], [], [(17, 4, 0, 12)], [(0, 2, 0), (1, 4, 31), (0, 2, 0), (1, 5, 30), (0, 1, 0)]), [(false, 0), (false, 1)]), ((121, [(0, (2, 41, 0, 0)), (1, (2, 17, 0, 0)), (2, (0, 0, 1, 30)), (3, (0, 0, 0, 12)), (4, (0, 0, 1, 30)), (5, (0, 0, 0, 9))], [], [(17, 4, 0, 12)], [(0, 2, 0), (1, 4, 31), (0, 1, 0), (1, 5, 9), (0, 1, 0)]), [(true, 2), (false, 0)]), ((184, [(0, (2, 41, 0, 0)), (1, (2, 17, 0, 0)), (2, (0, 0, 1, 30)), (3, (0, 0, 0, 12)), (4, (0, 0, (-2147483648), 1000)), (5, (0, 0, 0, 9))], [], [], [(0, 1, 0), (1, 5, 9), (0, 1, 0)]), [(false, 0)])]
  (by decide +kernel) (List.forall_mem_cons.mpr ⟨SMOK_le (Nat.le_of_ble_eq_true rfl : 1 ≤ 2) (kJ7_fill_53178_1 hSP), List.forall_mem_cons.mpr ⟨SMOK_le (Nat.le_of_ble_eq_true rfl : 2 ≤ 2) (kX0_doChosen_0 hSP), List.forall_mem_cons.mpr ⟨SMOK_le (Nat.le_of_ble_eq_true rfl : 1 ≤ 2) (kX0_moveCosts_0 hSP), fun s h => absurd h List.not_mem_nil⟩⟩⟩)
noncomputable def sX0_leastChoice_0 : SM := (mX0_leastChoice, [(2, 41, 0, 0), (2, 17, 0, 0), (0, 0, 0, 29), (0, 0, 1, 30), (0, 0, (-2147483648), 999)], [], [([(0, 0, 1, 1)], [], []), ([(0, 0, 0, 0)], [], []), ([(0, 0, (-1), (-1))], [], [])], [(0, 45, 0, 29), (0, 46, 0, 8)])
theorem kX0_leastChoice_0 {SP : CT} (hSP : MONO SP) {sh : List (Nat × Nat)} : SMOK gE gRL sh (CLd SP 4) sX0_leastChoice_0 :=
  chkS hSP [sX0_fewestOrders_0] 19 [(false, 0)]
  [((3, [(0, (2, 41, 0, 0)), (1, (2, 17, 0, 0)), (2, (0, 0, 0, 29)), (3, (0, 0, 1, 30)), (4, (0, 0, (-2147483648), 999)), (5, (0, 0, (-1), (-1)))], [], [], [(0, 3, 0)]), [(false, 1)]), ((3, [(0, (2, 41, 0, 0)), (1, (2, 17, 0, 0)), (2, (0, 0, 0, 29)), (3, (0, 0, 1, 30)), (4, (0, 0, (-2147483648), 999)), (5, (0, 0, 0, 0))], [], [], [(0, 2, 0)]), [(false, 1)]), ((3, [(0, (2, 41, 0, 0)), (1, (2, 17, 0, 0)), (2, (0, 0, 0, 29)), (3, (0, 0, 1, 30)), (4, (0, 0, (-2147483648), 999)), (5, (0, 0, 1, 1))], [], [], [(0, 1, 0)]), [])]
  (by decide +kernel) (List.forall_mem_cons.mpr ⟨SMOK_le (Nat.le_of_ble_eq_true rfl : 3 ≤ 3) (kX0_fewestOrders_0 hSP), fun s h => absurd h List.not_mem_nil⟩)
noncomputable def sX0_chooseLeastRow_0 : SM := (mX0_chooseLeastRow, [(2, 41, 0, 0), (2, 17, 0, 0), (0, 0, 1, 30), (0, 0, (-2147483648), 999)], [], [([], [], [])], [(0, 45, 0, 29), (0, 46, 0, 8)])
theorem kX0_chooseLeastRow_0 {SP : CT} (hSP : MONO SP) {sh : List (Nat × Nat)} : SMOK gE gRL sh (CLd SP 5) sX0_chooseLeastRow_0 :=
  chkS hSP [sX0_leastChoice_0] 100 [(false, 0)]
  [((6, [(0, (2, 41, 0, 0)), (1, (2, 17, 0, 0)), (2, (0, 0, 1, 30)), (3, (0, 0, (-2147483648), 999)), (4, (0, 0, (-2147483648), 2147483647)), (5, (0, 0, 0, 30))], [], [], [(0, 1, 0), (1, 5, 30), (0, 1, 0)]), [(false, 0)])]
  (by decide +kernel) (List.forall_mem_cons.mpr ⟨SMOK_le (Nat.le_of_ble_eq_true rfl : 4 ≤ 4) (kX0_leastChoice_0 hSP), fun s h => absurd h List.not_mem_nil⟩)
noncomputable def sX0_freeOrders_1 : SM := (mX0_freeOrders, [(2, 41, 0, 0), (0, 0, 0, 0), (0, 0, 1, 30)], [], [([], [], [])], [(0, 45, 0, 29)])
theorem kX0_freeOrders_1 {SP : CT} (hSP : MONO SP) {sh : List (Nat × Nat)} : SMOK gE gRL sh (CLd SP 1) sX0_freeOrders_1 :=
  chkS hSP [] 27 [(false, 0)]
  [((2, [(0, (2, 41, 0, 0)), (1, (0, 0, 0, 0)), (2, (0, 0, 1, 30)), (3, (0, 0, 0, 30))], [], [], [(0, 1, 0), (1, 3, 30), (0, 1, 0)]), [(false, 0)])]
  (by decide +kernel) (fun s h => absurd h List.not_mem_nil)
noncomputable def sX10_plan_0 : SM := (mX10_plan, [(2, 0, 0, 0), (0, 0, (-2147483648), 2147483647)], [], [([(0, 0, (-2147483648), 999)], [(3, 1, 0, 30), (41, 5, 0, 1), (43, 0, 0, 0)], []), ([(0, 0, (-1), (-1))], [], []), ([(0, 0, (-2), (-2))], [(41, 5, 0, 1), (43, 0, 0, 0)], [])], [(0, 3, 1, 1), (0, 8, 3, 3), (0, 10, 0, 39), (0, 41, 5, 5), (0, 42, 0, 29), (0, 43, 0, 30), (0, 45, 0, 29), (0, 46, 0, 8), (1, 4, 0, 29)])
theorem kX10_plan_0 {SP : CT} (hSP : MONO SP) {sh : List (Nat × Nat)} : SMOK gE gRL sh (CLd SP 6) sX10_plan_0 :=
  chkS hSP [sX0_chooseLeastRow_0, sX0_fewestOrders_0, sX0_freeOrders_0, sX0_freeOrders_1, sX10_firstFree_0, sX10_lookAhead_0, sX3_add_0, sX3_clear_0] 70 [(false, 0)]
  [((74, [(0, (2, 0, 0, 0)), (1, (0, 0, 1, 30)), (2, (0, 0, (-2147483648), 999)), (3, (0, 0, 0, 30))], [], [(3, 1, 0, 30), (41, 5, 0, 1), (43, 0, 0, 0)], [(0, 1, 0), (1, 3, 30), (0, 1, 0)]), [(false, 0)])]
  (by decide +kernel) (List.forall_mem_cons.mpr ⟨SMOK_le (Nat.le_of_ble_eq_true rfl : 5 ≤ 5) (kX0_chooseLeastRow_0 hSP), List.forall_mem_cons.mpr ⟨SMOK_le (Nat.le_of_ble_eq_true rfl : 3 ≤ 5) (kX0_fewestOrders_0 hSP), List.forall_mem_cons.mpr ⟨SMOK_le (Nat.le_of_ble_eq_true rfl : 1 ≤ 5) (kX0_freeOrders_0 hSP), List.forall_mem_cons.mpr ⟨SMOK_le (Nat.le_of_ble_eq_true rfl : 1 ≤ 5) (kX0_freeOrders_1 hSP), List.forall_mem_cons.mpr ⟨SMOK_le (Nat.le_of_ble_eq_true rfl : 2 ≤ 5) (kX10_firstFree_0 hSP), List.forall_mem_cons.mpr ⟨SMOK_le (Nat.le_of_ble_eq_true rfl : 4 ≤ 5) (kX10_lookAhead_0 hSP), List.forall_mem_cons.mpr ⟨SMOK_le (Nat.le_of_ble_eq_true rfl : 1 ≤ 5) (kX3_add_0 hSP), List.forall_mem_cons.mpr ⟨SMOK_le (Nat.le_of_ble_eq_true rfl : 1 ≤ 5) (kX3_clear_0 hSP), fun s h => absurd h List.not_mem_nil⟩⟩⟩⟩⟩⟩⟩⟩)
noncomputable def sX0_reach_2 : SM := (mX0_reach, [(2, 41, 0, 0), (2, 17, 0, 0), (0, 0, 1, 29), (0, 0, 1, 30), (0, 0, 1, 1)], [], [([], [], [])], [(0, 44, 0, 30)])
theorem kX0_reach_2 {SP : CT} (hSP : MONO SP) {sh : List (Nat × Nat)} : SMOK gE gRL sh (CLd SP 2) sX0_reach_2 :=
  chkS hSP [sX0_moved_0, sX10_widened_0] 39 [(false, 0)]
  [((18, [(0, (2, 41, 0, 0)), (1, (2, 17, 0, 0)), (2, (0, 0, 1, 29)), (3, (0, 0, 1, 30)), (4, (0, 0, 1, 1)), (5, (0, 0, 0, 12)), (6, (0, 0, 1, 31))], [], [(17, 4, 0, 12)], [(0, 1, 0), (1, 6, 31), (0, 3, 0)]), [(false, 1)]), ((35, [(0, (2, 41, 0, 0)), (1, (2, 17, 0, 0)), (2, (0, 0, 1, 29)), (3, (0, 0, 1, 30)), (4, (0, 0, 1, 1)), (5, (0, 0, 0, 12)), (6, (0, 0, 1, 30)), (7, (0, 0, (-2147483648), 2147483647))], [], [(17, 4, 0, 12)], [(0, 1, 0), (1, 6, 31), (0, 2, 0), (1, 5, 12), (0, 1, 0)]), [(false, 0), (false, 1)]), ((92, [(0, (2, 41, 0, 0)), (1, (2, 17, 0, 0)), (2, (0, 0, 1, 29)), (3, (0, 0, 1, 30)), (4, (0, 0, 1, 1)), (5, (0, 0, 0, 12)), (6, (0, 0, 1, 30)), (7, (0, 0, (-2147483648), 2147483647)), (8, (0, 0, 1, 30))], [], [(17, 4, 0, 12)], [(0, 1, 0), (1, 6, 31), (0, 1, 0), (1, 8, 30), (0, 1, 0)]), [(true, 1), (false, 0)])]
  (by decide +kernel) (List.forall_mem_cons.mpr ⟨SMOK_le (Nat.le_of_ble_eq_true rfl : 1 ≤ 1) (kX0_moved_0 hSP), List.forall_mem_cons.mpr ⟨SMOK_le (Nat.le_of_ble_eq_true rfl : 1 ≤ 1) (kX10_widened_0 hSP), fun s h => absurd h List.not_mem_nil⟩⟩)
noncomputable def sX0_reach_3 : SM := (mX0_reach, [(2, 41, 0, 0), (2, 17, 0, 0), (0, 0, 0, 29), (0, 0, 1, 30), (0, 0, 1, 1)], [], [([], [], [])], [(0, 44, 0, 30)])
theorem kX0_reach_3 {SP : CT} (hSP : MONO SP) {sh : List (Nat × Nat)} : SMOK gE gRL sh (CLd SP 2) sX0_reach_3 :=
  chkS hSP [sX0_moved_0, sX10_widened_0] 39 [(false, 0)]
  [((18, [(0, (2, 41, 0, 0)), (1, (2, 17, 0, 0)), (2, (0, 0, 0, 29)), (3, (0, 0, 1, 30)), (4, (0, 0, 1, 1)), (5, (0, 0, 0, 12)), (6, (0, 0, 1, 31))], [], [(17, 4, 0, 12)], [(0, 1, 0), (1, 6, 31), (0, 3, 0)]), [(false, 1)]), ((35, [(0, (2, 41, 0, 0)), (1, (2, 17, 0, 0)), (2, (0, 0, 0, 29)), (3, (0, 0, 1, 30)), (4, (0, 0, 1, 1)), (5, (0, 0, 0, 12)), (6, (0, 0, 1, 30)), (7, (0, 0, (-2147483648), 2147483647))], [], [(17, 4, 0, 12)], [(0, 1, 0), (1, 6, 31), (0, 2, 0), (1, 5, 12), (0, 1, 0)]), [(false, 0), (false, 1)]), ((92, [(0, (2, 41, 0, 0)), (1, (2, 17, 0, 0)), (2, (0, 0, 0, 29)), (3, (0, 0, 1, 30)), (4, (0, 0, 1, 1)), (5, (0, 0, 0, 12)), (6, (0, 0, 1, 30)), (7, (0, 0, (-2147483648), 2147483647)), (8, (0, 0, 0, 30))], [], [(17, 4, 0, 12)], [(0, 1, 0), (1, 6, 31), (0, 1, 0), (1, 8, 30), (0, 1, 0)]), [(true, 1), (false, 0)])]
  (by decide +kernel) (List.forall_mem_cons.mpr ⟨SMOK_le (Nat.le_of_ble_eq_true rfl : 1 ≤ 1) (kX0_moved_0 hSP), List.forall_mem_cons.mpr ⟨SMOK_le (Nat.le_of_ble_eq_true rfl : 1 ≤ 1) (kX10_widened_0 hSP), fun s h => absurd h List.not_mem_nil⟩⟩)
noncomputable def sX10_latest_0 : SM := (mX10_latest, [(2, 0, 0, 0), (0, 0, (-2147483648), 2147483647)], [], [([(0, 0, 0, 29)], [(41, 5, 0, 1), (43, 0, 0, 0)], []), ([(0, 0, (-2), (-2))], [(41, 5, 0, 1), (43, 0, 0, 0)], []), ([(0, 0, (-1), (-1))], [], [])], [(0, 8, 3, 3), (0, 10, 0, 39), (0, 41, 5, 5), (0, 42, 0, 29), (0, 43, 0, 30), (0, 44, 0, 30)])
theorem kX10_latest_0 {SP : CT} (hSP : MONO SP) {sh : List (Nat × Nat)} : SMOK gE gRL sh (CLd SP 5) sX10_latest_0 :=
  chkS hSP [sX0_reach_2, sX0_reach_3, sX10_firstFree_0, sX10_lookAhead_0] 41 [(false, 0)]
  [((21, [(0, (2, 0, 0, 0)), (1, (0, 0, 1, 30)), (2, (0, 0, (-1), 29))], [], [(41, 5, 0, 1), (43, 0, 0, 0)], [(0, 1, 0), (2, 2, (-1)), (0, 1, 0)]), [(false, 0)])]
  (by decide +kernel) (List.forall_mem_cons.mpr ⟨SMOK_le (Nat.le_of_ble_eq_true rfl : 2 ≤ 4) (kX0_reach_2 hSP), List.forall_mem_cons.mpr ⟨SMOK_le (Nat.le_of_ble_eq_true rfl : 2 ≤ 4) (kX0_reach_3 hSP), List.forall_mem_cons.mpr ⟨SMOK_le (Nat.le_of_ble_eq_true rfl : 2 ≤ 4) (kX10_firstFree_0 hSP), List.forall_mem_cons.mpr ⟨SMOK_le (Nat.le_of_ble_eq_true rfl : 4 ≤ 4) (kX10_lookAhead_0 hSP), fun s h => absurd h List.not_mem_nil⟩⟩⟩⟩)
noncomputable def sX0_reach_4 : SM := (mX0_reach, [(2, 41, 0, 0), (2, 17, 0, 0), (0, 0, 1, 1), (0, 0, 0, 30), (0, 0, 1, 1)], [], [([], [], [])], [(0, 44, 0, 30)])
theorem kX0_reach_4 {SP : CT} (hSP : MONO SP) {sh : List (Nat × Nat)} : SMOK gE gRL sh (CLd SP 2) sX0_reach_4 :=
  chkS hSP [sX0_moved_0, sX10_widened_0] 39 [(false, 0)]
  [((18, [(0, (2, 41, 0, 0)), (1, (2, 17, 0, 0)), (2, (0, 0, 1, 1)), (3, (0, 0, 0, 30)), (4, (0, 0, 1, 1)), (5, (0, 0, 0, 12)), (6, (0, 0, 1, 31))], [], [(17, 4, 0, 12)], [(0, 1, 0), (1, 6, 31), (0, 3, 0)]), [(false, 1)]), ((35, [(0, (2, 41, 0, 0)), (1, (2, 17, 0, 0)), (2, (0, 0, 1, 1)), (3, (0, 0, 1, 30)), (4, (0, 0, 1, 1)), (5, (0, 0, 0, 12)), (6, (0, 0, 1, 30)), (7, (0, 0, (-2147483648), 2147483647))], [], [(17, 4, 0, 12)], [(0, 1, 0), (1, 6, 31), (0, 2, 0), (1, 5, 12), (0, 1, 0)]), [(false, 0), (false, 1)]), ((92, [(0, (2, 41, 0, 0)), (1, (2, 17, 0, 0)), (2, (0, 0, 1, 1)), (3, (0, 0, 1, 30)), (4, (0, 0, 1, 1)), (5, (0, 0, 0, 12)), (6, (0, 0, 1, 30)), (7, (0, 0, (-2147483648), 2147483647)), (8, (0, 0, 1, 30))], [], [(17, 4, 0, 12)], [(0, 1, 0), (1, 6, 31), (0, 1, 0), (1, 8, 30), (0, 1, 0)]), [(true, 1), (false, 0)])]
  (by decide +kernel) (List.forall_mem_cons.mpr ⟨SMOK_le (Nat.le_of_ble_eq_true rfl : 1 ≤ 1) (kX0_moved_0 hSP), List.forall_mem_cons.mpr ⟨SMOK_le (Nat.le_of_ble_eq_true rfl : 1 ≤ 1) (kX10_widened_0 hSP), fun s h => absurd h List.not_mem_nil⟩⟩)
noncomputable def sJ6_bitCount_0f7a4_0 : SM := (mJ6_bitCount_0f7a4, [(0, 0, (-2147483648), 2147483647)], [], [([(0, 0, 0, 63)], [], [])], [])
theorem kJ6_bitCount_0f7a4_0 {SP : CT} (hSP : MONO SP) {sh : List (Nat × Nat)} : SMOK gE gRL sh (CLd SP 1) sJ6_bitCount_0f7a4_0 :=
  chkS hSP [] 44 []
  []
  (by decide +kernel) (fun s h => absurd h List.not_mem_nil)
noncomputable def sX0_reach_5 : SM := (mX0_reach, [(2, 41, 0, 0), (2, 17, 0, 0), (0, 0, 0, 0), (0, 0, 0, 30), (0, 0, 1, 1)], [], [([], [], [])], [(0, 44, 0, 30)])
theorem kX0_reach_5 {SP : CT} (hSP : MONO SP) {sh : List (Nat × Nat)} : SMOK gE gRL sh (CLd SP 2) sX0_reach_5 :=
  chkS hSP [sX0_moved_0, sX10_widened_0] 39 [(false, 0)]
  [((18, [(0, (2, 41, 0, 0)), (1, (2, 17, 0, 0)), (2, (0, 0, 0, 0)), (3, (0, 0, 0, 30)), (4, (0, 0, 1, 1)), (5, (0, 0, 0, 12)), (6, (0, 0, 1, 31))], [], [(17, 4, 0, 12)], [(0, 1, 0), (1, 6, 31), (0, 3, 0)]), [(false, 1)]), ((35, [(0, (2, 41, 0, 0)), (1, (2, 17, 0, 0)), (2, (0, 0, 0, 0)), (3, (0, 0, 1, 30)), (4, (0, 0, 1, 1)), (5, (0, 0, 0, 12)), (6, (0, 0, 1, 30)), (7, (0, 0, (-2147483648), 2147483647))], [], [(17, 4, 0, 12)], [(0, 1, 0), (1, 6, 31), (0, 2, 0), (1, 5, 12), (0, 1, 0)]), [(false, 0), (false, 1)]), ((92, [(0, (2, 41, 0, 0)), (1, (2, 17, 0, 0)), (2, (0, 0, 0, 0)), (3, (0, 0, 1, 30)), (4, (0, 0, 1, 1)), (5, (0, 0, 0, 12)), (6, (0, 0, 1, 30)), (7, (0, 0, (-2147483648), 2147483647)), (8, (0, 0, 0, 30))], [], [(17, 4, 0, 12)], [(0, 1, 0), (1, 6, 31), (0, 1, 0), (1, 8, 30), (0, 1, 0)]), [(true, 1), (false, 0)])]
  (by decide +kernel) (List.forall_mem_cons.mpr ⟨SMOK_le (Nat.le_of_ble_eq_true rfl : 1 ≤ 1) (kX0_moved_0 hSP), List.forall_mem_cons.mpr ⟨SMOK_le (Nat.le_of_ble_eq_true rfl : 1 ≤ 1) (kX10_widened_0 hSP), fun s h => absurd h List.not_mem_nil⟩⟩)
noncomputable def sX10_lanes_0 : SM := (mX10_lanes, [(2, 0, 0, 0), (0, 0, (-2147483648), 2147483647)], [], [([(0, 0, (-1), (-1))], [], []), ([(0, 0, (-2147483648), 2147483647)], [(3, 1, 1, 30), (41, 5, 0, 1), (43, 0, 0, 0)], []), ([(0, 0, (-2147483648), 2147483647)], [(3, 1, 30, 30), (41, 5, 0, 1), (43, 0, 0, 0)], [])], [(0, 3, 1, 1), (0, 8, 3, 3), (0, 10, 0, 39), (0, 41, 5, 5), (0, 42, 0, 29), (0, 43, 0, 30), (0, 44, 0, 30), (1, 4, 0, 29)])
theorem kX10_lanes_0 {SP : CT} (hSP : MONO SP) {sh : List (Nat × Nat)} : SMOK gE gRL sh (CLd SP 5) sX10_lanes_0 :=
  chkS hSP [sJ6_bitCount_0f7a4_0, sX0_reach_4, sX0_reach_5, sX10_firstFree_0, sX10_lookAhead_0, sX3_tellOne_0] 69 []
  []
  (by decide +kernel) (List.forall_mem_cons.mpr ⟨SMOK_le (Nat.le_of_ble_eq_true rfl : 1 ≤ 4) (kJ6_bitCount_0f7a4_0 hSP), List.forall_mem_cons.mpr ⟨SMOK_le (Nat.le_of_ble_eq_true rfl : 2 ≤ 4) (kX0_reach_4 hSP), List.forall_mem_cons.mpr ⟨SMOK_le (Nat.le_of_ble_eq_true rfl : 2 ≤ 4) (kX0_reach_5 hSP), List.forall_mem_cons.mpr ⟨SMOK_le (Nat.le_of_ble_eq_true rfl : 2 ≤ 4) (kX10_firstFree_0 hSP), List.forall_mem_cons.mpr ⟨SMOK_le (Nat.le_of_ble_eq_true rfl : 4 ≤ 4) (kX10_lookAhead_0 hSP), List.forall_mem_cons.mpr ⟨SMOK_le (Nat.le_of_ble_eq_true rfl : 2 ≤ 4) (kX3_tellOne_0 hSP), fun s h => absurd h List.not_mem_nil⟩⟩⟩⟩⟩⟩)
noncomputable def sX10_rocksInLane_0 : SM := (mX10_rocksInLane, [(2, 0, 0, 0), (0, 0, (-2147483648), 2147483647), (0, 0, (-2147483648), 2147483647)], [], [([(0, 0, (-2147483648), 2147483647)], [], [])], [])
theorem kX10_rocksInLane_0 {SP : CT} (hSP : MONO SP) {sh : List (Nat × Nat)} : SMOK gE gRL sh (CLd SP 1) sX10_rocksInLane_0 :=
  chkS hSP [] 41 [(false, 0)]
  [((5, [(0, (2, 0, 0, 0)), (1, (0, 0, (-2147483648), 2147483647)), (2, (0, 0, (-2147483648), 2147483647)), (3, (0, 0, (-2147483648), 2147483647)), (4, (0, 0, 0, 16))], [], [(13, 0, 0, 16)], [(0, 1, 0), (1, 4, 16), (0, 1, 0)]), [(false, 0)])]
  (by decide +kernel) (fun s h => absurd h List.not_mem_nil)
noncomputable def sX10_apart_0 : SM := (mX10_apart, [(2, 0, 0, 0), (0, 0, (-2147483648), 2147483647)], [], [([(0, 0, (-2147483648), 2147483647)], [], [])], [])
theorem kX10_apart_0 {SP : CT} (hSP : MONO SP) {sh : List (Nat × Nat)} : SMOK gE gRL sh (CLd SP 1) sX10_apart_0 :=
  chkS hSP [] 9 []
  []
  (by decide +kernel) (fun s h => absurd h List.not_mem_nil)
noncomputable def sX10_safest_0 : SM := (mX10_safest, [(2, 0, 0, 0), (0, 0, (-2147483648), 2147483647)], [], [([(0, 0, 0, 8)], [(3, 1, 1, 30)], []), ([(0, 0, 0, 8)], [(3, 1, 30, 30)], []), ([(0, 0, (-1), (-1))], [], [])], [(0, 3, 1, 1), (1, 4, 0, 29)])
theorem kX10_safest_0 {SP : CT} (hSP : MONO SP) {sh : List (Nat × Nat)} : SMOK gE gRL sh (CLd SP 3) sX10_safest_0 :=
  chkS hSP [sX10_apart_0, sX10_rocksInLane_0, sX3_tellTwo_0] 50 [(false, 0)]
  [((41, [(0, (2, 0, 0, 0)), (1, (0, 0, 1, 999)), (2, (0, 0, 0, 8)), (3, (0, 0, (-2147483648), 2147483647)), (4, (0, 0, (-2147483648), 2147483647)), (5, (0, 0, 0, 9))], [], [], [(0, 1, 0), (1, 5, 9), (0, 1, 0)]), [(false, 0)])]
  (by decide +kernel) (List.forall_mem_cons.mpr ⟨SMOK_le (Nat.le_of_ble_eq_true rfl : 1 ≤ 2) (kX10_apart_0 hSP), List.forall_mem_cons.mpr ⟨SMOK_le (Nat.le_of_ble_eq_true rfl : 1 ≤ 2) (kX10_rocksInLane_0 hSP), List.forall_mem_cons.mpr ⟨SMOK_le (Nat.le_of_ble_eq_true rfl : 2 ≤ 2) (kX3_tellTwo_0 hSP), fun s h => absurd h List.not_mem_nil⟩⟩⟩)
noncomputable def sX0_isOvertaken_0 : SM := (mX0_isOvertaken, [(2, 41, 0, 0), (0, 0, 0, 0), (0, 0, 1, 30)], [], [([(0, 0, 1, 1)], [], []), ([(0, 0, 0, 0)], [], [])], [])
theorem kX0_isOvertaken_0 {SP : CT} (hSP : MONO SP) {sh : List (Nat × Nat)} : SMOK gE gRL sh (CLd SP 1) sX0_isOvertaken_0 :=
  chkS hSP [] 20 [(false, 0)]
  [((4, [(0, (2, 41, 0, 0)), (1, (0, 0, 0, 0)), (2, (0, 0, 1, 30)), (3, (0, 0, 1, 30))], [], [], [(0, 1, 0), (1, 3, 30), (0, 1, 0)]), [(false, 0)])]
  (by decide +kernel) (fun s h => absurd h List.not_mem_nil)
noncomputable def sX0_isOvertaken_1 : SM := (mX0_isOvertaken, [(2, 41, 0, 0), (0, 0, 0, 1), (0, 0, 1, 30)], [], [([(0, 0, 1, 1)], [], []), ([(0, 0, 0, 0)], [], [])], [])
theorem kX0_isOvertaken_1 {SP : CT} (hSP : MONO SP) {sh : List (Nat × Nat)} : SMOK gE gRL sh (CLd SP 1) sX0_isOvertaken_1 :=
  chkS hSP [] 20 [(false, 0)]
  [((4, [(0, (2, 41, 0, 0)), (1, (0, 0, 0, 1)), (2, (0, 0, 1, 30)), (3, (0, 0, 1, 30))], [], [], [(0, 1, 0), (1, 3, 30), (0, 1, 0)]), [(false, 0)])]
  (by decide +kernel) (fun s h => absurd h List.not_mem_nil)
noncomputable def sX0_isOvertaken_2 : SM := (mX0_isOvertaken, [(2, 41, 0, 0), (0, 0, 0, 2), (0, 0, 1, 30)], [], [([(0, 0, 1, 1)], [], []), ([(0, 0, 0, 0)], [], [])], [])
theorem kX0_isOvertaken_2 {SP : CT} (hSP : MONO SP) {sh : List (Nat × Nat)} : SMOK gE gRL sh (CLd SP 1) sX0_isOvertaken_2 :=
  chkS hSP [] 20 [(false, 0)]
  [((4, [(0, (2, 41, 0, 0)), (1, (0, 0, 0, 2)), (2, (0, 0, 1, 30)), (3, (0, 0, 1, 30))], [], [], [(0, 1, 0), (1, 3, 30), (0, 1, 0)]), [(false, 0)])]
  (by decide +kernel) (fun s h => absurd h List.not_mem_nil)
noncomputable def sX0_isOvertaken_3 : SM := (mX0_isOvertaken, [(2, 41, 0, 0), (0, 0, 0, 3), (0, 0, 1, 30)], [], [([(0, 0, 1, 1)], [], []), ([(0, 0, 0, 0)], [], [])], [])
theorem kX0_isOvertaken_3 {SP : CT} (hSP : MONO SP) {sh : List (Nat × Nat)} : SMOK gE gRL sh (CLd SP 1) sX0_isOvertaken_3 :=
  chkS hSP [] 20 [(false, 0)]
  [((4, [(0, (2, 41, 0, 0)), (1, (0, 0, 0, 3)), (2, (0, 0, 1, 30)), (3, (0, 0, 1, 30))], [], [], [(0, 1, 0), (1, 3, 30), (0, 1, 0)]), [(false, 0)])]
  (by decide +kernel) (fun s h => absurd h List.not_mem_nil)
noncomputable def sX0_isOvertaken_4 : SM := (mX0_isOvertaken, [(2, 41, 0, 0), (0, 0, 0, 4), (0, 0, 1, 30)], [], [([(0, 0, 1, 1)], [], []), ([(0, 0, 0, 0)], [], [])], [])
theorem kX0_isOvertaken_4 {SP : CT} (hSP : MONO SP) {sh : List (Nat × Nat)} : SMOK gE gRL sh (CLd SP 1) sX0_isOvertaken_4 :=
  chkS hSP [] 20 [(false, 0)]
  [((4, [(0, (2, 41, 0, 0)), (1, (0, 0, 0, 4)), (2, (0, 0, 1, 30)), (3, (0, 0, 1, 30))], [], [], [(0, 1, 0), (1, 3, 30), (0, 1, 0)]), [(false, 0)])]
  (by decide +kernel) (fun s h => absurd h List.not_mem_nil)
noncomputable def sX0_isOvertaken_5 : SM := (mX0_isOvertaken, [(2, 41, 0, 0), (0, 0, 0, 5), (0, 0, 1, 30)], [], [([(0, 0, 1, 1)], [], []), ([(0, 0, 0, 0)], [], [])], [])
theorem kX0_isOvertaken_5 {SP : CT} (hSP : MONO SP) {sh : List (Nat × Nat)} : SMOK gE gRL sh (CLd SP 1) sX0_isOvertaken_5 :=
  chkS hSP [] 20 [(false, 0)]
  [((4, [(0, (2, 41, 0, 0)), (1, (0, 0, 0, 5)), (2, (0, 0, 1, 30)), (3, (0, 0, 1, 30))], [], [], [(0, 1, 0), (1, 3, 30), (0, 1, 0)]), [(false, 0)])]
  (by decide +kernel) (fun s h => absurd h List.not_mem_nil)
noncomputable def sX0_isOvertaken_6 : SM := (mX0_isOvertaken, [(2, 41, 0, 0), (0, 0, 0, 6), (0, 0, 1, 30)], [], [([(0, 0, 1, 1)], [], []), ([(0, 0, 0, 0)], [], [])], [])
theorem kX0_isOvertaken_6 {SP : CT} (hSP : MONO SP) {sh : List (Nat × Nat)} : SMOK gE gRL sh (CLd SP 1) sX0_isOvertaken_6 :=
  chkS hSP [] 20 [(false, 0)]
  [((4, [(0, (2, 41, 0, 0)), (1, (0, 0, 0, 6)), (2, (0, 0, 1, 30)), (3, (0, 0, 1, 30))], [], [], [(0, 1, 0), (1, 3, 30), (0, 1, 0)]), [(false, 0)])]
  (by decide +kernel) (fun s h => absurd h List.not_mem_nil)
noncomputable def sX0_isOvertaken_7 : SM := (mX0_isOvertaken, [(2, 41, 0, 0), (0, 0, 0, 7), (0, 0, 1, 30)], [], [([(0, 0, 1, 1)], [], []), ([(0, 0, 0, 0)], [], [])], [])
theorem kX0_isOvertaken_7 {SP : CT} (hSP : MONO SP) {sh : List (Nat × Nat)} : SMOK gE gRL sh (CLd SP 1) sX0_isOvertaken_7 :=
  chkS hSP [] 20 [(false, 0)]
  [((4, [(0, (2, 41, 0, 0)), (1, (0, 0, 0, 7)), (2, (0, 0, 1, 30)), (3, (0, 0, 1, 30))], [], [], [(0, 1, 0), (1, 3, 30), (0, 1, 0)]), [(false, 0)])]
  (by decide +kernel) (fun s h => absurd h List.not_mem_nil)
noncomputable def sX0_isOvertaken_8 : SM := (mX0_isOvertaken, [(2, 41, 0, 0), (0, 0, 0, 8), (0, 0, 1, 30)], [], [([(0, 0, 1, 1)], [], []), ([(0, 0, 0, 0)], [], [])], [])
theorem kX0_isOvertaken_8 {SP : CT} (hSP : MONO SP) {sh : List (Nat × Nat)} : SMOK gE gRL sh (CLd SP 1) sX0_isOvertaken_8 :=
  chkS hSP [] 20 [(false, 0)]
  [((4, [(0, (2, 41, 0, 0)), (1, (0, 0, 0, 8)), (2, (0, 0, 1, 30)), (3, (0, 0, 1, 30))], [], [], [(0, 1, 0), (1, 3, 30), (0, 1, 0)]), [(false, 0)])]
  (by decide +kernel) (fun s h => absurd h List.not_mem_nil)
noncomputable def sX0_isOvertaken_9 : SM := (mX0_isOvertaken, [(2, 41, 0, 0), (0, 0, 0, 9), (0, 0, 1, 30)], [], [([(0, 0, 1, 1)], [], []), ([(0, 0, 0, 0)], [], [])], [])
theorem kX0_isOvertaken_9 {SP : CT} (hSP : MONO SP) {sh : List (Nat × Nat)} : SMOK gE gRL sh (CLd SP 1) sX0_isOvertaken_9 :=
  chkS hSP [] 20 [(false, 0)]
  [((4, [(0, (2, 41, 0, 0)), (1, (0, 0, 0, 9)), (2, (0, 0, 1, 30)), (3, (0, 0, 1, 30))], [], [], [(0, 1, 0), (1, 3, 30), (0, 1, 0)]), [(false, 0)])]
  (by decide +kernel) (fun s h => absurd h List.not_mem_nil)
noncomputable def sX0_isOvertaken_10 : SM := (mX0_isOvertaken, [(2, 41, 0, 0), (0, 0, 0, 10), (0, 0, 1, 30)], [], [([(0, 0, 1, 1)], [], []), ([(0, 0, 0, 0)], [], [])], [])
theorem kX0_isOvertaken_10 {SP : CT} (hSP : MONO SP) {sh : List (Nat × Nat)} : SMOK gE gRL sh (CLd SP 1) sX0_isOvertaken_10 :=
  chkS hSP [] 20 [(false, 0)]
  [((4, [(0, (2, 41, 0, 0)), (1, (0, 0, 0, 10)), (2, (0, 0, 1, 30)), (3, (0, 0, 1, 30))], [], [], [(0, 1, 0), (1, 3, 30), (0, 1, 0)]), [(false, 0)])]
  (by decide +kernel) (fun s h => absurd h List.not_mem_nil)
noncomputable def sX0_isOvertaken_11 : SM := (mX0_isOvertaken, [(2, 41, 0, 0), (0, 0, 0, 11), (0, 0, 1, 30)], [], [([(0, 0, 1, 1)], [], []), ([(0, 0, 0, 0)], [], [])], [])
theorem kX0_isOvertaken_11 {SP : CT} (hSP : MONO SP) {sh : List (Nat × Nat)} : SMOK gE gRL sh (CLd SP 1) sX0_isOvertaken_11 :=
  chkS hSP [] 20 [(false, 0)]
  [((4, [(0, (2, 41, 0, 0)), (1, (0, 0, 0, 11)), (2, (0, 0, 1, 30)), (3, (0, 0, 1, 30))], [], [], [(0, 1, 0), (1, 3, 30), (0, 1, 0)]), [(false, 0)])]
  (by decide +kernel) (fun s h => absurd h List.not_mem_nil)
noncomputable def sX0_isOvertaken_12 : SM := (mX0_isOvertaken, [(2, 41, 0, 0), (0, 0, 0, 12), (0, 0, 1, 30)], [], [([(0, 0, 1, 1)], [], []), ([(0, 0, 0, 0)], [], [])], [])
theorem kX0_isOvertaken_12 {SP : CT} (hSP : MONO SP) {sh : List (Nat × Nat)} : SMOK gE gRL sh (CLd SP 1) sX0_isOvertaken_12 :=
  chkS hSP [] 20 [(false, 0)]
  [((4, [(0, (2, 41, 0, 0)), (1, (0, 0, 0, 12)), (2, (0, 0, 1, 30)), (3, (0, 0, 1, 30))], [], [], [(0, 1, 0), (1, 3, 30), (0, 1, 0)]), [(false, 0)])]
  (by decide +kernel) (fun s h => absurd h List.not_mem_nil)
noncomputable def sX0_isOvertaken_13 : SM := (mX0_isOvertaken, [(2, 41, 0, 0), (0, 0, 0, 13), (0, 0, 1, 30)], [], [([(0, 0, 1, 1)], [], []), ([(0, 0, 0, 0)], [], [])], [])
theorem kX0_isOvertaken_13 {SP : CT} (hSP : MONO SP) {sh : List (Nat × Nat)} : SMOK gE gRL sh (CLd SP 1) sX0_isOvertaken_13 :=
  chkS hSP [] 20 [(false, 0)]
  [((4, [(0, (2, 41, 0, 0)), (1, (0, 0, 0, 13)), (2, (0, 0, 1, 30)), (3, (0, 0, 1, 30))], [], [], [(0, 1, 0), (1, 3, 30), (0, 1, 0)]), [(false, 0)])]
  (by decide +kernel) (fun s h => absurd h List.not_mem_nil)
noncomputable def sX0_isOvertaken_14 : SM := (mX0_isOvertaken, [(2, 41, 0, 0), (0, 0, 0, 14), (0, 0, 1, 30)], [], [([(0, 0, 1, 1)], [], []), ([(0, 0, 0, 0)], [], [])], [])
theorem kX0_isOvertaken_14 {SP : CT} (hSP : MONO SP) {sh : List (Nat × Nat)} : SMOK gE gRL sh (CLd SP 1) sX0_isOvertaken_14 :=
  chkS hSP [] 20 [(false, 0)]
  [((4, [(0, (2, 41, 0, 0)), (1, (0, 0, 0, 14)), (2, (0, 0, 1, 30)), (3, (0, 0, 1, 30))], [], [], [(0, 1, 0), (1, 3, 30), (0, 1, 0)]), [(false, 0)])]
  (by decide +kernel) (fun s h => absurd h List.not_mem_nil)
noncomputable def sX0_isOvertaken_15 : SM := (mX0_isOvertaken, [(2, 41, 0, 0), (0, 0, 0, 15), (0, 0, 1, 30)], [], [([(0, 0, 1, 1)], [], []), ([(0, 0, 0, 0)], [], [])], [])
theorem kX0_isOvertaken_15 {SP : CT} (hSP : MONO SP) {sh : List (Nat × Nat)} : SMOK gE gRL sh (CLd SP 1) sX0_isOvertaken_15 :=
  chkS hSP [] 20 [(false, 0)]
  [((4, [(0, (2, 41, 0, 0)), (1, (0, 0, 0, 15)), (2, (0, 0, 1, 30)), (3, (0, 0, 1, 30))], [], [], [(0, 1, 0), (1, 3, 30), (0, 1, 0)]), [(false, 0)])]
  (by decide +kernel) (fun s h => absurd h List.not_mem_nil)
noncomputable def sX0_isOvertaken_16 : SM := (mX0_isOvertaken, [(2, 41, 0, 0), (0, 0, 0, 16), (0, 0, 1, 30)], [], [([(0, 0, 1, 1)], [], []), ([(0, 0, 0, 0)], [], [])], [])
theorem kX0_isOvertaken_16 {SP : CT} (hSP : MONO SP) {sh : List (Nat × Nat)} : SMOK gE gRL sh (CLd SP 1) sX0_isOvertaken_16 :=
  chkS hSP [] 20 [(false, 0)]
  [((4, [(0, (2, 41, 0, 0)), (1, (0, 0, 0, 16)), (2, (0, 0, 1, 30)), (3, (0, 0, 1, 30))], [], [], [(0, 1, 0), (1, 3, 30), (0, 1, 0)]), [(false, 0)])]
  (by decide +kernel) (fun s h => absurd h List.not_mem_nil)
noncomputable def sX0_isOvertaken_17 : SM := (mX0_isOvertaken, [(2, 41, 0, 0), (0, 0, 0, 17), (0, 0, 1, 30)], [], [([(0, 0, 1, 1)], [], []), ([(0, 0, 0, 0)], [], [])], [])
theorem kX0_isOvertaken_17 {SP : CT} (hSP : MONO SP) {sh : List (Nat × Nat)} : SMOK gE gRL sh (CLd SP 1) sX0_isOvertaken_17 :=
  chkS hSP [] 20 [(false, 0)]
  [((4, [(0, (2, 41, 0, 0)), (1, (0, 0, 0, 17)), (2, (0, 0, 1, 30)), (3, (0, 0, 1, 30))], [], [], [(0, 1, 0), (1, 3, 30), (0, 1, 0)]), [(false, 0)])]
  (by decide +kernel) (fun s h => absurd h List.not_mem_nil)
noncomputable def sX0_isOvertaken_18 : SM := (mX0_isOvertaken, [(2, 41, 0, 0), (0, 0, 0, 18), (0, 0, 1, 30)], [], [([(0, 0, 1, 1)], [], []), ([(0, 0, 0, 0)], [], [])], [])
theorem kX0_isOvertaken_18 {SP : CT} (hSP : MONO SP) {sh : List (Nat × Nat)} : SMOK gE gRL sh (CLd SP 1) sX0_isOvertaken_18 :=
  chkS hSP [] 20 [(false, 0)]
  [((4, [(0, (2, 41, 0, 0)), (1, (0, 0, 0, 18)), (2, (0, 0, 1, 30)), (3, (0, 0, 1, 30))], [], [], [(0, 1, 0), (1, 3, 30), (0, 1, 0)]), [(false, 0)])]
  (by decide +kernel) (fun s h => absurd h List.not_mem_nil)
noncomputable def sX0_isOvertaken_19 : SM := (mX0_isOvertaken, [(2, 41, 0, 0), (0, 0, 0, 19), (0, 0, 1, 30)], [], [([(0, 0, 1, 1)], [], []), ([(0, 0, 0, 0)], [], [])], [])
theorem kX0_isOvertaken_19 {SP : CT} (hSP : MONO SP) {sh : List (Nat × Nat)} : SMOK gE gRL sh (CLd SP 1) sX0_isOvertaken_19 :=
  chkS hSP [] 20 [(false, 0)]
  [((4, [(0, (2, 41, 0, 0)), (1, (0, 0, 0, 19)), (2, (0, 0, 1, 30)), (3, (0, 0, 1, 30))], [], [], [(0, 1, 0), (1, 3, 30), (0, 1, 0)]), [(false, 0)])]
  (by decide +kernel) (fun s h => absurd h List.not_mem_nil)
noncomputable def sX0_isOvertaken_20 : SM := (mX0_isOvertaken, [(2, 41, 0, 0), (0, 0, 0, 20), (0, 0, 1, 30)], [], [([(0, 0, 1, 1)], [], []), ([(0, 0, 0, 0)], [], [])], [])
theorem kX0_isOvertaken_20 {SP : CT} (hSP : MONO SP) {sh : List (Nat × Nat)} : SMOK gE gRL sh (CLd SP 1) sX0_isOvertaken_20 :=
  chkS hSP [] 20 [(false, 0)]
  [((4, [(0, (2, 41, 0, 0)), (1, (0, 0, 0, 20)), (2, (0, 0, 1, 30)), (3, (0, 0, 1, 30))], [], [], [(0, 1, 0), (1, 3, 30), (0, 1, 0)]), [(false, 0)])]
  (by decide +kernel) (fun s h => absurd h List.not_mem_nil)
noncomputable def sX0_isOvertaken_21 : SM := (mX0_isOvertaken, [(2, 41, 0, 0), (0, 0, 0, 21), (0, 0, 1, 30)], [], [([(0, 0, 1, 1)], [], []), ([(0, 0, 0, 0)], [], [])], [])
theorem kX0_isOvertaken_21 {SP : CT} (hSP : MONO SP) {sh : List (Nat × Nat)} : SMOK gE gRL sh (CLd SP 1) sX0_isOvertaken_21 :=
  chkS hSP [] 20 [(false, 0)]
  [((4, [(0, (2, 41, 0, 0)), (1, (0, 0, 0, 21)), (2, (0, 0, 1, 30)), (3, (0, 0, 1, 30))], [], [], [(0, 1, 0), (1, 3, 30), (0, 1, 0)]), [(false, 0)])]
  (by decide +kernel) (fun s h => absurd h List.not_mem_nil)
noncomputable def sX0_isOvertaken_22 : SM := (mX0_isOvertaken, [(2, 41, 0, 0), (0, 0, 0, 22), (0, 0, 1, 30)], [], [([(0, 0, 1, 1)], [], []), ([(0, 0, 0, 0)], [], [])], [])
theorem kX0_isOvertaken_22 {SP : CT} (hSP : MONO SP) {sh : List (Nat × Nat)} : SMOK gE gRL sh (CLd SP 1) sX0_isOvertaken_22 :=
  chkS hSP [] 20 [(false, 0)]
  [((4, [(0, (2, 41, 0, 0)), (1, (0, 0, 0, 22)), (2, (0, 0, 1, 30)), (3, (0, 0, 1, 30))], [], [], [(0, 1, 0), (1, 3, 30), (0, 1, 0)]), [(false, 0)])]
  (by decide +kernel) (fun s h => absurd h List.not_mem_nil)
noncomputable def sX0_isOvertaken_23 : SM := (mX0_isOvertaken, [(2, 41, 0, 0), (0, 0, 0, 23), (0, 0, 1, 30)], [], [([(0, 0, 1, 1)], [], []), ([(0, 0, 0, 0)], [], [])], [])
theorem kX0_isOvertaken_23 {SP : CT} (hSP : MONO SP) {sh : List (Nat × Nat)} : SMOK gE gRL sh (CLd SP 1) sX0_isOvertaken_23 :=
  chkS hSP [] 20 [(false, 0)]
  [((4, [(0, (2, 41, 0, 0)), (1, (0, 0, 0, 23)), (2, (0, 0, 1, 30)), (3, (0, 0, 1, 30))], [], [], [(0, 1, 0), (1, 3, 30), (0, 1, 0)]), [(false, 0)])]
  (by decide +kernel) (fun s h => absurd h List.not_mem_nil)
noncomputable def sX0_isOvertaken_24 : SM := (mX0_isOvertaken, [(2, 41, 0, 0), (0, 0, 0, 24), (0, 0, 1, 30)], [], [([(0, 0, 1, 1)], [], []), ([(0, 0, 0, 0)], [], [])], [])
theorem kX0_isOvertaken_24 {SP : CT} (hSP : MONO SP) {sh : List (Nat × Nat)} : SMOK gE gRL sh (CLd SP 1) sX0_isOvertaken_24 :=
  chkS hSP [] 20 [(false, 0)]
  [((4, [(0, (2, 41, 0, 0)), (1, (0, 0, 0, 24)), (2, (0, 0, 1, 30)), (3, (0, 0, 1, 30))], [], [], [(0, 1, 0), (1, 3, 30), (0, 1, 0)]), [(false, 0)])]
  (by decide +kernel) (fun s h => absurd h List.not_mem_nil)
noncomputable def sX0_isOvertaken_25 : SM := (mX0_isOvertaken, [(2, 41, 0, 0), (0, 0, 0, 25), (0, 0, 1, 30)], [], [([(0, 0, 1, 1)], [], []), ([(0, 0, 0, 0)], [], [])], [])
theorem kX0_isOvertaken_25 {SP : CT} (hSP : MONO SP) {sh : List (Nat × Nat)} : SMOK gE gRL sh (CLd SP 1) sX0_isOvertaken_25 :=
  chkS hSP [] 20 [(false, 0)]
  [((4, [(0, (2, 41, 0, 0)), (1, (0, 0, 0, 25)), (2, (0, 0, 1, 30)), (3, (0, 0, 1, 30))], [], [], [(0, 1, 0), (1, 3, 30), (0, 1, 0)]), [(false, 0)])]
  (by decide +kernel) (fun s h => absurd h List.not_mem_nil)
noncomputable def sX0_isOvertaken_26 : SM := (mX0_isOvertaken, [(2, 41, 0, 0), (0, 0, 0, 26), (0, 0, 1, 30)], [], [([(0, 0, 1, 1)], [], []), ([(0, 0, 0, 0)], [], [])], [])
theorem kX0_isOvertaken_26 {SP : CT} (hSP : MONO SP) {sh : List (Nat × Nat)} : SMOK gE gRL sh (CLd SP 1) sX0_isOvertaken_26 :=
  chkS hSP [] 20 [(false, 0)]
  [((4, [(0, (2, 41, 0, 0)), (1, (0, 0, 0, 26)), (2, (0, 0, 1, 30)), (3, (0, 0, 1, 30))], [], [], [(0, 1, 0), (1, 3, 30), (0, 1, 0)]), [(false, 0)])]
  (by decide +kernel) (fun s h => absurd h List.not_mem_nil)
noncomputable def sX0_isOvertaken_27 : SM := (mX0_isOvertaken, [(2, 41, 0, 0), (0, 0, 0, 27), (0, 0, 1, 30)], [], [([(0, 0, 1, 1)], [], []), ([(0, 0, 0, 0)], [], [])], [])
theorem kX0_isOvertaken_27 {SP : CT} (hSP : MONO SP) {sh : List (Nat × Nat)} : SMOK gE gRL sh (CLd SP 1) sX0_isOvertaken_27 :=
  chkS hSP [] 20 [(false, 0)]
  [((4, [(0, (2, 41, 0, 0)), (1, (0, 0, 0, 27)), (2, (0, 0, 1, 30)), (3, (0, 0, 1, 30))], [], [], [(0, 1, 0), (1, 3, 30), (0, 1, 0)]), [(false, 0)])]
  (by decide +kernel) (fun s h => absurd h List.not_mem_nil)
noncomputable def sX0_isOvertaken_28 : SM := (mX0_isOvertaken, [(2, 41, 0, 0), (0, 0, 0, 28), (0, 0, 1, 30)], [], [([(0, 0, 1, 1)], [], []), ([(0, 0, 0, 0)], [], [])], [])
theorem kX0_isOvertaken_28 {SP : CT} (hSP : MONO SP) {sh : List (Nat × Nat)} : SMOK gE gRL sh (CLd SP 1) sX0_isOvertaken_28 :=
  chkS hSP [] 20 [(false, 0)]
  [((4, [(0, (2, 41, 0, 0)), (1, (0, 0, 0, 28)), (2, (0, 0, 1, 30)), (3, (0, 0, 1, 30))], [], [], [(0, 1, 0), (1, 3, 30), (0, 1, 0)]), [(false, 0)])]
  (by decide +kernel) (fun s h => absurd h List.not_mem_nil)
noncomputable def sX0_isOvertaken_29 : SM := (mX0_isOvertaken, [(2, 41, 0, 0), (0, 0, 0, 29), (0, 0, 1, 30)], [], [([(0, 0, 1, 1)], [], []), ([(0, 0, 0, 0)], [], [])], [])
theorem kX0_isOvertaken_29 {SP : CT} (hSP : MONO SP) {sh : List (Nat × Nat)} : SMOK gE gRL sh (CLd SP 1) sX0_isOvertaken_29 :=
  chkS hSP [] 20 [(false, 0)]
  [((4, [(0, (2, 41, 0, 0)), (1, (0, 0, 0, 29)), (2, (0, 0, 1, 30)), (3, (0, 0, 1, 30))], [], [], [(0, 1, 0), (1, 3, 30), (0, 1, 0)]), [(false, 0)])]
  (by decide +kernel) (fun s h => absurd h List.not_mem_nil)
noncomputable def sX10_late_0 : SM := (mX10_late, [(2, 0, 0, 0), (0, 0, (-2147483648), 2147483647)], [], [([(0, 0, (-2147483648), 2147483647)], [(3, 1, 0, 30), (41, 5, 0, 1), (43, 0, 0, 0)], []), ([(0, 0, (-1), (-1))], [], [])], [(0, 3, 1, 1), (0, 8, 3, 3), (0, 10, 0, 39), (0, 41, 5, 5), (0, 42, 0, 29), (0, 43, 0, 30), (1, 4, 0, 29)])
theorem kX10_late_0 {SP : CT} (hSP : MONO SP) {sh : List (Nat × Nat)} : SMOK gE gRL sh (CLd SP 5) sX10_late_0 :=
  chkS hSP [sX0_isOvertaken_0, sX0_isOvertaken_1, sX0_isOvertaken_2, sX0_isOvertaken_3, sX0_isOvertaken_4, sX0_isOvertaken_5, sX0_isOvertaken_6, sX0_isOvertaken_7, sX0_isOvertaken_8, sX0_isOvertaken_9, sX0_isOvertaken_10, sX0_isOvertaken_11, sX0_isOvertaken_12, sX0_isOvertaken_13, sX0_isOvertaken_14, sX0_isOvertaken_15, sX0_isOvertaken_16, sX0_isOvertaken_17, sX0_isOvertaken_18, sX0_isOvertaken_19, sX0_isOvertaken_20, sX0_isOvertaken_21, sX0_isOvertaken_22, sX0_isOvertaken_23, sX0_isOvertaken_24, sX0_isOvertaken_25, sX0_isOvertaken_26, sX0_isOvertaken_27, sX0_isOvertaken_28, sX0_isOvertaken_29, sX10_lookAhead_0, sX3_add_0, sX3_clear_0] 54 [(false, 0)]
  [((28, [(0, (2, 0, 0, 0)), (1, (0, 0, 1, 30)), (2, (0, 0, (-2147483648), 2147483647)), (3, (0, 0, 0, 30))], [], [(3, 1, 0, 30), (41, 5, 0, 1), (43, 0, 0, 0)], [(0, 1, 0), (1, 3, 30), (0, 1, 0)]), [(false, 0)])]
  (by decide +kernel) (List.forall_mem_cons.mpr ⟨SMOK_le (Nat.le_of_ble_eq_true rfl : 1 ≤ 4) (kX0_isOvertaken_0 hSP), List.forall_mem_cons.mpr ⟨SMOK_le (Nat.le_of_ble_eq_true rfl : 1 ≤ 4) (kX0_isOvertaken_1 hSP), List.forall_mem_cons.mpr ⟨SMOK_le (Nat.le_of_ble_eq_true rfl : 1 ≤ 4) (kX0_isOvertaken_2 hSP), List.forall_mem_cons.mpr ⟨SMOK_le (Nat.le_of_ble_eq_true rfl : 1 ≤ 4) (kX0_isOvertaken_3 hSP), List.forall_mem_cons.mpr ⟨SMOK_le (Nat.le_of_ble_eq_true rfl : 1 ≤ 4) (kX0_isOvertaken_4 hSP), List.forall_mem_cons.mpr ⟨SMOK_le (Nat.le_of_ble_eq_true rfl : 1 ≤ 4) (kX0_isOvertaken_5 hSP), List.forall_mem_cons.mpr ⟨SMOK_le (Nat.le_of_ble_eq_true rfl : 1 ≤ 4) (kX0_isOvertaken_6 hSP), List.forall_mem_cons.mpr ⟨SMOK_le (Nat.le_of_ble_eq_true rfl : 1 ≤ 4) (kX0_isOvertaken_7 hSP), List.forall_mem_cons.mpr ⟨SMOK_le (Nat.le_of_ble_eq_true rfl : 1 ≤ 4) (kX0_isOvertaken_8 hSP), List.forall_mem_cons.mpr ⟨SMOK_le (Nat.le_of_ble_eq_true rfl : 1 ≤ 4) (kX0_isOvertaken_9 hSP), List.forall_mem_cons.mpr ⟨SMOK_le (Nat.le_of_ble_eq_true rfl : 1 ≤ 4) (kX0_isOvertaken_10 hSP), List.forall_mem_cons.mpr ⟨SMOK_le (Nat.le_of_ble_eq_true rfl : 1 ≤ 4) (kX0_isOvertaken_11 hSP), List.forall_mem_cons.mpr ⟨SMOK_le (Nat.le_of_ble_eq_true rfl : 1 ≤ 4) (kX0_isOvertaken_12 hSP), List.forall_mem_cons.mpr ⟨SMOK_le (Nat.le_of_ble_eq_true rfl : 1 ≤ 4) (kX0_isOvertaken_13 hSP), List.forall_mem_cons.mpr ⟨SMOK_le (Nat.le_of_ble_eq_true rfl : 1 ≤ 4) (kX0_isOvertaken_14 hSP), List.forall_mem_cons.mpr ⟨SMOK_le (Nat.le_of_ble_eq_true rfl : 1 ≤ 4) (kX0_isOvertaken_15 hSP), List.forall_mem_cons.mpr ⟨SMOK_le (Nat.le_of_ble_eq_true rfl : 1 ≤ 4) (kX0_isOvertaken_16 hSP), List.forall_mem_cons.mpr ⟨SMOK_le (Nat.le_of_ble_eq_true rfl : 1 ≤ 4) (kX0_isOvertaken_17 hSP), List.forall_mem_cons.mpr ⟨SMOK_le (Nat.le_of_ble_eq_true rfl : 1 ≤ 4) (kX0_isOvertaken_18 hSP), List.forall_mem_cons.mpr ⟨SMOK_le (Nat.le_of_ble_eq_true rfl : 1 ≤ 4) (kX0_isOvertaken_19 hSP), List.forall_mem_cons.mpr ⟨SMOK_le (Nat.le_of_ble_eq_true rfl : 1 ≤ 4) (kX0_isOvertaken_20 hSP), List.forall_mem_cons.mpr ⟨SMOK_le (Nat.le_of_ble_eq_true rfl : 1 ≤ 4) (kX0_isOvertaken_21 hSP), List.forall_mem_cons.mpr ⟨SMOK_le (Nat.le_of_ble_eq_true rfl : 1 ≤ 4) (kX0_isOvertaken_22 hSP), List.forall_mem_cons.mpr ⟨SMOK_le (Nat.le_of_ble_eq_true rfl : 1 ≤ 4) (kX0_isOvertaken_23 hSP), List.forall_mem_cons.mpr ⟨SMOK_le (Nat.le_of_ble_eq_true rfl : 1 ≤ 4) (kX0_isOvertaken_24 hSP), List.forall_mem_cons.mpr ⟨SMOK_le (Nat.le_of_ble_eq_true rfl : 1 ≤ 4) (kX0_isOvertaken_25 hSP), List.forall_mem_cons.mpr ⟨SMOK_le (Nat.le_of_ble_eq_true rfl : 1 ≤ 4) (kX0_isOvertaken_26 hSP), List.forall_mem_cons.mpr ⟨SMOK_le (Nat.le_of_ble_eq_true rfl : 1 ≤ 4) (kX0_isOvertaken_27 hSP), List.forall_mem_cons.mpr ⟨SMOK_le (Nat.le_of_ble_eq_true rfl : 1 ≤ 4) (kX0_isOvertaken_28 hSP), List.forall_mem_cons.mpr ⟨SMOK_le (Nat.le_of_ble_eq_true rfl : 1 ≤ 4) (kX0_isOvertaken_29 hSP), List.forall_mem_cons.mpr ⟨SMOK_le (Nat.le_of_ble_eq_true rfl : 4 ≤ 4) (kX10_lookAhead_0 hSP), List.forall_mem_cons.mpr ⟨SMOK_le (Nat.le_of_ble_eq_true rfl : 1 ≤ 4) (kX3_add_0 hSP), List.forall_mem_cons.mpr ⟨SMOK_le (Nat.le_of_ble_eq_true rfl : 1 ≤ 4) (kX3_clear_0 hSP), fun s h => absurd h List.not_mem_nil⟩⟩⟩⟩⟩⟩⟩⟩⟩⟩⟩⟩⟩⟩⟩⟩⟩⟩⟩⟩⟩⟩⟩⟩⟩⟩⟩⟩⟩⟩⟩⟩⟩)
noncomputable def sX10_comes_0 : SM := (mX10_comes, [(2, 0, 0, 0), (0, 0, (-2147483648), 2147483647)], [], [([(0, 0, (-2147483648), 2147483646)], [(3, 1, 1, 30)], []), ([(0, 0, (-2147483648), 2147483646)], [(3, 1, 30, 30)], []), ([(0, 0, (-2147483648), 2147483647)], [(3, 1, 1, 30)], []), ([(0, 0, (-2147483648), 2147483647)], [(3, 1, 30, 30)], []), ([(0, 0, (-1), (-1))], [], [])], [(0, 3, 1, 1), (0, 8, 3, 3), (0, 10, 0, 39), (1, 4, 0, 29)])
theorem kX10_comes_0 {SP : CT} (hSP : MONO SP) {sh : List (Nat × Nat)} : SMOK gE gRL sh (CLd SP 4) sX10_comes_0 :=
  chkS hSP [sX10_delayAt_0, sX3_tellTwo_0] 72 [(false, 0)]
  [((59, [(0, (2, 0, 0, 0)), (1, (0, 0, 0, 12)), (2, (0, 0, (-1000001), 999999)), (3, (0, 0, 1, 12)), (4, (0, 0, (-2147483648), 2147483647)), (5, (0, 0, (-2147483648), 2147483647)), (6, (0, 0, (-2147483648), 2147483647)), (7, (0, 0, 0, 10))], [], [], [(0, 1, 0), (1, 7, 10), (0, 1, 0)]), [(false, 0)])]
  (by decide +kernel) (List.forall_mem_cons.mpr ⟨SMOK_le (Nat.le_of_ble_eq_true rfl : 3 ≤ 3) (kX10_delayAt_0 hSP), List.forall_mem_cons.mpr ⟨SMOK_le (Nat.le_of_ble_eq_true rfl : 2 ≤ 3) (kX3_tellTwo_0 hSP), fun s h => absurd h List.not_mem_nil⟩⟩)
noncomputable def sX10_relay_0 : SM := (mX10_relay, [(2, 0, 0, 0), (0, 0, (-2147483648), 2147483647)], [], [([(0, 0, (-2147483648), 2147483647)], [(3, 1, 0, 30)], []), ([(0, 0, (-1), (-1))], [], []), ([(0, 0, (-2), (-2))], [], [])], [(0, 3, 1, 1), (1, 4, 0, 29)])
theorem kX10_relay_0 {SP : CT} (hSP : MONO SP) {sh : List (Nat × Nat)} : SMOK gE gRL sh (CLd SP 2) sX10_relay_0 :=
  chkS hSP [sX3_add_0, sX3_clear_0] 39 [(false, 0)]
  [((53, [(0, (2, 0, 0, 0)), (1, (0, 0, 0, 10)), (2, (0, 0, (-1000001), 999999)), (3, (0, 0, (-2147483648), 2147483647)), (4, (0, 0, (-2147483648), 2147483647)), (5, (0, 0, 0, 10))], [], [(3, 1, 0, 30)], [(0, 1, 0), (2, 5, 0), (0, 1, 0)]), [(false, 0)])]
  (by decide +kernel) (List.forall_mem_cons.mpr ⟨SMOK_le (Nat.le_of_ble_eq_true rfl : 1 ≤ 1) (kX3_add_0 hSP), List.forall_mem_cons.mpr ⟨SMOK_le (Nat.le_of_ble_eq_true rfl : 1 ≤ 1) (kX3_clear_0 hSP), fun s h => absurd h List.not_mem_nil⟩⟩)
noncomputable def sX10_fewest_0 : SM := (mX10_fewest, [(2, 0, 0, 0), (0, 0, (-2147483648), 2147483647)], [], [([(0, 0, (-1), (-1))], [], []), ([(0, 0, (-2147483648), 2147483647)], [], [])], [])
theorem kX10_fewest_0 {SP : CT} (hSP : MONO SP) {sh : List (Nat × Nat)} : SMOK gE gRL sh (CLd SP 1) sX10_fewest_0 :=
  chkS hSP [] 26 []
  []
  (by decide +kernel) (fun s h => absurd h List.not_mem_nil)
noncomputable def sX10_power_0 : SM := (mX10_power, [(1, 0, 0, 10), (0, 0, 0, 0)], [], [([(1, 0, 1, 1)], [], [])], [])
theorem kX10_power_0 {SP : CT} (hSP : MONO SP) {sh : List (Nat × Nat)} : SMOK gE gRL sh (CLd SP 1) sX10_power_0 :=
  chkS hSP [] 7 [(false, 0)]
  [((5, [(0, (1, 0, 0, 10)), (2, (0, 0, 0, 0)), (3, (1, 0, 1, 1)), (5, (0, 0, 0, 0))], [], [], [(0, 1, 0)]), [])]
  (by decide +kernel) (fun s h => absurd h List.not_mem_nil)
noncomputable def sX10_power_1 : SM := (mX10_power, [(1, 0, 0, 10), (0, 0, (-20), 15)], [], [([(1, 0, 0, 1000000000000000)], [], [])], [])
theorem kX10_power_1 {SP : CT} (hSP : MONO SP) {sh : List (Nat × Nat)} : SMOK gE gRL sh (CLd SP 1) sX10_power_1 :=
  chkS hSP [] 13 [(false, 0)]
  [((5, [(0, (1, 0, 0, 10)), (2, (0, 0, (-20), 15)), (3, (1, 0, 1, 1)), (5, (0, 0, 0, 0))], [], [], [(0, 16, 0)]), [(false, 1)]), ((5, [(0, (1, 0, 0, 10)), (2, (0, 0, 1, 15)), (3, (1, 0, 0, 10)), (5, (0, 0, 1, 1))], [], [], [(0, 15, 0)]), [(false, 1)]), ((5, [(0, (1, 0, 0, 10)), (2, (0, 0, 2, 15)), (3, (1, 0, 0, 100)), (5, (0, 0, 2, 2))], [], [], [(0, 14, 0)]), [(false, 1)]), ((5, [(0, (1, 0, 0, 10)), (2, (0, 0, 3, 15)), (3, (1, 0, 0, 1000)), (5, (0, 0, 3, 3))], [], [], [(0, 13, 0)]), [(false, 1)]), ((5, [(0, (1, 0, 0, 10)), (2, (0, 0, 4, 15)), (3, (1, 0, 0, 10000)), (5, (0, 0, 4, 4))], [], [], [(0, 12, 0)]), [(false, 1)]), ((5, [(0, (1, 0, 0, 10)), (2, (0, 0, 5, 15)), (3, (1, 0, 0, 100000)), (5, (0, 0, 5, 5))], [], [], [(0, 11, 0)]), [(false, 1)]), ((5, [(0, (1, 0, 0, 10)), (2, (0, 0, 6, 15)), (3, (1, 0, 0, 1000000)), (5, (0, 0, 6, 6))], [], [], [(0, 10, 0)]), [(false, 1)]), ((5, [(0, (1, 0, 0, 10)), (2, (0, 0, 7, 15)), (3, (1, 0, 0, 10000000)), (5, (0, 0, 7, 7))], [], [], [(0, 9, 0)]), [(false, 1)]), ((5, [(0, (1, 0, 0, 10)), (2, (0, 0, 8, 15)), (3, (1, 0, 0, 100000000)), (5, (0, 0, 8, 8))], [], [], [(0, 8, 0)]), [(false, 1)]), ((5, [(0, (1, 0, 0, 10)), (2, (0, 0, 9, 15)), (3, (1, 0, 0, 1000000000)), (5, (0, 0, 9, 9))], [], [], [(0, 7, 0)]), [(false, 1)]), ((5, [(0, (1, 0, 0, 10)), (2, (0, 0, 10, 15)), (3, (1, 0, 0, 10000000000)), (5, (0, 0, 10, 10))], [], [], [(0, 6, 0)]), [(false, 1)]), ((5, [(0, (1, 0, 0, 10)), (2, (0, 0, 11, 15)), (3, (1, 0, 0, 100000000000)), (5, (0, 0, 11, 11))], [], [], [(0, 5, 0)]), [(false, 1)]), ((5, [(0, (1, 0, 0, 10)), (2, (0, 0, 12, 15)), (3, (1, 0, 0, 1000000000000)), (5, (0, 0, 12, 12))], [], [], [(0, 4, 0)]), [(false, 1)]), ((5, [(0, (1, 0, 0, 10)), (2, (0, 0, 13, 15)), (3, (1, 0, 0, 10000000000000)), (5, (0, 0, 13, 13))], [], [], [(0, 3, 0)]), [(false, 1)]), ((5, [(0, (1, 0, 0, 10)), (2, (0, 0, 14, 15)), (3, (1, 0, 0, 100000000000000)), (5, (0, 0, 14, 14))], [], [], [(0, 2, 0)]), [(false, 1)]), ((5, [(0, (1, 0, 0, 10)), (2, (0, 0, 15, 15)), (3, (1, 0, 0, 1000000000000000)), (5, (0, 0, 15, 15))], [], [], [(0, 1, 0)]), [])]
  (by decide +kernel) (fun s h => absurd h List.not_mem_nil)
noncomputable def sX10_likelyWord_0 : SM := (mX10_likelyWord, [(0, 0, 1, 15), (0, 0, 0, 10)], [], [([(1, 0, (-9223372036854775808), 9223372036854775807)], [], [])], [])
theorem kX10_likelyWord_0 {SP : CT} (hSP : MONO SP) {sh : List (Nat × Nat)} : SMOK gE gRL sh (CLd SP 2) sX10_likelyWord_0 :=
  chkS hSP [sX10_power_0, sX10_power_1] 41 [(false, 0)]
  [((8, [(0, (0, 0, 1, 15)), (1, (0, 0, 0, 10)), (2, (1, 0, (-9223372036854775808), 9223372036854775807)), (4, (1, 0, (-9223372036854775808), 9223372036854775807)), (6, (0, 0, 0, 16))], [], [], [(0, 1, 0), (1, 6, 16), (0, 1, 0)]), [(false, 0)])]
  (by decide +kernel) (List.forall_mem_cons.mpr ⟨SMOK_le (Nat.le_of_ble_eq_true rfl : 1 ≤ 1) (kX10_power_0 hSP), List.forall_mem_cons.mpr ⟨SMOK_le (Nat.le_of_ble_eq_true rfl : 1 ≤ 1) (kX10_power_1 hSP), fun s h => absurd h List.not_mem_nil⟩⟩)
noncomputable def sX10_survives_0 : SM := (mX10_survives, [(2, 0, 0, 0), (0, 0, (-2147483648), 2147483647), (0, 0, (-2147483648), 2147483647)], [], [([(0, 0, (-2), 15)], [], [])], [])
theorem kX10_survives_0 {SP : CT} (hSP : MONO SP) {sh : List (Nat × Nat)} : SMOK gE gRL sh (CLd SP 3) sX10_survives_0 :=
  chkS hSP [sX10_likelyWord_0, sX10_power_1] 22 [(false, 0)]
  [((24, [(0, (2, 0, 0, 0)), (1, (0, 0, 0, 10)), (2, (0, 0, 0, 100)), (3, (0, 0, 1, 1))], [], [], [(0, 9, 0)]), [(false, 1)]), ((24, [(0, (2, 0, 0, 0)), (1, (0, 0, 0, 10)), (2, (0, 0, 0, 100)), (3, (0, 0, 3, 3))], [], [], [(0, 8, 0)]), [(false, 1)]), ((24, [(0, (2, 0, 0, 0)), (1, (0, 0, 0, 10)), (2, (0, 0, 0, 100)), (3, (0, 0, 5, 5))], [], [], [(0, 7, 0)]), [(false, 1)]), ((24, [(0, (2, 0, 0, 0)), (1, (0, 0, 0, 10)), (2, (0, 0, 0, 100)), (3, (0, 0, 7, 7))], [], [], [(0, 6, 0)]), [(false, 1)]), ((24, [(0, (2, 0, 0, 0)), (1, (0, 0, 0, 10)), (2, (0, 0, 0, 100)), (3, (0, 0, 9, 9))], [], [], [(0, 5, 0)]), [(false, 1)]), ((24, [(0, (2, 0, 0, 0)), (1, (0, 0, 0, 10)), (2, (0, 0, 0, 100)), (3, (0, 0, 11, 11))], [], [], [(0, 4, 0)]), [(false, 1)]), ((24, [(0, (2, 0, 0, 0)), (1, (0, 0, 0, 10)), (2, (0, 0, 0, 100)), (3, (0, 0, 13, 13))], [], [], [(0, 3, 0)]), [(false, 1)]), ((24, [(0, (2, 0, 0, 0)), (1, (0, 0, 0, 10)), (2, (0, 0, 0, 100)), (3, (0, 0, 15, 15))], [], [], [(0, 2, 0)]), [(false, 1)]), ((24, [(0, (2, 0, 0, 0)), (1, (0, 0, 0, 10)), (2, (0, 0, 0, 100)), (3, (0, 0, 17, 17))], [], [], [(0, 1, 0)]), [])]
  (by decide +kernel) (List.forall_mem_cons.mpr ⟨SMOK_le (Nat.le_of_ble_eq_true rfl : 2 ≤ 2) (kX10_likelyWord_0 hSP), List.forall_mem_cons.mpr ⟨SMOK_le (Nat.le_of_ble_eq_true rfl : 1 ≤ 2) (kX10_power_1 hSP), fun s h => absurd h List.not_mem_nil⟩⟩)
noncomputable def sX10_lastsFor_0 : SM := (mX10_lastsFor, [(2, 0, 0, 0), (0, 0, 0, 0), (0, 0, 0, 7)], [], [([(0, 0, 99999, 99999)], [], []), ([(0, 0, (-2147483648), 2147483647)], [], [])], [])
theorem kX10_lastsFor_0 {SP : CT} (hSP : MONO SP) {sh : List (Nat × Nat)} : SMOK gE gRL sh (CLd SP 1) sX10_lastsFor_0 :=
  chkS hSP [] 31 [(false, 0)]
  [((8, [(0, (2, 0, 0, 0)), (1, (0, 0, 0, 0)), (2, (0, 0, 0, 7)), (3, (0, 0, 0, 0)), (4, (0, 0, 0, 0)), (5, (0, 0, 0, 0))], [], [], [(0, 9, 0)]), [(false, 1)]), ((8, [(0, (2, 0, 0, 0)), (1, (0, 0, 0, 0)), (2, (0, 0, 0, 7)), (3, (0, 0, (-2147483648), 2147483647)), (4, (0, 0, 0, 9)), (5, (0, 0, 1, 1))], [], [], [(0, 8, 0)]), [(false, 1)]), ((8, [(0, (2, 0, 0, 0)), (1, (0, 0, 0, 0)), (2, (0, 0, 1, 7)), (3, (0, 0, (-2147483648), 2147483647)), (4, (0, 0, 0, 18)), (5, (0, 0, 2, 2))], [], [], [(0, 7, 0)]), [(false, 1)]), ((8, [(0, (2, 0, 0, 0)), (1, (0, 0, 0, 0)), (2, (0, 0, 2, 7)), (3, (0, 0, (-2147483648), 2147483647)), (4, (0, 0, 0, 27)), (5, (0, 0, 3, 3))], [], [], [(0, 6, 0)]), [(false, 1)]), ((8, [(0, (2, 0, 0, 0)), (1, (0, 0, 0, 0)), (2, (0, 0, 3, 7)), (3, (0, 0, (-2147483648), 2147483647)), (4, (0, 0, 0, 36)), (5, (0, 0, 4, 4))], [], [], [(0, 5, 0)]), [(false, 1)]), ((8, [(0, (2, 0, 0, 0)), (1, (0, 0, 0, 0)), (2, (0, 0, 4, 7)), (3, (0, 0, (-2147483648), 2147483647)), (4, (0, 0, 0, 45)), (5, (0, 0, 5, 5))], [], [], [(0, 4, 0)]), [(false, 1)]), ((8, [(0, (2, 0, 0, 0)), (1, (0, 0, 0, 0)), (2, (0, 0, 5, 7)), (3, (0, 0, (-2147483648), 2147483647)), (4, (0, 0, 0, 54)), (5, (0, 0, 6, 6))], [], [], [(0, 3, 0)]), [(false, 1)]), ((8, [(0, (2, 0, 0, 0)), (1, (0, 0, 0, 0)), (2, (0, 0, 6, 7)), (3, (0, 0, (-2147483648), 2147483647)), (4, (0, 0, 0, 63)), (5, (0, 0, 7, 7))], [], [], [(0, 2, 0)]), [(false, 1)]), ((8, [(0, (2, 0, 0, 0)), (1, (0, 0, 0, 0)), (2, (0, 0, 7, 7)), (3, (0, 0, (-2147483648), 2147483647)), (4, (0, 0, 0, 72)), (5, (0, 0, 8, 8))], [], [], [(0, 1, 0)]), [])]
  (by decide +kernel) (fun s h => absurd h List.not_mem_nil)
noncomputable def sX10_lastsFor_1 : SM := (mX10_lastsFor, [(2, 0, 0, 0), (0, 0, 0, 1), (0, 0, 0, 7)], [], [([(0, 0, 99999, 99999)], [], []), ([(0, 0, (-2147483648), 2147483647)], [], [])], [])
theorem kX10_lastsFor_1 {SP : CT} (hSP : MONO SP) {sh : List (Nat × Nat)} : SMOK gE gRL sh (CLd SP 1) sX10_lastsFor_1 :=
  chkS hSP [] 31 [(false, 0)]
  [((8, [(0, (2, 0, 0, 0)), (1, (0, 0, 0, 1)), (2, (0, 0, 0, 7)), (3, (0, 0, 0, 0)), (4, (0, 0, 0, 0)), (5, (0, 0, 0, 1))], [], [], [(0, 9, 0)]), [(false, 1)]), ((8, [(0, (2, 0, 0, 0)), (1, (0, 0, 0, 1)), (2, (0, 0, 0, 7)), (3, (0, 0, (-2147483648), 2147483647)), (4, (0, 0, 0, 9)), (5, (0, 0, 1, 2))], [], [], [(0, 8, 0)]), [(false, 1)]), ((8, [(0, (2, 0, 0, 0)), (1, (0, 0, 0, 1)), (2, (0, 0, 1, 7)), (3, (0, 0, (-2147483648), 2147483647)), (4, (0, 0, 0, 18)), (5, (0, 0, 2, 3))], [], [], [(0, 7, 0)]), [(false, 1)]), ((8, [(0, (2, 0, 0, 0)), (1, (0, 0, 0, 1)), (2, (0, 0, 2, 7)), (3, (0, 0, (-2147483648), 2147483647)), (4, (0, 0, 0, 27)), (5, (0, 0, 3, 4))], [], [], [(0, 6, 0)]), [(false, 1)]), ((8, [(0, (2, 0, 0, 0)), (1, (0, 0, 0, 1)), (2, (0, 0, 3, 7)), (3, (0, 0, (-2147483648), 2147483647)), (4, (0, 0, 0, 36)), (5, (0, 0, 4, 5))], [], [], [(0, 5, 0)]), [(false, 1)]), ((8, [(0, (2, 0, 0, 0)), (1, (0, 0, 0, 1)), (2, (0, 0, 4, 7)), (3, (0, 0, (-2147483648), 2147483647)), (4, (0, 0, 0, 45)), (5, (0, 0, 5, 6))], [], [], [(0, 4, 0)]), [(false, 1)]), ((8, [(0, (2, 0, 0, 0)), (1, (0, 0, 0, 1)), (2, (0, 0, 5, 7)), (3, (0, 0, (-2147483648), 2147483647)), (4, (0, 0, 0, 54)), (5, (0, 0, 6, 7))], [], [], [(0, 3, 0)]), [(false, 1)]), ((8, [(0, (2, 0, 0, 0)), (1, (0, 0, 0, 1)), (2, (0, 0, 6, 7)), (3, (0, 0, (-2147483648), 2147483647)), (4, (0, 0, 0, 63)), (5, (0, 0, 7, 8))], [], [], [(0, 2, 0)]), [(false, 1)]), ((8, [(0, (2, 0, 0, 0)), (1, (0, 0, 0, 1)), (2, (0, 0, 7, 7)), (3, (0, 0, (-2147483648), 2147483647)), (4, (0, 0, 0, 72)), (5, (0, 0, 8, 8))], [], [], [(0, 1, 0)]), [])]
  (by decide +kernel) (fun s h => absurd h List.not_mem_nil)
noncomputable def sX10_lastsFor_2 : SM := (mX10_lastsFor, [(2, 0, 0, 0), (0, 0, 0, 2), (0, 0, 0, 7)], [], [([(0, 0, 99999, 99999)], [], []), ([(0, 0, (-2147483648), 2147483647)], [], [])], [])
theorem kX10_lastsFor_2 {SP : CT} (hSP : MONO SP) {sh : List (Nat × Nat)} : SMOK gE gRL sh (CLd SP 1) sX10_lastsFor_2 :=
  chkS hSP [] 31 [(false, 0)]
  [((8, [(0, (2, 0, 0, 0)), (1, (0, 0, 0, 2)), (2, (0, 0, 0, 7)), (3, (0, 0, 0, 0)), (4, (0, 0, 0, 0)), (5, (0, 0, 0, 2))], [], [], [(0, 9, 0)]), [(false, 1)]), ((8, [(0, (2, 0, 0, 0)), (1, (0, 0, 0, 2)), (2, (0, 0, 0, 7)), (3, (0, 0, (-2147483648), 2147483647)), (4, (0, 0, 0, 9)), (5, (0, 0, 1, 3))], [], [], [(0, 8, 0)]), [(false, 1)]), ((8, [(0, (2, 0, 0, 0)), (1, (0, 0, 0, 2)), (2, (0, 0, 1, 7)), (3, (0, 0, (-2147483648), 2147483647)), (4, (0, 0, 0, 18)), (5, (0, 0, 2, 4))], [], [], [(0, 7, 0)]), [(false, 1)]), ((8, [(0, (2, 0, 0, 0)), (1, (0, 0, 0, 2)), (2, (0, 0, 2, 7)), (3, (0, 0, (-2147483648), 2147483647)), (4, (0, 0, 0, 27)), (5, (0, 0, 3, 5))], [], [], [(0, 6, 0)]), [(false, 1)]), ((8, [(0, (2, 0, 0, 0)), (1, (0, 0, 0, 2)), (2, (0, 0, 3, 7)), (3, (0, 0, (-2147483648), 2147483647)), (4, (0, 0, 0, 36)), (5, (0, 0, 4, 6))], [], [], [(0, 5, 0)]), [(false, 1)]), ((8, [(0, (2, 0, 0, 0)), (1, (0, 0, 0, 2)), (2, (0, 0, 4, 7)), (3, (0, 0, (-2147483648), 2147483647)), (4, (0, 0, 0, 45)), (5, (0, 0, 5, 7))], [], [], [(0, 4, 0)]), [(false, 1)]), ((8, [(0, (2, 0, 0, 0)), (1, (0, 0, 0, 2)), (2, (0, 0, 5, 7)), (3, (0, 0, (-2147483648), 2147483647)), (4, (0, 0, 0, 54)), (5, (0, 0, 6, 8))], [], [], [(0, 3, 0)]), [(false, 1)]), ((8, [(0, (2, 0, 0, 0)), (1, (0, 0, 0, 2)), (2, (0, 0, 6, 7)), (3, (0, 0, (-2147483648), 2147483647)), (4, (0, 0, 0, 63)), (5, (0, 0, 7, 8))], [], [], [(0, 2, 0)]), [(false, 1)]), ((8, [(0, (2, 0, 0, 0)), (1, (0, 0, 0, 2)), (2, (0, 0, 7, 7)), (3, (0, 0, (-2147483648), 2147483647)), (4, (0, 0, 0, 72)), (5, (0, 0, 8, 8))], [], [], [(0, 1, 0)]), [])]
  (by decide +kernel) (fun s h => absurd h List.not_mem_nil)
noncomputable def sX10_lastsFor_3 : SM := (mX10_lastsFor, [(2, 0, 0, 0), (0, 0, 0, 3), (0, 0, 0, 7)], [], [([(0, 0, 99999, 99999)], [], []), ([(0, 0, (-2147483648), 2147483647)], [], [])], [])
theorem kX10_lastsFor_3 {SP : CT} (hSP : MONO SP) {sh : List (Nat × Nat)} : SMOK gE gRL sh (CLd SP 1) sX10_lastsFor_3 :=
  chkS hSP [] 31 [(false, 0)]
  [((8, [(0, (2, 0, 0, 0)), (1, (0, 0, 0, 3)), (2, (0, 0, 0, 7)), (3, (0, 0, 0, 0)), (4, (0, 0, 0, 0)), (5, (0, 0, 0, 3))], [], [], [(0, 9, 0)]), [(false, 1)]), ((8, [(0, (2, 0, 0, 0)), (1, (0, 0, 0, 3)), (2, (0, 0, 0, 7)), (3, (0, 0, (-2147483648), 2147483647)), (4, (0, 0, 0, 9)), (5, (0, 0, 1, 4))], [], [], [(0, 8, 0)]), [(false, 1)]), ((8, [(0, (2, 0, 0, 0)), (1, (0, 0, 0, 3)), (2, (0, 0, 1, 7)), (3, (0, 0, (-2147483648), 2147483647)), (4, (0, 0, 0, 18)), (5, (0, 0, 2, 5))], [], [], [(0, 7, 0)]), [(false, 1)]), ((8, [(0, (2, 0, 0, 0)), (1, (0, 0, 0, 3)), (2, (0, 0, 2, 7)), (3, (0, 0, (-2147483648), 2147483647)), (4, (0, 0, 0, 27)), (5, (0, 0, 3, 6))], [], [], [(0, 6, 0)]), [(false, 1)]), ((8, [(0, (2, 0, 0, 0)), (1, (0, 0, 0, 3)), (2, (0, 0, 3, 7)), (3, (0, 0, (-2147483648), 2147483647)), (4, (0, 0, 0, 36)), (5, (0, 0, 4, 7))], [], [], [(0, 5, 0)]), [(false, 1)]), ((8, [(0, (2, 0, 0, 0)), (1, (0, 0, 0, 3)), (2, (0, 0, 4, 7)), (3, (0, 0, (-2147483648), 2147483647)), (4, (0, 0, 0, 45)), (5, (0, 0, 5, 8))], [], [], [(0, 4, 0)]), [(false, 1)]), ((8, [(0, (2, 0, 0, 0)), (1, (0, 0, 0, 3)), (2, (0, 0, 5, 7)), (3, (0, 0, (-2147483648), 2147483647)), (4, (0, 0, 0, 54)), (5, (0, 0, 6, 8))], [], [], [(0, 3, 0)]), [(false, 1)]), ((8, [(0, (2, 0, 0, 0)), (1, (0, 0, 0, 3)), (2, (0, 0, 6, 7)), (3, (0, 0, (-2147483648), 2147483647)), (4, (0, 0, 0, 63)), (5, (0, 0, 7, 8))], [], [], [(0, 2, 0)]), [(false, 1)]), ((8, [(0, (2, 0, 0, 0)), (1, (0, 0, 0, 3)), (2, (0, 0, 7, 7)), (3, (0, 0, (-2147483648), 2147483647)), (4, (0, 0, 0, 72)), (5, (0, 0, 8, 8))], [], [], [(0, 1, 0)]), [])]
  (by decide +kernel) (fun s h => absurd h List.not_mem_nil)
noncomputable def sX10_lastsFor_4 : SM := (mX10_lastsFor, [(2, 0, 0, 0), (0, 0, 0, 4), (0, 0, 0, 7)], [], [([(0, 0, 99999, 99999)], [], []), ([(0, 0, (-2147483648), 2147483647)], [], [])], [])
theorem kX10_lastsFor_4 {SP : CT} (hSP : MONO SP) {sh : List (Nat × Nat)} : SMOK gE gRL sh (CLd SP 1) sX10_lastsFor_4 :=
  chkS hSP [] 31 [(false, 0)]
  [((8, [(0, (2, 0, 0, 0)), (1, (0, 0, 0, 4)), (2, (0, 0, 0, 7)), (3, (0, 0, 0, 0)), (4, (0, 0, 0, 0)), (5, (0, 0, 0, 4))], [], [], [(0, 9, 0)]), [(false, 1)]), ((8, [(0, (2, 0, 0, 0)), (1, (0, 0, 0, 4)), (2, (0, 0, 0, 7)), (3, (0, 0, (-2147483648), 2147483647)), (4, (0, 0, 0, 9)), (5, (0, 0, 1, 5))], [], [], [(0, 8, 0)]), [(false, 1)]), ((8, [(0, (2, 0, 0, 0)), (1, (0, 0, 0, 4)), (2, (0, 0, 1, 7)), (3, (0, 0, (-2147483648), 2147483647)), (4, (0, 0, 0, 18)), (5, (0, 0, 2, 6))], [], [], [(0, 7, 0)]), [(false, 1)]), ((8, [(0, (2, 0, 0, 0)), (1, (0, 0, 0, 4)), (2, (0, 0, 2, 7)), (3, (0, 0, (-2147483648), 2147483647)), (4, (0, 0, 0, 27)), (5, (0, 0, 3, 7))], [], [], [(0, 6, 0)]), [(false, 1)]), ((8, [(0, (2, 0, 0, 0)), (1, (0, 0, 0, 4)), (2, (0, 0, 3, 7)), (3, (0, 0, (-2147483648), 2147483647)), (4, (0, 0, 0, 36)), (5, (0, 0, 4, 8))], [], [], [(0, 5, 0)]), [(false, 1)]), ((8, [(0, (2, 0, 0, 0)), (1, (0, 0, 0, 4)), (2, (0, 0, 4, 7)), (3, (0, 0, (-2147483648), 2147483647)), (4, (0, 0, 0, 45)), (5, (0, 0, 5, 8))], [], [], [(0, 4, 0)]), [(false, 1)]), ((8, [(0, (2, 0, 0, 0)), (1, (0, 0, 0, 4)), (2, (0, 0, 5, 7)), (3, (0, 0, (-2147483648), 2147483647)), (4, (0, 0, 0, 54)), (5, (0, 0, 6, 8))], [], [], [(0, 3, 0)]), [(false, 1)]), ((8, [(0, (2, 0, 0, 0)), (1, (0, 0, 0, 4)), (2, (0, 0, 6, 7)), (3, (0, 0, (-2147483648), 2147483647)), (4, (0, 0, 0, 63)), (5, (0, 0, 7, 8))], [], [], [(0, 2, 0)]), [(false, 1)]), ((8, [(0, (2, 0, 0, 0)), (1, (0, 0, 0, 4)), (2, (0, 0, 7, 7)), (3, (0, 0, (-2147483648), 2147483647)), (4, (0, 0, 0, 72)), (5, (0, 0, 8, 8))], [], [], [(0, 1, 0)]), [])]
  (by decide +kernel) (fun s h => absurd h List.not_mem_nil)
noncomputable def sX10_lastsFor_5 : SM := (mX10_lastsFor, [(2, 0, 0, 0), (0, 0, 0, 5), (0, 0, 0, 7)], [], [([(0, 0, 99999, 99999)], [], []), ([(0, 0, (-2147483648), 2147483647)], [], [])], [])
theorem kX10_lastsFor_5 {SP : CT} (hSP : MONO SP) {sh : List (Nat × Nat)} : SMOK gE gRL sh (CLd SP 1) sX10_lastsFor_5 :=
  chkS hSP [] 31 [(false, 0)]
  [((8, [(0, (2, 0, 0, 0)), (1, (0, 0, 0, 5)), (2, (0, 0, 0, 7)), (3, (0, 0, 0, 0)), (4, (0, 0, 0, 0)), (5, (0, 0, 0, 5))], [], [], [(0, 9, 0)]), [(false, 1)]), ((8, [(0, (2, 0, 0, 0)), (1, (0, 0, 0, 5)), (2, (0, 0, 0, 7)), (3, (0, 0, (-2147483648), 2147483647)), (4, (0, 0, 0, 9)), (5, (0, 0, 1, 6))], [], [], [(0, 8, 0)]), [(false, 1)]), ((8, [(0, (2, 0, 0, 0)), (1, (0, 0, 0, 5)), (2, (0, 0, 1, 7)), (3, (0, 0, (-2147483648), 2147483647)), (4, (0, 0, 0, 18)), (5, (0, 0, 2, 7))], [], [], [(0, 7, 0)]), [(false, 1)]), ((8, [(0, (2, 0, 0, 0)), (1, (0, 0, 0, 5)), (2, (0, 0, 2, 7)), (3, (0, 0, (-2147483648), 2147483647)), (4, (0, 0, 0, 27)), (5, (0, 0, 3, 8))], [], [], [(0, 6, 0)]), [(false, 1)]), ((8, [(0, (2, 0, 0, 0)), (1, (0, 0, 0, 5)), (2, (0, 0, 3, 7)), (3, (0, 0, (-2147483648), 2147483647)), (4, (0, 0, 0, 36)), (5, (0, 0, 4, 8))], [], [], [(0, 5, 0)]), [(false, 1)]), ((8, [(0, (2, 0, 0, 0)), (1, (0, 0, 0, 5)), (2, (0, 0, 4, 7)), (3, (0, 0, (-2147483648), 2147483647)), (4, (0, 0, 0, 45)), (5, (0, 0, 5, 8))], [], [], [(0, 4, 0)]), [(false, 1)]), ((8, [(0, (2, 0, 0, 0)), (1, (0, 0, 0, 5)), (2, (0, 0, 5, 7)), (3, (0, 0, (-2147483648), 2147483647)), (4, (0, 0, 0, 54)), (5, (0, 0, 6, 8))], [], [], [(0, 3, 0)]), [(false, 1)]), ((8, [(0, (2, 0, 0, 0)), (1, (0, 0, 0, 5)), (2, (0, 0, 6, 7)), (3, (0, 0, (-2147483648), 2147483647)), (4, (0, 0, 0, 63)), (5, (0, 0, 7, 8))], [], [], [(0, 2, 0)]), [(false, 1)]), ((8, [(0, (2, 0, 0, 0)), (1, (0, 0, 0, 5)), (2, (0, 0, 7, 7)), (3, (0, 0, (-2147483648), 2147483647)), (4, (0, 0, 0, 72)), (5, (0, 0, 8, 8))], [], [], [(0, 1, 0)]), [])]
  (by decide +kernel) (fun s h => absurd h List.not_mem_nil)
noncomputable def sX10_lastsFor_6 : SM := (mX10_lastsFor, [(2, 0, 0, 0), (0, 0, 0, 6), (0, 0, 0, 7)], [], [([(0, 0, 99999, 99999)], [], []), ([(0, 0, (-2147483648), 2147483647)], [], [])], [])
theorem kX10_lastsFor_6 {SP : CT} (hSP : MONO SP) {sh : List (Nat × Nat)} : SMOK gE gRL sh (CLd SP 1) sX10_lastsFor_6 :=
  chkS hSP [] 31 [(false, 0)]
  [((8, [(0, (2, 0, 0, 0)), (1, (0, 0, 0, 6)), (2, (0, 0, 0, 7)), (3, (0, 0, 0, 0)), (4, (0, 0, 0, 0)), (5, (0, 0, 0, 6))], [], [], [(0, 9, 0)]), [(false, 1)]), ((8, [(0, (2, 0, 0, 0)), (1, (0, 0, 0, 6)), (2, (0, 0, 0, 7)), (3, (0, 0, (-2147483648), 2147483647)), (4, (0, 0, 0, 9)), (5, (0, 0, 1, 7))], [], [], [(0, 8, 0)]), [(false, 1)]), ((8, [(0, (2, 0, 0, 0)), (1, (0, 0, 0, 6)), (2, (0, 0, 1, 7)), (3, (0, 0, (-2147483648), 2147483647)), (4, (0, 0, 0, 18)), (5, (0, 0, 2, 8))], [], [], [(0, 7, 0)]), [(false, 1)]), ((8, [(0, (2, 0, 0, 0)), (1, (0, 0, 0, 6)), (2, (0, 0, 2, 7)), (3, (0, 0, (-2147483648), 2147483647)), (4, (0, 0, 0, 27)), (5, (0, 0, 3, 8))], [], [], [(0, 6, 0)]), [(false, 1)]), ((8, [(0, (2, 0, 0, 0)), (1, (0, 0, 0, 6)), (2, (0, 0, 3, 7)), (3, (0, 0, (-2147483648), 2147483647)), (4, (0, 0, 0, 36)), (5, (0, 0, 4, 8))], [], [], [(0, 5, 0)]), [(false, 1)]), ((8, [(0, (2, 0, 0, 0)), (1, (0, 0, 0, 6)), (2, (0, 0, 4, 7)), (3, (0, 0, (-2147483648), 2147483647)), (4, (0, 0, 0, 45)), (5, (0, 0, 5, 8))], [], [], [(0, 4, 0)]), [(false, 1)]), ((8, [(0, (2, 0, 0, 0)), (1, (0, 0, 0, 6)), (2, (0, 0, 5, 7)), (3, (0, 0, (-2147483648), 2147483647)), (4, (0, 0, 0, 54)), (5, (0, 0, 6, 8))], [], [], [(0, 3, 0)]), [(false, 1)]), ((8, [(0, (2, 0, 0, 0)), (1, (0, 0, 0, 6)), (2, (0, 0, 6, 7)), (3, (0, 0, (-2147483648), 2147483647)), (4, (0, 0, 0, 63)), (5, (0, 0, 7, 8))], [], [], [(0, 2, 0)]), [(false, 1)]), ((8, [(0, (2, 0, 0, 0)), (1, (0, 0, 0, 6)), (2, (0, 0, 7, 7)), (3, (0, 0, (-2147483648), 2147483647)), (4, (0, 0, 0, 72)), (5, (0, 0, 8, 8))], [], [], [(0, 1, 0)]), [])]
  (by decide +kernel) (fun s h => absurd h List.not_mem_nil)
noncomputable def sX10_lastsFor_7 : SM := (mX10_lastsFor, [(2, 0, 0, 0), (0, 0, 0, 7), (0, 0, 0, 7)], [], [([(0, 0, 99999, 99999)], [], []), ([(0, 0, (-2147483648), 2147483647)], [], [])], [])
theorem kX10_lastsFor_7 {SP : CT} (hSP : MONO SP) {sh : List (Nat × Nat)} : SMOK gE gRL sh (CLd SP 1) sX10_lastsFor_7 :=
  chkS hSP [] 31 [(false, 0)]
  [((8, [(0, (2, 0, 0, 0)), (1, (0, 0, 0, 7)), (2, (0, 0, 0, 7)), (3, (0, 0, 0, 0)), (4, (0, 0, 0, 0)), (5, (0, 0, 0, 7))], [], [], [(0, 9, 0)]), [(false, 1)]), ((8, [(0, (2, 0, 0, 0)), (1, (0, 0, 0, 7)), (2, (0, 0, 0, 7)), (3, (0, 0, (-2147483648), 2147483647)), (4, (0, 0, 0, 9)), (5, (0, 0, 1, 8))], [], [], [(0, 8, 0)]), [(false, 1)]), ((8, [(0, (2, 0, 0, 0)), (1, (0, 0, 0, 7)), (2, (0, 0, 1, 7)), (3, (0, 0, (-2147483648), 2147483647)), (4, (0, 0, 0, 18)), (5, (0, 0, 2, 8))], [], [], [(0, 7, 0)]), [(false, 1)]), ((8, [(0, (2, 0, 0, 0)), (1, (0, 0, 0, 7)), (2, (0, 0, 2, 7)), (3, (0, 0, (-2147483648), 2147483647)), (4, (0, 0, 0, 27)), (5, (0, 0, 3, 8))], [], [], [(0, 6, 0)]), [(false, 1)]), ((8, [(0, (2, 0, 0, 0)), (1, (0, 0, 0, 7)), (2, (0, 0, 3, 7)), (3, (0, 0, (-2147483648), 2147483647)), (4, (0, 0, 0, 36)), (5, (0, 0, 4, 8))], [], [], [(0, 5, 0)]), [(false, 1)]), ((8, [(0, (2, 0, 0, 0)), (1, (0, 0, 0, 7)), (2, (0, 0, 4, 7)), (3, (0, 0, (-2147483648), 2147483647)), (4, (0, 0, 0, 45)), (5, (0, 0, 5, 8))], [], [], [(0, 4, 0)]), [(false, 1)]), ((8, [(0, (2, 0, 0, 0)), (1, (0, 0, 0, 7)), (2, (0, 0, 5, 7)), (3, (0, 0, (-2147483648), 2147483647)), (4, (0, 0, 0, 54)), (5, (0, 0, 6, 8))], [], [], [(0, 3, 0)]), [(false, 1)]), ((8, [(0, (2, 0, 0, 0)), (1, (0, 0, 0, 7)), (2, (0, 0, 6, 7)), (3, (0, 0, (-2147483648), 2147483647)), (4, (0, 0, 0, 63)), (5, (0, 0, 7, 8))], [], [], [(0, 2, 0)]), [(false, 1)]), ((8, [(0, (2, 0, 0, 0)), (1, (0, 0, 0, 7)), (2, (0, 0, 7, 7)), (3, (0, 0, (-2147483648), 2147483647)), (4, (0, 0, 0, 72)), (5, (0, 0, 8, 8))], [], [], [(0, 1, 0)]), [])]
  (by decide +kernel) (fun s h => absurd h List.not_mem_nil)
noncomputable def sX10_lives_0 : SM := (mX10_lives, [(2, 0, 0, 0), (0, 0, (-2147483648), 2147483647)], [], [([(0, 0, (-2147483648), 99999)], [(3, 1, 1, 30)], []), ([(0, 0, (-2147483648), 99999)], [(3, 1, 30, 30)], []), ([(0, 0, (-1), (-1))], [], [])], [(0, 3, 1, 1), (1, 4, 0, 29)])
theorem kX10_lives_0 {SP : CT} (hSP : MONO SP) {sh : List (Nat × Nat)} : SMOK gE gRL sh (CLd SP 3) sX10_lives_0 :=
  chkS hSP [sX10_lastsFor_0, sX10_lastsFor_1, sX10_lastsFor_2, sX10_lastsFor_3, sX10_lastsFor_4, sX10_lastsFor_5, sX10_lastsFor_6, sX10_lastsFor_7, sX3_tellOne_0] 144 [(false, 0)]
  [((27, [(0, (2, 0, 0, 0)), (1, (0, 0, 0, 3)), (2, (0, 0, (-2147483648), 99999)), (3, (0, 0, (-1), 7)), (4, (0, 0, 0, 8))], [], [(0, 9, 1, 8)], [(0, 1, 0), (1, 4, 8), (0, 1, 0)]), [(false, 0)])]
  (by decide +kernel) (List.forall_mem_cons.mpr ⟨SMOK_le (Nat.le_of_ble_eq_true rfl : 1 ≤ 2) (kX10_lastsFor_0 hSP), List.forall_mem_cons.mpr ⟨SMOK_le (Nat.le_of_ble_eq_true rfl : 1 ≤ 2) (kX10_lastsFor_1 hSP), List.forall_mem_cons.mpr ⟨SMOK_le (Nat.le_of_ble_eq_true rfl : 1 ≤ 2) (kX10_lastsFor_2 hSP), List.forall_mem_cons.mpr ⟨SMOK_le (Nat.le_of_ble_eq_true rfl : 1 ≤ 2) (kX10_lastsFor_3 hSP), List.forall_mem_cons.mpr ⟨SMOK_le (Nat.le_of_ble_eq_true rfl : 1 ≤ 2) (kX10_lastsFor_4 hSP), List.forall_mem_cons.mpr ⟨SMOK_le (Nat.le_of_ble_eq_true rfl : 1 ≤ 2) (kX10_lastsFor_5 hSP), List.forall_mem_cons.mpr ⟨SMOK_le (Nat.le_of_ble_eq_true rfl : 1 ≤ 2) (kX10_lastsFor_6 hSP), List.forall_mem_cons.mpr ⟨SMOK_le (Nat.le_of_ble_eq_true rfl : 1 ≤ 2) (kX10_lastsFor_7 hSP), List.forall_mem_cons.mpr ⟨SMOK_le (Nat.le_of_ble_eq_true rfl : 2 ≤ 2) (kX3_tellOne_0 hSP), fun s h => absurd h List.not_mem_nil⟩⟩⟩⟩⟩⟩⟩⟩⟩)
noncomputable def sX10_leastPassing_0 : SM := (mX10_leastPassing, [(2, 0, 0, 0), (0, 0, 1, 6), (0, 0, (-2147483648), 2147483647)], [], [([(0, 0, (-2147483648), 1000000)], [], [])], [])
theorem kX10_leastPassing_0 {SP : CT} (hSP : MONO SP) {sh : List (Nat × Nat)} : SMOK gE gRL sh (CLd SP 1) sX10_leastPassing_0 :=
  chkS hSP [] 39 [(false, 0)]
  [((7, [(0, (2, 0, 0, 0)), (1, (0, 0, 1, 6)), (2, (0, 0, (-2147483648), 2147483647)), (3, (0, 0, (-2147483648), 1000000)), (4, (0, 0, 0, 9))], [], [], [(0, 1, 0), (1, 4, 9), (0, 1, 0)]), [(false, 0)])]
  (by decide +kernel) (fun s h => absurd h List.not_mem_nil)
noncomputable def sX10_weighPassing_0 : SM := (mX10_weighPassing, [(2, 0, 0, 0)], [], [([], [], [])], [(0, 53, 0, 8)])
theorem kX10_weighPassing_0 {SP : CT} (hSP : MONO SP) {sh : List (Nat × Nat)} : SMOK gE gRL sh (CLd SP 2) sX10_weighPassing_0 :=
  chkS hSP [sX10_leastPassing_0] 54 [(false, 0)]
  [((7, [(0, (2, 0, 0, 0)), (1, (0, 0, (-2), 6))], [], [], [(0, 1, 0), (2, 1, (-1)), (0, 2, 0)]), [(false, 1)]), ((13, [(0, (2, 0, 0, 0)), (1, (0, 0, 0, 6)), (2, (0, 0, 0, 9))], [], [], [(0, 1, 0), (2, 1, (-1)), (0, 1, 0), (1, 2, 9), (0, 1, 0)]), [(true, 0), (false, 0)])]
  (by decide +kernel) (List.forall_mem_cons.mpr ⟨SMOK_le (Nat.le_of_ble_eq_true rfl : 1 ≤ 1) (kX10_leastPassing_0 hSP), fun s h => absurd h List.not_mem_nil⟩)
noncomputable def sX10_leastPassing_1 : SM := (mX10_leastPassing, [(2, 0, 0, 0), (0, 0, 0, 0), (0, 0, 0, 0)], [], [([(0, 0, (-2147483648), 1000000)], [], [])], [])
theorem kX10_leastPassing_1 {SP : CT} (hSP : MONO SP) {sh : List (Nat × Nat)} : SMOK gE gRL sh (CLd SP 1) sX10_leastPassing_1 :=
  chkS hSP [] 39 [(false, 0)]
  [((7, [(0, (2, 0, 0, 0)), (1, (0, 0, 0, 0)), (2, (0, 0, 0, 0)), (3, (0, 0, (-2147483648), 1000000)), (4, (0, 0, 0, 9))], [], [], [(0, 1, 0), (1, 4, 9), (0, 1, 0)]), [(false, 0)])]
  (by decide +kernel) (fun s h => absurd h List.not_mem_nil)
noncomputable def sX10_leastPassing_2 : SM := (mX10_leastPassing, [(2, 0, 0, 0), (0, 0, 0, 1), (0, 0, (-2147483648), 2147483647)], [], [([(0, 0, (-2147483648), 1000000)], [], [])], [])
theorem kX10_leastPassing_2 {SP : CT} (hSP : MONO SP) {sh : List (Nat × Nat)} : SMOK gE gRL sh (CLd SP 1) sX10_leastPassing_2 :=
  chkS hSP [] 39 [(false, 0)]
  [((7, [(0, (2, 0, 0, 0)), (1, (0, 0, 0, 1)), (2, (0, 0, (-2147483648), 2147483647)), (3, (0, 0, (-2147483648), 1000000)), (4, (0, 0, 0, 9))], [], [], [(0, 1, 0), (1, 4, 9), (0, 1, 0)]), [(false, 0)])]
  (by decide +kernel) (fun s h => absurd h List.not_mem_nil)
noncomputable def sX10_leastPassing_3 : SM := (mX10_leastPassing, [(2, 0, 0, 0), (0, 0, 0, 2), (0, 0, (-2147483648), 2147483647)], [], [([(0, 0, (-2147483648), 1000000)], [], [])], [])
theorem kX10_leastPassing_3 {SP : CT} (hSP : MONO SP) {sh : List (Nat × Nat)} : SMOK gE gRL sh (CLd SP 1) sX10_leastPassing_3 :=
  chkS hSP [] 39 [(false, 0)]
  [((7, [(0, (2, 0, 0, 0)), (1, (0, 0, 0, 2)), (2, (0, 0, (-2147483648), 2147483647)), (3, (0, 0, (-2147483648), 1000000)), (4, (0, 0, 0, 9))], [], [], [(0, 1, 0), (1, 4, 9), (0, 1, 0)]), [(false, 0)])]
  (by decide +kernel) (fun s h => absurd h List.not_mem_nil)
noncomputable def sX10_leastPassing_4 : SM := (mX10_leastPassing, [(2, 0, 0, 0), (0, 0, 0, 3), (0, 0, (-2147483648), 2147483647)], [], [([(0, 0, (-2147483648), 1000000)], [], [])], [])
theorem kX10_leastPassing_4 {SP : CT} (hSP : MONO SP) {sh : List (Nat × Nat)} : SMOK gE gRL sh (CLd SP 1) sX10_leastPassing_4 :=
  chkS hSP [] 39 [(false, 0)]
  [((7, [(0, (2, 0, 0, 0)), (1, (0, 0, 0, 3)), (2, (0, 0, (-2147483648), 2147483647)), (3, (0, 0, (-2147483648), 1000000)), (4, (0, 0, 0, 9))], [], [], [(0, 1, 0), (1, 4, 9), (0, 1, 0)]), [(false, 0)])]
  (by decide +kernel) (fun s h => absurd h List.not_mem_nil)
noncomputable def sX10_leastPassing_5 : SM := (mX10_leastPassing, [(2, 0, 0, 0), (0, 0, 0, 4), (0, 0, (-2147483648), 2147483647)], [], [([(0, 0, (-2147483648), 1000000)], [], [])], [])
theorem kX10_leastPassing_5 {SP : CT} (hSP : MONO SP) {sh : List (Nat × Nat)} : SMOK gE gRL sh (CLd SP 1) sX10_leastPassing_5 :=
  chkS hSP [] 39 [(false, 0)]
  [((7, [(0, (2, 0, 0, 0)), (1, (0, 0, 0, 4)), (2, (0, 0, (-2147483648), 2147483647)), (3, (0, 0, (-2147483648), 1000000)), (4, (0, 0, 0, 9))], [], [], [(0, 1, 0), (1, 4, 9), (0, 1, 0)]), [(false, 0)])]
  (by decide +kernel) (fun s h => absurd h List.not_mem_nil)
noncomputable def sX10_leastPassing_6 : SM := (mX10_leastPassing, [(2, 0, 0, 0), (0, 0, 0, 5), (0, 0, (-2147483648), 2147483647)], [], [([(0, 0, (-2147483648), 1000000)], [], [])], [])
theorem kX10_leastPassing_6 {SP : CT} (hSP : MONO SP) {sh : List (Nat × Nat)} : SMOK gE gRL sh (CLd SP 1) sX10_leastPassing_6 :=
  chkS hSP [] 39 [(false, 0)]
  [((7, [(0, (2, 0, 0, 0)), (1, (0, 0, 0, 5)), (2, (0, 0, (-2147483648), 2147483647)), (3, (0, 0, (-2147483648), 1000000)), (4, (0, 0, 0, 9))], [], [], [(0, 1, 0), (1, 4, 9), (0, 1, 0)]), [(false, 0)])]
  (by decide +kernel) (fun s h => absurd h List.not_mem_nil)
noncomputable def sX10_leastPassing_7 : SM := (mX10_leastPassing, [(2, 0, 0, 0), (0, 0, 0, 6), (0, 0, (-2147483648), 2147483647)], [], [([(0, 0, (-2147483648), 1000000)], [], [])], [])
theorem kX10_leastPassing_7 {SP : CT} (hSP : MONO SP) {sh : List (Nat × Nat)} : SMOK gE gRL sh (CLd SP 1) sX10_leastPassing_7 :=
  chkS hSP [] 39 [(false, 0)]
  [((7, [(0, (2, 0, 0, 0)), (1, (0, 0, 0, 6)), (2, (0, 0, (-2147483648), 2147483647)), (3, (0, 0, (-2147483648), 1000000)), (4, (0, 0, 0, 9))], [], [], [(0, 1, 0), (1, 4, 9), (0, 1, 0)]), [(false, 0)])]
  (by decide +kernel) (fun s h => absurd h List.not_mem_nil)
noncomputable def sX10_choosePassing_0 : SM := (mX10_choosePassing, [(2, 0, 0, 0)], [], [([(0, 0, (-2147483648), 2147483647)], [(3, 1, 0, 30)], [])], [(0, 3, 1, 1), (1, 4, 0, 29)])
theorem kX10_choosePassing_0 {SP : CT} (hSP : MONO SP) {sh : List (Nat × Nat)} : SMOK gE gRL sh (CLd SP 2) sX10_choosePassing_0 :=
  chkS hSP [sX10_leastPassing_1, sX10_leastPassing_2, sX10_leastPassing_3, sX10_leastPassing_4, sX10_leastPassing_5, sX10_leastPassing_6, sX10_leastPassing_7, sX3_add_0, sX3_clear_0] 85 [(false, 0)]
  [((13, [(0, (2, 0, 0, 0)), (1, (0, 0, (-2147483648), 2147483647)), (2, (0, 0, (-2147483648), 2147483647)), (3, (0, 0, 0, 7))], [], [(3, 1, 0, 30)], [(0, 1, 0), (1, 3, 7), (0, 2, 0)]), [(false, 1)]), ((37, [(0, (2, 0, 0, 0)), (1, (0, 0, (-2147483648), 2147483647)), (2, (0, 0, (-2147483648), 2147483647)), (3, (0, 0, 0, 6)), (4, (0, 0, (-2147483648), 1000000)), (5, (0, 0, (-2147483648), 2147483647)), (6, (0, 0, 0, 9))], [], [], [(0, 1, 0), (1, 3, 7), (0, 1, 0), (1, 6, 9), (0, 1, 0)]), [(true, 0), (false, 0)])]
  (by decide +kernel) (List.forall_mem_cons.mpr ⟨SMOK_le (Nat.le_of_ble_eq_true rfl : 1 ≤ 1) (kX10_leastPassing_1 hSP), List.forall_mem_cons.mpr ⟨SMOK_le (Nat.le_of_ble_eq_true rfl : 1 ≤ 1) (kX10_leastPassing_2 hSP), List.forall_mem_cons.mpr ⟨SMOK_le (Nat.le_of_ble_eq_true rfl : 1 ≤ 1) (kX10_leastPassing_3 hSP), List.forall_mem_cons.mpr ⟨SMOK_le (Nat.le_of_ble_eq_true rfl : 1 ≤ 1) (kX10_leastPassing_4 hSP), List.forall_mem_cons.mpr ⟨SMOK_le (Nat.le_of_ble_eq_true rfl : 1 ≤ 1) (kX10_leastPassing_5 hSP), List.forall_mem_cons.mpr ⟨SMOK_le (Nat.le_of_ble_eq_true rfl : 1 ≤ 1) (kX10_leastPassing_6 hSP), List.forall_mem_cons.mpr ⟨SMOK_le (Nat.le_of_ble_eq_true rfl : 1 ≤ 1) (kX10_leastPassing_7 hSP), List.forall_mem_cons.mpr ⟨SMOK_le (Nat.le_of_ble_eq_true rfl : 1 ≤ 1) (kX3_add_0 hSP), List.forall_mem_cons.mpr ⟨SMOK_le (Nat.le_of_ble_eq_true rfl : 1 ≤ 1) (kX3_clear_0 hSP), fun s h => absurd h List.not_mem_nil⟩⟩⟩⟩⟩⟩⟩⟩⟩)
noncomputable def sX10_shares_0 : SM := (mX10_shares, [(2, 0, 0, 0), (0, 0, (-2147483648), 2147483647)], [], [([(0, 0, (-2), (-2))], [(51, 0, 0, 0), (51, 1, (-2147483648), 2147483647)], []), ([(0, 0, (-2147483648), 2147483647)], [(3, 1, 0, 30), (51, 0, 0, 0), (51, 1, (-2147483648), 2147483647)], []), ([(0, 0, (-1), (-1))], [], [])], [(0, 3, 1, 1), (0, 51, 0, 8), (0, 53, 0, 8), (1, 4, 0, 29)])
theorem kX10_shares_0 {SP : CT} (hSP : MONO SP) {sh : List (Nat × Nat)} : SMOK gE gRL sh (CLd SP 3) sX10_shares_0 :=
  chkS hSP [sX10_choosePassing_0, sX10_weighPassing_0] 44 [(false, 0)]
  [((28, [(0, (2, 0, 0, 0)), (1, (0, 0, 0, 99)), (2, (0, 0, 0, 0))], [], [(0, 9, 1, 8), (51, 0, 0, 0)], [(0, 9, 0)]), [(false, 1)]), ((28, [(0, (2, 0, 0, 0)), (1, (0, 0, 0, 99)), (2, (0, 0, 1, 1))], [], [(0, 9, 1, 8), (51, 0, 0, 0), (51, 1, (-2147483648), 2147483647)], [(0, 8, 0)]), [(false, 1)]), ((28, [(0, (2, 0, 0, 0)), (1, (0, 0, 0, 99)), (2, (0, 0, 2, 2))], [], [(0, 9, 2, 8), (51, 0, 0, 0), (51, 1, (-2147483648), 2147483647), (51, 2, (-2147483648), 2147483647)], [(0, 7, 0)]), [(false, 1)]), ((28, [(0, (2, 0, 0, 0)), (1, (0, 0, 0, 99)), (2, (0, 0, 3, 3))], [], [(0, 9, 3, 8), (51, 0, 0, 0), (51, 1, (-2147483648), 2147483647), (51, 2, (-2147483648), 2147483647), (51, 3, (-2147483648), 2147483647)], [(0, 6, 0)]), [(false, 1)]), ((28, [(0, (2, 0, 0, 0)), (1, (0, 0, 0, 99)), (2, (0, 0, 4, 4))], [], [(0, 9, 4, 8), (51, 0, 0, 0), (51, 1, (-2147483648), 2147483647), (51, 2, (-2147483648), 2147483647), (51, 3, (-2147483648), 2147483647), (51, 4, (-2147483648), 2147483647)], [(0, 5, 0)]), [(false, 1)]), ((28, [(0, (2, 0, 0, 0)), (1, (0, 0, 0, 99)), (2, (0, 0, 5, 5))], [], [(0, 9, 5, 8), (51, 0, 0, 0), (51, 1, (-2147483648), 2147483647), (51, 2, (-2147483648), 2147483647), (51, 3, (-2147483648), 2147483647), (51, 4, (-2147483648), 2147483647), (51, 5, (-2147483648), 2147483647)], [(0, 4, 0)]), [(false, 1)]), ((28, [(0, (2, 0, 0, 0)), (1, (0, 0, 0, 99)), (2, (0, 0, 6, 6))], [], [(0, 9, 6, 8), (51, 0, 0, 0), (51, 1, (-2147483648), 2147483647), (51, 2, (-2147483648), 2147483647), (51, 3, (-2147483648), 2147483647), (51, 4, (-2147483648), 2147483647), (51, 5, (-2147483648), 2147483647), (51, 6, (-2147483648), 2147483647)], [(0, 3, 0)]), [(false, 1)]), ((28, [(0, (2, 0, 0, 0)), (1, (0, 0, 0, 99)), (2, (0, 0, 7, 7))], [], [(0, 9, 7, 8), (51, 0, 0, 0), (51, 1, (-2147483648), 2147483647), (51, 2, (-2147483648), 2147483647), (51, 3, (-2147483648), 2147483647), (51, 4, (-2147483648), 2147483647), (51, 5, (-2147483648), 2147483647), (51, 6, (-2147483648), 2147483647), (51, 7, (-2147483648), 2147483647)], [(0, 2, 0)]), [(false, 1)]), ((28, [(0, (2, 0, 0, 0)), (1, (0, 0, 0, 99)), (2, (0, 0, 8, 8))], [], [(0, 9, 8, 8), (51, 0, 0, 0), (51, 1, (-2147483648), 2147483647), (51, 2, (-2147483648), 2147483647), (51, 3, (-2147483648), 2147483647), (51, 4, (-2147483648), 2147483647), (51, 5, (-2147483648), 2147483647), (51, 6, (-2147483648), 2147483647), (51, 7, (-2147483648), 2147483647), (51, 8, (-2147483648), 2147483647)], [(0, 1, 0)]), [])]
  (by decide +kernel) (List.forall_mem_cons.mpr ⟨SMOK_le (Nat.le_of_ble_eq_true rfl : 2 ≤ 2) (kX10_choosePassing_0 hSP), List.forall_mem_cons.mpr ⟨SMOK_le (Nat.le_of_ble_eq_true rfl : 2 ≤ 2) (kX10_weighPassing_0 hSP), fun s h => absurd h List.not_mem_nil⟩⟩)
noncomputable def sX10_foodLeft_0 : SM := (mX10_foodLeft, [(2, 0, 0, 0), (0, 0, (-2147483648), 2147483647), (0, 0, 0, 99)], [], [([(0, 0, (-2147483648), 2147483647)], [], []), ([(0, 0, 0, 0)], [], [])], [])
theorem kX10_foodLeft_0 {SP : CT} (hSP : MONO SP) {sh : List (Nat × Nat)} : SMOK gE gRL sh (CLd SP 1) sX10_foodLeft_0 :=
  chkS hSP [] 40 [(false, 0)]
  [((5, [(0, (2, 0, 0, 0)), (1, (0, 0, (-2147483648), 2147483647)), (2, (0, 0, 0, 99)), (3, (0, 0, 0, 0)), (4, (0, 0, 0, 0))], [], [], [(0, 9, 0)]), [(false, 1)]), ((5, [(0, (2, 0, 0, 0)), (1, (0, 0, (-2147483648), 2147483647)), (2, (0, 0, 0, 99)), (3, (0, 0, (-2147483648), 2147483647)), (4, (0, 0, 1, 1))], [], [(0, 9, 1, 8)], [(0, 8, 0)]), [(false, 1)]), ((5, [(0, (2, 0, 0, 0)), (1, (0, 0, (-2147483648), 2147483647)), (2, (0, 0, 0, 99)), (3, (0, 0, (-2147483648), 2147483647)), (4, (0, 0, 2, 2))], [], [(0, 9, 2, 8)], [(0, 7, 0)]), [(false, 1)]), ((5, [(0, (2, 0, 0, 0)), (1, (0, 0, (-2147483648), 2147483647)), (2, (0, 0, 0, 99)), (3, (0, 0, (-2147483648), 2147483647)), (4, (0, 0, 3, 3))], [], [(0, 9, 3, 8)], [(0, 6, 0)]), [(false, 1)]), ((5, [(0, (2, 0, 0, 0)), (1, (0, 0, (-2147483648), 2147483647)), (2, (0, 0, 0, 99)), (3, (0, 0, (-2147483648), 2147483647)), (4, (0, 0, 4, 4))], [], [(0, 9, 4, 8)], [(0, 5, 0)]), [(false, 1)]), ((5, [(0, (2, 0, 0, 0)), (1, (0, 0, (-2147483648), 2147483647)), (2, (0, 0, 0, 99)), (3, (0, 0, (-2147483648), 2147483647)), (4, (0, 0, 5, 5))], [], [(0, 9, 5, 8)], [(0, 4, 0)]), [(false, 1)]), ((5, [(0, (2, 0, 0, 0)), (1, (0, 0, (-2147483648), 2147483647)), (2, (0, 0, 0, 99)), (3, (0, 0, (-2147483648), 2147483647)), (4, (0, 0, 6, 6))], [], [(0, 9, 6, 8)], [(0, 3, 0)]), [(false, 1)]), ((5, [(0, (2, 0, 0, 0)), (1, (0, 0, (-2147483648), 2147483647)), (2, (0, 0, 0, 99)), (3, (0, 0, (-2147483648), 2147483647)), (4, (0, 0, 7, 7))], [], [(0, 9, 7, 8)], [(0, 2, 0)]), [(false, 1)]), ((5, [(0, (2, 0, 0, 0)), (1, (0, 0, (-2147483648), 2147483647)), (2, (0, 0, 0, 99)), (3, (0, 0, (-2147483648), 2147483647)), (4, (0, 0, 8, 8))], [], [(0, 9, 8, 8)], [(0, 1, 0)]), [])]
  (by decide +kernel) (fun s h => absurd h List.not_mem_nil)
noncomputable def sX10_fast_0 : SM := (mX10_fast, [(2, 0, 0, 0), (0, 0, (-2147483648), 2147483647)], [], [([(0, 0, (-2147483648), 2147483647)], [(3, 1, 1, 30)], []), ([(0, 0, (-2147483648), 2147483647)], [(3, 1, 30, 30)], []), ([(0, 0, (-1), (-1))], [], [])], [(0, 3, 1, 1), (1, 4, 0, 29)])
theorem kX10_fast_0 {SP : CT} (hSP : MONO SP) {sh : List (Nat × Nat)} : SMOK gE gRL sh (CLd SP 3) sX10_fast_0 :=
  chkS hSP [sJ6_bitCount_0f7a4_0, sX10_foodLeft_0, sX3_tellTwo_0] 54 [(false, 0)]
  [((40, [(0, (2, 0, 0, 0)), (1, (0, 0, 0, 99)), (2, (0, 0, (-2147483648), 2147483647)), (3, (0, 0, (-2147483648), 2147483647)), (4, (0, 0, (-2147483648), 2147483647))], [], [], [(0, 1, 0), (2, 4, (-1)), (0, 1, 0)]), [(false, 0)])]
  (by decide +kernel) (List.forall_mem_cons.mpr ⟨SMOK_le (Nat.le_of_ble_eq_true rfl : 1 ≤ 2) (kJ6_bitCount_0f7a4_0 hSP), List.forall_mem_cons.mpr ⟨SMOK_le (Nat.le_of_ble_eq_true rfl : 1 ≤ 2) (kX10_foodLeft_0 hSP), List.forall_mem_cons.mpr ⟨SMOK_le (Nat.le_of_ble_eq_true rfl : 2 ≤ 2) (kX3_tellTwo_0 hSP), fun s h => absurd h List.not_mem_nil⟩⟩⟩)
noncomputable def sJ7_fill_53178_2 : SM := (mJ7_fill_53178, [(2, 48, 0, 0), (0, 0, (-1), (-1))], [], [([], [(48, 0, (-1), (-1)), (48, 1, (-1), (-1)), (48, 2, (-1), (-1)), (48, 3, (-1), (-1)), (48, 4, (-1), (-1)), (48, 5, (-1), (-1)), (48, 6, (-1), (-1)), (48, 7, (-1), (-1)), (48, 8, (-1), (-1)), (48, 9, (-1), (-1)), (48, 10, (-1), (-1)), (48, 11, (-1), (-1)), (48, 12, (-1), (-1)), (48, 13, (-1), (-1)), (48, 14, (-1), (-1)), (48, 15, (-1), (-1)), (48, 16, (-1), (-1)), (48, 17, (-1), (-1)), (48, 18, (-1), (-1)), (48, 19, (-1), (-1)), (48, 20, (-1), (-1)), (48, 21, (-1), (-1)), (48, 22, (-1), (-1)), (48, 23, (-1), (-1)), (48, 24, (-1), (-1))], [])], [(0, 48, 0, 24)])
theorem kJ7_fill_53178_2 {SP : CT} (hSP : MONO SP) {sh : List (Nat × Nat)} : SMOK gE gRL sh (CLd SP 1) sJ7_fill_53178_2 :=
  chkS hSP [] 11 [(false, 0)]
  [((5, [(0, (2, 48, 0, 0)), (1, (0, 0, (-1), (-1))), (2, (0, 0, 0, 0)), (3, (0, 0, 25, 25))], [], [], [(0, 26, 0)]), [(false, 1)]), ((5, [(0, (2, 48, 0, 0)), (1, (0, 0, (-1), (-1))), (2, (0, 0, 1, 1)), (3, (0, 0, 25, 25))], [], [(48, 0, (-1), (-1))], [(0, 25, 0)]), [(false, 1)]), ((5, [(0, (2, 48, 0, 0)), (1, (0, 0, (-1), (-1))), (2, (0, 0, 2, 2)), (3, (0, 0, 25, 25))], [], [(48, 0, (-1), (-1)), (48, 1, (-1), (-1))], [(0, 24, 0)]), [(false, 1)]), ((5, [(0, (2, 48, 0, 0)), (1, (0, 0, (-1), (-1))), (2, (0, 0, 3, 3)), (3, (0, 0, 25, 25))], [], [(48, 0, (-1), (-1)), (48, 1, (-1), (-1)), (48, 2, (-1), (-1))], [(0, 23, 0)]), [(false, 1)]), ((5, [(0, (2, 48, 0, 0)), (1, (0, 0, (-1), (-1))), (2, (0, 0, 4, 4)), (3, (0, 0, 25, 25))], [], [(48, 0, (-1), (-1)), (48, 1, (-1), (-1)), (48, 2, (-1), (-1)), (48, 3, (-1), (-1))], [(0, 22, 0)]), [(false, 1)]), ((5, [(0, (2, 48, 0, 0)), (1, (0, 0, (-1), (-1))), (2, (0, 0, 5, 5)), (3, (0, 0, 25, 25))], [], [(48, 0, (-1), (-1)), (48, 1, (-1), (-1)), (48, 2, (-1), (-1)), (48, 3, (-1), (-1)), (48, 4, (-1), (-1))], [(0, 21, 0)]), [(false, 1)]), ((5, [(0, (2, 48, 0, 0)), (1, (0, 0, (-1), (-1))), (2, (0, 0, 6, 6)), (3, (0, 0, 25, 25))], [], [(48, 0, (-1), (-1)), (48, 1, (-1), (-1)), (48, 2, (-1), (-1)), (48, 3, (-1), (-1)), (48, 4, (-1), (-1)), (48, 5, (-1), (-1))], [(0, 20, 0)]), [(false, 1)]), ((5, [(0, (2, 48, 0, 0)), (1, (0, 0, (-1), (-1))), (2, (0, 0, 7, 7)), (3, (0, 0, 25, 25))], [], [(48, 0, (-1), (-1)), (48, 1, (-1), (-1)), (48, 2, (-1), (-1)), (48, 3, (-1), (-1)), (48, 4, (-1), (-1)), (48, 5, (-1), (-1)), (48, 6, (-1), (-1))], [(0, 19, 0)]), [(false, 1)]), ((5, [(0, (2, 48, 0, 0)), (1, (0, 0, (-1), (-1))), (2, (0, 0, 8, 8)), (3, (0, 0, 25, 25))], [], [(48, 0, (-1), (-1)), (48, 1, (-1), (-1)), (48, 2, (-1), (-1)), (48, 3, (-1), (-1)), (48, 4, (-1), (-1)), (48, 5, (-1), (-1)), (48, 6, (-1), (-1)), (48, 7, (-1), (-1))], [(0, 18, 0)]), [(false, 1)]), ((5, [(0, (2, 48, 0, 0)), (1, (0, 0, (-1), (-1))), (2, (0, 0, 9, 9)), (3, (0, 0, 25, 25))], [], [(48, 0, (-1), (-1)), (48, 1, (-1), (-1)), (48, 2, (-1), (-1)), (48, 3, (-1), (-1)), (48, 4, (-1), (-1)), (48, 5, (-1), (-1)), (48, 6, (-1), (-1)), (48, 7, (-1), (-1)), (48, 8, (-1), (-1))], [(0, 17, 0)]), [(false, 1)]), ((5, [(0, (2, 48, 0, 0)), (1, (0, 0, (-1), (-1))), (2, (0, 0, 10, 10)), (3, (0, 0, 25, 25))], [], [(48, 0, (-1), (-1)), (48, 1, (-1), (-1)), (48, 2, (-1), (-1)), (48, 3, (-1), (-1)), (48, 4, (-1), (-1)), (48, 5, (-1), (-1)), (48, 6, (-1), (-1)), (48, 7, (-1), (-1)), (48, 8, (-1), (-1)), (48, 9, (-1), (-1))], [(0, 16, 0)]), [(false, 1)]), ((5, [(0, (2, 48, 0, 0)), (1, (0, 0, (-1), (-1))), (2, (0, 0, 11, 11)), (3, (0, 0, 25, 25))], [], [(48, 0, (-1), (-1)), (48, 1, (-1), (-1)), (48, 2, (-1), (-1)), (48, 3, (-1), (-1)), (48, 4, (-1), (-1)), (48, 5, (-1), (-1)), (48, 6, (-1), (-1)), (48, 7, (-1), (-1)), (48, 8, (-1), (-1)), (48, 9, (-1), (-1)), (48, 10, (-1), (-1))], [(0, 15, 0)]), [(false, 1)]), ((5, [(0, (2, 48, 0, 0)), (1, (0, 0, (-1), (-1))), (2, (0, 0, 12, 12)), (3, (0, 0, 25, 25))], [], [(48, 0, (-1), (-1)), (48, 1, (-1), (-1)), (48, 2, (-1), (-1)), (48, 3, (-1), (-1)), (48, 4, (-1), (-1)), (48, 5, (-1), (-1)), (48, 6, (-1), (-1)), (48, 7, (-1), (-1)), (48, 8, (-1), (-1)), (48, 9, (-1), (-1)), (48, 10, (-1), (-1)), (48, 11, (-1), (-1))], [(0, 14, 0)]), [(false, 1)]), ((5, [(0, (2, 48, 0, 0)), (1, (0, 0, (-1), (-1))), (2, (0, 0, 13, 13)), (3, (0, 0, 25, 25))], [], [(48, 0, (-1), (-1)), (48, 1, (-1), (-1)), (48, 2, (-1), (-1)), (48, 3, (-1), (-1)), (48, 4, (-1), (-1)), (48, 5, (-1), (-1)), (48, 6, (-1), (-1)), (48, 7, (-1), (-1)), (48, 8, (-1), (-1)), (48, 9, (-1), (-1)), (48, 10, (-1), (-1)), (48, 11, (-1), (-1)), (48, 12, (-1), (-1))], [(0, 13, 0)]), [(false, 1)]), ((5, [(0, (2, 48, 0, 0)), (1, (0, 0, (-1), (-1))), (2, (0, 0, 14, 14)), (3, (0, 0, 25, 25))], [], [(48, 0, (-1), (-1)), (48, 1, (-1), (-1)), (48, 2, (-1), (-1)), (48, 3, (-1), (-1)), (48, 4, (-1), (-1)), (48, 5, (-1), (-1)), (48, 6, (-1), (-1)), (48, 7, (-1), (-1)), (48, 8, (-1), (-1)), (48, 9, (-1), (-1)), (48, 10, (-1), (-1)), (48, 11, (-1), (-1)), (48, 12, (-1), (-1)), (48, 13, (-1), (-1))], [(0, 12, 0)]), [(false, 1)]), ((5, [(0, (2, 48, 0, 0)), (1, (0, 0, (-1), (-1))), (2, (0, 0, 15, 15)), (3, (0, 0, 25, 25))], [], [(48, 0, (-1), (-1)), (48, 1, (-1), (-1)), (48, 2, (-1), (-1)), (48, 3, (-1), (-1)), (48, 4, (-1), (-1)), (48, 5, (-1), (-1)), (48, 6, (-1), (-1)), (48, 7, (-1), (-1)), (48, 8, (-1), (-1)), (48, 9, (-1), (-1)), (48, 10, (-1), (-1)), (48, 11, (-1), (-1)), (48, 12, (-1), (-1)), (48, 13, (-1), (-1)), (48, 14, (-1), (-1))], [(0, 11, 0)]), [(false, 1)]), ((5, [(0, (2, 48, 0, 0)), (1, (0, 0, (-1), (-1))), (2, (0, 0, 16, 16)), (3, (0, 0, 25, 25))], [], [(48, 0, (-1), (-1)), (48, 1, (-1), (-1)), (48, 2, (-1), (-1)), (48, 3, (-1), (-1)), (48, 4, (-1), (-1)), (48, 5, (-1), (-1)), (48, 6, (-1), (-1)), (48, 7, (-1), (-1)), (48, 8, (-1), (-1)), (48, 9, (-1), (-1)), (48, 10, (-1), (-1)), (48, 11, (-1), (-1)), (48, 12, (-1), (-1)), (48, 13, (-1), (-1)), (48, 14, (-1), (-1)), (48, 15, (-1), (-1))], [(0, 10, 0)]), [(false, 1)]), ((5, [(0, (2, 48, 0, 0)), (1, (0, 0, (-1), (-1))), (2, (0, 0, 17, 17)), (3, (0, 0, 25, 25))], [], [(48, 0, (-1), (-1)), (48, 1, (-1), (-1)), (48, 2, (-1), (-1)), (48, 3, (-1), (-1)), (48, 4, (-1), (-1)), (48, 5, (-1), (-1)), (48, 6, (-1), (-1)), (48, 7, (-1), (-1)), (48, 8, (-1), (-1)), (48, 9, (-1), (-1)), (48, 10, (-1), (-1)), (48, 11, (-1), (-1)), (48, 12, (-1), (-1)), (48, 13, (-1), (-1)), (48, 14, (-1), (-1)), (48, 15, (-1), (-1)), (48, 16, (-1), (-1))], [(0, 9, 0)]), [(false, 1)]), ((5, [(0, (2, 48, 0, 0)), (1, (0, 0, (-1), (-1))), (2, (0, 0, 18, 18)), (3, (0, 0, 25, 25))], [], [(48, 0, (-1), (-1)), (48, 1, (-1), (-1)), (48, 2, (-1), (-1)), (48, 3, (-1), (-1)), (48, 4, (-1), (-1)), (48, 5, (-1), (-1)), (48, 6, (-1), (-1)), (48, 7, (-1), (-1)), (48, 8, (-1), (-1)), (48, 9, (-1), (-1)), (48, 10, (-1), (-1)), (48, 11, (-1), (-1)), (48, 12, (-1), (-1)), (48, 13, (-1), (-1)), (48, 14, (-1), (-1)), (48, 15, (-1), (-1)), (48, 16, (-1), (-1)), (48, 17, (-1), (-1))], [(0, 8, 0)]), [(false, 1)]), ((5, [(0, (2, 48, 0, 0)), (1, (0, 0, (-1), (-1))), (2, (0, 0, 19, 19)), (3, (0, 0, 25, 25))], [], [(48, 0, (-1), (-1)), (48, 1, (-1), (-1)), (48, 2, (-1), (-1)), (48, 3, (-1), (-1)), (48, 4, (-1), (-1)), (48, 5, (-1), (-1)), (48, 6, (-1), (-1)), (48, 7, (-1), (-1)), (48, 8, (-1), (-1)), (48, 9, (-1), (-1)), (48, 10, (-1), (-1)), (48, 11, (-1), (-1)), (48, 12, (-1), (-1)), (48, 13, (-1), (-1)), (48, 14, (-1), (-1)), (48, 15, (-1), (-1)), (48, 16, (-1), (-1)), (48, 17, (-1), (-1)), (48, 18, (-1), (-1))], [(0, 7, 0)]), [(false, 1)]), ((5, [(0, (2, 48, 0, 0)), (1, (0, 0, (-1), (-1))), (2, (0, 0, 20, 20)), (3, (0, 0, 25, 25))], [], [(48, 0, (-1), (-1)), (48, 1, (-1), (-1)), (48, 2, (-1), (-1)), (48, 3, (-1), (-1)), (48, 4, (-1), (-1)), (48, 5, (-1), (-1)), (48, 6, (-1), (-1)), (48, 7, (-1), (-1)), (48, 8, (-1), (-1)), (48, 9, (-1), (-1)), (48, 10, (-1), (-1)), (48, 11, (-1), (-1)), (48, 12, (-1), (-1)), (48, 13, (-1), (-1)), (48, 14, (-1), (-1)), (48, 15, (-1), (-1)), (48, 16, (-1), (-1)), (48, 17, (-1), (-1)), (48, 18, (-1), (-1)), (48, 19, (-1), (-1))], [(0, 6, 0)]), [(false, 1)]), ((5, [(0, (2, 48, 0, 0)), (1, (0, 0, (-1), (-1))), (2, (0, 0, 21, 21)), (3, (0, 0, 25, 25))], [], [(48, 0, (-1), (-1)), (48, 1, (-1), (-1)), (48, 2, (-1), (-1)), (48, 3, (-1), (-1)), (48, 4, (-1), (-1)), (48, 5, (-1), (-1)), (48, 6, (-1), (-1)), (48, 7, (-1), (-1)), (48, 8, (-1), (-1)), (48, 9, (-1), (-1)), (48, 10, (-1), (-1)), (48, 11, (-1), (-1)), (48, 12, (-1), (-1)), (48, 13, (-1), (-1)), (48, 14, (-1), (-1)), (48, 15, (-1), (-1)), (48, 16, (-1), (-1)), (48, 17, (-1), (-1)), (48, 18, (-1), (-1)), (48, 19, (-1), (-1)), (48, 20, (-1), (-1))], [(0, 5, 0)]), [(false, 1)]), ((5, [(0, (2, 48, 0, 0)), (1, (0, 0, (-1), (-1))), (2, (0, 0, 22, 22)), (3, (0, 0, 25, 25))], [], [(48, 0, (-1), (-1)), (48, 1, (-1), (-1)), (48, 2, (-1), (-1)), (48, 3, (-1), (-1)), (48, 4, (-1), (-1)), (48, 5, (-1), (-1)), (48, 6, (-1), (-1)), (48, 7, (-1), (-1)), (48, 8, (-1), (-1)), (48, 9, (-1), (-1)), (48, 10, (-1), (-1)), (48, 11, (-1), (-1)), (48, 12, (-1), (-1)), (48, 13, (-1), (-1)), (48, 14, (-1), (-1)), (48, 15, (-1), (-1)), (48, 16, (-1), (-1)), (48, 17, (-1), (-1)), (48, 18, (-1), (-1)), (48, 19, (-1), (-1)), (48, 20, (-1), (-1)), (48, 21, (-1), (-1))], [(0, 4, 0)]), [(false, 1)]), ((5, [(0, (2, 48, 0, 0)), (1, (0, 0, (-1), (-1))), (2, (0, 0, 23, 23)), (3, (0, 0, 25, 25))], [], [(48, 0, (-1), (-1)), (48, 1, (-1), (-1)), (48, 2, (-1), (-1)), (48, 3, (-1), (-1)), (48, 4, (-1), (-1)), (48, 5, (-1), (-1)), (48, 6, (-1), (-1)), (48, 7, (-1), (-1)), (48, 8, (-1), (-1)), (48, 9, (-1), (-1)), (48, 10, (-1), (-1)), (48, 11, (-1), (-1)), (48, 12, (-1), (-1)), (48, 13, (-1), (-1)), (48, 14, (-1), (-1)), (48, 15, (-1), (-1)), (48, 16, (-1), (-1)), (48, 17, (-1), (-1)), (48, 18, (-1), (-1)), (48, 19, (-1), (-1)), (48, 20, (-1), (-1)), (48, 21, (-1), (-1)), (48, 22, (-1), (-1))], [(0, 3, 0)]), [(false, 1)]), ((5, [(0, (2, 48, 0, 0)), (1, (0, 0, (-1), (-1))), (2, (0, 0, 24, 24)), (3, (0, 0, 25, 25))], [], [(48, 0, (-1), (-1)), (48, 1, (-1), (-1)), (48, 2, (-1), (-1)), (48, 3, (-1), (-1)), (48, 4, (-1), (-1)), (48, 5, (-1), (-1)), (48, 6, (-1), (-1)), (48, 7, (-1), (-1)), (48, 8, (-1), (-1)), (48, 9, (-1), (-1)), (48, 10, (-1), (-1)), (48, 11, (-1), (-1)), (48, 12, (-1), (-1)), (48, 13, (-1), (-1)), (48, 14, (-1), (-1)), (48, 15, (-1), (-1)), (48, 16, (-1), (-1)), (48, 17, (-1), (-1)), (48, 18, (-1), (-1)), (48, 19, (-1), (-1)), (48, 20, (-1), (-1)), (48, 21, (-1), (-1)), (48, 22, (-1), (-1)), (48, 23, (-1), (-1))], [(0, 2, 0)]), [(false, 1)]), ((5, [(0, (2, 48, 0, 0)), (1, (0, 0, (-1), (-1))), (2, (0, 0, 25, 25)), (3, (0, 0, 25, 25))], [], [(48, 0, (-1), (-1)), (48, 1, (-1), (-1)), (48, 2, (-1), (-1)), (48, 3, (-1), (-1)), (48, 4, (-1), (-1)), (48, 5, (-1), (-1)), (48, 6, (-1), (-1)), (48, 7, (-1), (-1)), (48, 8, (-1), (-1)), (48, 9, (-1), (-1)), (48, 10, (-1), (-1)), (48, 11, (-1), (-1)), (48, 12, (-1), (-1)), (48, 13, (-1), (-1)), (48, 14, (-1), (-1)), (48, 15, (-1), (-1)), (48, 16, (-1), (-1)), (48, 17, (-1), (-1)), (48, 18, (-1), (-1)), (48, 19, (-1), (-1)), (48, 20, (-1), (-1)), (48, 21, (-1), (-1)), (48, 22, (-1), (-1)), (48, 23, (-1), (-1)), (48, 24, (-1), (-1))], [(0, 1, 0)]), [])]
  (by decide +kernel) (fun s h => absurd h List.not_mem_nil)
noncomputable def sX7_forgetAll_0 : SM := (mX7_forgetAll, [(2, 47, 0, 0)], [], [([], [(47, 0, 0, 0), (48, 0, (-1), (-1)), (48, 1, (-1), (-1)), (48, 2, (-1), (-1)), (48, 3, (-1), (-1)), (48, 4, (-1), (-1)), (48, 5, (-1), (-1)), (48, 6, (-1), (-1)), (48, 7, (-1), (-1)), (48, 8, (-1), (-1)), (48, 9, (-1), (-1)), (48, 10, (-1), (-1)), (48, 11, (-1), (-1)), (48, 12, (-1), (-1)), (48, 13, (-1), (-1)), (48, 14, (-1), (-1)), (48, 15, (-1), (-1)), (48, 16, (-1), (-1)), (48, 17, (-1), (-1)), (48, 18, (-1), (-1)), (48, 19, (-1), (-1)), (48, 20, (-1), (-1)), (48, 21, (-1), (-1)), (48, 22, (-1), (-1)), (48, 23, (-1), (-1)), (48, 24, (-1), (-1))], [])], [(0, 47, 0, 0), (0, 48, 0, 24)])
theorem kX7_forgetAll_0 {SP : CT} (hSP : MONO SP) {sh : List (Nat × Nat)} : SMOK gE gRL sh (CLd SP 2) sX7_forgetAll_0 :=
  chkS hSP [sJ7_fill_53178_2] 10 []
  []
  (by decide +kernel) (List.forall_mem_cons.mpr ⟨SMOK_le (Nat.le_of_ble_eq_true rfl : 1 ≤ 1) (kJ7_fill_53178_2 hSP), fun s h => absurd h List.not_mem_nil⟩)
noncomputable def sX7_lastStep_0 : SM := (mX7_lastStep, [(2, 47, 0, 0)], [], [([(0, 0, 0, 24)], [], [])], [])
theorem kX7_lastStep_0 {SP : CT} (hSP : MONO SP) {sh : List (Nat × Nat)} : SMOK gE gRL sh (CLd SP 1) sX7_lastStep_0 :=
  chkS hSP [] 14 [(false, 0)]
  [((3, [(0, (2, 47, 0, 0)), (1, (0, 0, 24, 24))], [], [], [(0, 25, 0)]), [(false, 1)]), ((3, [(0, (2, 47, 0, 0)), (1, (0, 0, 23, 23))], [], [], [(0, 24, 0)]), [(false, 1)]), ((3, [(0, (2, 47, 0, 0)), (1, (0, 0, 22, 22))], [], [], [(0, 23, 0)]), [(false, 1)]), ((3, [(0, (2, 47, 0, 0)), (1, (0, 0, 21, 21))], [], [], [(0, 22, 0)]), [(false, 1)]), ((3, [(0, (2, 47, 0, 0)), (1, (0, 0, 20, 20))], [], [], [(0, 21, 0)]), [(false, 1)]), ((3, [(0, (2, 47, 0, 0)), (1, (0, 0, 19, 19))], [], [], [(0, 20, 0)]), [(false, 1)]), ((3, [(0, (2, 47, 0, 0)), (1, (0, 0, 18, 18))], [], [], [(0, 19, 0)]), [(false, 1)]), ((3, [(0, (2, 47, 0, 0)), (1, (0, 0, 17, 17))], [], [], [(0, 18, 0)]), [(false, 1)]), ((3, [(0, (2, 47, 0, 0)), (1, (0, 0, 16, 16))], [], [], [(0, 17, 0)]), [(false, 1)]), ((3, [(0, (2, 47, 0, 0)), (1, (0, 0, 15, 15))], [], [], [(0, 16, 0)]), [(false, 1)]), ((3, [(0, (2, 47, 0, 0)), (1, (0, 0, 14, 14))], [], [], [(0, 15, 0)]), [(false, 1)]), ((3, [(0, (2, 47, 0, 0)), (1, (0, 0, 13, 13))], [], [], [(0, 14, 0)]), [(false, 1)]), ((3, [(0, (2, 47, 0, 0)), (1, (0, 0, 12, 12))], [], [], [(0, 13, 0)]), [(false, 1)]), ((3, [(0, (2, 47, 0, 0)), (1, (0, 0, 11, 11))], [], [], [(0, 12, 0)]), [(false, 1)]), ((3, [(0, (2, 47, 0, 0)), (1, (0, 0, 10, 10))], [], [], [(0, 11, 0)]), [(false, 1)]), ((3, [(0, (2, 47, 0, 0)), (1, (0, 0, 9, 9))], [], [], [(0, 10, 0)]), [(false, 1)]), ((3, [(0, (2, 47, 0, 0)), (1, (0, 0, 8, 8))], [], [], [(0, 9, 0)]), [(false, 1)]), ((3, [(0, (2, 47, 0, 0)), (1, (0, 0, 7, 7))], [], [], [(0, 8, 0)]), [(false, 1)]), ((3, [(0, (2, 47, 0, 0)), (1, (0, 0, 6, 6))], [], [], [(0, 7, 0)]), [(false, 1)]), ((3, [(0, (2, 47, 0, 0)), (1, (0, 0, 5, 5))], [], [], [(0, 6, 0)]), [(false, 1)]), ((3, [(0, (2, 47, 0, 0)), (1, (0, 0, 4, 4))], [], [], [(0, 5, 0)]), [(false, 1)]), ((3, [(0, (2, 47, 0, 0)), (1, (0, 0, 3, 3))], [], [], [(0, 4, 0)]), [(false, 1)]), ((3, [(0, (2, 47, 0, 0)), (1, (0, 0, 2, 2))], [], [], [(0, 3, 0)]), [(false, 1)]), ((3, [(0, (2, 47, 0, 0)), (1, (0, 0, 1, 1))], [], [], [(0, 2, 0)]), [(false, 1)]), ((3, [(0, (2, 47, 0, 0)), (1, (0, 0, 0, 0))], [], [], [(0, 1, 0)]), [])]
  (by decide +kernel) (fun s h => absurd h List.not_mem_nil)
noncomputable def sX7_countWays_0 : SM := (mX7_countWays, [(2, 47, 0, 0), (0, 0, 0, 0)], [], [([], [], [])], [(1, 50, 0, 8)])
theorem kX7_countWays_0 {SP : CT} (hSP : MONO SP) {sh : List (Nat × Nat)} : SMOK gE gRL sh (CLd SP 1) sX7_countWays_0 :=
  chkS hSP [] 69 [(false, 0)]
  [((2, [(0, (2, 47, 0, 0)), (1, (0, 0, 0, 0)), (2, (0, 0, (-1), 0))], [], [(48, 0, (-1), 8)], [(0, 1, 0), (2, 2, (-1)), (0, 2, 0)]), [(false, 1)]), ((8, [(0, (2, 47, 0, 0)), (1, (0, 0, 0, 0)), (2, (0, 0, 0, 0)), (3, (0, 0, 0, 9))], [], [(48, 0, (-1), 8)], [(0, 1, 0), (2, 2, (-1)), (0, 1, 0), (1, 3, 9), (0, 1, 0)]), [(true, 0), (false, 0)])]
  (by decide +kernel) (fun s h => absurd h List.not_mem_nil)
noncomputable def sX7_waysBehind_0 : SM := (mX7_waysBehind, [(2, 47, 0, 0), (0, 0, 0, 23), (0, 0, 0, 8)], [], [([(1, 0, (-9223372036854775808), 9223372036854775807)], [], [])], [])
theorem kX7_waysBehind_0 {SP : CT} (hSP : MONO SP) {sh : List (Nat × Nat)} : SMOK gE gRL sh (CLd SP 3) sX7_waysBehind_0 :=
  chkS hSP [sX10_keepOnSea_0] 21 [(false, 0)]
  [((5, [(0, (2, 47, 0, 0)), (1, (0, 0, 0, 23)), (2, (0, 0, 0, 8)), (3, (1, 0, 0, 0)), (5, (0, 0, (-1), (-1)))], [], [], [(0, 4, 0)]), [(false, 1)]), ((5, [(0, (2, 47, 0, 0)), (1, (0, 0, 0, 23)), (2, (0, 0, 0, 8)), (3, (1, 0, (-9223372036854775808), 9223372036854775807)), (5, (0, 0, 0, 0))], [], [], [(0, 3, 0)]), [(false, 1)]), ((5, [(0, (2, 47, 0, 0)), (1, (0, 0, 0, 23)), (2, (0, 0, 0, 8)), (3, (1, 0, (-9223372036854775808), 9223372036854775807)), (5, (0, 0, 1, 1))], [], [], [(0, 2, 0)]), [(false, 1)]), ((5, [(0, (2, 47, 0, 0)), (1, (0, 0, 0, 23)), (2, (0, 0, 0, 8)), (3, (1, 0, (-9223372036854775808), 9223372036854775807)), (5, (0, 0, 2, 2))], [], [], [(0, 1, 0)]), [])]
  (by decide +kernel) (List.forall_mem_cons.mpr ⟨SMOK_le (Nat.le_of_ble_eq_true rfl : 2 ≤ 2) (kX10_keepOnSea_0 hSP), fun s h => absurd h List.not_mem_nil⟩)
noncomputable def sX7_countWays_1 : SM := (mX7_countWays, [(2, 47, 0, 0), (0, 0, 1, 1)], [], [([], [], [])], [(1, 50, 0, 8)])
theorem kX7_countWays_1 {SP : CT} (hSP : MONO SP) {sh : List (Nat × Nat)} : SMOK gE gRL sh (CLd SP 4) sX7_countWays_1 :=
  chkS hSP [sX7_waysBehind_0] 83 [(false, 0)]
  [((2, [(0, (2, 47, 0, 0)), (1, (0, 0, 1, 1)), (2, (0, 0, (-1), 1))], [], [], [(0, 1, 0), (2, 2, (-1)), (0, 2, 0)]), [(false, 1)]), ((8, [(0, (2, 47, 0, 0)), (1, (0, 0, 1, 1)), (2, (0, 0, 0, 1)), (3, (0, 0, 0, 9))], [], [], [(0, 1, 0), (2, 2, (-1)), (0, 1, 0), (1, 3, 9), (0, 1, 0)]), [(true, 0), (false, 0)])]
  (by decide +kernel) (List.forall_mem_cons.mpr ⟨SMOK_le (Nat.le_of_ble_eq_true rfl : 3 ≤ 3) (kX7_waysBehind_0 hSP), fun s h => absurd h List.not_mem_nil⟩)
noncomputable def sX7_countWays_2 : SM := (mX7_countWays, [(2, 47, 0, 0), (0, 0, 2, 2)], [], [([], [], [])], [(1, 50, 0, 8)])
theorem kX7_countWays_2 {SP : CT} (hSP : MONO SP) {sh : List (Nat × Nat)} : SMOK gE gRL sh (CLd SP 4) sX7_countWays_2 :=
  chkS hSP [sX7_waysBehind_0] 83 [(false, 0)]
  [((2, [(0, (2, 47, 0, 0)), (1, (0, 0, 2, 2)), (2, (0, 0, (-1), 2))], [], [], [(0, 1, 0), (2, 2, (-1)), (0, 2, 0)]), [(false, 1)]), ((8, [(0, (2, 47, 0, 0)), (1, (0, 0, 2, 2)), (2, (0, 0, 0, 2)), (3, (0, 0, 0, 9))], [], [], [(0, 1, 0), (2, 2, (-1)), (0, 1, 0), (1, 3, 9), (0, 1, 0)]), [(true, 0), (false, 0)])]
  (by decide +kernel) (List.forall_mem_cons.mpr ⟨SMOK_le (Nat.le_of_ble_eq_true rfl : 3 ≤ 3) (kX7_waysBehind_0 hSP), fun s h => absurd h List.not_mem_nil⟩)
noncomputable def sX7_countWays_3 : SM := (mX7_countWays, [(2, 47, 0, 0), (0, 0, 3, 3)], [], [([], [], [])], [(1, 50, 0, 8)])
theorem kX7_countWays_3 {SP : CT} (hSP : MONO SP) {sh : List (Nat × Nat)} : SMOK gE gRL sh (CLd SP 4) sX7_countWays_3 :=
  chkS hSP [sX7_waysBehind_0] 83 [(false, 0)]
  [((2, [(0, (2, 47, 0, 0)), (1, (0, 0, 3, 3)), (2, (0, 0, (-1), 3))], [], [], [(0, 1, 0), (2, 2, (-1)), (0, 2, 0)]), [(false, 1)]), ((8, [(0, (2, 47, 0, 0)), (1, (0, 0, 3, 3)), (2, (0, 0, 0, 3)), (3, (0, 0, 0, 9))], [], [], [(0, 1, 0), (2, 2, (-1)), (0, 1, 0), (1, 3, 9), (0, 1, 0)]), [(true, 0), (false, 0)])]
  (by decide +kernel) (List.forall_mem_cons.mpr ⟨SMOK_le (Nat.le_of_ble_eq_true rfl : 3 ≤ 3) (kX7_waysBehind_0 hSP), fun s h => absurd h List.not_mem_nil⟩)
noncomputable def sX7_countWays_4 : SM := (mX7_countWays, [(2, 47, 0, 0), (0, 0, 4, 4)], [], [([], [], [])], [(1, 50, 0, 8)])
theorem kX7_countWays_4 {SP : CT} (hSP : MONO SP) {sh : List (Nat × Nat)} : SMOK gE gRL sh (CLd SP 4) sX7_countWays_4 :=
  chkS hSP [sX7_waysBehind_0] 83 [(false, 0)]
  [((2, [(0, (2, 47, 0, 0)), (1, (0, 0, 4, 4)), (2, (0, 0, (-1), 4))], [], [], [(0, 1, 0), (2, 2, (-1)), (0, 2, 0)]), [(false, 1)]), ((8, [(0, (2, 47, 0, 0)), (1, (0, 0, 4, 4)), (2, (0, 0, 0, 4)), (3, (0, 0, 0, 9))], [], [], [(0, 1, 0), (2, 2, (-1)), (0, 1, 0), (1, 3, 9), (0, 1, 0)]), [(true, 0), (false, 0)])]
  (by decide +kernel) (List.forall_mem_cons.mpr ⟨SMOK_le (Nat.le_of_ble_eq_true rfl : 3 ≤ 3) (kX7_waysBehind_0 hSP), fun s h => absurd h List.not_mem_nil⟩)
noncomputable def sX7_countWays_5 : SM := (mX7_countWays, [(2, 47, 0, 0), (0, 0, 5, 5)], [], [([], [], [])], [(1, 50, 0, 8)])
theorem kX7_countWays_5 {SP : CT} (hSP : MONO SP) {sh : List (Nat × Nat)} : SMOK gE gRL sh (CLd SP 4) sX7_countWays_5 :=
  chkS hSP [sX7_waysBehind_0] 83 [(false, 0)]
  [((2, [(0, (2, 47, 0, 0)), (1, (0, 0, 5, 5)), (2, (0, 0, (-1), 5))], [], [], [(0, 1, 0), (2, 2, (-1)), (0, 2, 0)]), [(false, 1)]), ((8, [(0, (2, 47, 0, 0)), (1, (0, 0, 5, 5)), (2, (0, 0, 0, 5)), (3, (0, 0, 0, 9))], [], [], [(0, 1, 0), (2, 2, (-1)), (0, 1, 0), (1, 3, 9), (0, 1, 0)]), [(true, 0), (false, 0)])]
  (by decide +kernel) (List.forall_mem_cons.mpr ⟨SMOK_le (Nat.le_of_ble_eq_true rfl : 3 ≤ 3) (kX7_waysBehind_0 hSP), fun s h => absurd h List.not_mem_nil⟩)
noncomputable def sX7_countWays_6 : SM := (mX7_countWays, [(2, 47, 0, 0), (0, 0, 6, 6)], [], [([], [], [])], [(1, 50, 0, 8)])
theorem kX7_countWays_6 {SP : CT} (hSP : MONO SP) {sh : List (Nat × Nat)} : SMOK gE gRL sh (CLd SP 4) sX7_countWays_6 :=
  chkS hSP [sX7_waysBehind_0] 83 [(false, 0)]
  [((2, [(0, (2, 47, 0, 0)), (1, (0, 0, 6, 6)), (2, (0, 0, (-1), 6))], [], [], [(0, 1, 0), (2, 2, (-1)), (0, 2, 0)]), [(false, 1)]), ((8, [(0, (2, 47, 0, 0)), (1, (0, 0, 6, 6)), (2, (0, 0, 0, 6)), (3, (0, 0, 0, 9))], [], [], [(0, 1, 0), (2, 2, (-1)), (0, 1, 0), (1, 3, 9), (0, 1, 0)]), [(true, 0), (false, 0)])]
  (by decide +kernel) (List.forall_mem_cons.mpr ⟨SMOK_le (Nat.le_of_ble_eq_true rfl : 3 ≤ 3) (kX7_waysBehind_0 hSP), fun s h => absurd h List.not_mem_nil⟩)
noncomputable def sX7_countWays_7 : SM := (mX7_countWays, [(2, 47, 0, 0), (0, 0, 7, 7)], [], [([], [], [])], [(1, 50, 0, 8)])
theorem kX7_countWays_7 {SP : CT} (hSP : MONO SP) {sh : List (Nat × Nat)} : SMOK gE gRL sh (CLd SP 4) sX7_countWays_7 :=
  chkS hSP [sX7_waysBehind_0] 83 [(false, 0)]
  [((2, [(0, (2, 47, 0, 0)), (1, (0, 0, 7, 7)), (2, (0, 0, (-1), 7))], [], [], [(0, 1, 0), (2, 2, (-1)), (0, 2, 0)]), [(false, 1)]), ((8, [(0, (2, 47, 0, 0)), (1, (0, 0, 7, 7)), (2, (0, 0, 0, 7)), (3, (0, 0, 0, 9))], [], [], [(0, 1, 0), (2, 2, (-1)), (0, 1, 0), (1, 3, 9), (0, 1, 0)]), [(true, 0), (false, 0)])]
  (by decide +kernel) (List.forall_mem_cons.mpr ⟨SMOK_le (Nat.le_of_ble_eq_true rfl : 3 ≤ 3) (kX7_waysBehind_0 hSP), fun s h => absurd h List.not_mem_nil⟩)
noncomputable def sX7_countWays_8 : SM := (mX7_countWays, [(2, 47, 0, 0), (0, 0, 8, 8)], [], [([], [], [])], [(1, 50, 0, 8)])
theorem kX7_countWays_8 {SP : CT} (hSP : MONO SP) {sh : List (Nat × Nat)} : SMOK gE gRL sh (CLd SP 4) sX7_countWays_8 :=
  chkS hSP [sX7_waysBehind_0] 83 [(false, 0)]
  [((2, [(0, (2, 47, 0, 0)), (1, (0, 0, 8, 8)), (2, (0, 0, (-1), 8))], [], [], [(0, 1, 0), (2, 2, (-1)), (0, 2, 0)]), [(false, 1)]), ((8, [(0, (2, 47, 0, 0)), (1, (0, 0, 8, 8)), (2, (0, 0, 0, 8)), (3, (0, 0, 0, 9))], [], [], [(0, 1, 0), (2, 2, (-1)), (0, 1, 0), (1, 3, 9), (0, 1, 0)]), [(true, 0), (false, 0)])]
  (by decide +kernel) (List.forall_mem_cons.mpr ⟨SMOK_le (Nat.le_of_ble_eq_true rfl : 3 ≤ 3) (kX7_waysBehind_0 hSP), fun s h => absurd h List.not_mem_nil⟩)
noncomputable def sX7_countWays_9 : SM := (mX7_countWays, [(2, 47, 0, 0), (0, 0, 9, 9)], [], [([], [], [])], [(1, 50, 0, 8)])
theorem kX7_countWays_9 {SP : CT} (hSP : MONO SP) {sh : List (Nat × Nat)} : SMOK gE gRL sh (CLd SP 4) sX7_countWays_9 :=
  chkS hSP [sX7_waysBehind_0] 83 [(false, 0)]
  [((2, [(0, (2, 47, 0, 0)), (1, (0, 0, 9, 9)), (2, (0, 0, (-1), 9))], [], [], [(0, 1, 0), (2, 2, (-1)), (0, 2, 0)]), [(false, 1)]), ((8, [(0, (2, 47, 0, 0)), (1, (0, 0, 9, 9)), (2, (0, 0, 0, 9)), (3, (0, 0, 0, 9))], [], [], [(0, 1, 0), (2, 2, (-1)), (0, 1, 0), (1, 3, 9), (0, 1, 0)]), [(true, 0), (false, 0)])]
  (by decide +kernel) (List.forall_mem_cons.mpr ⟨SMOK_le (Nat.le_of_ble_eq_true rfl : 3 ≤ 3) (kX7_waysBehind_0 hSP), fun s h => absurd h List.not_mem_nil⟩)
noncomputable def sX7_countWays_10 : SM := (mX7_countWays, [(2, 47, 0, 0), (0, 0, 10, 10)], [], [([], [], [])], [(1, 50, 0, 8)])
theorem kX7_countWays_10 {SP : CT} (hSP : MONO SP) {sh : List (Nat × Nat)} : SMOK gE gRL sh (CLd SP 4) sX7_countWays_10 :=
  chkS hSP [sX7_waysBehind_0] 83 [(false, 0)]
  [((2, [(0, (2, 47, 0, 0)), (1, (0, 0, 10, 10)), (2, (0, 0, (-1), 10))], [], [], [(0, 1, 0), (2, 2, (-1)), (0, 2, 0)]), [(false, 1)]), ((8, [(0, (2, 47, 0, 0)), (1, (0, 0, 10, 10)), (2, (0, 0, 0, 10)), (3, (0, 0, 0, 9))], [], [], [(0, 1, 0), (2, 2, (-1)), (0, 1, 0), (1, 3, 9), (0, 1, 0)]), [(true, 0), (false, 0)])]
  (by decide +kernel) (List.forall_mem_cons.mpr ⟨SMOK_le (Nat.le_of_ble_eq_true rfl : 3 ≤ 3) (kX7_waysBehind_0 hSP), fun s h => absurd h List.not_mem_nil⟩)
noncomputable def sX7_countWays_11 : SM := (mX7_countWays, [(2, 47, 0, 0), (0, 0, 11, 11)], [], [([], [], [])], [(1, 50, 0, 8)])
theorem kX7_countWays_11 {SP : CT} (hSP : MONO SP) {sh : List (Nat × Nat)} : SMOK gE gRL sh (CLd SP 4) sX7_countWays_11 :=
  chkS hSP [sX7_waysBehind_0] 83 [(false, 0)]
  [((2, [(0, (2, 47, 0, 0)), (1, (0, 0, 11, 11)), (2, (0, 0, (-1), 11))], [], [], [(0, 1, 0), (2, 2, (-1)), (0, 2, 0)]), [(false, 1)]), ((8, [(0, (2, 47, 0, 0)), (1, (0, 0, 11, 11)), (2, (0, 0, 0, 11)), (3, (0, 0, 0, 9))], [], [], [(0, 1, 0), (2, 2, (-1)), (0, 1, 0), (1, 3, 9), (0, 1, 0)]), [(true, 0), (false, 0)])]
  (by decide +kernel) (List.forall_mem_cons.mpr ⟨SMOK_le (Nat.le_of_ble_eq_true rfl : 3 ≤ 3) (kX7_waysBehind_0 hSP), fun s h => absurd h List.not_mem_nil⟩)
noncomputable def sX7_countWays_12 : SM := (mX7_countWays, [(2, 47, 0, 0), (0, 0, 12, 12)], [], [([], [], [])], [(1, 50, 0, 8)])
theorem kX7_countWays_12 {SP : CT} (hSP : MONO SP) {sh : List (Nat × Nat)} : SMOK gE gRL sh (CLd SP 4) sX7_countWays_12 :=
  chkS hSP [sX7_waysBehind_0] 83 [(false, 0)]
  [((2, [(0, (2, 47, 0, 0)), (1, (0, 0, 12, 12)), (2, (0, 0, (-1), 12))], [], [], [(0, 1, 0), (2, 2, (-1)), (0, 2, 0)]), [(false, 1)]), ((8, [(0, (2, 47, 0, 0)), (1, (0, 0, 12, 12)), (2, (0, 0, 0, 12)), (3, (0, 0, 0, 9))], [], [], [(0, 1, 0), (2, 2, (-1)), (0, 1, 0), (1, 3, 9), (0, 1, 0)]), [(true, 0), (false, 0)])]
  (by decide +kernel) (List.forall_mem_cons.mpr ⟨SMOK_le (Nat.le_of_ble_eq_true rfl : 3 ≤ 3) (kX7_waysBehind_0 hSP), fun s h => absurd h List.not_mem_nil⟩)
noncomputable def sX7_countWays_13 : SM := (mX7_countWays, [(2, 47, 0, 0), (0, 0, 13, 13)], [], [([], [], [])], [(1, 50, 0, 8)])
theorem kX7_countWays_13 {SP : CT} (hSP : MONO SP) {sh : List (Nat × Nat)} : SMOK gE gRL sh (CLd SP 4) sX7_countWays_13 :=
  chkS hSP [sX7_waysBehind_0] 83 [(false, 0)]
  [((2, [(0, (2, 47, 0, 0)), (1, (0, 0, 13, 13)), (2, (0, 0, (-1), 13))], [], [], [(0, 1, 0), (2, 2, (-1)), (0, 2, 0)]), [(false, 1)]), ((8, [(0, (2, 47, 0, 0)), (1, (0, 0, 13, 13)), (2, (0, 0, 0, 13)), (3, (0, 0, 0, 9))], [], [], [(0, 1, 0), (2, 2, (-1)), (0, 1, 0), (1, 3, 9), (0, 1, 0)]), [(true, 0), (false, 0)])]
  (by decide +kernel) (List.forall_mem_cons.mpr ⟨SMOK_le (Nat.le_of_ble_eq_true rfl : 3 ≤ 3) (kX7_waysBehind_0 hSP), fun s h => absurd h List.not_mem_nil⟩)
noncomputable def sX7_countWays_14 : SM := (mX7_countWays, [(2, 47, 0, 0), (0, 0, 14, 14)], [], [([], [], [])], [(1, 50, 0, 8)])
theorem kX7_countWays_14 {SP : CT} (hSP : MONO SP) {sh : List (Nat × Nat)} : SMOK gE gRL sh (CLd SP 4) sX7_countWays_14 :=
  chkS hSP [sX7_waysBehind_0] 83 [(false, 0)]
  [((2, [(0, (2, 47, 0, 0)), (1, (0, 0, 14, 14)), (2, (0, 0, (-1), 14))], [], [], [(0, 1, 0), (2, 2, (-1)), (0, 2, 0)]), [(false, 1)]), ((8, [(0, (2, 47, 0, 0)), (1, (0, 0, 14, 14)), (2, (0, 0, 0, 14)), (3, (0, 0, 0, 9))], [], [], [(0, 1, 0), (2, 2, (-1)), (0, 1, 0), (1, 3, 9), (0, 1, 0)]), [(true, 0), (false, 0)])]
  (by decide +kernel) (List.forall_mem_cons.mpr ⟨SMOK_le (Nat.le_of_ble_eq_true rfl : 3 ≤ 3) (kX7_waysBehind_0 hSP), fun s h => absurd h List.not_mem_nil⟩)
noncomputable def sX7_countWays_15 : SM := (mX7_countWays, [(2, 47, 0, 0), (0, 0, 15, 15)], [], [([], [], [])], [(1, 50, 0, 8)])
theorem kX7_countWays_15 {SP : CT} (hSP : MONO SP) {sh : List (Nat × Nat)} : SMOK gE gRL sh (CLd SP 4) sX7_countWays_15 :=
  chkS hSP [sX7_waysBehind_0] 83 [(false, 0)]
  [((2, [(0, (2, 47, 0, 0)), (1, (0, 0, 15, 15)), (2, (0, 0, (-1), 15))], [], [], [(0, 1, 0), (2, 2, (-1)), (0, 2, 0)]), [(false, 1)]), ((8, [(0, (2, 47, 0, 0)), (1, (0, 0, 15, 15)), (2, (0, 0, 0, 15)), (3, (0, 0, 0, 9))], [], [], [(0, 1, 0), (2, 2, (-1)), (0, 1, 0), (1, 3, 9), (0, 1, 0)]), [(true, 0), (false, 0)])]
  (by decide +kernel) (List.forall_mem_cons.mpr ⟨SMOK_le (Nat.le_of_ble_eq_true rfl : 3 ≤ 3) (kX7_waysBehind_0 hSP), fun s h => absurd h List.not_mem_nil⟩)
noncomputable def sX7_countWays_16 : SM := (mX7_countWays, [(2, 47, 0, 0), (0, 0, 16, 16)], [], [([], [], [])], [(1, 50, 0, 8)])
theorem kX7_countWays_16 {SP : CT} (hSP : MONO SP) {sh : List (Nat × Nat)} : SMOK gE gRL sh (CLd SP 4) sX7_countWays_16 :=
  chkS hSP [sX7_waysBehind_0] 83 [(false, 0)]
  [((2, [(0, (2, 47, 0, 0)), (1, (0, 0, 16, 16)), (2, (0, 0, (-1), 16))], [], [], [(0, 1, 0), (2, 2, (-1)), (0, 2, 0)]), [(false, 1)]), ((8, [(0, (2, 47, 0, 0)), (1, (0, 0, 16, 16)), (2, (0, 0, 0, 16)), (3, (0, 0, 0, 9))], [], [], [(0, 1, 0), (2, 2, (-1)), (0, 1, 0), (1, 3, 9), (0, 1, 0)]), [(true, 0), (false, 0)])]
  (by decide +kernel) (List.forall_mem_cons.mpr ⟨SMOK_le (Nat.le_of_ble_eq_true rfl : 3 ≤ 3) (kX7_waysBehind_0 hSP), fun s h => absurd h List.not_mem_nil⟩)
noncomputable def sX7_countWays_17 : SM := (mX7_countWays, [(2, 47, 0, 0), (0, 0, 17, 17)], [], [([], [], [])], [(1, 50, 0, 8)])
theorem kX7_countWays_17 {SP : CT} (hSP : MONO SP) {sh : List (Nat × Nat)} : SMOK gE gRL sh (CLd SP 4) sX7_countWays_17 :=
  chkS hSP [sX7_waysBehind_0] 83 [(false, 0)]
  [((2, [(0, (2, 47, 0, 0)), (1, (0, 0, 17, 17)), (2, (0, 0, (-1), 17))], [], [], [(0, 1, 0), (2, 2, (-1)), (0, 2, 0)]), [(false, 1)]), ((8, [(0, (2, 47, 0, 0)), (1, (0, 0, 17, 17)), (2, (0, 0, 0, 17)), (3, (0, 0, 0, 9))], [], [], [(0, 1, 0), (2, 2, (-1)), (0, 1, 0), (1, 3, 9), (0, 1, 0)]), [(true, 0), (false, 0)])]
  (by decide +kernel) (List.forall_mem_cons.mpr ⟨SMOK_le (Nat.le_of_ble_eq_true rfl : 3 ≤ 3) (kX7_waysBehind_0 hSP), fun s h => absurd h List.not_mem_nil⟩)
noncomputable def sX7_countWays_18 : SM := (mX7_countWays, [(2, 47, 0, 0), (0, 0, 18, 18)], [], [([], [], [])], [(1, 50, 0, 8)])
theorem kX7_countWays_18 {SP : CT} (hSP : MONO SP) {sh : List (Nat × Nat)} : SMOK gE gRL sh (CLd SP 4) sX7_countWays_18 :=
  chkS hSP [sX7_waysBehind_0] 83 [(false, 0)]
  [((2, [(0, (2, 47, 0, 0)), (1, (0, 0, 18, 18)), (2, (0, 0, (-1), 18))], [], [], [(0, 1, 0), (2, 2, (-1)), (0, 2, 0)]), [(false, 1)]), ((8, [(0, (2, 47, 0, 0)), (1, (0, 0, 18, 18)), (2, (0, 0, 0, 18)), (3, (0, 0, 0, 9))], [], [], [(0, 1, 0), (2, 2, (-1)), (0, 1, 0), (1, 3, 9), (0, 1, 0)]), [(true, 0), (false, 0)])]
  (by decide +kernel) (List.forall_mem_cons.mpr ⟨SMOK_le (Nat.le_of_ble_eq_true rfl : 3 ≤ 3) (kX7_waysBehind_0 hSP), fun s h => absurd h List.not_mem_nil⟩)
noncomputable def sX7_countWays_19 : SM := (mX7_countWays, [(2, 47, 0, 0), (0, 0, 19, 19)], [], [([], [], [])], [(1, 50, 0, 8)])
theorem kX7_countWays_19 {SP : CT} (hSP : MONO SP) {sh : List (Nat × Nat)} : SMOK gE gRL sh (CLd SP 4) sX7_countWays_19 :=
  chkS hSP [sX7_waysBehind_0] 83 [(false, 0)]
  [((2, [(0, (2, 47, 0, 0)), (1, (0, 0, 19, 19)), (2, (0, 0, (-1), 19))], [], [], [(0, 1, 0), (2, 2, (-1)), (0, 2, 0)]), [(false, 1)]), ((8, [(0, (2, 47, 0, 0)), (1, (0, 0, 19, 19)), (2, (0, 0, 0, 19)), (3, (0, 0, 0, 9))], [], [], [(0, 1, 0), (2, 2, (-1)), (0, 1, 0), (1, 3, 9), (0, 1, 0)]), [(true, 0), (false, 0)])]
  (by decide +kernel) (List.forall_mem_cons.mpr ⟨SMOK_le (Nat.le_of_ble_eq_true rfl : 3 ≤ 3) (kX7_waysBehind_0 hSP), fun s h => absurd h List.not_mem_nil⟩)
noncomputable def sX7_countWays_20 : SM := (mX7_countWays, [(2, 47, 0, 0), (0, 0, 20, 20)], [], [([], [], [])], [(1, 50, 0, 8)])
theorem kX7_countWays_20 {SP : CT} (hSP : MONO SP) {sh : List (Nat × Nat)} : SMOK gE gRL sh (CLd SP 4) sX7_countWays_20 :=
  chkS hSP [sX7_waysBehind_0] 83 [(false, 0)]
  [((2, [(0, (2, 47, 0, 0)), (1, (0, 0, 20, 20)), (2, (0, 0, (-1), 20))], [], [], [(0, 1, 0), (2, 2, (-1)), (0, 2, 0)]), [(false, 1)]), ((8, [(0, (2, 47, 0, 0)), (1, (0, 0, 20, 20)), (2, (0, 0, 0, 20)), (3, (0, 0, 0, 9))], [], [], [(0, 1, 0), (2, 2, (-1)), (0, 1, 0), (1, 3, 9), (0, 1, 0)]), [(true, 0), (false, 0)])]
  (by decide +kernel) (List.forall_mem_cons.mpr ⟨SMOK_le (Nat.le_of_ble_eq_true rfl : 3 ≤ 3) (kX7_waysBehind_0 hSP), fun s h => absurd h List.not_mem_nil⟩)
noncomputable def sX7_countWays_21 : SM := (mX7_countWays, [(2, 47, 0, 0), (0, 0, 21, 21)], [], [([], [], [])], [(1, 50, 0, 8)])
theorem kX7_countWays_21 {SP : CT} (hSP : MONO SP) {sh : List (Nat × Nat)} : SMOK gE gRL sh (CLd SP 4) sX7_countWays_21 :=
  chkS hSP [sX7_waysBehind_0] 83 [(false, 0)]
  [((2, [(0, (2, 47, 0, 0)), (1, (0, 0, 21, 21)), (2, (0, 0, (-1), 21))], [], [], [(0, 1, 0), (2, 2, (-1)), (0, 2, 0)]), [(false, 1)]), ((8, [(0, (2, 47, 0, 0)), (1, (0, 0, 21, 21)), (2, (0, 0, 0, 21)), (3, (0, 0, 0, 9))], [], [], [(0, 1, 0), (2, 2, (-1)), (0, 1, 0), (1, 3, 9), (0, 1, 0)]), [(true, 0), (false, 0)])]
  (by decide +kernel) (List.forall_mem_cons.mpr ⟨SMOK_le (Nat.le_of_ble_eq_true rfl : 3 ≤ 3) (kX7_waysBehind_0 hSP), fun s h => absurd h List.not_mem_nil⟩)
noncomputable def sX7_countWays_22 : SM := (mX7_countWays, [(2, 47, 0, 0), (0, 0, 22, 22)], [], [([], [], [])], [(1, 50, 0, 8)])
theorem kX7_countWays_22 {SP : CT} (hSP : MONO SP) {sh : List (Nat × Nat)} : SMOK gE gRL sh (CLd SP 4) sX7_countWays_22 :=
  chkS hSP [sX7_waysBehind_0] 83 [(false, 0)]
  [((2, [(0, (2, 47, 0, 0)), (1, (0, 0, 22, 22)), (2, (0, 0, (-1), 22))], [], [], [(0, 1, 0), (2, 2, (-1)), (0, 2, 0)]), [(false, 1)]), ((8, [(0, (2, 47, 0, 0)), (1, (0, 0, 22, 22)), (2, (0, 0, 0, 22)), (3, (0, 0, 0, 9))], [], [], [(0, 1, 0), (2, 2, (-1)), (0, 1, 0), (1, 3, 9), (0, 1, 0)]), [(true, 0), (false, 0)])]
  (by decide +kernel) (List.forall_mem_cons.mpr ⟨SMOK_le (Nat.le_of_ble_eq_true rfl : 3 ≤ 3) (kX7_waysBehind_0 hSP), fun s h => absurd h List.not_mem_nil⟩)
noncomputable def sX7_countWays_23 : SM := (mX7_countWays, [(2, 47, 0, 0), (0, 0, 23, 23)], [], [([], [], [])], [(1, 50, 0, 8)])
theorem kX7_countWays_23 {SP : CT} (hSP : MONO SP) {sh : List (Nat × Nat)} : SMOK gE gRL sh (CLd SP 4) sX7_countWays_23 :=
  chkS hSP [sX7_waysBehind_0] 83 [(false, 0)]
  [((2, [(0, (2, 47, 0, 0)), (1, (0, 0, 23, 23)), (2, (0, 0, (-1), 23))], [], [], [(0, 1, 0), (2, 2, (-1)), (0, 2, 0)]), [(false, 1)]), ((8, [(0, (2, 47, 0, 0)), (1, (0, 0, 23, 23)), (2, (0, 0, 0, 23)), (3, (0, 0, 0, 9))], [], [], [(0, 1, 0), (2, 2, (-1)), (0, 1, 0), (1, 3, 9), (0, 1, 0)]), [(true, 0), (false, 0)])]
  (by decide +kernel) (List.forall_mem_cons.mpr ⟨SMOK_le (Nat.le_of_ble_eq_true rfl : 3 ≤ 3) (kX7_waysBehind_0 hSP), fun s h => absurd h List.not_mem_nil⟩)
noncomputable def sX7_countWays_24 : SM := (mX7_countWays, [(2, 47, 0, 0), (0, 0, 24, 24)], [], [([], [], [])], [(1, 50, 0, 8)])
theorem kX7_countWays_24 {SP : CT} (hSP : MONO SP) {sh : List (Nat × Nat)} : SMOK gE gRL sh (CLd SP 4) sX7_countWays_24 :=
  chkS hSP [sX7_waysBehind_0] 83 [(false, 0)]
  [((2, [(0, (2, 47, 0, 0)), (1, (0, 0, 24, 24)), (2, (0, 0, (-1), 24))], [], [], [(0, 1, 0), (2, 2, (-1)), (0, 2, 0)]), [(false, 1)]), ((8, [(0, (2, 47, 0, 0)), (1, (0, 0, 24, 24)), (2, (0, 0, 0, 24)), (3, (0, 0, 0, 9))], [], [], [(0, 1, 0), (2, 2, (-1)), (0, 1, 0), (1, 3, 9), (0, 1, 0)]), [(true, 0), (false, 0)])]
  (by decide +kernel) (List.forall_mem_cons.mpr ⟨SMOK_le (Nat.le_of_ble_eq_true rfl : 3 ≤ 3) (kX7_waysBehind_0 hSP), fun s h => absurd h List.not_mem_nil⟩)
noncomputable def sX7_countWays_25 : SM := (jn 0 1 0 0 24 [(2, 47, 0, 0), (0, 0, 0, 24)] sX7_countWays_0 (jn 0 1 1 1 24 [(2, 47, 0, 0), (0, 0, 1, 24)] sX7_countWays_1 (jn 0 1 2 2 24 [(2, 47, 0, 0), (0, 0, 2, 24)] sX7_countWays_2 (jn 0 1 3 3 24 [(2, 47, 0, 0), (0, 0, 3, 24)] sX7_countWays_3 (jn 0 1 4 4 24 [(2, 47, 0, 0), (0, 0, 4, 24)] sX7_countWays_4 (jn 0 1 5 5 24 [(2, 47, 0, 0), (0, 0, 5, 24)] sX7_countWays_5 (jn 0 1 6 6 24 [(2, 47, 0, 0), (0, 0, 6, 24)] sX7_countWays_6 (jn 0 1 7 7 24 [(2, 47, 0, 0), (0, 0, 7, 24)] sX7_countWays_7 (jn 0 1 8 8 24 [(2, 47, 0, 0), (0, 0, 8, 24)] sX7_countWays_8 (jn 0 1 9 9 24 [(2, 47, 0, 0), (0, 0, 9, 24)] sX7_countWays_9 (jn 0 1 10 10 24 [(2, 47, 0, 0), (0, 0, 10, 24)] sX7_countWays_10 (jn 0 1 11 11 24 [(2, 47, 0, 0), (0, 0, 11, 24)] sX7_countWays_11 (jn 0 1 12 12 24 [(2, 47, 0, 0), (0, 0, 12, 24)] sX7_countWays_12 (jn 0 1 13 13 24 [(2, 47, 0, 0), (0, 0, 13, 24)] sX7_countWays_13 (jn 0 1 14 14 24 [(2, 47, 0, 0), (0, 0, 14, 24)] sX7_countWays_14 (jn 0 1 15 15 24 [(2, 47, 0, 0), (0, 0, 15, 24)] sX7_countWays_15 (jn 0 1 16 16 24 [(2, 47, 0, 0), (0, 0, 16, 24)] sX7_countWays_16 (jn 0 1 17 17 24 [(2, 47, 0, 0), (0, 0, 17, 24)] sX7_countWays_17 (jn 0 1 18 18 24 [(2, 47, 0, 0), (0, 0, 18, 24)] sX7_countWays_18 (jn 0 1 19 19 24 [(2, 47, 0, 0), (0, 0, 19, 24)] sX7_countWays_19 (jn 0 1 20 20 24 [(2, 47, 0, 0), (0, 0, 20, 24)] sX7_countWays_20 (jn 0 1 21 21 24 [(2, 47, 0, 0), (0, 0, 21, 24)] sX7_countWays_21 (jn 0 1 22 22 24 [(2, 47, 0, 0), (0, 0, 22, 24)] sX7_countWays_22 (jn 0 1 23 23 24 [(2, 47, 0, 0), (0, 0, 23, 24)] sX7_countWays_23 sX7_countWays_24))))))))))))))))))))))))
theorem kX7_countWays_25 {SP : CT} (hSP : MONO SP) {sh : List (Nat × Nat)} : SMOK gE gRL sh (CLd SP 4) sX7_countWays_25 :=
  SMOK_jn (MONO_CLd hSP 4) 0 (by decide) 1 0 0 24 (as := [(2, 47, 0, 0), (0, 0, 0, 24)]) rfl rfl rfl rfl rfl rfl rfl (SMOK_le (Nat.le_of_ble_eq_true rfl : 1 ≤ 4) (kX7_countWays_0 hSP)) (SMOK_jn (MONO_CLd hSP 4) 0 (by decide) 1 1 1 24 (as := [(2, 47, 0, 0), (0, 0, 1, 24)]) rfl rfl rfl rfl rfl rfl rfl (SMOK_le (Nat.le_of_ble_eq_true rfl : 4 ≤ 4) (kX7_countWays_1 hSP)) (SMOK_jn (MONO_CLd hSP 4) 0 (by decide) 1 2 2 24 (as := [(2, 47, 0, 0), (0, 0, 2, 24)]) rfl rfl rfl rfl rfl rfl rfl (SMOK_le (Nat.le_of_ble_eq_true rfl : 4 ≤ 4) (kX7_countWays_2 hSP)) (SMOK_jn (MONO_CLd hSP 4) 0 (by decide) 1 3 3 24 (as := [(2, 47, 0, 0), (0, 0, 3, 24)]) rfl rfl rfl rfl rfl rfl rfl (SMOK_le (Nat.le_of_ble_eq_true rfl : 4 ≤ 4) (kX7_countWays_3 hSP)) (SMOK_jn (MONO_CLd hSP 4) 0 (by decide) 1 4 4 24 (as := [(2, 47, 0, 0), (0, 0, 4, 24)]) rfl rfl rfl rfl rfl rfl rfl (SMOK_le (Nat.le_of_ble_eq_true rfl : 4 ≤ 4) (kX7_countWays_4 hSP)) (SMOK_jn (MONO_CLd hSP 4) 0 (by decide) 1 5 5 24 (as := [(2, 47, 0, 0), (0, 0, 5, 24)]) rfl rfl rfl rfl rfl rfl rfl (SMOK_le (Nat.le_of_ble_eq_true rfl : 4 ≤ 4) (kX7_countWays_5 hSP)) (SMOK_jn (MONO_CLd hSP 4) 0 (by decide) 1 6 6 24 (as := [(2, 47, 0, 0), (0, 0, 6, 24)]) rfl rfl rfl rfl rfl rfl rfl (SMOK_le (Nat.le_of_ble_eq_true rfl : 4 ≤ 4) (kX7_countWays_6 hSP)) (SMOK_jn (MONO_CLd hSP 4) 0 (by decide) 1 7 7 24 (as := [(2, 47, 0, 0), (0, 0, 7, 24)]) rfl rfl rfl rfl rfl rfl rfl (SMOK_le (Nat.le_of_ble_eq_true rfl : 4 ≤ 4) (kX7_countWays_7 hSP)) (SMOK_jn (MONO_CLd hSP 4) 0 (by decide) 1 8 8 24 (as := [(2, 47, 0, 0), (0, 0, 8, 24)]) rfl rfl rfl rfl rfl rfl rfl (SMOK_le (Nat.le_of_ble_eq_true rfl : 4 ≤ 4) (kX7_countWays_8 hSP)) (SMOK_jn (MONO_CLd hSP 4) 0 (by decide) 1 9 9 24 (as := [(2, 47, 0, 0), (0, 0, 9, 24)]) rfl rfl rfl rfl rfl rfl rfl (SMOK_le (Nat.le_of_ble_eq_true rfl : 4 ≤ 4) (kX7_countWays_9 hSP)) (SMOK_jn (MONO_CLd hSP 4) 0 (by decide) 1 10 10 24 (as := [(2, 47, 0, 0), (0, 0, 10, 24)]) rfl rfl rfl rfl rfl rfl rfl (SMOK_le (Nat.le_of_ble_eq_true rfl : 4 ≤ 4) (kX7_countWays_10 hSP)) (SMOK_jn (MONO_CLd hSP 4) 0 (by decide) 1 11 11 24 (as := [(2, 47, 0, 0), (0, 0, 11, 24)]) rfl rfl rfl rfl rfl rfl rfl (SMOK_le (Nat.le_of_ble_eq_true rfl : 4 ≤ 4) (kX7_countWays_11 hSP)) (SMOK_jn (MONO_CLd hSP 4) 0 (by decide) 1 12 12 24 (as := [(2, 47, 0, 0), (0, 0, 12, 24)]) rfl rfl rfl rfl rfl rfl rfl (SMOK_le (Nat.le_of_ble_eq_true rfl : 4 ≤ 4) (kX7_countWays_12 hSP)) (SMOK_jn (MONO_CLd hSP 4) 0 (by decide) 1 13 13 24 (as := [(2, 47, 0, 0), (0, 0, 13, 24)]) rfl rfl rfl rfl rfl rfl rfl (SMOK_le (Nat.le_of_ble_eq_true rfl : 4 ≤ 4) (kX7_countWays_13 hSP)) (SMOK_jn (MONO_CLd hSP 4) 0 (by decide) 1 14 14 24 (as := [(2, 47, 0, 0), (0, 0, 14, 24)]) rfl rfl rfl rfl rfl rfl rfl (SMOK_le (Nat.le_of_ble_eq_true rfl : 4 ≤ 4) (kX7_countWays_14 hSP)) (SMOK_jn (MONO_CLd hSP 4) 0 (by decide) 1 15 15 24 (as := [(2, 47, 0, 0), (0, 0, 15, 24)]) rfl rfl rfl rfl rfl rfl rfl (SMOK_le (Nat.le_of_ble_eq_true rfl : 4 ≤ 4) (kX7_countWays_15 hSP)) (SMOK_jn (MONO_CLd hSP 4) 0 (by decide) 1 16 16 24 (as := [(2, 47, 0, 0), (0, 0, 16, 24)]) rfl rfl rfl rfl rfl rfl rfl (SMOK_le (Nat.le_of_ble_eq_true rfl : 4 ≤ 4) (kX7_countWays_16 hSP)) (SMOK_jn (MONO_CLd hSP 4) 0 (by decide) 1 17 17 24 (as := [(2, 47, 0, 0), (0, 0, 17, 24)]) rfl rfl rfl rfl rfl rfl rfl (SMOK_le (Nat.le_of_ble_eq_true rfl : 4 ≤ 4) (kX7_countWays_17 hSP)) (SMOK_jn (MONO_CLd hSP 4) 0 (by decide) 1 18 18 24 (as := [(2, 47, 0, 0), (0, 0, 18, 24)]) rfl rfl rfl rfl rfl rfl rfl (SMOK_le (Nat.le_of_ble_eq_true rfl : 4 ≤ 4) (kX7_countWays_18 hSP)) (SMOK_jn (MONO_CLd hSP 4) 0 (by decide) 1 19 19 24 (as := [(2, 47, 0, 0), (0, 0, 19, 24)]) rfl rfl rfl rfl rfl rfl rfl (SMOK_le (Nat.le_of_ble_eq_true rfl : 4 ≤ 4) (kX7_countWays_19 hSP)) (SMOK_jn (MONO_CLd hSP 4) 0 (by decide) 1 20 20 24 (as := [(2, 47, 0, 0), (0, 0, 20, 24)]) rfl rfl rfl rfl rfl rfl rfl (SMOK_le (Nat.le_of_ble_eq_true rfl : 4 ≤ 4) (kX7_countWays_20 hSP)) (SMOK_jn (MONO_CLd hSP 4) 0 (by decide) 1 21 21 24 (as := [(2, 47, 0, 0), (0, 0, 21, 24)]) rfl rfl rfl rfl rfl rfl rfl (SMOK_le (Nat.le_of_ble_eq_true rfl : 4 ≤ 4) (kX7_countWays_21 hSP)) (SMOK_jn (MONO_CLd hSP 4) 0 (by decide) 1 22 22 24 (as := [(2, 47, 0, 0), (0, 0, 22, 24)]) rfl rfl rfl rfl rfl rfl rfl (SMOK_le (Nat.le_of_ble_eq_true rfl : 4 ≤ 4) (kX7_countWays_22 hSP)) (SMOK_jn (MONO_CLd hSP 4) 0 (by decide) 1 23 23 24 (as := [(2, 47, 0, 0), (0, 0, 23, 24)]) rfl rfl rfl rfl rfl rfl rfl (SMOK_le (Nat.le_of_ble_eq_true rfl : 4 ≤ 4) (kX7_countWays_23 hSP)) (SMOK_le (Nat.le_of_ble_eq_true rfl : 4 ≤ 4) (kX7_countWays_24 hSP)))))))))))))))))))))))))
noncomputable def sX7_leastOrder_0 : SM := (mX7_leastOrder, [(2, 47, 0, 0), (0, 0, 1, 1), (0, 0, 4, 4)], [], [([(0, 0, 1, 1)], [], []), ([(0, 0, 0, 0)], [], []), ([(0, 0, (-1), (-1))], [], [])], [])
theorem kX7_leastOrder_0 {SP : CT} (hSP : MONO SP) {sh : List (Nat × Nat)} : SMOK gE gRL sh (CLd SP 3) sX7_leastOrder_0 :=
  chkS hSP [sX10_keepOnSea_0] 21 [(false, 0)]
  [((2, [(0, (2, 47, 0, 0)), (1, (0, 0, 1, 1)), (2, (0, 0, 4, 4)), (3, (0, 0, (-1), (-1)))], [], [], [(0, 3, 0)]), [(false, 1)]), ((2, [(0, (2, 47, 0, 0)), (1, (0, 0, 1, 1)), (2, (0, 0, 4, 4)), (3, (0, 0, 0, 0))], [], [], [(0, 2, 0)]), [(false, 1)]), ((2, [(0, (2, 47, 0, 0)), (1, (0, 0, 1, 1)), (2, (0, 0, 4, 4)), (3, (0, 0, 1, 1))], [], [], [(0, 1, 0)]), [])]
  (by decide +kernel) (List.forall_mem_cons.mpr ⟨SMOK_le (Nat.le_of_ble_eq_true rfl : 2 ≤ 2) (kX10_keepOnSea_0 hSP), fun s h => absurd h List.not_mem_nil⟩)
noncomputable def sX7_leastOrder_1 : SM := (mX7_leastOrder, [(2, 47, 0, 0), (0, 0, 1, 2), (0, 0, 0, 8)], [], [([(0, 0, 1, 1)], [], []), ([(0, 0, 0, 0)], [], []), ([(0, 0, (-1), (-1))], [], [])], [])
theorem kX7_leastOrder_1 {SP : CT} (hSP : MONO SP) {sh : List (Nat × Nat)} : SMOK gE gRL sh (CLd SP 3) sX7_leastOrder_1 :=
  chkS hSP [sX10_keepOnSea_0] 21 [(false, 0)]
  [((2, [(0, (2, 47, 0, 0)), (1, (0, 0, 1, 2)), (2, (0, 0, 0, 8)), (3, (0, 0, (-1), (-1)))], [], [], [(0, 3, 0)]), [(false, 1)]), ((2, [(0, (2, 47, 0, 0)), (1, (0, 0, 1, 2)), (2, (0, 0, 0, 8)), (3, (0, 0, 0, 0))], [], [], [(0, 2, 0)]), [(false, 1)]), ((2, [(0, (2, 47, 0, 0)), (1, (0, 0, 1, 2)), (2, (0, 0, 0, 8)), (3, (0, 0, 1, 1))], [], [], [(0, 1, 0)]), [])]
  (by decide +kernel) (List.forall_mem_cons.mpr ⟨SMOK_le (Nat.le_of_ble_eq_true rfl : 2 ≤ 2) (kX10_keepOnSea_0 hSP), fun s h => absurd h List.not_mem_nil⟩)
noncomputable def sX7_leastOrder_2 : SM := (mX7_leastOrder, [(2, 47, 0, 0), (0, 0, 1, 3), (0, 0, 0, 8)], [], [([(0, 0, 1, 1)], [], []), ([(0, 0, 0, 0)], [], []), ([(0, 0, (-1), (-1))], [], [])], [])
theorem kX7_leastOrder_2 {SP : CT} (hSP : MONO SP) {sh : List (Nat × Nat)} : SMOK gE gRL sh (CLd SP 3) sX7_leastOrder_2 :=
  chkS hSP [sX10_keepOnSea_0] 21 [(false, 0)]
  [((2, [(0, (2, 47, 0, 0)), (1, (0, 0, 1, 3)), (2, (0, 0, 0, 8)), (3, (0, 0, (-1), (-1)))], [], [], [(0, 3, 0)]), [(false, 1)]), ((2, [(0, (2, 47, 0, 0)), (1, (0, 0, 1, 3)), (2, (0, 0, 0, 8)), (3, (0, 0, 0, 0))], [], [], [(0, 2, 0)]), [(false, 1)]), ((2, [(0, (2, 47, 0, 0)), (1, (0, 0, 1, 3)), (2, (0, 0, 0, 8)), (3, (0, 0, 1, 1))], [], [], [(0, 1, 0)]), [])]
  (by decide +kernel) (List.forall_mem_cons.mpr ⟨SMOK_le (Nat.le_of_ble_eq_true rfl : 2 ≤ 2) (kX10_keepOnSea_0 hSP), fun s h => absurd h List.not_mem_nil⟩)
noncomputable def sX7_leastOrder_3 : SM := (mX7_leastOrder, [(2, 47, 0, 0), (0, 0, 1, 4), (0, 0, 0, 8)], [], [([(0, 0, 1, 1)], [], []), ([(0, 0, 0, 0)], [], []), ([(0, 0, (-1), (-1))], [], [])], [])
theorem kX7_leastOrder_3 {SP : CT} (hSP : MONO SP) {sh : List (Nat × Nat)} : SMOK gE gRL sh (CLd SP 3) sX7_leastOrder_3 :=
  chkS hSP [sX10_keepOnSea_0] 21 [(false, 0)]
  [((2, [(0, (2, 47, 0, 0)), (1, (0, 0, 1, 4)), (2, (0, 0, 0, 8)), (3, (0, 0, (-1), (-1)))], [], [], [(0, 3, 0)]), [(false, 1)]), ((2, [(0, (2, 47, 0, 0)), (1, (0, 0, 1, 4)), (2, (0, 0, 0, 8)), (3, (0, 0, 0, 0))], [], [], [(0, 2, 0)]), [(false, 1)]), ((2, [(0, (2, 47, 0, 0)), (1, (0, 0, 1, 4)), (2, (0, 0, 0, 8)), (3, (0, 0, 1, 1))], [], [], [(0, 1, 0)]), [])]
  (by decide +kernel) (List.forall_mem_cons.mpr ⟨SMOK_le (Nat.le_of_ble_eq_true rfl : 2 ≤ 2) (kX10_keepOnSea_0 hSP), fun s h => absurd h List.not_mem_nil⟩)
noncomputable def sX7_leastOrder_4 : SM := (mX7_leastOrder, [(2, 47, 0, 0), (0, 0, 1, 5), (0, 0, 0, 8)], [], [([(0, 0, 1, 1)], [], []), ([(0, 0, 0, 0)], [], []), ([(0, 0, (-1), (-1))], [], [])], [])
theorem kX7_leastOrder_4 {SP : CT} (hSP : MONO SP) {sh : List (Nat × Nat)} : SMOK gE gRL sh (CLd SP 3) sX7_leastOrder_4 :=
  chkS hSP [sX10_keepOnSea_0] 21 [(false, 0)]
  [((2, [(0, (2, 47, 0, 0)), (1, (0, 0, 1, 5)), (2, (0, 0, 0, 8)), (3, (0, 0, (-1), (-1)))], [], [], [(0, 3, 0)]), [(false, 1)]), ((2, [(0, (2, 47, 0, 0)), (1, (0, 0, 1, 5)), (2, (0, 0, 0, 8)), (3, (0, 0, 0, 0))], [], [], [(0, 2, 0)]), [(false, 1)]), ((2, [(0, (2, 47, 0, 0)), (1, (0, 0, 1, 5)), (2, (0, 0, 0, 8)), (3, (0, 0, 1, 1))], [], [], [(0, 1, 0)]), [])]
  (by decide +kernel) (List.forall_mem_cons.mpr ⟨SMOK_le (Nat.le_of_ble_eq_true rfl : 2 ≤ 2) (kX10_keepOnSea_0 hSP), fun s h => absurd h List.not_mem_nil⟩)
noncomputable def sX7_leastOrder_5 : SM := (mX7_leastOrder, [(2, 47, 0, 0), (0, 0, 1, 6), (0, 0, 0, 8)], [], [([(0, 0, 1, 1)], [], []), ([(0, 0, 0, 0)], [], []), ([(0, 0, (-1), (-1))], [], [])], [])
theorem kX7_leastOrder_5 {SP : CT} (hSP : MONO SP) {sh : List (Nat × Nat)} : SMOK gE gRL sh (CLd SP 3) sX7_leastOrder_5 :=
  chkS hSP [sX10_keepOnSea_0] 21 [(false, 0)]
  [((2, [(0, (2, 47, 0, 0)), (1, (0, 0, 1, 6)), (2, (0, 0, 0, 8)), (3, (0, 0, (-1), (-1)))], [], [], [(0, 3, 0)]), [(false, 1)]), ((2, [(0, (2, 47, 0, 0)), (1, (0, 0, 1, 6)), (2, (0, 0, 0, 8)), (3, (0, 0, 0, 0))], [], [], [(0, 2, 0)]), [(false, 1)]), ((2, [(0, (2, 47, 0, 0)), (1, (0, 0, 1, 6)), (2, (0, 0, 0, 8)), (3, (0, 0, 1, 1))], [], [], [(0, 1, 0)]), [])]
  (by decide +kernel) (List.forall_mem_cons.mpr ⟨SMOK_le (Nat.le_of_ble_eq_true rfl : 2 ≤ 2) (kX10_keepOnSea_0 hSP), fun s h => absurd h List.not_mem_nil⟩)
noncomputable def sX7_leastOrder_6 : SM := (mX7_leastOrder, [(2, 47, 0, 0), (0, 0, 1, 7), (0, 0, 0, 8)], [], [([(0, 0, 1, 1)], [], []), ([(0, 0, 0, 0)], [], []), ([(0, 0, (-1), (-1))], [], [])], [])
theorem kX7_leastOrder_6 {SP : CT} (hSP : MONO SP) {sh : List (Nat × Nat)} : SMOK gE gRL sh (CLd SP 3) sX7_leastOrder_6 :=
  chkS hSP [sX10_keepOnSea_0] 21 [(false, 0)]
  [((2, [(0, (2, 47, 0, 0)), (1, (0, 0, 1, 7)), (2, (0, 0, 0, 8)), (3, (0, 0, (-1), (-1)))], [], [], [(0, 3, 0)]), [(false, 1)]), ((2, [(0, (2, 47, 0, 0)), (1, (0, 0, 1, 7)), (2, (0, 0, 0, 8)), (3, (0, 0, 0, 0))], [], [], [(0, 2, 0)]), [(false, 1)]), ((2, [(0, (2, 47, 0, 0)), (1, (0, 0, 1, 7)), (2, (0, 0, 0, 8)), (3, (0, 0, 1, 1))], [], [], [(0, 1, 0)]), [])]
  (by decide +kernel) (List.forall_mem_cons.mpr ⟨SMOK_le (Nat.le_of_ble_eq_true rfl : 2 ≤ 2) (kX10_keepOnSea_0 hSP), fun s h => absurd h List.not_mem_nil⟩)
noncomputable def sX7_leastOrder_7 : SM := (mX7_leastOrder, [(2, 47, 0, 0), (0, 0, 1, 8), (0, 0, 0, 8)], [], [([(0, 0, 1, 1)], [], []), ([(0, 0, 0, 0)], [], []), ([(0, 0, (-1), (-1))], [], [])], [])
theorem kX7_leastOrder_7 {SP : CT} (hSP : MONO SP) {sh : List (Nat × Nat)} : SMOK gE gRL sh (CLd SP 3) sX7_leastOrder_7 :=
  chkS hSP [sX10_keepOnSea_0] 21 [(false, 0)]
  [((2, [(0, (2, 47, 0, 0)), (1, (0, 0, 1, 8)), (2, (0, 0, 0, 8)), (3, (0, 0, (-1), (-1)))], [], [], [(0, 3, 0)]), [(false, 1)]), ((2, [(0, (2, 47, 0, 0)), (1, (0, 0, 1, 8)), (2, (0, 0, 0, 8)), (3, (0, 0, 0, 0))], [], [], [(0, 2, 0)]), [(false, 1)]), ((2, [(0, (2, 47, 0, 0)), (1, (0, 0, 1, 8)), (2, (0, 0, 0, 8)), (3, (0, 0, 1, 1))], [], [], [(0, 1, 0)]), [])]
  (by decide +kernel) (List.forall_mem_cons.mpr ⟨SMOK_le (Nat.le_of_ble_eq_true rfl : 2 ≤ 2) (kX10_keepOnSea_0 hSP), fun s h => absurd h List.not_mem_nil⟩)
noncomputable def sX7_leastOrder_8 : SM := (mX7_leastOrder, [(2, 47, 0, 0), (0, 0, 1, 9), (0, 0, 0, 8)], [], [([(0, 0, 1, 1)], [], []), ([(0, 0, 0, 0)], [], []), ([(0, 0, (-1), (-1))], [], [])], [])
theorem kX7_leastOrder_8 {SP : CT} (hSP : MONO SP) {sh : List (Nat × Nat)} : SMOK gE gRL sh (CLd SP 3) sX7_leastOrder_8 :=
  chkS hSP [sX10_keepOnSea_0] 21 [(false, 0)]
  [((2, [(0, (2, 47, 0, 0)), (1, (0, 0, 1, 9)), (2, (0, 0, 0, 8)), (3, (0, 0, (-1), (-1)))], [], [], [(0, 3, 0)]), [(false, 1)]), ((2, [(0, (2, 47, 0, 0)), (1, (0, 0, 1, 9)), (2, (0, 0, 0, 8)), (3, (0, 0, 0, 0))], [], [], [(0, 2, 0)]), [(false, 1)]), ((2, [(0, (2, 47, 0, 0)), (1, (0, 0, 1, 9)), (2, (0, 0, 0, 8)), (3, (0, 0, 1, 1))], [], [], [(0, 1, 0)]), [])]
  (by decide +kernel) (List.forall_mem_cons.mpr ⟨SMOK_le (Nat.le_of_ble_eq_true rfl : 2 ≤ 2) (kX10_keepOnSea_0 hSP), fun s h => absurd h List.not_mem_nil⟩)
noncomputable def sX7_leastOrder_9 : SM := (mX7_leastOrder, [(2, 47, 0, 0), (0, 0, 1, 10), (0, 0, 0, 8)], [], [([(0, 0, 1, 1)], [], []), ([(0, 0, 0, 0)], [], []), ([(0, 0, (-1), (-1))], [], [])], [])
theorem kX7_leastOrder_9 {SP : CT} (hSP : MONO SP) {sh : List (Nat × Nat)} : SMOK gE gRL sh (CLd SP 3) sX7_leastOrder_9 :=
  chkS hSP [sX10_keepOnSea_0] 21 [(false, 0)]
  [((2, [(0, (2, 47, 0, 0)), (1, (0, 0, 1, 10)), (2, (0, 0, 0, 8)), (3, (0, 0, (-1), (-1)))], [], [], [(0, 3, 0)]), [(false, 1)]), ((2, [(0, (2, 47, 0, 0)), (1, (0, 0, 1, 10)), (2, (0, 0, 0, 8)), (3, (0, 0, 0, 0))], [], [], [(0, 2, 0)]), [(false, 1)]), ((2, [(0, (2, 47, 0, 0)), (1, (0, 0, 1, 10)), (2, (0, 0, 0, 8)), (3, (0, 0, 1, 1))], [], [], [(0, 1, 0)]), [])]
  (by decide +kernel) (List.forall_mem_cons.mpr ⟨SMOK_le (Nat.le_of_ble_eq_true rfl : 2 ≤ 2) (kX10_keepOnSea_0 hSP), fun s h => absurd h List.not_mem_nil⟩)
noncomputable def sX7_leastOrder_10 : SM := (mX7_leastOrder, [(2, 47, 0, 0), (0, 0, 1, 11), (0, 0, 0, 8)], [], [([(0, 0, 1, 1)], [], []), ([(0, 0, 0, 0)], [], []), ([(0, 0, (-1), (-1))], [], [])], [])
theorem kX7_leastOrder_10 {SP : CT} (hSP : MONO SP) {sh : List (Nat × Nat)} : SMOK gE gRL sh (CLd SP 3) sX7_leastOrder_10 :=
  chkS hSP [sX10_keepOnSea_0] 21 [(false, 0)]
  [((2, [(0, (2, 47, 0, 0)), (1, (0, 0, 1, 11)), (2, (0, 0, 0, 8)), (3, (0, 0, (-1), (-1)))], [], [], [(0, 3, 0)]), [(false, 1)]), ((2, [(0, (2, 47, 0, 0)), (1, (0, 0, 1, 11)), (2, (0, 0, 0, 8)), (3, (0, 0, 0, 0))], [], [], [(0, 2, 0)]), [(false, 1)]), ((2, [(0, (2, 47, 0, 0)), (1, (0, 0, 1, 11)), (2, (0, 0, 0, 8)), (3, (0, 0, 1, 1))], [], [], [(0, 1, 0)]), [])]
  (by decide +kernel) (List.forall_mem_cons.mpr ⟨SMOK_le (Nat.le_of_ble_eq_true rfl : 2 ≤ 2) (kX10_keepOnSea_0 hSP), fun s h => absurd h List.not_mem_nil⟩)
noncomputable def sX7_leastOrder_11 : SM := (mX7_leastOrder, [(2, 47, 0, 0), (0, 0, 1, 12), (0, 0, 0, 8)], [], [([(0, 0, 1, 1)], [], []), ([(0, 0, 0, 0)], [], []), ([(0, 0, (-1), (-1))], [], [])], [])
theorem kX7_leastOrder_11 {SP : CT} (hSP : MONO SP) {sh : List (Nat × Nat)} : SMOK gE gRL sh (CLd SP 3) sX7_leastOrder_11 :=
  chkS hSP [sX10_keepOnSea_0] 21 [(false, 0)]
  [((2, [(0, (2, 47, 0, 0)), (1, (0, 0, 1, 12)), (2, (0, 0, 0, 8)), (3, (0, 0, (-1), (-1)))], [], [], [(0, 3, 0)]), [(false, 1)]), ((2, [(0, (2, 47, 0, 0)), (1, (0, 0, 1, 12)), (2, (0, 0, 0, 8)), (3, (0, 0, 0, 0))], [], [], [(0, 2, 0)]), [(false, 1)]), ((2, [(0, (2, 47, 0, 0)), (1, (0, 0, 1, 12)), (2, (0, 0, 0, 8)), (3, (0, 0, 1, 1))], [], [], [(0, 1, 0)]), [])]
  (by decide +kernel) (List.forall_mem_cons.mpr ⟨SMOK_le (Nat.le_of_ble_eq_true rfl : 2 ≤ 2) (kX10_keepOnSea_0 hSP), fun s h => absurd h List.not_mem_nil⟩)
noncomputable def sX7_leastOrder_12 : SM := (mX7_leastOrder, [(2, 47, 0, 0), (0, 0, 1, 13), (0, 0, 0, 8)], [], [([(0, 0, 1, 1)], [], []), ([(0, 0, 0, 0)], [], []), ([(0, 0, (-1), (-1))], [], [])], [])
theorem kX7_leastOrder_12 {SP : CT} (hSP : MONO SP) {sh : List (Nat × Nat)} : SMOK gE gRL sh (CLd SP 3) sX7_leastOrder_12 :=
  chkS hSP [sX10_keepOnSea_0] 21 [(false, 0)]
  [((2, [(0, (2, 47, 0, 0)), (1, (0, 0, 1, 13)), (2, (0, 0, 0, 8)), (3, (0, 0, (-1), (-1)))], [], [], [(0, 3, 0)]), [(false, 1)]), ((2, [(0, (2, 47, 0, 0)), (1, (0, 0, 1, 13)), (2, (0, 0, 0, 8)), (3, (0, 0, 0, 0))], [], [], [(0, 2, 0)]), [(false, 1)]), ((2, [(0, (2, 47, 0, 0)), (1, (0, 0, 1, 13)), (2, (0, 0, 0, 8)), (3, (0, 0, 1, 1))], [], [], [(0, 1, 0)]), [])]
  (by decide +kernel) (List.forall_mem_cons.mpr ⟨SMOK_le (Nat.le_of_ble_eq_true rfl : 2 ≤ 2) (kX10_keepOnSea_0 hSP), fun s h => absurd h List.not_mem_nil⟩)
noncomputable def sX7_leastOrder_13 : SM := (mX7_leastOrder, [(2, 47, 0, 0), (0, 0, 1, 14), (0, 0, 0, 8)], [], [([(0, 0, 1, 1)], [], []), ([(0, 0, 0, 0)], [], []), ([(0, 0, (-1), (-1))], [], [])], [])
theorem kX7_leastOrder_13 {SP : CT} (hSP : MONO SP) {sh : List (Nat × Nat)} : SMOK gE gRL sh (CLd SP 3) sX7_leastOrder_13 :=
  chkS hSP [sX10_keepOnSea_0] 21 [(false, 0)]
  [((2, [(0, (2, 47, 0, 0)), (1, (0, 0, 1, 14)), (2, (0, 0, 0, 8)), (3, (0, 0, (-1), (-1)))], [], [], [(0, 3, 0)]), [(false, 1)]), ((2, [(0, (2, 47, 0, 0)), (1, (0, 0, 1, 14)), (2, (0, 0, 0, 8)), (3, (0, 0, 0, 0))], [], [], [(0, 2, 0)]), [(false, 1)]), ((2, [(0, (2, 47, 0, 0)), (1, (0, 0, 1, 14)), (2, (0, 0, 0, 8)), (3, (0, 0, 1, 1))], [], [], [(0, 1, 0)]), [])]
  (by decide +kernel) (List.forall_mem_cons.mpr ⟨SMOK_le (Nat.le_of_ble_eq_true rfl : 2 ≤ 2) (kX10_keepOnSea_0 hSP), fun s h => absurd h List.not_mem_nil⟩)
noncomputable def sX7_leastOrder_14 : SM := (mX7_leastOrder, [(2, 47, 0, 0), (0, 0, 1, 15), (0, 0, 0, 8)], [], [([(0, 0, 1, 1)], [], []), ([(0, 0, 0, 0)], [], []), ([(0, 0, (-1), (-1))], [], [])], [])
theorem kX7_leastOrder_14 {SP : CT} (hSP : MONO SP) {sh : List (Nat × Nat)} : SMOK gE gRL sh (CLd SP 3) sX7_leastOrder_14 :=
  chkS hSP [sX10_keepOnSea_0] 21 [(false, 0)]
  [((2, [(0, (2, 47, 0, 0)), (1, (0, 0, 1, 15)), (2, (0, 0, 0, 8)), (3, (0, 0, (-1), (-1)))], [], [], [(0, 3, 0)]), [(false, 1)]), ((2, [(0, (2, 47, 0, 0)), (1, (0, 0, 1, 15)), (2, (0, 0, 0, 8)), (3, (0, 0, 0, 0))], [], [], [(0, 2, 0)]), [(false, 1)]), ((2, [(0, (2, 47, 0, 0)), (1, (0, 0, 1, 15)), (2, (0, 0, 0, 8)), (3, (0, 0, 1, 1))], [], [], [(0, 1, 0)]), [])]
  (by decide +kernel) (List.forall_mem_cons.mpr ⟨SMOK_le (Nat.le_of_ble_eq_true rfl : 2 ≤ 2) (kX10_keepOnSea_0 hSP), fun s h => absurd h List.not_mem_nil⟩)
noncomputable def sX7_leastOrder_15 : SM := (mX7_leastOrder, [(2, 47, 0, 0), (0, 0, 1, 16), (0, 0, 0, 8)], [], [([(0, 0, 1, 1)], [], []), ([(0, 0, 0, 0)], [], []), ([(0, 0, (-1), (-1))], [], [])], [])
theorem kX7_leastOrder_15 {SP : CT} (hSP : MONO SP) {sh : List (Nat × Nat)} : SMOK gE gRL sh (CLd SP 3) sX7_leastOrder_15 :=
  chkS hSP [sX10_keepOnSea_0] 21 [(false, 0)]
  [((2, [(0, (2, 47, 0, 0)), (1, (0, 0, 1, 16)), (2, (0, 0, 0, 8)), (3, (0, 0, (-1), (-1)))], [], [], [(0, 3, 0)]), [(false, 1)]), ((2, [(0, (2, 47, 0, 0)), (1, (0, 0, 1, 16)), (2, (0, 0, 0, 8)), (3, (0, 0, 0, 0))], [], [], [(0, 2, 0)]), [(false, 1)]), ((2, [(0, (2, 47, 0, 0)), (1, (0, 0, 1, 16)), (2, (0, 0, 0, 8)), (3, (0, 0, 1, 1))], [], [], [(0, 1, 0)]), [])]
  (by decide +kernel) (List.forall_mem_cons.mpr ⟨SMOK_le (Nat.le_of_ble_eq_true rfl : 2 ≤ 2) (kX10_keepOnSea_0 hSP), fun s h => absurd h List.not_mem_nil⟩)
noncomputable def sX7_leastOrder_16 : SM := (mX7_leastOrder, [(2, 47, 0, 0), (0, 0, 1, 17), (0, 0, 0, 8)], [], [([(0, 0, 1, 1)], [], []), ([(0, 0, 0, 0)], [], []), ([(0, 0, (-1), (-1))], [], [])], [])
theorem kX7_leastOrder_16 {SP : CT} (hSP : MONO SP) {sh : List (Nat × Nat)} : SMOK gE gRL sh (CLd SP 3) sX7_leastOrder_16 :=
  chkS hSP [sX10_keepOnSea_0] 21 [(false, 0)]
  [((2, [(0, (2, 47, 0, 0)), (1, (0, 0, 1, 17)), (2, (0, 0, 0, 8)), (3, (0, 0, (-1), (-1)))], [], [], [(0, 3, 0)]), [(false, 1)]), ((2, [(0, (2, 47, 0, 0)), (1, (0, 0, 1, 17)), (2, (0, 0, 0, 8)), (3, (0, 0, 0, 0))], [], [], [(0, 2, 0)]), [(false, 1)]), ((2, [(0, (2, 47, 0, 0)), (1, (0, 0, 1, 17)), (2, (0, 0, 0, 8)), (3, (0, 0, 1, 1))], [], [], [(0, 1, 0)]), [])]
  (by decide +kernel) (List.forall_mem_cons.mpr ⟨SMOK_le (Nat.le_of_ble_eq_true rfl : 2 ≤ 2) (kX10_keepOnSea_0 hSP), fun s h => absurd h List.not_mem_nil⟩)
noncomputable def sX7_leastOrder_17 : SM := (mX7_leastOrder, [(2, 47, 0, 0), (0, 0, 1, 18), (0, 0, 0, 8)], [], [([(0, 0, 1, 1)], [], []), ([(0, 0, 0, 0)], [], []), ([(0, 0, (-1), (-1))], [], [])], [])
theorem kX7_leastOrder_17 {SP : CT} (hSP : MONO SP) {sh : List (Nat × Nat)} : SMOK gE gRL sh (CLd SP 3) sX7_leastOrder_17 :=
  chkS hSP [sX10_keepOnSea_0] 21 [(false, 0)]
  [((2, [(0, (2, 47, 0, 0)), (1, (0, 0, 1, 18)), (2, (0, 0, 0, 8)), (3, (0, 0, (-1), (-1)))], [], [], [(0, 3, 0)]), [(false, 1)]), ((2, [(0, (2, 47, 0, 0)), (1, (0, 0, 1, 18)), (2, (0, 0, 0, 8)), (3, (0, 0, 0, 0))], [], [], [(0, 2, 0)]), [(false, 1)]), ((2, [(0, (2, 47, 0, 0)), (1, (0, 0, 1, 18)), (2, (0, 0, 0, 8)), (3, (0, 0, 1, 1))], [], [], [(0, 1, 0)]), [])]
  (by decide +kernel) (List.forall_mem_cons.mpr ⟨SMOK_le (Nat.le_of_ble_eq_true rfl : 2 ≤ 2) (kX10_keepOnSea_0 hSP), fun s h => absurd h List.not_mem_nil⟩)
noncomputable def sX7_leastOrder_18 : SM := (mX7_leastOrder, [(2, 47, 0, 0), (0, 0, 1, 19), (0, 0, 0, 8)], [], [([(0, 0, 1, 1)], [], []), ([(0, 0, 0, 0)], [], []), ([(0, 0, (-1), (-1))], [], [])], [])
theorem kX7_leastOrder_18 {SP : CT} (hSP : MONO SP) {sh : List (Nat × Nat)} : SMOK gE gRL sh (CLd SP 3) sX7_leastOrder_18 :=
  chkS hSP [sX10_keepOnSea_0] 21 [(false, 0)]
  [((2, [(0, (2, 47, 0, 0)), (1, (0, 0, 1, 19)), (2, (0, 0, 0, 8)), (3, (0, 0, (-1), (-1)))], [], [], [(0, 3, 0)]), [(false, 1)]), ((2, [(0, (2, 47, 0, 0)), (1, (0, 0, 1, 19)), (2, (0, 0, 0, 8)), (3, (0, 0, 0, 0))], [], [], [(0, 2, 0)]), [(false, 1)]), ((2, [(0, (2, 47, 0, 0)), (1, (0, 0, 1, 19)), (2, (0, 0, 0, 8)), (3, (0, 0, 1, 1))], [], [], [(0, 1, 0)]), [])]
  (by decide +kernel) (List.forall_mem_cons.mpr ⟨SMOK_le (Nat.le_of_ble_eq_true rfl : 2 ≤ 2) (kX10_keepOnSea_0 hSP), fun s h => absurd h List.not_mem_nil⟩)
noncomputable def sX7_leastOrder_19 : SM := (mX7_leastOrder, [(2, 47, 0, 0), (0, 0, 1, 20), (0, 0, 0, 8)], [], [([(0, 0, 1, 1)], [], []), ([(0, 0, 0, 0)], [], []), ([(0, 0, (-1), (-1))], [], [])], [])
theorem kX7_leastOrder_19 {SP : CT} (hSP : MONO SP) {sh : List (Nat × Nat)} : SMOK gE gRL sh (CLd SP 3) sX7_leastOrder_19 :=
  chkS hSP [sX10_keepOnSea_0] 21 [(false, 0)]
  [((2, [(0, (2, 47, 0, 0)), (1, (0, 0, 1, 20)), (2, (0, 0, 0, 8)), (3, (0, 0, (-1), (-1)))], [], [], [(0, 3, 0)]), [(false, 1)]), ((2, [(0, (2, 47, 0, 0)), (1, (0, 0, 1, 20)), (2, (0, 0, 0, 8)), (3, (0, 0, 0, 0))], [], [], [(0, 2, 0)]), [(false, 1)]), ((2, [(0, (2, 47, 0, 0)), (1, (0, 0, 1, 20)), (2, (0, 0, 0, 8)), (3, (0, 0, 1, 1))], [], [], [(0, 1, 0)]), [])]
  (by decide +kernel) (List.forall_mem_cons.mpr ⟨SMOK_le (Nat.le_of_ble_eq_true rfl : 2 ≤ 2) (kX10_keepOnSea_0 hSP), fun s h => absurd h List.not_mem_nil⟩)
noncomputable def sX7_leastOrder_20 : SM := (mX7_leastOrder, [(2, 47, 0, 0), (0, 0, 1, 21), (0, 0, 0, 8)], [], [([(0, 0, 1, 1)], [], []), ([(0, 0, 0, 0)], [], []), ([(0, 0, (-1), (-1))], [], [])], [])
theorem kX7_leastOrder_20 {SP : CT} (hSP : MONO SP) {sh : List (Nat × Nat)} : SMOK gE gRL sh (CLd SP 3) sX7_leastOrder_20 :=
  chkS hSP [sX10_keepOnSea_0] 21 [(false, 0)]
  [((2, [(0, (2, 47, 0, 0)), (1, (0, 0, 1, 21)), (2, (0, 0, 0, 8)), (3, (0, 0, (-1), (-1)))], [], [], [(0, 3, 0)]), [(false, 1)]), ((2, [(0, (2, 47, 0, 0)), (1, (0, 0, 1, 21)), (2, (0, 0, 0, 8)), (3, (0, 0, 0, 0))], [], [], [(0, 2, 0)]), [(false, 1)]), ((2, [(0, (2, 47, 0, 0)), (1, (0, 0, 1, 21)), (2, (0, 0, 0, 8)), (3, (0, 0, 1, 1))], [], [], [(0, 1, 0)]), [])]
  (by decide +kernel) (List.forall_mem_cons.mpr ⟨SMOK_le (Nat.le_of_ble_eq_true rfl : 2 ≤ 2) (kX10_keepOnSea_0 hSP), fun s h => absurd h List.not_mem_nil⟩)
noncomputable def sX7_leastOrder_21 : SM := (mX7_leastOrder, [(2, 47, 0, 0), (0, 0, 1, 22), (0, 0, 0, 8)], [], [([(0, 0, 1, 1)], [], []), ([(0, 0, 0, 0)], [], []), ([(0, 0, (-1), (-1))], [], [])], [])
theorem kX7_leastOrder_21 {SP : CT} (hSP : MONO SP) {sh : List (Nat × Nat)} : SMOK gE gRL sh (CLd SP 3) sX7_leastOrder_21 :=
  chkS hSP [sX10_keepOnSea_0] 21 [(false, 0)]
  [((2, [(0, (2, 47, 0, 0)), (1, (0, 0, 1, 22)), (2, (0, 0, 0, 8)), (3, (0, 0, (-1), (-1)))], [], [], [(0, 3, 0)]), [(false, 1)]), ((2, [(0, (2, 47, 0, 0)), (1, (0, 0, 1, 22)), (2, (0, 0, 0, 8)), (3, (0, 0, 0, 0))], [], [], [(0, 2, 0)]), [(false, 1)]), ((2, [(0, (2, 47, 0, 0)), (1, (0, 0, 1, 22)), (2, (0, 0, 0, 8)), (3, (0, 0, 1, 1))], [], [], [(0, 1, 0)]), [])]
  (by decide +kernel) (List.forall_mem_cons.mpr ⟨SMOK_le (Nat.le_of_ble_eq_true rfl : 2 ≤ 2) (kX10_keepOnSea_0 hSP), fun s h => absurd h List.not_mem_nil⟩)
noncomputable def sX7_leastOrder_22 : SM := (mX7_leastOrder, [(2, 47, 0, 0), (0, 0, 1, 23), (0, 0, 0, 8)], [], [([(0, 0, 1, 1)], [], []), ([(0, 0, 0, 0)], [], []), ([(0, 0, (-1), (-1))], [], [])], [])
theorem kX7_leastOrder_22 {SP : CT} (hSP : MONO SP) {sh : List (Nat × Nat)} : SMOK gE gRL sh (CLd SP 3) sX7_leastOrder_22 :=
  chkS hSP [sX10_keepOnSea_0] 21 [(false, 0)]
  [((2, [(0, (2, 47, 0, 0)), (1, (0, 0, 1, 23)), (2, (0, 0, 0, 8)), (3, (0, 0, (-1), (-1)))], [], [], [(0, 3, 0)]), [(false, 1)]), ((2, [(0, (2, 47, 0, 0)), (1, (0, 0, 1, 23)), (2, (0, 0, 0, 8)), (3, (0, 0, 0, 0))], [], [], [(0, 2, 0)]), [(false, 1)]), ((2, [(0, (2, 47, 0, 0)), (1, (0, 0, 1, 23)), (2, (0, 0, 0, 8)), (3, (0, 0, 1, 1))], [], [], [(0, 1, 0)]), [])]
  (by decide +kernel) (List.forall_mem_cons.mpr ⟨SMOK_le (Nat.le_of_ble_eq_true rfl : 2 ≤ 2) (kX10_keepOnSea_0 hSP), fun s h => absurd h List.not_mem_nil⟩)
noncomputable def sX7_leastOrder_23 : SM := (mX7_leastOrder, [(2, 47, 0, 0), (0, 0, 1, 24), (0, 0, 0, 8)], [], [([(0, 0, 1, 1)], [], []), ([(0, 0, 0, 0)], [], []), ([(0, 0, (-1), (-1))], [], [])], [])
theorem kX7_leastOrder_23 {SP : CT} (hSP : MONO SP) {sh : List (Nat × Nat)} : SMOK gE gRL sh (CLd SP 3) sX7_leastOrder_23 :=
  chkS hSP [sX10_keepOnSea_0] 21 [(false, 0)]
  [((2, [(0, (2, 47, 0, 0)), (1, (0, 0, 1, 24)), (2, (0, 0, 0, 8)), (3, (0, 0, (-1), (-1)))], [], [], [(0, 3, 0)]), [(false, 1)]), ((2, [(0, (2, 47, 0, 0)), (1, (0, 0, 1, 24)), (2, (0, 0, 0, 8)), (3, (0, 0, 0, 0))], [], [], [(0, 2, 0)]), [(false, 1)]), ((2, [(0, (2, 47, 0, 0)), (1, (0, 0, 1, 24)), (2, (0, 0, 0, 8)), (3, (0, 0, 1, 1))], [], [], [(0, 1, 0)]), [])]
  (by decide +kernel) (List.forall_mem_cons.mpr ⟨SMOK_le (Nat.le_of_ble_eq_true rfl : 2 ≤ 2) (kX10_keepOnSea_0 hSP), fun s h => absurd h List.not_mem_nil⟩)
noncomputable def sX10_ordered_0 : SM := (mX10_ordered, [(2, 0, 0, 0)], [], [([(0, 0, 1000000, 1000000)], [(3, 1, 0, 30)], []), ([(0, 0, (-2147483648), 2147483647)], [(3, 1, 0, 30)], []), ([(0, 0, (-1), (-1))], [], [])], [(0, 3, 1, 1), (1, 4, 0, 29), (1, 50, 0, 8)])
theorem kX10_ordered_0 {SP : CT} (hSP : MONO SP) {sh : List (Nat × Nat)} : SMOK gE gRL sh (CLd SP 5) sX10_ordered_0 :=
  chkS hSP [sX10_keepOnSea_0, sX3_add_0, sX3_clear_0, sX7_countWays_25, sX7_lastStep_0, sX7_leastOrder_0, sX7_leastOrder_1, sX7_leastOrder_2, sX7_leastOrder_3, sX7_leastOrder_4, sX7_leastOrder_5, sX7_leastOrder_6, sX7_leastOrder_7, sX7_leastOrder_8, sX7_leastOrder_9, sX7_leastOrder_10, sX7_leastOrder_11, sX7_leastOrder_12, sX7_leastOrder_13, sX7_leastOrder_14, sX7_leastOrder_15, sX7_leastOrder_16, sX7_leastOrder_17, sX7_leastOrder_18, sX7_leastOrder_19, sX7_leastOrder_20, sX7_leastOrder_21, sX7_leastOrder_22, sX7_leastOrder_23] 391 [(false, 0)]
  [((53, [(0, (2, 0, 0, 0)), (1, (0, 0, 0, 24)), (2, (1, 0, (-9223372036854775808), 9223372036854775807)), (4, (0, 0, 0, 8)), (5, (0, 0, 1, 25))], [], [(3, 1, 0, 30)], [(0, 1, 0), (1, 5, 25), (0, 1, 0)]), [(false, 0)])]
  (by decide +kernel) (List.forall_mem_cons.mpr ⟨SMOK_le (Nat.le_of_ble_eq_true rfl : 2 ≤ 4) (kX10_keepOnSea_0 hSP), List.forall_mem_cons.mpr ⟨SMOK_le (Nat.le_of_ble_eq_true rfl : 1 ≤ 4) (kX3_add_0 hSP), List.forall_mem_cons.mpr ⟨SMOK_le (Nat.le_of_ble_eq_true rfl : 1 ≤ 4) (kX3_clear_0 hSP), List.forall_mem_cons.mpr ⟨SMOK_le (Nat.le_of_ble_eq_true rfl : 4 ≤ 4) (kX7_countWays_25 hSP), List.forall_mem_cons.mpr ⟨SMOK_le (Nat.le_of_ble_eq_true rfl : 1 ≤ 4) (kX7_lastStep_0 hSP), List.forall_mem_cons.mpr ⟨SMOK_le (Nat.le_of_ble_eq_true rfl : 3 ≤ 4) (kX7_leastOrder_0 hSP), List.forall_mem_cons.mpr ⟨SMOK_le (Nat.le_of_ble_eq_true rfl : 3 ≤ 4) (kX7_leastOrder_1 hSP), List.forall_mem_cons.mpr ⟨SMOK_le (Nat.le_of_ble_eq_true rfl : 3 ≤ 4) (kX7_leastOrder_2 hSP), List.forall_mem_cons.mpr ⟨SMOK_le (Nat.le_of_ble_eq_true rfl : 3 ≤ 4) (kX7_leastOrder_3 hSP), List.forall_mem_cons.mpr ⟨SMOK_le (Nat.le_of_ble_eq_true rfl : 3 ≤ 4) (kX7_leastOrder_4 hSP), List.forall_mem_cons.mpr ⟨SMOK_le (Nat.le_of_ble_eq_true rfl : 3 ≤ 4) (kX7_leastOrder_5 hSP), List.forall_mem_cons.mpr ⟨SMOK_le (Nat.le_of_ble_eq_true rfl : 3 ≤ 4) (kX7_leastOrder_6 hSP), List.forall_mem_cons.mpr ⟨SMOK_le (Nat.le_of_ble_eq_true rfl : 3 ≤ 4) (kX7_leastOrder_7 hSP), List.forall_mem_cons.mpr ⟨SMOK_le (Nat.le_of_ble_eq_true rfl : 3 ≤ 4) (kX7_leastOrder_8 hSP), List.forall_mem_cons.mpr ⟨SMOK_le (Nat.le_of_ble_eq_true rfl : 3 ≤ 4) (kX7_leastOrder_9 hSP), List.forall_mem_cons.mpr ⟨SMOK_le (Nat.le_of_ble_eq_true rfl : 3 ≤ 4) (kX7_leastOrder_10 hSP), List.forall_mem_cons.mpr ⟨SMOK_le (Nat.le_of_ble_eq_true rfl : 3 ≤ 4) (kX7_leastOrder_11 hSP), List.forall_mem_cons.mpr ⟨SMOK_le (Nat.le_of_ble_eq_true rfl : 3 ≤ 4) (kX7_leastOrder_12 hSP), List.forall_mem_cons.mpr ⟨SMOK_le (Nat.le_of_ble_eq_true rfl : 3 ≤ 4) (kX7_leastOrder_13 hSP), List.forall_mem_cons.mpr ⟨SMOK_le (Nat.le_of_ble_eq_true rfl : 3 ≤ 4) (kX7_leastOrder_14 hSP), List.forall_mem_cons.mpr ⟨SMOK_le (Nat.le_of_ble_eq_true rfl : 3 ≤ 4) (kX7_leastOrder_15 hSP), List.forall_mem_cons.mpr ⟨SMOK_le (Nat.le_of_ble_eq_true rfl : 3 ≤ 4) (kX7_leastOrder_16 hSP), List.forall_mem_cons.mpr ⟨SMOK_le (Nat.le_of_ble_eq_true rfl : 3 ≤ 4) (kX7_leastOrder_17 hSP), List.forall_mem_cons.mpr ⟨SMOK_le (Nat.le_of_ble_eq_true rfl : 3 ≤ 4) (kX7_leastOrder_18 hSP), List.forall_mem_cons.mpr ⟨SMOK_le (Nat.le_of_ble_eq_true rfl : 3 ≤ 4) (kX7_leastOrder_19 hSP), List.forall_mem_cons.mpr ⟨SMOK_le (Nat.le_of_ble_eq_true rfl : 3 ≤ 4) (kX7_leastOrder_20 hSP), List.forall_mem_cons.mpr ⟨SMOK_le (Nat.le_of_ble_eq_true rfl : 3 ≤ 4) (kX7_leastOrder_21 hSP), List.forall_mem_cons.mpr ⟨SMOK_le (Nat.le_of_ble_eq_true rfl : 3 ≤ 4) (kX7_leastOrder_22 hSP), List.forall_mem_cons.mpr ⟨SMOK_le (Nat.le_of_ble_eq_true rfl : 3 ≤ 4) (kX7_leastOrder_23 hSP), fun s h => absurd h List.not_mem_nil⟩⟩⟩⟩⟩⟩⟩⟩⟩⟩⟩⟩⟩⟩⟩⟩⟩⟩⟩⟩⟩⟩⟩⟩⟩⟩⟩⟩⟩)
noncomputable def sX10_lap_0 : SM := (mX10_lap, [(2, 0, 0, 0)], [], [([(0, 0, 2, 1999998)], [], [])], [])
theorem kX10_lap_0 {SP : CT} (hSP : MONO SP) {sh : List (Nat × Nat)} : SMOK gE gRL sh (CLd SP 1) sX10_lap_0 :=
  chkS hSP [] 12 []
  []
  (by decide +kernel) (fun s h => absurd h List.not_mem_nil)
noncomputable def sX10_cellAfter_0 : SM := (mX10_cellAfter, [(2, 0, 0, 0), (0, 0, (-2147483648), 2147483647)], [], [([(0, 0, (-1999997), 999999)], [], []), ([(0, 0, (-1999995), 2999998)], [], [])], [])
theorem kX10_cellAfter_0 {SP : CT} (hSP : MONO SP) {sh : List (Nat × Nat)} : SMOK gE gRL sh (CLd SP 2) sX10_cellAfter_0 :=
  chkS hSP [sX10_lap_0] 20 []
  []
  (by decide +kernel) (List.forall_mem_cons.mpr ⟨SMOK_le (Nat.le_of_ble_eq_true rfl : 1 ≤ 1) (kX10_lap_0 hSP), fun s h => absurd h List.not_mem_nil⟩)
noncomputable def sX10_boy_0 : SM := (mX10_boy, [(2, 0, 0, 0), (0, 0, (-2147483648), 2147483647), (0, 0, (-2147483648), 2147483647)], [], [([(0, 0, (-1), (-1))], [], []), ([(0, 0, (-1999995), 2999998)], [(3, 1, 1, 30)], []), ([(0, 0, (-1999997), 999999)], [(3, 1, 1, 30)], []), ([(0, 0, (-1999995), 2999998)], [(3, 1, 30, 30)], []), ([(0, 0, (-1999997), 999999)], [(3, 1, 30, 30)], [])], [(0, 3, 1, 1), (1, 4, 0, 29)])
theorem kX10_boy_0 {SP : CT} (hSP : MONO SP) {sh : List (Nat × Nat)} : SMOK gE gRL sh (CLd SP 3) sX10_boy_0 :=
  chkS hSP [sX10_cellAfter_0, sX10_lap_0, sX3_tellOne_0] 64 []
  []
  (by decide +kernel) (List.forall_mem_cons.mpr ⟨SMOK_le (Nat.le_of_ble_eq_true rfl : 2 ≤ 2) (kX10_cellAfter_0 hSP), List.forall_mem_cons.mpr ⟨SMOK_le (Nat.le_of_ble_eq_true rfl : 1 ≤ 2) (kX10_lap_0 hSP), List.forall_mem_cons.mpr ⟨SMOK_le (Nat.le_of_ble_eq_true rfl : 2 ≤ 2) (kX3_tellOne_0 hSP), fun s h => absurd h List.not_mem_nil⟩⟩⟩)
noncomputable def sX10_meets_0 : SM := (mX10_meets, [(2, 0, 0, 0), (0, 0, (-2147483648), 2147483647)], [], [([(0, 0, 1, 999)], [(3, 1, 1, 30)], []), ([(0, 0, 1, 999)], [(3, 1, 30, 30)], []), ([(0, 0, (-2), (-2))], [], []), ([(0, 0, (-1), (-1))], [], [])], [(0, 3, 1, 1), (1, 4, 0, 29)])
theorem kX10_meets_0 {SP : CT} (hSP : MONO SP) {sh : List (Nat × Nat)} : SMOK gE gRL sh (CLd SP 3) sX10_meets_0 :=
  chkS hSP [sX10_cellAfter_0, sX3_tellOne_0] 76 [(false, 0)]
  [((25, [(0, (2, 0, 0, 0)), (1, (0, 0, 2, 9)), (2, (0, 0, (-1000001), 999999)), (3, (0, 0, 1, 1000))], [], [], [(0, 1, 0), (1, 3, 1000), (0, 1, 0)]), [(false, 0)])]
  (by decide +kernel) (List.forall_mem_cons.mpr ⟨SMOK_le (Nat.le_of_ble_eq_true rfl : 2 ≤ 2) (kX10_cellAfter_0 hSP), List.forall_mem_cons.mpr ⟨SMOK_le (Nat.le_of_ble_eq_true rfl : 2 ≤ 2) (kX3_tellOne_0 hSP), fun s h => absurd h List.not_mem_nil⟩⟩)
noncomputable def sX10_holdsThen_0 : SM := (mX10_holdsThen, [(0, 0, (-2147483648), 2147483647), (0, 0, (-2147483648), 2147483647), (0, 0, (-2147483648), 2147483647), (0, 0, (-2147483648), 2147483647)], [], [([(0, 0, (-2147483648), 2147483647)], [], []), ([(0, 0, (-1073741824), 1073741823)], [], [])], [])
theorem kX10_holdsThen_0 {SP : CT} (hSP : MONO SP) {sh : List (Nat × Nat)} : SMOK gE gRL sh (CLd SP 1) sX10_holdsThen_0 :=
  chkS hSP [] 16 []
  []
  (by decide +kernel) (fun s h => absurd h List.not_mem_nil)
noncomputable def sX10_wantsAnother_0 : SM := (mX10_wantsAnother, [(0, 0, 1, 20), (0, 0, 0, 0), (0, 0, 0, 0), (0, 0, 1, 18)], [], [([(0, 0, 1, 1)], [], []), ([(0, 0, 0, 0)], [], [])], [])
theorem kX10_wantsAnother_0 {SP : CT} (hSP : MONO SP) {sh : List (Nat × Nat)} : SMOK gE gRL sh (CLd SP 2) sX10_wantsAnother_0 :=
  chkS hSP [sX10_holdsThen_0] 26 [(false, 0)]
  [((12, [(0, (0, 0, 1, 20)), (1, (0, 0, 0, 0)), (2, (0, 0, 0, 0)), (3, (0, 0, 1, 18)), (4, (0, 0, (-2147483648), 2147483647)), (5, (0, 0, 0, 10))], [], [], [(0, 1, 0), (1, 5, 10), (0, 1, 0)]), [(false, 0)])]
  (by decide +kernel) (List.forall_mem_cons.mpr ⟨SMOK_le (Nat.le_of_ble_eq_true rfl : 1 ≤ 1) (kX10_holdsThen_0 hSP), fun s h => absurd h List.not_mem_nil⟩)
noncomputable def sX10_wantsAnother_1 : SM := (mX10_wantsAnother, [(0, 0, 1, 20), (0, 0, 0, 0), (0, 0, 0, 1), (0, 0, 1, 18)], [], [([(0, 0, 1, 1)], [], []), ([(0, 0, 0, 0)], [], [])], [])
theorem kX10_wantsAnother_1 {SP : CT} (hSP : MONO SP) {sh : List (Nat × Nat)} : SMOK gE gRL sh (CLd SP 2) sX10_wantsAnother_1 :=
  chkS hSP [sX10_holdsThen_0] 26 [(false, 0)]
  [((12, [(0, (0, 0, 1, 20)), (1, (0, 0, 0, 0)), (2, (0, 0, 0, 1)), (3, (0, 0, 1, 18)), (4, (0, 0, (-2147483648), 2147483647)), (5, (0, 0, 0, 10))], [], [], [(0, 1, 0), (1, 5, 10), (0, 1, 0)]), [(false, 0)])]
  (by decide +kernel) (List.forall_mem_cons.mpr ⟨SMOK_le (Nat.le_of_ble_eq_true rfl : 1 ≤ 1) (kX10_holdsThen_0 hSP), fun s h => absurd h List.not_mem_nil⟩)
noncomputable def sX10_wantsAnother_2 : SM := (mX10_wantsAnother, [(0, 0, 1, 20), (0, 0, 0, 1), (0, 0, 0, 0), (0, 0, 1, 18)], [], [([(0, 0, 1, 1)], [], []), ([(0, 0, 0, 0)], [], [])], [])
theorem kX10_wantsAnother_2 {SP : CT} (hSP : MONO SP) {sh : List (Nat × Nat)} : SMOK gE gRL sh (CLd SP 2) sX10_wantsAnother_2 :=
  chkS hSP [sX10_holdsThen_0] 26 [(false, 0)]
  [((12, [(0, (0, 0, 1, 20)), (1, (0, 0, 0, 1)), (2, (0, 0, 0, 0)), (3, (0, 0, 1, 18)), (4, (0, 0, (-2147483648), 2147483647)), (5, (0, 0, 0, 10))], [], [], [(0, 1, 0), (1, 5, 10), (0, 1, 0)]), [(false, 0)])]
  (by decide +kernel) (List.forall_mem_cons.mpr ⟨SMOK_le (Nat.le_of_ble_eq_true rfl : 1 ≤ 1) (kX10_holdsThen_0 hSP), fun s h => absurd h List.not_mem_nil⟩)
noncomputable def sX10_wantsAnother_3 : SM := (mX10_wantsAnother, [(0, 0, 1, 20), (0, 0, 0, 0), (0, 0, 0, 2), (0, 0, 1, 18)], [], [([(0, 0, 1, 1)], [], []), ([(0, 0, 0, 0)], [], [])], [])
theorem kX10_wantsAnother_3 {SP : CT} (hSP : MONO SP) {sh : List (Nat × Nat)} : SMOK gE gRL sh (CLd SP 2) sX10_wantsAnother_3 :=
  chkS hSP [sX10_holdsThen_0] 26 [(false, 0)]
  [((12, [(0, (0, 0, 1, 20)), (1, (0, 0, 0, 0)), (2, (0, 0, 0, 2)), (3, (0, 0, 1, 18)), (4, (0, 0, (-2147483648), 2147483647)), (5, (0, 0, 0, 10))], [], [], [(0, 1, 0), (1, 5, 10), (0, 1, 0)]), [(false, 0)])]
  (by decide +kernel) (List.forall_mem_cons.mpr ⟨SMOK_le (Nat.le_of_ble_eq_true rfl : 1 ≤ 1) (kX10_holdsThen_0 hSP), fun s h => absurd h List.not_mem_nil⟩)
noncomputable def sX10_wantsAnother_4 : SM := (mX10_wantsAnother, [(0, 0, 1, 20), (0, 0, 0, 2), (0, 0, 0, 0), (0, 0, 1, 18)], [], [([(0, 0, 1, 1)], [], []), ([(0, 0, 0, 0)], [], [])], [])
theorem kX10_wantsAnother_4 {SP : CT} (hSP : MONO SP) {sh : List (Nat × Nat)} : SMOK gE gRL sh (CLd SP 2) sX10_wantsAnother_4 :=
  chkS hSP [sX10_holdsThen_0] 26 [(false, 0)]
  [((12, [(0, (0, 0, 1, 20)), (1, (0, 0, 0, 2)), (2, (0, 0, 0, 0)), (3, (0, 0, 1, 18)), (4, (0, 0, (-2147483648), 2147483647)), (5, (0, 0, 0, 10))], [], [], [(0, 1, 0), (1, 5, 10), (0, 1, 0)]), [(false, 0)])]
  (by decide +kernel) (List.forall_mem_cons.mpr ⟨SMOK_le (Nat.le_of_ble_eq_true rfl : 1 ≤ 1) (kX10_holdsThen_0 hSP), fun s h => absurd h List.not_mem_nil⟩)
noncomputable def sX10_wantsAnother_5 : SM := (mX10_wantsAnother, [(0, 0, 1, 20), (0, 0, 0, 0), (0, 0, 0, 3), (0, 0, 1, 18)], [], [([(0, 0, 1, 1)], [], []), ([(0, 0, 0, 0)], [], [])], [])
theorem kX10_wantsAnother_5 {SP : CT} (hSP : MONO SP) {sh : List (Nat × Nat)} : SMOK gE gRL sh (CLd SP 2) sX10_wantsAnother_5 :=
  chkS hSP [sX10_holdsThen_0] 26 [(false, 0)]
  [((12, [(0, (0, 0, 1, 20)), (1, (0, 0, 0, 0)), (2, (0, 0, 0, 3)), (3, (0, 0, 1, 18)), (4, (0, 0, (-2147483648), 2147483647)), (5, (0, 0, 0, 10))], [], [], [(0, 1, 0), (1, 5, 10), (0, 1, 0)]), [(false, 0)])]
  (by decide +kernel) (List.forall_mem_cons.mpr ⟨SMOK_le (Nat.le_of_ble_eq_true rfl : 1 ≤ 1) (kX10_holdsThen_0 hSP), fun s h => absurd h List.not_mem_nil⟩)
noncomputable def sX10_wantsAnother_6 : SM := (mX10_wantsAnother, [(0, 0, 1, 20), (0, 0, 0, 3), (0, 0, 0, 0), (0, 0, 1, 18)], [], [([(0, 0, 1, 1)], [], []), ([(0, 0, 0, 0)], [], [])], [])
theorem kX10_wantsAnother_6 {SP : CT} (hSP : MONO SP) {sh : List (Nat × Nat)} : SMOK gE gRL sh (CLd SP 2) sX10_wantsAnother_6 :=
  chkS hSP [sX10_holdsThen_0] 26 [(false, 0)]
  [((12, [(0, (0, 0, 1, 20)), (1, (0, 0, 0, 3)), (2, (0, 0, 0, 0)), (3, (0, 0, 1, 18)), (4, (0, 0, (-2147483648), 2147483647)), (5, (0, 0, 0, 10))], [], [], [(0, 1, 0), (1, 5, 10), (0, 1, 0)]), [(false, 0)])]
  (by decide +kernel) (List.forall_mem_cons.mpr ⟨SMOK_le (Nat.le_of_ble_eq_true rfl : 1 ≤ 1) (kX10_holdsThen_0 hSP), fun s h => absurd h List.not_mem_nil⟩)
noncomputable def sX10_wantsAnother_7 : SM := (mX10_wantsAnother, [(0, 0, 1, 20), (0, 0, 0, 0), (0, 0, 0, 4), (0, 0, 1, 18)], [], [([(0, 0, 1, 1)], [], []), ([(0, 0, 0, 0)], [], [])], [])
theorem kX10_wantsAnother_7 {SP : CT} (hSP : MONO SP) {sh : List (Nat × Nat)} : SMOK gE gRL sh (CLd SP 2) sX10_wantsAnother_7 :=
  chkS hSP [sX10_holdsThen_0] 26 [(false, 0)]
  [((12, [(0, (0, 0, 1, 20)), (1, (0, 0, 0, 0)), (2, (0, 0, 0, 4)), (3, (0, 0, 1, 18)), (4, (0, 0, (-2147483648), 2147483647)), (5, (0, 0, 0, 10))], [], [], [(0, 1, 0), (1, 5, 10), (0, 1, 0)]), [(false, 0)])]
  (by decide +kernel) (List.forall_mem_cons.mpr ⟨SMOK_le (Nat.le_of_ble_eq_true rfl : 1 ≤ 1) (kX10_holdsThen_0 hSP), fun s h => absurd h List.not_mem_nil⟩)
noncomputable def sX10_wantsAnother_8 : SM := (mX10_wantsAnother, [(0, 0, 1, 20), (0, 0, 0, 4), (0, 0, 0, 0), (0, 0, 1, 18)], [], [([(0, 0, 1, 1)], [], []), ([(0, 0, 0, 0)], [], [])], [])
theorem kX10_wantsAnother_8 {SP : CT} (hSP : MONO SP) {sh : List (Nat × Nat)} : SMOK gE gRL sh (CLd SP 2) sX10_wantsAnother_8 :=
  chkS hSP [sX10_holdsThen_0] 26 [(false, 0)]
  [((12, [(0, (0, 0, 1, 20)), (1, (0, 0, 0, 4)), (2, (0, 0, 0, 0)), (3, (0, 0, 1, 18)), (4, (0, 0, (-2147483648), 2147483647)), (5, (0, 0, 0, 10))], [], [], [(0, 1, 0), (1, 5, 10), (0, 1, 0)]), [(false, 0)])]
  (by decide +kernel) (List.forall_mem_cons.mpr ⟨SMOK_le (Nat.le_of_ble_eq_true rfl : 1 ≤ 1) (kX10_holdsThen_0 hSP), fun s h => absurd h List.not_mem_nil⟩)
noncomputable def sX10_wantsAnother_9 : SM := (mX10_wantsAnother, [(0, 0, 1, 20), (0, 0, 0, 0), (0, 0, 0, 5), (0, 0, 1, 18)], [], [([(0, 0, 1, 1)], [], []), ([(0, 0, 0, 0)], [], [])], [])
theorem kX10_wantsAnother_9 {SP : CT} (hSP : MONO SP) {sh : List (Nat × Nat)} : SMOK gE gRL sh (CLd SP 2) sX10_wantsAnother_9 :=
  chkS hSP [sX10_holdsThen_0] 26 [(false, 0)]
  [((12, [(0, (0, 0, 1, 20)), (1, (0, 0, 0, 0)), (2, (0, 0, 0, 5)), (3, (0, 0, 1, 18)), (4, (0, 0, (-2147483648), 2147483647)), (5, (0, 0, 0, 10))], [], [], [(0, 1, 0), (1, 5, 10), (0, 1, 0)]), [(false, 0)])]
  (by decide +kernel) (List.forall_mem_cons.mpr ⟨SMOK_le (Nat.le_of_ble_eq_true rfl : 1 ≤ 1) (kX10_holdsThen_0 hSP), fun s h => absurd h List.not_mem_nil⟩)
noncomputable def sX10_wantsAnother_10 : SM := (mX10_wantsAnother, [(0, 0, 1, 20), (0, 0, 0, 5), (0, 0, 0, 0), (0, 0, 1, 18)], [], [([(0, 0, 1, 1)], [], []), ([(0, 0, 0, 0)], [], [])], [])
theorem kX10_wantsAnother_10 {SP : CT} (hSP : MONO SP) {sh : List (Nat × Nat)} : SMOK gE gRL sh (CLd SP 2) sX10_wantsAnother_10 :=
  chkS hSP [sX10_holdsThen_0] 26 [(false, 0)]
  [((12, [(0, (0, 0, 1, 20)), (1, (0, 0, 0, 5)), (2, (0, 0, 0, 0)), (3, (0, 0, 1, 18)), (4, (0, 0, (-2147483648), 2147483647)), (5, (0, 0, 0, 10))], [], [], [(0, 1, 0), (1, 5, 10), (0, 1, 0)]), [(false, 0)])]
  (by decide +kernel) (List.forall_mem_cons.mpr ⟨SMOK_le (Nat.le_of_ble_eq_true rfl : 1 ≤ 1) (kX10_holdsThen_0 hSP), fun s h => absurd h List.not_mem_nil⟩)
noncomputable def sX10_wantsAnother_11 : SM := (mX10_wantsAnother, [(0, 0, 1, 20), (0, 0, 0, 0), (0, 0, 0, 6), (0, 0, 1, 18)], [], [([(0, 0, 1, 1)], [], []), ([(0, 0, 0, 0)], [], [])], [])
theorem kX10_wantsAnother_11 {SP : CT} (hSP : MONO SP) {sh : List (Nat × Nat)} : SMOK gE gRL sh (CLd SP 2) sX10_wantsAnother_11 :=
  chkS hSP [sX10_holdsThen_0] 26 [(false, 0)]
  [((12, [(0, (0, 0, 1, 20)), (1, (0, 0, 0, 0)), (2, (0, 0, 0, 6)), (3, (0, 0, 1, 18)), (4, (0, 0, (-2147483648), 2147483647)), (5, (0, 0, 0, 10))], [], [], [(0, 1, 0), (1, 5, 10), (0, 1, 0)]), [(false, 0)])]
  (by decide +kernel) (List.forall_mem_cons.mpr ⟨SMOK_le (Nat.le_of_ble_eq_true rfl : 1 ≤ 1) (kX10_holdsThen_0 hSP), fun s h => absurd h List.not_mem_nil⟩)
noncomputable def sX10_wantsAnother_12 : SM := (mX10_wantsAnother, [(0, 0, 1, 20), (0, 0, 0, 6), (0, 0, 0, 0), (0, 0, 1, 18)], [], [([(0, 0, 1, 1)], [], []), ([(0, 0, 0, 0)], [], [])], [])
theorem kX10_wantsAnother_12 {SP : CT} (hSP : MONO SP) {sh : List (Nat × Nat)} : SMOK gE gRL sh (CLd SP 2) sX10_wantsAnother_12 :=
  chkS hSP [sX10_holdsThen_0] 26 [(false, 0)]
  [((12, [(0, (0, 0, 1, 20)), (1, (0, 0, 0, 6)), (2, (0, 0, 0, 0)), (3, (0, 0, 1, 18)), (4, (0, 0, (-2147483648), 2147483647)), (5, (0, 0, 0, 10))], [], [], [(0, 1, 0), (1, 5, 10), (0, 1, 0)]), [(false, 0)])]
  (by decide +kernel) (List.forall_mem_cons.mpr ⟨SMOK_le (Nat.le_of_ble_eq_true rfl : 1 ≤ 1) (kX10_holdsThen_0 hSP), fun s h => absurd h List.not_mem_nil⟩)
noncomputable def sX10_wantsAnother_13 : SM := (mX10_wantsAnother, [(0, 0, 1, 20), (0, 0, 0, 0), (0, 0, 0, 7), (0, 0, 1, 18)], [], [([(0, 0, 1, 1)], [], []), ([(0, 0, 0, 0)], [], [])], [])
theorem kX10_wantsAnother_13 {SP : CT} (hSP : MONO SP) {sh : List (Nat × Nat)} : SMOK gE gRL sh (CLd SP 2) sX10_wantsAnother_13 :=
  chkS hSP [sX10_holdsThen_0] 26 [(false, 0)]
  [((12, [(0, (0, 0, 1, 20)), (1, (0, 0, 0, 0)), (2, (0, 0, 0, 7)), (3, (0, 0, 1, 18)), (4, (0, 0, (-2147483648), 2147483647)), (5, (0, 0, 0, 10))], [], [], [(0, 1, 0), (1, 5, 10), (0, 1, 0)]), [(false, 0)])]
  (by decide +kernel) (List.forall_mem_cons.mpr ⟨SMOK_le (Nat.le_of_ble_eq_true rfl : 1 ≤ 1) (kX10_holdsThen_0 hSP), fun s h => absurd h List.not_mem_nil⟩)
noncomputable def sX10_wantsAnother_14 : SM := (mX10_wantsAnother, [(0, 0, 1, 20), (0, 0, 0, 7), (0, 0, 0, 0), (0, 0, 1, 18)], [], [([(0, 0, 1, 1)], [], []), ([(0, 0, 0, 0)], [], [])], [])
theorem kX10_wantsAnother_14 {SP : CT} (hSP : MONO SP) {sh : List (Nat × Nat)} : SMOK gE gRL sh (CLd SP 2) sX10_wantsAnother_14 :=
  chkS hSP [sX10_holdsThen_0] 26 [(false, 0)]
  [((12, [(0, (0, 0, 1, 20)), (1, (0, 0, 0, 7)), (2, (0, 0, 0, 0)), (3, (0, 0, 1, 18)), (4, (0, 0, (-2147483648), 2147483647)), (5, (0, 0, 0, 10))], [], [], [(0, 1, 0), (1, 5, 10), (0, 1, 0)]), [(false, 0)])]
  (by decide +kernel) (List.forall_mem_cons.mpr ⟨SMOK_le (Nat.le_of_ble_eq_true rfl : 1 ≤ 1) (kX10_holdsThen_0 hSP), fun s h => absurd h List.not_mem_nil⟩)
noncomputable def sX10_wantsAnother_15 : SM := (mX10_wantsAnother, [(0, 0, 1, 20), (0, 0, 0, 0), (0, 0, 0, 8), (0, 0, 1, 18)], [], [([(0, 0, 1, 1)], [], []), ([(0, 0, 0, 0)], [], [])], [])
theorem kX10_wantsAnother_15 {SP : CT} (hSP : MONO SP) {sh : List (Nat × Nat)} : SMOK gE gRL sh (CLd SP 2) sX10_wantsAnother_15 :=
  chkS hSP [sX10_holdsThen_0] 26 [(false, 0)]
  [((12, [(0, (0, 0, 1, 20)), (1, (0, 0, 0, 0)), (2, (0, 0, 0, 8)), (3, (0, 0, 1, 18)), (4, (0, 0, (-2147483648), 2147483647)), (5, (0, 0, 0, 10))], [], [], [(0, 1, 0), (1, 5, 10), (0, 1, 0)]), [(false, 0)])]
  (by decide +kernel) (List.forall_mem_cons.mpr ⟨SMOK_le (Nat.le_of_ble_eq_true rfl : 1 ≤ 1) (kX10_holdsThen_0 hSP), fun s h => absurd h List.not_mem_nil⟩)
noncomputable def sX10_wantsAnother_16 : SM := (mX10_wantsAnother, [(0, 0, 1, 20), (0, 0, 0, 8), (0, 0, 0, 0), (0, 0, 1, 18)], [], [([(0, 0, 1, 1)], [], []), ([(0, 0, 0, 0)], [], [])], [])
theorem kX10_wantsAnother_16 {SP : CT} (hSP : MONO SP) {sh : List (Nat × Nat)} : SMOK gE gRL sh (CLd SP 2) sX10_wantsAnother_16 :=
  chkS hSP [sX10_holdsThen_0] 26 [(false, 0)]
  [((12, [(0, (0, 0, 1, 20)), (1, (0, 0, 0, 8)), (2, (0, 0, 0, 0)), (3, (0, 0, 1, 18)), (4, (0, 0, (-2147483648), 2147483647)), (5, (0, 0, 0, 10))], [], [], [(0, 1, 0), (1, 5, 10), (0, 1, 0)]), [(false, 0)])]
  (by decide +kernel) (List.forall_mem_cons.mpr ⟨SMOK_le (Nat.le_of_ble_eq_true rfl : 1 ≤ 1) (kX10_holdsThen_0 hSP), fun s h => absurd h List.not_mem_nil⟩)
noncomputable def sX10_wantsAnother_17 : SM := (mX10_wantsAnother, [(0, 0, 1, 20), (0, 0, 0, 0), (0, 0, 0, 9), (0, 0, 1, 18)], [], [([(0, 0, 1, 1)], [], []), ([(0, 0, 0, 0)], [], [])], [])
theorem kX10_wantsAnother_17 {SP : CT} (hSP : MONO SP) {sh : List (Nat × Nat)} : SMOK gE gRL sh (CLd SP 2) sX10_wantsAnother_17 :=
  chkS hSP [sX10_holdsThen_0] 26 [(false, 0)]
  [((12, [(0, (0, 0, 1, 20)), (1, (0, 0, 0, 0)), (2, (0, 0, 0, 9)), (3, (0, 0, 1, 18)), (4, (0, 0, (-2147483648), 2147483647)), (5, (0, 0, 0, 10))], [], [], [(0, 1, 0), (1, 5, 10), (0, 1, 0)]), [(false, 0)])]
  (by decide +kernel) (List.forall_mem_cons.mpr ⟨SMOK_le (Nat.le_of_ble_eq_true rfl : 1 ≤ 1) (kX10_holdsThen_0 hSP), fun s h => absurd h List.not_mem_nil⟩)
noncomputable def sX10_wantsAnother_18 : SM := (mX10_wantsAnother, [(0, 0, 1, 20), (0, 0, 0, 9), (0, 0, 0, 0), (0, 0, 1, 18)], [], [([(0, 0, 1, 1)], [], []), ([(0, 0, 0, 0)], [], [])], [])
theorem kX10_wantsAnother_18 {SP : CT} (hSP : MONO SP) {sh : List (Nat × Nat)} : SMOK gE gRL sh (CLd SP 2) sX10_wantsAnother_18 :=
  chkS hSP [sX10_holdsThen_0] 26 [(false, 0)]
  [((12, [(0, (0, 0, 1, 20)), (1, (0, 0, 0, 9)), (2, (0, 0, 0, 0)), (3, (0, 0, 1, 18)), (4, (0, 0, (-2147483648), 2147483647)), (5, (0, 0, 0, 10))], [], [], [(0, 1, 0), (1, 5, 10), (0, 1, 0)]), [(false, 0)])]
  (by decide +kernel) (List.forall_mem_cons.mpr ⟨SMOK_le (Nat.le_of_ble_eq_true rfl : 1 ≤ 1) (kX10_holdsThen_0 hSP), fun s h => absurd h List.not_mem_nil⟩)
noncomputable def sX10_wantsAnother_19 : SM := (mX10_wantsAnother, [(0, 0, 1, 20), (0, 0, 0, 1), (0, 0, 0, 9), (0, 0, 1, 18)], [], [([(0, 0, 1, 1)], [], []), ([(0, 0, 0, 0)], [], [])], [])
theorem kX10_wantsAnother_19 {SP : CT} (hSP : MONO SP) {sh : List (Nat × Nat)} : SMOK gE gRL sh (CLd SP 2) sX10_wantsAnother_19 :=
  chkS hSP [sX10_holdsThen_0] 26 [(false, 0)]
  [((12, [(0, (0, 0, 1, 20)), (1, (0, 0, 0, 1)), (2, (0, 0, 0, 9)), (3, (0, 0, 1, 18)), (4, (0, 0, (-2147483648), 2147483647)), (5, (0, 0, 0, 10))], [], [], [(0, 1, 0), (1, 5, 10), (0, 1, 0)]), [(false, 0)])]
  (by decide +kernel) (List.forall_mem_cons.mpr ⟨SMOK_le (Nat.le_of_ble_eq_true rfl : 1 ≤ 1) (kX10_holdsThen_0 hSP), fun s h => absurd h List.not_mem_nil⟩)
noncomputable def sX10_wantsAnother_20 : SM := (mX10_wantsAnother, [(0, 0, 1, 20), (0, 0, 0, 9), (0, 0, 0, 1), (0, 0, 1, 18)], [], [([(0, 0, 1, 1)], [], []), ([(0, 0, 0, 0)], [], [])], [])
theorem kX10_wantsAnother_20 {SP : CT} (hSP : MONO SP) {sh : List (Nat × Nat)} : SMOK gE gRL sh (CLd SP 2) sX10_wantsAnother_20 :=
  chkS hSP [sX10_holdsThen_0] 26 [(false, 0)]
  [((12, [(0, (0, 0, 1, 20)), (1, (0, 0, 0, 9)), (2, (0, 0, 0, 1)), (3, (0, 0, 1, 18)), (4, (0, 0, (-2147483648), 2147483647)), (5, (0, 0, 0, 10))], [], [], [(0, 1, 0), (1, 5, 10), (0, 1, 0)]), [(false, 0)])]
  (by decide +kernel) (List.forall_mem_cons.mpr ⟨SMOK_le (Nat.le_of_ble_eq_true rfl : 1 ≤ 1) (kX10_holdsThen_0 hSP), fun s h => absurd h List.not_mem_nil⟩)
noncomputable def sX10_wantsAnother_21 : SM := (mX10_wantsAnother, [(0, 0, 1, 20), (0, 0, 0, 2), (0, 0, 0, 9), (0, 0, 1, 18)], [], [([(0, 0, 1, 1)], [], []), ([(0, 0, 0, 0)], [], [])], [])
theorem kX10_wantsAnother_21 {SP : CT} (hSP : MONO SP) {sh : List (Nat × Nat)} : SMOK gE gRL sh (CLd SP 2) sX10_wantsAnother_21 :=
  chkS hSP [sX10_holdsThen_0] 26 [(false, 0)]
  [((12, [(0, (0, 0, 1, 20)), (1, (0, 0, 0, 2)), (2, (0, 0, 0, 9)), (3, (0, 0, 1, 18)), (4, (0, 0, (-2147483648), 2147483647)), (5, (0, 0, 0, 10))], [], [], [(0, 1, 0), (1, 5, 10), (0, 1, 0)]), [(false, 0)])]
  (by decide +kernel) (List.forall_mem_cons.mpr ⟨SMOK_le (Nat.le_of_ble_eq_true rfl : 1 ≤ 1) (kX10_holdsThen_0 hSP), fun s h => absurd h List.not_mem_nil⟩)
noncomputable def sX10_wantsAnother_22 : SM := (mX10_wantsAnother, [(0, 0, 1, 20), (0, 0, 0, 9), (0, 0, 0, 2), (0, 0, 1, 18)], [], [([(0, 0, 1, 1)], [], []), ([(0, 0, 0, 0)], [], [])], [])
theorem kX10_wantsAnother_22 {SP : CT} (hSP : MONO SP) {sh : List (Nat × Nat)} : SMOK gE gRL sh (CLd SP 2) sX10_wantsAnother_22 :=
  chkS hSP [sX10_holdsThen_0] 26 [(false, 0)]
  [((12, [(0, (0, 0, 1, 20)), (1, (0, 0, 0, 9)), (2, (0, 0, 0, 2)), (3, (0, 0, 1, 18)), (4, (0, 0, (-2147483648), 2147483647)), (5, (0, 0, 0, 10))], [], [], [(0, 1, 0), (1, 5, 10), (0, 1, 0)]), [(false, 0)])]
  (by decide +kernel) (List.forall_mem_cons.mpr ⟨SMOK_le (Nat.le_of_ble_eq_true rfl : 1 ≤ 1) (kX10_holdsThen_0 hSP), fun s h => absurd h List.not_mem_nil⟩)
noncomputable def sX10_wantsAnother_23 : SM := (mX10_wantsAnother, [(0, 0, 1, 20), (0, 0, 0, 3), (0, 0, 0, 9), (0, 0, 1, 18)], [], [([(0, 0, 1, 1)], [], []), ([(0, 0, 0, 0)], [], [])], [])
theorem kX10_wantsAnother_23 {SP : CT} (hSP : MONO SP) {sh : List (Nat × Nat)} : SMOK gE gRL sh (CLd SP 2) sX10_wantsAnother_23 :=
  chkS hSP [sX10_holdsThen_0] 26 [(false, 0)]
  [((12, [(0, (0, 0, 1, 20)), (1, (0, 0, 0, 3)), (2, (0, 0, 0, 9)), (3, (0, 0, 1, 18)), (4, (0, 0, (-2147483648), 2147483647)), (5, (0, 0, 0, 10))], [], [], [(0, 1, 0), (1, 5, 10), (0, 1, 0)]), [(false, 0)])]
  (by decide +kernel) (List.forall_mem_cons.mpr ⟨SMOK_le (Nat.le_of_ble_eq_true rfl : 1 ≤ 1) (kX10_holdsThen_0 hSP), fun s h => absurd h List.not_mem_nil⟩)
noncomputable def sX10_wantsAnother_24 : SM := (mX10_wantsAnother, [(0, 0, 1, 20), (0, 0, 0, 9), (0, 0, 0, 3), (0, 0, 1, 18)], [], [([(0, 0, 1, 1)], [], []), ([(0, 0, 0, 0)], [], [])], [])
theorem kX10_wantsAnother_24 {SP : CT} (hSP : MONO SP) {sh : List (Nat × Nat)} : SMOK gE gRL sh (CLd SP 2) sX10_wantsAnother_24 :=
  chkS hSP [sX10_holdsThen_0] 26 [(false, 0)]
  [((12, [(0, (0, 0, 1, 20)), (1, (0, 0, 0, 9)), (2, (0, 0, 0, 3)), (3, (0, 0, 1, 18)), (4, (0, 0, (-2147483648), 2147483647)), (5, (0, 0, 0, 10))], [], [], [(0, 1, 0), (1, 5, 10), (0, 1, 0)]), [(false, 0)])]
  (by decide +kernel) (List.forall_mem_cons.mpr ⟨SMOK_le (Nat.le_of_ble_eq_true rfl : 1 ≤ 1) (kX10_holdsThen_0 hSP), fun s h => absurd h List.not_mem_nil⟩)
noncomputable def sX10_wantsAnother_25 : SM := (mX10_wantsAnother, [(0, 0, 1, 20), (0, 0, 0, 4), (0, 0, 0, 9), (0, 0, 1, 18)], [], [([(0, 0, 1, 1)], [], []), ([(0, 0, 0, 0)], [], [])], [])
theorem kX10_wantsAnother_25 {SP : CT} (hSP : MONO SP) {sh : List (Nat × Nat)} : SMOK gE gRL sh (CLd SP 2) sX10_wantsAnother_25 :=
  chkS hSP [sX10_holdsThen_0] 26 [(false, 0)]
  [((12, [(0, (0, 0, 1, 20)), (1, (0, 0, 0, 4)), (2, (0, 0, 0, 9)), (3, (0, 0, 1, 18)), (4, (0, 0, (-2147483648), 2147483647)), (5, (0, 0, 0, 10))], [], [], [(0, 1, 0), (1, 5, 10), (0, 1, 0)]), [(false, 0)])]
  (by decide +kernel) (List.forall_mem_cons.mpr ⟨SMOK_le (Nat.le_of_ble_eq_true rfl : 1 ≤ 1) (kX10_holdsThen_0 hSP), fun s h => absurd h List.not_mem_nil⟩)
noncomputable def sX10_wantsAnother_26 : SM := (mX10_wantsAnother, [(0, 0, 1, 20), (0, 0, 0, 9), (0, 0, 0, 4), (0, 0, 1, 18)], [], [([(0, 0, 1, 1)], [], []), ([(0, 0, 0, 0)], [], [])], [])
theorem kX10_wantsAnother_26 {SP : CT} (hSP : MONO SP) {sh : List (Nat × Nat)} : SMOK gE gRL sh (CLd SP 2) sX10_wantsAnother_26 :=
  chkS hSP [sX10_holdsThen_0] 26 [(false, 0)]
  [((12, [(0, (0, 0, 1, 20)), (1, (0, 0, 0, 9)), (2, (0, 0, 0, 4)), (3, (0, 0, 1, 18)), (4, (0, 0, (-2147483648), 2147483647)), (5, (0, 0, 0, 10))], [], [], [(0, 1, 0), (1, 5, 10), (0, 1, 0)]), [(false, 0)])]
  (by decide +kernel) (List.forall_mem_cons.mpr ⟨SMOK_le (Nat.le_of_ble_eq_true rfl : 1 ≤ 1) (kX10_holdsThen_0 hSP), fun s h => absurd h List.not_mem_nil⟩)
noncomputable def sX10_wantsAnother_27 : SM := (mX10_wantsAnother, [(0, 0, 1, 20), (0, 0, 0, 5), (0, 0, 0, 9), (0, 0, 1, 18)], [], [([(0, 0, 1, 1)], [], []), ([(0, 0, 0, 0)], [], [])], [])
theorem kX10_wantsAnother_27 {SP : CT} (hSP : MONO SP) {sh : List (Nat × Nat)} : SMOK gE gRL sh (CLd SP 2) sX10_wantsAnother_27 :=
  chkS hSP [sX10_holdsThen_0] 26 [(false, 0)]
  [((12, [(0, (0, 0, 1, 20)), (1, (0, 0, 0, 5)), (2, (0, 0, 0, 9)), (3, (0, 0, 1, 18)), (4, (0, 0, (-2147483648), 2147483647)), (5, (0, 0, 0, 10))], [], [], [(0, 1, 0), (1, 5, 10), (0, 1, 0)]), [(false, 0)])]
  (by decide +kernel) (List.forall_mem_cons.mpr ⟨SMOK_le (Nat.le_of_ble_eq_true rfl : 1 ≤ 1) (kX10_holdsThen_0 hSP), fun s h => absurd h List.not_mem_nil⟩)
noncomputable def sX10_wantsAnother_28 : SM := (mX10_wantsAnother, [(0, 0, 1, 20), (0, 0, 0, 9), (0, 0, 0, 5), (0, 0, 1, 18)], [], [([(0, 0, 1, 1)], [], []), ([(0, 0, 0, 0)], [], [])], [])
theorem kX10_wantsAnother_28 {SP : CT} (hSP : MONO SP) {sh : List (Nat × Nat)} : SMOK gE gRL sh (CLd SP 2) sX10_wantsAnother_28 :=
  chkS hSP [sX10_holdsThen_0] 26 [(false, 0)]
  [((12, [(0, (0, 0, 1, 20)), (1, (0, 0, 0, 9)), (2, (0, 0, 0, 5)), (3, (0, 0, 1, 18)), (4, (0, 0, (-2147483648), 2147483647)), (5, (0, 0, 0, 10))], [], [], [(0, 1, 0), (1, 5, 10), (0, 1, 0)]), [(false, 0)])]
  (by decide +kernel) (List.forall_mem_cons.mpr ⟨SMOK_le (Nat.le_of_ble_eq_true rfl : 1 ≤ 1) (kX10_holdsThen_0 hSP), fun s h => absurd h List.not_mem_nil⟩)
noncomputable def sX10_wantsAnother_29 : SM := (mX10_wantsAnother, [(0, 0, 1, 20), (0, 0, 0, 6), (0, 0, 0, 9), (0, 0, 1, 18)], [], [([(0, 0, 1, 1)], [], []), ([(0, 0, 0, 0)], [], [])], [])
theorem kX10_wantsAnother_29 {SP : CT} (hSP : MONO SP) {sh : List (Nat × Nat)} : SMOK gE gRL sh (CLd SP 2) sX10_wantsAnother_29 :=
  chkS hSP [sX10_holdsThen_0] 26 [(false, 0)]
  [((12, [(0, (0, 0, 1, 20)), (1, (0, 0, 0, 6)), (2, (0, 0, 0, 9)), (3, (0, 0, 1, 18)), (4, (0, 0, (-2147483648), 2147483647)), (5, (0, 0, 0, 10))], [], [], [(0, 1, 0), (1, 5, 10), (0, 1, 0)]), [(false, 0)])]
  (by decide +kernel) (List.forall_mem_cons.mpr ⟨SMOK_le (Nat.le_of_ble_eq_true rfl : 1 ≤ 1) (kX10_holdsThen_0 hSP), fun s h => absurd h List.not_mem_nil⟩)
noncomputable def sX10_wantsAnother_30 : SM := (mX10_wantsAnother, [(0, 0, 1, 20), (0, 0, 0, 9), (0, 0, 0, 6), (0, 0, 1, 18)], [], [([(0, 0, 1, 1)], [], []), ([(0, 0, 0, 0)], [], [])], [])
theorem kX10_wantsAnother_30 {SP : CT} (hSP : MONO SP) {sh : List (Nat × Nat)} : SMOK gE gRL sh (CLd SP 2) sX10_wantsAnother_30 :=
  chkS hSP [sX10_holdsThen_0] 26 [(false, 0)]
  [((12, [(0, (0, 0, 1, 20)), (1, (0, 0, 0, 9)), (2, (0, 0, 0, 6)), (3, (0, 0, 1, 18)), (4, (0, 0, (-2147483648), 2147483647)), (5, (0, 0, 0, 10))], [], [], [(0, 1, 0), (1, 5, 10), (0, 1, 0)]), [(false, 0)])]
  (by decide +kernel) (List.forall_mem_cons.mpr ⟨SMOK_le (Nat.le_of_ble_eq_true rfl : 1 ≤ 1) (kX10_holdsThen_0 hSP), fun s h => absurd h List.not_mem_nil⟩)
noncomputable def sX10_wantsAnother_31 : SM := (mX10_wantsAnother, [(0, 0, 1, 20), (0, 0, 0, 7), (0, 0, 0, 9), (0, 0, 1, 18)], [], [([(0, 0, 1, 1)], [], []), ([(0, 0, 0, 0)], [], [])], [])
theorem kX10_wantsAnother_31 {SP : CT} (hSP : MONO SP) {sh : List (Nat × Nat)} : SMOK gE gRL sh (CLd SP 2) sX10_wantsAnother_31 :=
  chkS hSP [sX10_holdsThen_0] 26 [(false, 0)]
  [((12, [(0, (0, 0, 1, 20)), (1, (0, 0, 0, 7)), (2, (0, 0, 0, 9)), (3, (0, 0, 1, 18)), (4, (0, 0, (-2147483648), 2147483647)), (5, (0, 0, 0, 10))], [], [], [(0, 1, 0), (1, 5, 10), (0, 1, 0)]), [(false, 0)])]
  (by decide +kernel) (List.forall_mem_cons.mpr ⟨SMOK_le (Nat.le_of_ble_eq_true rfl : 1 ≤ 1) (kX10_holdsThen_0 hSP), fun s h => absurd h List.not_mem_nil⟩)
noncomputable def sX10_wantsAnother_32 : SM := (mX10_wantsAnother, [(0, 0, 1, 20), (0, 0, 0, 9), (0, 0, 0, 7), (0, 0, 1, 18)], [], [([(0, 0, 1, 1)], [], []), ([(0, 0, 0, 0)], [], [])], [])
theorem kX10_wantsAnother_32 {SP : CT} (hSP : MONO SP) {sh : List (Nat × Nat)} : SMOK gE gRL sh (CLd SP 2) sX10_wantsAnother_32 :=
  chkS hSP [sX10_holdsThen_0] 26 [(false, 0)]
  [((12, [(0, (0, 0, 1, 20)), (1, (0, 0, 0, 9)), (2, (0, 0, 0, 7)), (3, (0, 0, 1, 18)), (4, (0, 0, (-2147483648), 2147483647)), (5, (0, 0, 0, 10))], [], [], [(0, 1, 0), (1, 5, 10), (0, 1, 0)]), [(false, 0)])]
  (by decide +kernel) (List.forall_mem_cons.mpr ⟨SMOK_le (Nat.le_of_ble_eq_true rfl : 1 ≤ 1) (kX10_holdsThen_0 hSP), fun s h => absurd h List.not_mem_nil⟩)
noncomputable def sX10_wantsAnother_33 : SM := (mX10_wantsAnother, [(0, 0, 1, 20), (0, 0, 0, 8), (0, 0, 0, 9), (0, 0, 1, 18)], [], [([(0, 0, 1, 1)], [], []), ([(0, 0, 0, 0)], [], [])], [])
theorem kX10_wantsAnother_33 {SP : CT} (hSP : MONO SP) {sh : List (Nat × Nat)} : SMOK gE gRL sh (CLd SP 2) sX10_wantsAnother_33 :=
  chkS hSP [sX10_holdsThen_0] 26 [(false, 0)]
  [((12, [(0, (0, 0, 1, 20)), (1, (0, 0, 0, 8)), (2, (0, 0, 0, 9)), (3, (0, 0, 1, 18)), (4, (0, 0, (-2147483648), 2147483647)), (5, (0, 0, 0, 10))], [], [], [(0, 1, 0), (1, 5, 10), (0, 1, 0)]), [(false, 0)])]
  (by decide +kernel) (List.forall_mem_cons.mpr ⟨SMOK_le (Nat.le_of_ble_eq_true rfl : 1 ≤ 1) (kX10_holdsThen_0 hSP), fun s h => absurd h List.not_mem_nil⟩)
noncomputable def sX10_wantsAnother_34 : SM := (mX10_wantsAnother, [(0, 0, 1, 20), (0, 0, 0, 9), (0, 0, 0, 8), (0, 0, 1, 18)], [], [([(0, 0, 1, 1)], [], []), ([(0, 0, 0, 0)], [], [])], [])
theorem kX10_wantsAnother_34 {SP : CT} (hSP : MONO SP) {sh : List (Nat × Nat)} : SMOK gE gRL sh (CLd SP 2) sX10_wantsAnother_34 :=
  chkS hSP [sX10_holdsThen_0] 26 [(false, 0)]
  [((12, [(0, (0, 0, 1, 20)), (1, (0, 0, 0, 9)), (2, (0, 0, 0, 8)), (3, (0, 0, 1, 18)), (4, (0, 0, (-2147483648), 2147483647)), (5, (0, 0, 0, 10))], [], [], [(0, 1, 0), (1, 5, 10), (0, 1, 0)]), [(false, 0)])]
  (by decide +kernel) (List.forall_mem_cons.mpr ⟨SMOK_le (Nat.le_of_ble_eq_true rfl : 1 ≤ 1) (kX10_holdsThen_0 hSP), fun s h => absurd h List.not_mem_nil⟩)
noncomputable def sX10_wantsAnother_35 : SM := (mX10_wantsAnother, [(0, 0, 1, 20), (0, 0, 0, 9), (0, 0, 0, 9), (0, 0, 1, 18)], [], [([(0, 0, 1, 1)], [], []), ([(0, 0, 0, 0)], [], [])], [])
theorem kX10_wantsAnother_35 {SP : CT} (hSP : MONO SP) {sh : List (Nat × Nat)} : SMOK gE gRL sh (CLd SP 2) sX10_wantsAnother_35 :=
  chkS hSP [sX10_holdsThen_0] 26 [(false, 0)]
  [((12, [(0, (0, 0, 1, 20)), (1, (0, 0, 0, 9)), (2, (0, 0, 0, 9)), (3, (0, 0, 1, 18)), (4, (0, 0, (-2147483648), 2147483647)), (5, (0, 0, 0, 10))], [], [], [(0, 1, 0), (1, 5, 10), (0, 1, 0)]), [(false, 0)])]
  (by decide +kernel) (List.forall_mem_cons.mpr ⟨SMOK_le (Nat.le_of_ble_eq_true rfl : 1 ≤ 1) (kX10_holdsThen_0 hSP), fun s h => absurd h List.not_mem_nil⟩)
noncomputable def sX10_mutiny_0 : SM := (mX10_mutiny, [(2, 0, 0, 0), (0, 0, (-2147483648), 2147483647), (0, 0, (-2147483648), 2147483647), (0, 0, (-2147483648), 2147483647)], [], [([(0, 0, (-2147483648), 2147483647)], [(3, 1, 0, 30)], []), ([(0, 0, (-1), (-1))], [], [])], [(0, 3, 1, 1), (1, 4, 0, 29)])
theorem kX10_mutiny_0 {SP : CT} (hSP : MONO SP) {sh : List (Nat × Nat)} : SMOK gE gRL sh (CLd SP 3) sX10_mutiny_0 :=
  chkS hSP [sX10_wantsAnother_0, sX10_wantsAnother_1, sX10_wantsAnother_2, sX10_wantsAnother_3, sX10_wantsAnother_4, sX10_wantsAnother_5, sX10_wantsAnother_6, sX10_wantsAnother_7, sX10_wantsAnother_8, sX10_wantsAnother_9, sX10_wantsAnother_10, sX10_wantsAnother_11, sX10_wantsAnother_12, sX10_wantsAnother_13, sX10_wantsAnother_14, sX10_wantsAnother_15, sX10_wantsAnother_16, sX10_wantsAnother_17, sX10_wantsAnother_18, sX10_wantsAnother_19, sX10_wantsAnother_20, sX10_wantsAnother_21, sX10_wantsAnother_22, sX10_wantsAnother_23, sX10_wantsAnother_24, sX10_wantsAnother_25, sX10_wantsAnother_26, sX10_wantsAnother_27, sX10_wantsAnother_28, sX10_wantsAnother_29, sX10_wantsAnother_30, sX10_wantsAnother_31, sX10_wantsAnother_32, sX10_wantsAnother_33, sX10_wantsAnother_34, sX10_wantsAnother_35, sX3_clear_0, sX3_tellTwo_0] 45 [(false, 0)]
  [((48, [(0, (2, 0, 0, 0)), (1, (0, 0, 1, 20)), (2, (0, 0, 1, 20)), (3, (0, 0, 1, 18)), (4, (0, 0, (-2147483648), 2147483647)), (5, (0, 0, 0, 10))], [], [(3, 1, 0, 30)], [(0, 1, 0), (1, 5, 10), (0, 2, 0)]), [(false, 1)]), ((62, [(0, (2, 0, 0, 0)), (1, (0, 0, 1, 20)), (2, (0, 0, 1, 20)), (3, (0, 0, 1, 18)), (4, (0, 0, (-2147483648), 2147483647)), (5, (0, 0, 0, 9)), (6, (0, 0, 0, 10))], [], [(3, 1, 0, 30)], [(0, 1, 0), (1, 5, 10), (0, 1, 0), (1, 6, 10), (0, 1, 0)]), [(true, 0), (false, 0)])]
  (by decide +kernel) (List.forall_mem_cons.mpr ⟨SMOK_le (Nat.le_of_ble_eq_true rfl : 2 ≤ 2) (kX10_wantsAnother_0 hSP), List.forall_mem_cons.mpr ⟨SMOK_le (Nat.le_of_ble_eq_true rfl : 2 ≤ 2) (kX10_wantsAnother_1 hSP), List.forall_mem_cons.mpr ⟨SMOK_le (Nat.le_of_ble_eq_true rfl : 2 ≤ 2) (kX10_wantsAnother_2 hSP), List.forall_mem_cons.mpr ⟨SMOK_le (Nat.le_of_ble_eq_true rfl : 2 ≤ 2) (kX10_wantsAnother_3 hSP), List.forall_mem_cons.mpr ⟨SMOK_le (Nat.le_of_ble_eq_true rfl : 2 ≤ 2) (kX10_wantsAnother_4 hSP), List.forall_mem_cons.mpr ⟨SMOK_le (Nat.le_of_ble_eq_true rfl : 2 ≤ 2) (kX10_wantsAnother_5 hSP), List.forall_mem_cons.mpr ⟨SMOK_le (Nat.le_of_ble_eq_true rfl : 2 ≤ 2) (kX10_wantsAnother_6 hSP), List.forall_mem_cons.mpr ⟨SMOK_le (Nat.le_of_ble_eq_true rfl : 2 ≤ 2) (kX10_wantsAnother_7 hSP), List.forall_mem_cons.mpr ⟨SMOK_le (Nat.le_of_ble_eq_true rfl : 2 ≤ 2) (kX10_wantsAnother_8 hSP), List.forall_mem_cons.mpr ⟨SMOK_le (Nat.le_of_ble_eq_true rfl : 2 ≤ 2) (kX10_wantsAnother_9 hSP), List.forall_mem_cons.mpr ⟨SMOK_le (Nat.le_of_ble_eq_true rfl : 2 ≤ 2) (kX10_wantsAnother_10 hSP), List.forall_mem_cons.mpr ⟨SMOK_le (Nat.le_of_ble_eq_true rfl : 2 ≤ 2) (kX10_wantsAnother_11 hSP), List.forall_mem_cons.mpr ⟨SMOK_le (Nat.le_of_ble_eq_true rfl : 2 ≤ 2) (kX10_wantsAnother_12 hSP), List.forall_mem_cons.mpr ⟨SMOK_le (Nat.le_of_ble_eq_true rfl : 2 ≤ 2) (kX10_wantsAnother_13 hSP), List.forall_mem_cons.mpr ⟨SMOK_le (Nat.le_of_ble_eq_true rfl : 2 ≤ 2) (kX10_wantsAnother_14 hSP), List.forall_mem_cons.mpr ⟨SMOK_le (Nat.le_of_ble_eq_true rfl : 2 ≤ 2) (kX10_wantsAnother_15 hSP), List.forall_mem_cons.mpr ⟨SMOK_le (Nat.le_of_ble_eq_true rfl : 2 ≤ 2) (kX10_wantsAnother_16 hSP), List.forall_mem_cons.mpr ⟨SMOK_le (Nat.le_of_ble_eq_true rfl : 2 ≤ 2) (kX10_wantsAnother_17 hSP), List.forall_mem_cons.mpr ⟨SMOK_le (Nat.le_of_ble_eq_true rfl : 2 ≤ 2) (kX10_wantsAnother_18 hSP), List.forall_mem_cons.mpr ⟨SMOK_le (Nat.le_of_ble_eq_true rfl : 2 ≤ 2) (kX10_wantsAnother_19 hSP), List.forall_mem_cons.mpr ⟨SMOK_le (Nat.le_of_ble_eq_true rfl : 2 ≤ 2) (kX10_wantsAnother_20 hSP), List.forall_mem_cons.mpr ⟨SMOK_le (Nat.le_of_ble_eq_true rfl : 2 ≤ 2) (kX10_wantsAnother_21 hSP), List.forall_mem_cons.mpr ⟨SMOK_le (Nat.le_of_ble_eq_true rfl : 2 ≤ 2) (kX10_wantsAnother_22 hSP), List.forall_mem_cons.mpr ⟨SMOK_le (Nat.le_of_ble_eq_true rfl : 2 ≤ 2) (kX10_wantsAnother_23 hSP), List.forall_mem_cons.mpr ⟨SMOK_le (Nat.le_of_ble_eq_true rfl : 2 ≤ 2) (kX10_wantsAnother_24 hSP), List.forall_mem_cons.mpr ⟨SMOK_le (Nat.le_of_ble_eq_true rfl : 2 ≤ 2) (kX10_wantsAnother_25 hSP), List.forall_mem_cons.mpr ⟨SMOK_le (Nat.le_of_ble_eq_true rfl : 2 ≤ 2) (kX10_wantsAnother_26 hSP), List.forall_mem_cons.mpr ⟨SMOK_le (Nat.le_of_ble_eq_true rfl : 2 ≤ 2) (kX10_wantsAnother_27 hSP), List.forall_mem_cons.mpr ⟨SMOK_le (Nat.le_of_ble_eq_true rfl : 2 ≤ 2) (kX10_wantsAnother_28 hSP), List.forall_mem_cons.mpr ⟨SMOK_le (Nat.le_of_ble_eq_true rfl : 2 ≤ 2) (kX10_wantsAnother_29 hSP), List.forall_mem_cons.mpr ⟨SMOK_le (Nat.le_of_ble_eq_true rfl : 2 ≤ 2) (kX10_wantsAnother_30 hSP), List.forall_mem_cons.mpr ⟨SMOK_le (Nat.le_of_ble_eq_true rfl : 2 ≤ 2) (kX10_wantsAnother_31 hSP), List.forall_mem_cons.mpr ⟨SMOK_le (Nat.le_of_ble_eq_true rfl : 2 ≤ 2) (kX10_wantsAnother_32 hSP), List.forall_mem_cons.mpr ⟨SMOK_le (Nat.le_of_ble_eq_true rfl : 2 ≤ 2) (kX10_wantsAnother_33 hSP), List.forall_mem_cons.mpr ⟨SMOK_le (Nat.le_of_ble_eq_true rfl : 2 ≤ 2) (kX10_wantsAnother_34 hSP), List.forall_mem_cons.mpr ⟨SMOK_le (Nat.le_of_ble_eq_true rfl : 2 ≤ 2) (kX10_wantsAnother_35 hSP), List.forall_mem_cons.mpr ⟨SMOK_le (Nat.le_of_ble_eq_true rfl : 1 ≤ 2) (kX3_clear_0 hSP), List.forall_mem_cons.mpr ⟨SMOK_le (Nat.le_of_ble_eq_true rfl : 2 ≤ 2) (kX3_tellTwo_0 hSP), fun s h => absurd h List.not_mem_nil⟩⟩⟩⟩⟩⟩⟩⟩⟩⟩⟩⟩⟩⟩⟩⟩⟩⟩⟩⟩⟩⟩⟩⟩⟩⟩⟩⟩⟩⟩⟩⟩⟩⟩⟩⟩⟩⟩)
noncomputable def sX8_copyFrom_4 : SM := (mX8_copyFrom, [(2, 17, 0, 0), (2, 22, 0, 0)], [], [([], [(17, 0, (-2147483648), 2147483647), (17, 1, 0, 8), (17, 2, (-2147483648), 2147483647), (17, 3, (-2147483648), 2147483647), (17, 4, 0, 12)], [])], [(0, 17, 0, 4), (0, 18, 0, 11), (0, 19, 0, 11), (0, 20, 0, 7), (0, 21, 0, 7)])
theorem kX8_copyFrom_4 {SP : CT} (hSP : MONO SP) {sh : List (Nat × Nat)} : SMOK gE gRL sh (CLd SP 1) sX8_copyFrom_4 :=
  chkS hSP [] 55 []
  []
  (by decide +kernel) (fun s h => absurd h List.not_mem_nil)
noncomputable def sX10_voyages_0 : SM := (mX10_voyages, [(2, 0, 0, 0), (0, 0, (-2147483648), 2147483647), (0, 0, (-2147483648), 2147483647)], [], [([(0, 0, (-2147483648), 2147483647)], [(3, 1, 1, 30), (17, 0, (-2147483648), 2147483647), (17, 1, 0, 8), (17, 2, (-2147483648), 2147483647), (17, 3, (-2147483648), 2147483647), (17, 4, 0, 12), (22, 1, 0, 8), (22, 4, 0, 12)], []), ([(0, 0, (-2147483648), 2147483647)], [(3, 1, 30, 30), (17, 0, (-2147483648), 2147483647), (17, 1, 0, 8), (17, 2, (-2147483648), 2147483647), (17, 3, (-2147483648), 2147483647), (17, 4, 0, 12), (22, 1, 0, 8), (22, 4, 0, 12)], []), ([(0, 0, (-1), (-1))], [], [])], [(0, 3, 1, 1), (0, 8, 3, 3), (0, 10, 0, 39), (0, 17, 0, 4), (0, 18, 0, 11), (0, 19, 0, 11), (0, 20, 0, 7), (0, 21, 0, 7), (0, 22, 0, 4), (0, 23, 0, 11), (0, 24, 0, 11), (0, 25, 0, 7), (0, 26, 0, 7), (1, 4, 0, 29)])
theorem kX10_voyages_0 {SP : CT} (hSP : MONO SP) {sh : List (Nat × Nat)} : SMOK gE gRL sh (CLd SP 5) sX10_voyages_0 :=
  chkS hSP [sX10_giveOrder_0, sX10_goStep_0, sX10_orderRefusal_0, sX3_tellTwo_0, sX8_copyFrom_1, sX8_copyFrom_4] 163 [(false, 0)]
  [((32, [(0, (2, 0, 0, 0)), (1, (0, 0, (-2147483648), 2147483647)), (2, (0, 0, 1, 60)), (3, (0, 0, (-2147483648), 2147483647)), (4, (0, 0, (-2147483648), 2147483647)), (5, (0, 0, 0, 60))], [], [(22, 1, 0, 8), (22, 4, 0, 12)], [(0, 1, 0), (1, 5, 60), (0, 1, 0)]), [(false, 0)])]
  (by decide +kernel) (List.forall_mem_cons.mpr ⟨SMOK_le (Nat.le_of_ble_eq_true rfl : 4 ≤ 4) (kX10_giveOrder_0 hSP), List.forall_mem_cons.mpr ⟨SMOK_le (Nat.le_of_ble_eq_true rfl : 4 ≤ 4) (kX10_goStep_0 hSP), List.forall_mem_cons.mpr ⟨SMOK_le (Nat.le_of_ble_eq_true rfl : 2 ≤ 4) (kX10_orderRefusal_0 hSP), List.forall_mem_cons.mpr ⟨SMOK_le (Nat.le_of_ble_eq_true rfl : 2 ≤ 4) (kX3_tellTwo_0 hSP), List.forall_mem_cons.mpr ⟨SMOK_le (Nat.le_of_ble_eq_true rfl : 1 ≤ 4) (kX8_copyFrom_1 hSP), List.forall_mem_cons.mpr ⟨SMOK_le (Nat.le_of_ble_eq_true rfl : 1 ≤ 4) (kX8_copyFrom_4 hSP), fun s h => absurd h List.not_mem_nil⟩⟩⟩⟩⟩⟩)
noncomputable def sX8_copyFrom_5 : SM := (mX8_copyFrom, [(2, 36, 0, 0), (2, 17, 0, 0)], [], [([], [], [])], [(0, 36, 0, 4), (0, 37, 0, 11), (0, 38, 0, 11), (0, 39, 0, 7), (0, 40, 0, 7)])
theorem kX8_copyFrom_5 {SP : CT} (hSP : MONO SP) {sh : List (Nat × Nat)} : SMOK gE gRL sh (CLd SP 1) sX8_copyFrom_5 :=
  chkS hSP [] 55 []
  []
  (by decide +kernel) (fun s h => absurd h List.not_mem_nil)
noncomputable def sX10_keep_0 : SM := (mX10_keep, [(2, 0, 0, 0), (0, 0, (-2147483648), 2147483647)], [], [([(0, 0, 0, 0)], [], []), ([(0, 0, 1, 1)], [], [])], [(0, 30, 0, 2), (0, 36, 0, 4), (0, 37, 0, 11), (0, 38, 0, 11), (0, 39, 0, 7), (0, 40, 0, 7)])
theorem kX10_keep_0 {SP : CT} (hSP : MONO SP) {sh : List (Nat × Nat)} : SMOK gE gRL sh (CLd SP 2) sX10_keep_0 :=
  chkS hSP [sX8_copyFrom_5] 27 []
  []
  (by decide +kernel) (List.forall_mem_cons.mpr ⟨SMOK_le (Nat.le_of_ble_eq_true rfl : 1 ≤ 1) (kX8_copyFrom_5 hSP), fun s h => absurd h List.not_mem_nil⟩)
noncomputable def sX8_copyFrom_6 : SM := (mX8_copyFrom, [(2, 17, 0, 0), (2, 36, 0, 0)], [], [([], [(17, 0, (-2147483648), 2147483647), (17, 1, 0, 8), (17, 2, (-2147483648), 2147483647), (17, 3, (-2147483648), 2147483647), (17, 4, 0, 12)], [])], [(0, 17, 0, 4), (0, 18, 0, 11), (0, 19, 0, 11), (0, 20, 0, 7), (0, 21, 0, 7)])
theorem kX8_copyFrom_6 {SP : CT} (hSP : MONO SP) {sh : List (Nat × Nat)} : SMOK gE gRL sh (CLd SP 1) sX8_copyFrom_6 :=
  chkS hSP [] 55 []
  []
  (by decide +kernel) (fun s h => absurd h List.not_mem_nil)
noncomputable def sX10_again_0 : SM := (mX10_again, [(2, 0, 0, 0), (0, 0, (-2147483648), 2147483647)], [], [([(0, 0, 0, 0)], [], []), ([(0, 0, 1, 1)], [(17, 0, (-2147483648), 2147483647), (17, 1, 0, 8), (17, 2, (-2147483648), 2147483647), (17, 3, (-2147483648), 2147483647), (17, 4, 0, 12), (27, 2, 0, 0)], [])], [(0, 17, 0, 4), (0, 18, 0, 11), (0, 19, 0, 11), (0, 20, 0, 7), (0, 21, 0, 7), (0, 27, 2, 2)])
theorem kX10_again_0 {SP : CT} (hSP : MONO SP) {sh : List (Nat × Nat)} : SMOK gE gRL sh (CLd SP 2) sX10_again_0 :=
  chkS hSP [sX8_copyFrom_6] 33 []
  []
  (by decide +kernel) (List.forall_mem_cons.mpr ⟨SMOK_le (Nat.le_of_ble_eq_true rfl : 1 ≤ 1) (kX8_copyFrom_6 hSP), fun s h => absurd h List.not_mem_nil⟩)
noncomputable def sX10_count_0 : SM := (mX10_count, [(2, 0, 0, 0), (0, 0, (-2147483648), 2147483647)], [], [([(0, 0, (-2147483648), 2147483647)], [], [])], [])
theorem kX10_count_0 {SP : CT} (hSP : MONO SP) {sh : List (Nat × Nat)} : SMOK gE gRL sh (CLd SP 1) sX10_count_0 :=
  chkS hSP [] 57 []
  []
  (by decide +kernel) (fun s h => absurd h List.not_mem_nil)
noncomputable def sX11_sign_0 : SM := (mX11_sign, [(2, 54, 0, 0), (0, 0, (-2147483648), 2147483647)], [], [([(0, 0, 4, 80)], [(54, 0, 0, 0), (54, 17, 4, 80)], []), ([(0, 0, (-1), (-1))], [(54, 0, 0, 0), (54, 17, 77, 80)], [])], [(0, 54, 0, 0), (0, 54, 17, 17), (0, 63, 0, 79)])
theorem kX11_sign_0 {SP : CT} (hSP : MONO SP) {sh : List (Nat × Nat)} : SMOK gE gRL sh (CLd SP 1) sX11_sign_0 :=
  chkS hSP [] 23 [(false, 0)]
  [((18, [(0, (2, 54, 0, 0)), (1, (0, 0, (-2147483648), 2147483647)), (2, (0, 0, 0, 0))], [], [(54, 0, 0, 0), (54, 17, 0, 76)], [(0, 5, 0)]), [(false, 1)]), ((18, [(0, (2, 54, 0, 0)), (1, (0, 0, (-2147483648), 2147483647)), (2, (0, 0, 1, 1))], [], [(54, 0, 0, 0), (54, 17, 0, 76)], [(0, 4, 0)]), [(false, 1)]), ((18, [(0, (2, 54, 0, 0)), (1, (0, 0, (-2147483648), 2147483647)), (2, (0, 0, 2, 2))], [], [(54, 0, 0, 0), (54, 17, 0, 76)], [(0, 3, 0)]), [(false, 1)]), ((18, [(0, (2, 54, 0, 0)), (1, (0, 0, (-2147483648), 2147483647)), (2, (0, 0, 3, 3))], [], [(54, 0, 0, 0), (54, 17, 0, 76)], [(0, 2, 0)]), [(false, 1)]), ((18, [(0, (2, 54, 0, 0)), (1, (0, 0, (-2147483648), 2147483647)), (2, (0, 0, 4, 4))], [], [(54, 0, 0, 0), (54, 17, 0, 76)], [(0, 1, 0)]), [])]
  (by decide +kernel) (fun s h => absurd h List.not_mem_nil)
noncomputable def sX11_in_0 : SM := (mX11_in, [(1, 0, (-2147483648), (-1)), (1, 0, 0, 0), (1, 0, 0, 80)], [], [([(0, 0, 0, 0)], [], [])], [])
theorem kX11_in_0 {SP : CT} (hSP : MONO SP) {sh : List (Nat × Nat)} : SMOK gE gRL sh (CLd SP 1) sX11_in_0 :=
  chkS hSP [] 8 []
  []
  (by decide +kernel) (fun s h => absurd h List.not_mem_nil)
noncomputable def sX11_in_1 : SM := (mX11_in, [(1, 0, 0, 80), (1, 0, 0, 0), (1, 0, 0, 80)], [], [([(0, 0, 1, 1)], [], []), ([(0, 0, 0, 0)], [], [])], [])
theorem kX11_in_1 {SP : CT} (hSP : MONO SP) {sh : List (Nat × Nat)} : SMOK gE gRL sh (CLd SP 1) sX11_in_1 :=
  chkS hSP [] 15 []
  []
  (by decide +kernel) (fun s h => absurd h List.not_mem_nil)
noncomputable def sX11_in_2 : SM := (mX11_in, [(1, 0, 81, 2147483647), (1, 0, 0, 0), (1, 0, 0, 80)], [], [([(0, 0, 0, 0)], [], [])], [])
theorem kX11_in_2 {SP : CT} (hSP : MONO SP) {sh : List (Nat × Nat)} : SMOK gE gRL sh (CLd SP 1) sX11_in_2 :=
  chkS hSP [] 12 []
  []
  (by decide +kernel) (fun s h => absurd h List.not_mem_nil)
noncomputable def sX11_in_3 : SM := (jn 1 0 (-2147483648) (-1) 2147483647 [(1, 0, (-2147483648), 2147483647), (1, 0, 0, 0), (1, 0, 0, 80)] sX11_in_0 (jn 1 0 0 80 2147483647 [(1, 0, 0, 2147483647), (1, 0, 0, 0), (1, 0, 0, 80)] sX11_in_1 sX11_in_2))
theorem kX11_in_3 {SP : CT} (hSP : MONO SP) {sh : List (Nat × Nat)} : SMOK gE gRL sh (CLd SP 1) sX11_in_3 :=
  SMOK_jn (MONO_CLd hSP 1) 1 (by decide) 0 (-2147483648) (-1) 2147483647 (as := [(1, 0, (-2147483648), 2147483647), (1, 0, 0, 0), (1, 0, 0, 80)]) rfl rfl rfl rfl rfl rfl rfl (SMOK_le (Nat.le_of_ble_eq_true rfl : 1 ≤ 1) (kX11_in_0 hSP)) (SMOK_jn (MONO_CLd hSP 1) 1 (by decide) 0 0 80 2147483647 (as := [(1, 0, 0, 2147483647), (1, 0, 0, 0), (1, 0, 0, 80)]) rfl rfl rfl rfl rfl rfl rfl (SMOK_le (Nat.le_of_ble_eq_true rfl : 1 ≤ 1) (kX11_in_1 hSP)) (SMOK_le (Nat.le_of_ble_eq_true rfl : 1 ≤ 1) (kX11_in_2 hSP)))
noncomputable def sX11_end_0 : SM := (mX11_end, [(2, 54, 0, 0), (0, 0, (-2147483648), 2147483647)], [], [([(0, 0, 0, 0)], [(54, 0, 0, 0)], []), ([(0, 0, 1, 1)], [(54, 0, 0, 0), (54, 17, 0, 80)], [])], [(0, 54, 0, 0), (0, 54, 17, 17)])
theorem kX11_end_0 {SP : CT} (hSP : MONO SP) {sh : List (Nat × Nat)} : SMOK gE gRL sh (CLd SP 2) sX11_end_0 :=
  chkS hSP [sX11_in_3] 27 []
  []
  (by decide +kernel) (List.forall_mem_cons.mpr ⟨SMOK_le (Nat.le_of_ble_eq_true rfl : 1 ≤ 1) (kX11_in_3 hSP), fun s h => absurd h List.not_mem_nil⟩)
noncomputable def sX11_in_4 : SM := (mX11_in, [(1, 0, (-2147483648), (-1)), (1, 0, 0, 0), (1, 0, 3, 3)], [], [([(0, 0, 0, 0)], [], [])], [])
theorem kX11_in_4 {SP : CT} (hSP : MONO SP) {sh : List (Nat × Nat)} : SMOK gE gRL sh (CLd SP 1) sX11_in_4 :=
  chkS hSP [] 8 []
  []
  (by decide +kernel) (fun s h => absurd h List.not_mem_nil)
noncomputable def sX11_in_5 : SM := (mX11_in, [(1, 0, 0, 3), (1, 0, 0, 0), (1, 0, 3, 3)], [], [([(0, 0, 1, 1)], [], [])], [])
theorem kX11_in_5 {SP : CT} (hSP : MONO SP) {sh : List (Nat × Nat)} : SMOK gE gRL sh (CLd SP 1) sX11_in_5 :=
  chkS hSP [] 13 []
  []
  (by decide +kernel) (fun s h => absurd h List.not_mem_nil)
noncomputable def sX11_in_6 : SM := (mX11_in, [(1, 0, 4, 2147483647), (1, 0, 0, 0), (1, 0, 3, 3)], [], [([(0, 0, 0, 0)], [], [])], [])
theorem kX11_in_6 {SP : CT} (hSP : MONO SP) {sh : List (Nat × Nat)} : SMOK gE gRL sh (CLd SP 1) sX11_in_6 :=
  chkS hSP [] 12 []
  []
  (by decide +kernel) (fun s h => absurd h List.not_mem_nil)
noncomputable def sX11_in_7 : SM := (jn 1 0 (-2147483648) (-1) 2147483647 [(1, 0, (-2147483648), 2147483647), (1, 0, 0, 0), (1, 0, 3, 3)] sX11_in_4 (jn 1 0 0 3 2147483647 [(1, 0, 0, 2147483647), (1, 0, 0, 0), (1, 0, 3, 3)] sX11_in_5 sX11_in_6))
theorem kX11_in_7 {SP : CT} (hSP : MONO SP) {sh : List (Nat × Nat)} : SMOK gE gRL sh (CLd SP 1) sX11_in_7 :=
  SMOK_jn (MONO_CLd hSP 1) 1 (by decide) 0 (-2147483648) (-1) 2147483647 (as := [(1, 0, (-2147483648), 2147483647), (1, 0, 0, 0), (1, 0, 3, 3)]) rfl rfl rfl rfl rfl rfl rfl (SMOK_le (Nat.le_of_ble_eq_true rfl : 1 ≤ 1) (kX11_in_4 hSP)) (SMOK_jn (MONO_CLd hSP 1) 1 (by decide) 0 0 3 2147483647 (as := [(1, 0, 0, 2147483647), (1, 0, 0, 0), (1, 0, 3, 3)]) rfl rfl rfl rfl rfl rfl rfl (SMOK_le (Nat.le_of_ble_eq_true rfl : 1 ≤ 1) (kX11_in_5 hSP)) (SMOK_le (Nat.le_of_ble_eq_true rfl : 1 ≤ 1) (kX11_in_6 hSP)))
noncomputable def sX11_sheet_0 : SM := (mX11_sheet, [(2, 54, 0, 0), (0, 0, (-2147483648), 2147483647), (0, 0, (-2147483648), 2147483647), (0, 0, (-2147483648), 2147483647), (0, 0, (-2147483648), 2147483647)], [], [([(0, 0, (-3), (-3))], [(54, 0, 0, 0), (60, 0, 0, 9)], []), ([(0, 0, (-2147483648), 2147483647)], [(54, 0, 0, 0), (60, 0, 0, 9)], []), ([(0, 0, (-1), (-1))], [(54, 0, 0, 0)], []), ([(0, 0, (-2), (-2))], [(54, 0, 0, 0)], [])], [(0, 54, 0, 0), (0, 60, 0, 7)])
theorem kX11_sheet_0 {SP : CT} (hSP : MONO SP) {sh : List (Nat × Nat)} : SMOK gE gRL sh (CLd SP 2) sX11_sheet_0 :=
  chkS hSP [sX11_in_7] 177 [(false, 0)]
  [((46, [(0, (2, 54, 0, 0)), (1, (0, 0, 0, 3)), (2, (0, 0, (-2147483648), 8)), (3, (0, 0, (-2147483648), 2147483647)), (4, (0, 0, (-2147483648), 2147483647)), (5, (0, 0, (-2147483648), 2147483647)), (6, (0, 0, (-2147483648), 2147483647)), (7, (0, 0, 0, 8))], [], [(54, 0, 0, 0), (54, 7, 0, 8), (60, 0, 0, 9)], [(0, 1, 0), (1, 7, 8), (0, 1, 0)]), [(false, 0)])]
  (by decide +kernel) (List.forall_mem_cons.mpr ⟨SMOK_le (Nat.le_of_ble_eq_true rfl : 1 ≤ 1) (kX11_in_7 hSP), fun s h => absurd h List.not_mem_nil⟩)
noncomputable def sX11_in_8 : SM := (mX11_in, [(1, 0, (-2147483648), (-1)), (1, 0, 0, 0), (1, 0, (-1), 7)], [], [([(0, 0, 0, 0)], [], [])], [])
theorem kX11_in_8 {SP : CT} (hSP : MONO SP) {sh : List (Nat × Nat)} : SMOK gE gRL sh (CLd SP 1) sX11_in_8 :=
  chkS hSP [] 8 []
  []
  (by decide +kernel) (fun s h => absurd h List.not_mem_nil)
noncomputable def sX11_isMess_0 : SM := (mX11_isMess, [(2, 54, 0, 0), (0, 0, (-2147483648), (-1))], [], [([(0, 0, 0, 0)], [], [])], [])
theorem kX11_isMess_0 {SP : CT} (hSP : MONO SP) {sh : List (Nat × Nat)} : SMOK gE gRL sh (CLd SP 2) sX11_isMess_0 :=
  chkS hSP [sX11_in_8] 12 []
  []
  (by decide +kernel) (List.forall_mem_cons.mpr ⟨SMOK_le (Nat.le_of_ble_eq_true rfl : 1 ≤ 1) (kX11_in_8 hSP), fun s h => absurd h List.not_mem_nil⟩)
noncomputable def sX11_in_9 : SM := (mX11_in, [(1, 0, 0, 7), (1, 0, 0, 0), (1, 0, (-1), 7)], [], [([(0, 0, 1, 1)], [], []), ([(0, 0, 0, 0)], [], [])], [])
theorem kX11_in_9 {SP : CT} (hSP : MONO SP) {sh : List (Nat × Nat)} : SMOK gE gRL sh (CLd SP 1) sX11_in_9 :=
  chkS hSP [] 15 []
  []
  (by decide +kernel) (fun s h => absurd h List.not_mem_nil)
noncomputable def sX11_isMess_1 : SM := (mX11_isMess, [(2, 54, 0, 0), (0, 0, 0, 7)], [], [([(0, 0, 0, 0)], [], []), ([(0, 0, 1, 1)], [], [])], [])
theorem kX11_isMess_1 {SP : CT} (hSP : MONO SP) {sh : List (Nat × Nat)} : SMOK gE gRL sh (CLd SP 2) sX11_isMess_1 :=
  chkS hSP [sX11_in_9] 13 []
  []
  (by decide +kernel) (List.forall_mem_cons.mpr ⟨SMOK_le (Nat.le_of_ble_eq_true rfl : 1 ≤ 1) (kX11_in_9 hSP), fun s h => absurd h List.not_mem_nil⟩)
noncomputable def sX11_in_10 : SM := (mX11_in, [(1, 0, 8, 2147483647), (1, 0, 0, 0), (1, 0, (-1), 7)], [], [([(0, 0, 0, 0)], [], [])], [])
theorem kX11_in_10 {SP : CT} (hSP : MONO SP) {sh : List (Nat × Nat)} : SMOK gE gRL sh (CLd SP 1) sX11_in_10 :=
  chkS hSP [] 12 []
  []
  (by decide +kernel) (fun s h => absurd h List.not_mem_nil)
noncomputable def sX11_isMess_2 : SM := (mX11_isMess, [(2, 54, 0, 0), (0, 0, 8, 2147483647)], [], [([(0, 0, 0, 0)], [], [])], [])
theorem kX11_isMess_2 {SP : CT} (hSP : MONO SP) {sh : List (Nat × Nat)} : SMOK gE gRL sh (CLd SP 2) sX11_isMess_2 :=
  chkS hSP [sX11_in_10] 12 []
  []
  (by decide +kernel) (List.forall_mem_cons.mpr ⟨SMOK_le (Nat.le_of_ble_eq_true rfl : 1 ≤ 1) (kX11_in_10 hSP), fun s h => absurd h List.not_mem_nil⟩)
noncomputable def sX11_isMess_3 : SM := (jn 0 1 (-2147483648) (-1) 2147483647 [(2, 54, 0, 0), (0, 0, (-2147483648), 2147483647)] sX11_isMess_0 (jn 0 1 0 7 2147483647 [(2, 54, 0, 0), (0, 0, 0, 2147483647)] sX11_isMess_1 sX11_isMess_2))
theorem kX11_isMess_3 {SP : CT} (hSP : MONO SP) {sh : List (Nat × Nat)} : SMOK gE gRL sh (CLd SP 2) sX11_isMess_3 :=
  SMOK_jn (MONO_CLd hSP 2) 0 (by decide) 1 (-2147483648) (-1) 2147483647 (as := [(2, 54, 0, 0), (0, 0, (-2147483648), 2147483647)]) rfl rfl rfl rfl rfl rfl rfl (SMOK_le (Nat.le_of_ble_eq_true rfl : 2 ≤ 2) (kX11_isMess_0 hSP)) (SMOK_jn (MONO_CLd hSP 2) 0 (by decide) 1 0 7 2147483647 (as := [(2, 54, 0, 0), (0, 0, 0, 2147483647)]) rfl rfl rfl rfl rfl rfl rfl (SMOK_le (Nat.le_of_ble_eq_true rfl : 2 ≤ 2) (kX11_isMess_1 hSP)) (SMOK_le (Nat.le_of_ble_eq_true rfl : 2 ≤ 2) (kX11_isMess_2 hSP)))
noncomputable def sX11_in_16 : SM := (mX11_in, [(1, 0, (-2147483648), (-1)), (1, 0, 0, 0), (1, 0, 1, 1)], [], [([(0, 0, 0, 0)], [], [])], [])
theorem kX11_in_16 {SP : CT} (hSP : MONO SP) {sh : List (Nat × Nat)} : SMOK gE gRL sh (CLd SP 1) sX11_in_16 :=
  chkS hSP [] 8 []
  []
  (by decide +kernel) (fun s h => absurd h List.not_mem_nil)
noncomputable def sX11_in_17 : SM := (mX11_in, [(1, 0, 0, 1), (1, 0, 0, 0), (1, 0, 1, 1)], [], [([(0, 0, 1, 1)], [], [])], [])
theorem kX11_in_17 {SP : CT} (hSP : MONO SP) {sh : List (Nat × Nat)} : SMOK gE gRL sh (CLd SP 1) sX11_in_17 :=
  chkS hSP [] 13 []
  []
  (by decide +kernel) (fun s h => absurd h List.not_mem_nil)
noncomputable def sX11_in_18 : SM := (mX11_in, [(1, 0, 2, 2147483647), (1, 0, 0, 0), (1, 0, 1, 1)], [], [([(0, 0, 0, 0)], [], [])], [])
theorem kX11_in_18 {SP : CT} (hSP : MONO SP) {sh : List (Nat × Nat)} : SMOK gE gRL sh (CLd SP 1) sX11_in_18 :=
  chkS hSP [] 12 []
  []
  (by decide +kernel) (fun s h => absurd h List.not_mem_nil)
noncomputable def sX11_in_19 : SM := (jn 1 0 (-2147483648) (-1) 2147483647 [(1, 0, (-2147483648), 2147483647), (1, 0, 0, 0), (1, 0, 1, 1)] sX11_in_16 (jn 1 0 0 1 2147483647 [(1, 0, 0, 2147483647), (1, 0, 0, 0), (1, 0, 1, 1)] sX11_in_17 sX11_in_18))
theorem kX11_in_19 {SP : CT} (hSP : MONO SP) {sh : List (Nat × Nat)} : SMOK gE gRL sh (CLd SP 1) sX11_in_19 :=
  SMOK_jn (MONO_CLd hSP 1) 1 (by decide) 0 (-2147483648) (-1) 2147483647 (as := [(1, 0, (-2147483648), 2147483647), (1, 0, 0, 0), (1, 0, 1, 1)]) rfl rfl rfl rfl rfl rfl rfl (SMOK_le (Nat.le_of_ble_eq_true rfl : 1 ≤ 1) (kX11_in_16 hSP)) (SMOK_jn (MONO_CLd hSP 1) 1 (by decide) 0 0 1 2147483647 (as := [(1, 0, 0, 2147483647), (1, 0, 0, 0), (1, 0, 1, 1)]) rfl rfl rfl rfl rfl rfl rfl (SMOK_le (Nat.le_of_ble_eq_true rfl : 1 ≤ 1) (kX11_in_17 hSP)) (SMOK_le (Nat.le_of_ble_eq_true rfl : 1 ≤ 1) (kX11_in_18 hSP)))
noncomputable def sX11_in_20 : SM := (mX11_in, [(1, 0, (-2147483648), (-1)), (1, 0, 0, 0), (1, 0, 99, 99)], [], [([(0, 0, 0, 0)], [], [])], [])
theorem kX11_in_20 {SP : CT} (hSP : MONO SP) {sh : List (Nat × Nat)} : SMOK gE gRL sh (CLd SP 1) sX11_in_20 :=
  chkS hSP [] 8 []
  []
  (by decide +kernel) (fun s h => absurd h List.not_mem_nil)
noncomputable def sX11_in_21 : SM := (mX11_in, [(1, 0, 0, 99), (1, 0, 0, 0), (1, 0, 99, 99)], [], [([(0, 0, 1, 1)], [], [])], [])
theorem kX11_in_21 {SP : CT} (hSP : MONO SP) {sh : List (Nat × Nat)} : SMOK gE gRL sh (CLd SP 1) sX11_in_21 :=
  chkS hSP [] 13 []
  []
  (by decide +kernel) (fun s h => absurd h List.not_mem_nil)
noncomputable def sX11_in_22 : SM := (mX11_in, [(1, 0, 100, 2147483647), (1, 0, 0, 0), (1, 0, 99, 99)], [], [([(0, 0, 0, 0)], [], [])], [])
theorem kX11_in_22 {SP : CT} (hSP : MONO SP) {sh : List (Nat × Nat)} : SMOK gE gRL sh (CLd SP 1) sX11_in_22 :=
  chkS hSP [] 12 []
  []
  (by decide +kernel) (fun s h => absurd h List.not_mem_nil)
noncomputable def sX11_in_23 : SM := (jn 1 0 (-2147483648) (-1) 2147483647 [(1, 0, (-2147483648), 2147483647), (1, 0, 0, 0), (1, 0, 99, 99)] sX11_in_20 (jn 1 0 0 99 2147483647 [(1, 0, 0, 2147483647), (1, 0, 0, 0), (1, 0, 99, 99)] sX11_in_21 sX11_in_22))
theorem kX11_in_23 {SP : CT} (hSP : MONO SP) {sh : List (Nat × Nat)} : SMOK gE gRL sh (CLd SP 1) sX11_in_23 :=
  SMOK_jn (MONO_CLd hSP 1) 1 (by decide) 0 (-2147483648) (-1) 2147483647 (as := [(1, 0, (-2147483648), 2147483647), (1, 0, 0, 0), (1, 0, 99, 99)]) rfl rfl rfl rfl rfl rfl rfl (SMOK_le (Nat.le_of_ble_eq_true rfl : 1 ≤ 1) (kX11_in_20 hSP)) (SMOK_jn (MONO_CLd hSP 1) 1 (by decide) 0 0 99 2147483647 (as := [(1, 0, 0, 2147483647), (1, 0, 0, 0), (1, 0, 99, 99)]) rfl rfl rfl rfl rfl rfl rfl (SMOK_le (Nat.le_of_ble_eq_true rfl : 1 ≤ 1) (kX11_in_21 hSP)) (SMOK_le (Nat.le_of_ble_eq_true rfl : 1 ≤ 1) (kX11_in_22 hSP)))
noncomputable def sX11_in_24 : SM := (mX11_in, [(1, 0, (-2147483648), (-1)), (1, 0, 0, 0), (1, 0, 60, 60)], [], [([(0, 0, 0, 0)], [], [])], [])
theorem kX11_in_24 {SP : CT} (hSP : MONO SP) {sh : List (Nat × Nat)} : SMOK gE gRL sh (CLd SP 1) sX11_in_24 :=
  chkS hSP [] 8 []
  []
  (by decide +kernel) (fun s h => absurd h List.not_mem_nil)
noncomputable def sX11_in_25 : SM := (mX11_in, [(1, 0, 0, 60), (1, 0, 0, 0), (1, 0, 60, 60)], [], [([(0, 0, 1, 1)], [], [])], [])
theorem kX11_in_25 {SP : CT} (hSP : MONO SP) {sh : List (Nat × Nat)} : SMOK gE gRL sh (CLd SP 1) sX11_in_25 :=
  chkS hSP [] 13 []
  []
  (by decide +kernel) (fun s h => absurd h List.not_mem_nil)
noncomputable def sX11_in_26 : SM := (mX11_in, [(1, 0, 61, 2147483647), (1, 0, 0, 0), (1, 0, 60, 60)], [], [([(0, 0, 0, 0)], [], [])], [])
theorem kX11_in_26 {SP : CT} (hSP : MONO SP) {sh : List (Nat × Nat)} : SMOK gE gRL sh (CLd SP 1) sX11_in_26 :=
  chkS hSP [] 12 []
  []
  (by decide +kernel) (fun s h => absurd h List.not_mem_nil)
noncomputable def sX11_in_27 : SM := (jn 1 0 (-2147483648) (-1) 2147483647 [(1, 0, (-2147483648), 2147483647), (1, 0, 0, 0), (1, 0, 60, 60)] sX11_in_24 (jn 1 0 0 60 2147483647 [(1, 0, 0, 2147483647), (1, 0, 0, 0), (1, 0, 60, 60)] sX11_in_25 sX11_in_26))
theorem kX11_in_27 {SP : CT} (hSP : MONO SP) {sh : List (Nat × Nat)} : SMOK gE gRL sh (CLd SP 1) sX11_in_27 :=
  SMOK_jn (MONO_CLd hSP 1) 1 (by decide) 0 (-2147483648) (-1) 2147483647 (as := [(1, 0, (-2147483648), 2147483647), (1, 0, 0, 0), (1, 0, 60, 60)]) rfl rfl rfl rfl rfl rfl rfl (SMOK_le (Nat.le_of_ble_eq_true rfl : 1 ≤ 1) (kX11_in_24 hSP)) (SMOK_jn (MONO_CLd hSP 1) 1 (by decide) 0 0 60 2147483647 (as := [(1, 0, 0, 2147483647), (1, 0, 0, 0), (1, 0, 60, 60)]) rfl rfl rfl rfl rfl rfl rfl (SMOK_le (Nat.le_of_ble_eq_true rfl : 1 ≤ 1) (kX11_in_25 hSP)) (SMOK_le (Nat.le_of_ble_eq_true rfl : 1 ≤ 1) (kX11_in_26 hSP)))
noncomputable def sX11_startsCounting_0 : SM := (mX11_startsCounting, [(2, 54, 0, 0)], [], [([], [(54, 31, 0, 0), (54, 32, 0, 0)], [])], [(0, 54, 31, 32)])
theorem kX11_startsCounting_0 {SP : CT} (hSP : MONO SP) {sh : List (Nat × Nat)} : SMOK gE gRL sh (CLd SP 1) sX11_startsCounting_0 :=
  chkS hSP [] 9 []
  []
  (by decide +kernel) (fun s h => absurd h List.not_mem_nil)
noncomputable def sX11_flag_0 : SM := (mX11_flag, [(0, 0, 1, 1)], [], [([(0, 0, 1, 1)], [], [])], [])
theorem kX11_flag_0 {SP : CT} (hSP : MONO SP) {sh : List (Nat × Nat)} : SMOK gE gRL sh (CLd SP 1) sX11_flag_0 :=
  chkS hSP [] 7 []
  []
  (by decide +kernel) (fun s h => absurd h List.not_mem_nil)
noncomputable def sX11_flag_1 : SM := (mX11_flag, [(0, 0, 0, 0)], [], [([(0, 0, 0, 0)], [], [])], [])
theorem kX11_flag_1 {SP : CT} (hSP : MONO SP) {sh : List (Nat × Nat)} : SMOK gE gRL sh (CLd SP 1) sX11_flag_1 :=
  chkS hSP [] 6 []
  []
  (by decide +kernel) (fun s h => absurd h List.not_mem_nil)
noncomputable def sX11_hitsAt_0 : SM := (mX11_hitsAt, [(2, 54, 0, 0), (0, 0, (-2147483648), 2147483647), (0, 0, (-2147483648), 2147483647)], [], [([(0, 0, (-2147483648), 2147483647)], [], [])], [])
theorem kX11_hitsAt_0 {SP : CT} (hSP : MONO SP) {sh : List (Nat × Nat)} : SMOK gE gRL sh (CLd SP 2) sX11_hitsAt_0 :=
  chkS hSP [sX11_flag_0, sX11_flag_1] 40 [(false, 0)]
  [((5, [(0, (2, 54, 0, 0)), (1, (0, 0, (-2147483648), 2147483647)), (2, (0, 0, (-2147483648), 2147483647)), (3, (0, 0, (-2147483648), 2147483647)), (4, (0, 0, 0, 16))], [], [(54, 6, 0, 16)], [(0, 1, 0), (1, 4, 16), (0, 1, 0)]), [(false, 0)])]
  (by decide +kernel) (List.forall_mem_cons.mpr ⟨SMOK_le (Nat.le_of_ble_eq_true rfl : 1 ≤ 1) (kX11_flag_0 hSP), List.forall_mem_cons.mpr ⟨SMOK_le (Nat.le_of_ble_eq_true rfl : 1 ≤ 1) (kX11_flag_1 hSP), fun s h => absurd h List.not_mem_nil⟩⟩)
noncomputable def sX11_enters_0 : SM := (mX11_enters, [(2, 54, 0, 0), (1, 0, (-9223372036854775808), 9223372036854775807)], [(54, 1, 0, 0)], [([], [(54, 1, 1, 1)], [])], [(0, 54, 1, 1), (1, 55, 0, 0)])
theorem kX11_enters_0 {SP : CT} (hSP : MONO SP) {sh : List (Nat × Nat)} : SMOK gE gRL sh (CLd SP 1) sX11_enters_0 :=
  chkS hSP [] 15 []
  []
  (by decide +kernel) (fun s h => absurd h List.not_mem_nil)
noncomputable def sX11_enters_1 : SM := (mX11_enters, [(2, 54, 0, 0), (1, 0, (-9223372036854775808), 9223372036854775807)], [(54, 1, 1, 1)], [([], [(54, 1, 2, 2)], [])], [(0, 54, 1, 1), (1, 55, 1, 1)])
theorem kX11_enters_1 {SP : CT} (hSP : MONO SP) {sh : List (Nat × Nat)} : SMOK gE gRL sh (CLd SP 1) sX11_enters_1 :=
  chkS hSP [] 15 []
  []
  (by decide +kernel) (fun s h => absurd h List.not_mem_nil)
noncomputable def sX11_in_28 : SM := (mX11_in, [(1, 0, (-2147483648), 0), (1, 0, 1, 1), (1, 0, 30, 30)], [], [([(0, 0, 0, 0)], [], [])], [])
theorem kX11_in_28 {SP : CT} (hSP : MONO SP) {sh : List (Nat × Nat)} : SMOK gE gRL sh (CLd SP 1) sX11_in_28 :=
  chkS hSP [] 8 []
  []
  (by decide +kernel) (fun s h => absurd h List.not_mem_nil)
noncomputable def sX11_in_29 : SM := (mX11_in, [(1, 0, 1, 30), (1, 0, 1, 1), (1, 0, 30, 30)], [], [([(0, 0, 1, 1)], [], [])], [])
theorem kX11_in_29 {SP : CT} (hSP : MONO SP) {sh : List (Nat × Nat)} : SMOK gE gRL sh (CLd SP 1) sX11_in_29 :=
  chkS hSP [] 13 []
  []
  (by decide +kernel) (fun s h => absurd h List.not_mem_nil)
noncomputable def sX11_in_30 : SM := (mX11_in, [(1, 0, 31, 2147483647), (1, 0, 1, 1), (1, 0, 30, 30)], [], [([(0, 0, 0, 0)], [], [])], [])
theorem kX11_in_30 {SP : CT} (hSP : MONO SP) {sh : List (Nat × Nat)} : SMOK gE gRL sh (CLd SP 1) sX11_in_30 :=
  chkS hSP [] 12 []
  []
  (by decide +kernel) (fun s h => absurd h List.not_mem_nil)
noncomputable def sX11_in_31 : SM := (jn 1 0 (-2147483648) 0 2147483647 [(1, 0, (-2147483648), 2147483647), (1, 0, 1, 1), (1, 0, 30, 30)] sX11_in_28 (jn 1 0 1 30 2147483647 [(1, 0, 1, 2147483647), (1, 0, 1, 1), (1, 0, 30, 30)] sX11_in_29 sX11_in_30))
theorem kX11_in_31 {SP : CT} (hSP : MONO SP) {sh : List (Nat × Nat)} : SMOK gE gRL sh (CLd SP 1) sX11_in_31 :=
  SMOK_jn (MONO_CLd hSP 1) 1 (by decide) 0 (-2147483648) 0 2147483647 (as := [(1, 0, (-2147483648), 2147483647), (1, 0, 1, 1), (1, 0, 30, 30)]) rfl rfl rfl rfl rfl rfl rfl (SMOK_le (Nat.le_of_ble_eq_true rfl : 1 ≤ 1) (kX11_in_28 hSP)) (SMOK_jn (MONO_CLd hSP 1) 1 (by decide) 0 1 30 2147483647 (as := [(1, 0, 1, 2147483647), (1, 0, 1, 1), (1, 0, 30, 30)]) rfl rfl rfl rfl rfl rfl rfl (SMOK_le (Nat.le_of_ble_eq_true rfl : 1 ≤ 1) (kX11_in_29 hSP)) (SMOK_le (Nat.le_of_ble_eq_true rfl : 1 ≤ 1) (kX11_in_30 hSP)))
noncomputable def sX11_choosesAny_0 : SM := (mX11_choosesAny, [(2, 54, 0, 0), (0, 0, 0, 29)], [], [([], [(72, 0, (-1), 2)], [])], [(0, 72, 0, 29)])
theorem kX11_choosesAny_0 {SP : CT} (hSP : MONO SP) {sh : List (Nat × Nat)} : SMOK gE gRL sh (CLd SP 1) sX11_choosesAny_0 :=
  chkS hSP [] 21 [(false, 0)]
  [((2, [(0, (2, 54, 0, 0)), (1, (0, 0, 0, 29)), (2, (0, 0, 0, 30))], [], [(72, 0, (-1), 2)], [(0, 1, 0), (1, 2, 30), (0, 1, 0)]), [(false, 0)])]
  (by decide +kernel) (fun s h => absurd h List.not_mem_nil)
noncomputable def sX11_put_0 : SM := (mX11_put, [(0, 0, (-2147483648), 2147483647)], [], [([(0, 0, 0, 8)], [], [])], [])
theorem kX11_put_0 {SP : CT} (hSP : MONO SP) {sh : List (Nat × Nat)} : SMOK gE gRL sh (CLd SP 1) sX11_put_0 :=
  chkS hSP [] 8 []
  []
  (by decide +kernel) (fun s h => absurd h List.not_mem_nil)
noncomputable def sX11_goesBy_0 : SM := (mX11_goesBy, [(2, 54, 0, 0), (0, 0, (-1), 1), (0, 0, 0, 0)], [], [([], [], [])], [(0, 73, 0, 8), (0, 74, 0, 8)])
theorem kX11_goesBy_0 {SP : CT} (hSP : MONO SP) {sh : List (Nat × Nat)} : SMOK gE gRL sh (CLd SP 2) sX11_goesBy_0 :=
  chkS hSP [sX11_flag_1, sX11_put_0] 32 [(false, 0)]
  [((2, [(0, (2, 54, 0, 0)), (1, (0, 0, (-1), 1)), (2, (0, 0, 0, 0)), (3, (0, 0, 0, 9))], [], [], [(0, 3, 0), (1, 3, 9), (0, 1, 0)]), [(false, 0), (false, 1)]), ((33, [(0, (2, 54, 0, 0)), (1, (0, 0, (-1), 1)), (2, (0, 0, 0, 0)), (3, (0, 0, (-1), 2))], [], [], [(0, 2, 0), (1, 3, 2), (0, 2, 0)]), [(false, 1), (false, 2)]), ((49, [(0, (2, 54, 0, 0)), (1, (0, 0, (-1), 1)), (2, (0, 0, 0, 0)), (3, (0, 0, (-1), 1)), (4, (0, 0, 0, 9))], [], [], [(0, 2, 0), (1, 3, 2), (0, 1, 0), (1, 4, 9), (0, 1, 0)]), [(true, 0), (false, 0)]), ((120, [(0, (2, 54, 0, 0)), (1, (0, 0, (-1), 1)), (2, (0, 0, 0, 0)), (3, (0, 0, 0, 9))], [], [], [(0, 1, 0), (1, 3, 9), (0, 1, 0)]), [(false, 0)])]
  (by decide +kernel) (List.forall_mem_cons.mpr ⟨SMOK_le (Nat.le_of_ble_eq_true rfl : 1 ≤ 1) (kX11_flag_1 hSP), List.forall_mem_cons.mpr ⟨SMOK_le (Nat.le_of_ble_eq_true rfl : 1 ≤ 1) (kX11_put_0 hSP), fun s h => absurd h List.not_mem_nil⟩⟩)
noncomputable def sX11_mayGive_0 : SM := (mX11_mayGive, [(2, 54, 0, 0), (0, 0, (-2147483648), 2147483647)], [], [([(0, 0, 1, 1)], [], []), ([(0, 0, 0, 0)], [], [])], [])
theorem kX11_mayGive_0 {SP : CT} (hSP : MONO SP) {sh : List (Nat × Nat)} : SMOK gE gRL sh (CLd SP 1) sX11_mayGive_0 :=
  chkS hSP [] 21 []
  []
  (by decide +kernel) (fun s h => absurd h List.not_mem_nil)
noncomputable def sX11_turned_0 : SM := (mX11_turned, [(2, 54, 0, 0), (0, 0, (-1), 2)], [], [([(0, 0, (-2), 1)], [], []), ([(0, 0, (-1), 2)], [], [])], [])
theorem kX11_turned_0 {SP : CT} (hSP : MONO SP) {sh : List (Nat × Nat)} : SMOK gE gRL sh (CLd SP 1) sX11_turned_0 :=
  chkS hSP [] 14 []
  []
  (by decide +kernel) (fun s h => absurd h List.not_mem_nil)
noncomputable def sX11_goesBy_1 : SM := (mX11_goesBy, [(2, 54, 0, 0), (0, 0, (-1), 2), (0, 0, 1, 1)], [], [([], [], [])], [(0, 73, 0, 8), (0, 74, 0, 8)])
theorem kX11_goesBy_1 {SP : CT} (hSP : MONO SP) {sh : List (Nat × Nat)} : SMOK gE gRL sh (CLd SP 2) sX11_goesBy_1 :=
  chkS hSP [sX11_flag_0, sX11_flag_1, sX11_put_0] 42 [(false, 0)]
  [((2, [(0, (2, 54, 0, 0)), (1, (0, 0, (-1), 2)), (2, (0, 0, 1, 1)), (3, (0, 0, 0, 9))], [], [], [(0, 3, 0), (1, 3, 9), (0, 1, 0)]), [(false, 0), (false, 1)]), ((33, [(0, (2, 54, 0, 0)), (1, (0, 0, (-1), 2)), (2, (0, 0, 1, 1)), (3, (0, 0, (-1), 2))], [], [], [(0, 2, 0), (1, 3, 2), (0, 2, 0)]), [(false, 1), (false, 2)]), ((49, [(0, (2, 54, 0, 0)), (1, (0, 0, (-1), 2)), (2, (0, 0, 1, 1)), (3, (0, 0, (-1), 1)), (4, (0, 0, 0, 9))], [], [], [(0, 2, 0), (1, 3, 2), (0, 1, 0), (1, 4, 9), (0, 1, 0)]), [(true, 0), (false, 0)]), ((120, [(0, (2, 54, 0, 0)), (1, (0, 0, (-1), 2)), (2, (0, 0, 1, 1)), (3, (0, 0, 0, 9))], [], [], [(0, 1, 0), (1, 3, 9), (0, 1, 0)]), [(false, 0)])]
  (by decide +kernel) (List.forall_mem_cons.mpr ⟨SMOK_le (Nat.le_of_ble_eq_true rfl : 1 ≤ 1) (kX11_flag_0 hSP), List.forall_mem_cons.mpr ⟨SMOK_le (Nat.le_of_ble_eq_true rfl : 1 ≤ 1) (kX11_flag_1 hSP), List.forall_mem_cons.mpr ⟨SMOK_le (Nat.le_of_ble_eq_true rfl : 1 ≤ 1) (kX11_put_0 hSP), fun s h => absurd h List.not_mem_nil⟩⟩⟩)
noncomputable def sX11_goesBy_2 : SM := (mX11_goesBy, [(2, 54, 0, 0), (0, 0, (-1), 2), (0, 0, 0, 0)], [], [([], [], [])], [(0, 73, 0, 8), (0, 74, 0, 8)])
theorem kX11_goesBy_2 {SP : CT} (hSP : MONO SP) {sh : List (Nat × Nat)} : SMOK gE gRL sh (CLd SP 2) sX11_goesBy_2 :=
  chkS hSP [sX11_flag_1, sX11_put_0] 32 [(false, 0)]
  [((2, [(0, (2, 54, 0, 0)), (1, (0, 0, (-1), 2)), (2, (0, 0, 0, 0)), (3, (0, 0, 0, 9))], [], [], [(0, 3, 0), (1, 3, 9), (0, 1, 0)]), [(false, 0), (false, 1)]), ((33, [(0, (2, 54, 0, 0)), (1, (0, 0, (-1), 2)), (2, (0, 0, 0, 0)), (3, (0, 0, (-1), 3))], [], [], [(0, 2, 0), (1, 3, 3), (0, 2, 0)]), [(false, 1), (false, 2)]), ((49, [(0, (2, 54, 0, 0)), (1, (0, 0, (-1), 2)), (2, (0, 0, 0, 0)), (3, (0, 0, (-1), 2)), (4, (0, 0, 0, 9))], [], [], [(0, 2, 0), (1, 3, 3), (0, 1, 0), (1, 4, 9), (0, 1, 0)]), [(true, 0), (false, 0)]), ((120, [(0, (2, 54, 0, 0)), (1, (0, 0, (-1), 2)), (2, (0, 0, 0, 0)), (3, (0, 0, 0, 9))], [], [], [(0, 1, 0), (1, 3, 9), (0, 1, 0)]), [(false, 0)])]
  (by decide +kernel) (List.forall_mem_cons.mpr ⟨SMOK_le (Nat.le_of_ble_eq_true rfl : 1 ≤ 1) (kX11_flag_1 hSP), List.forall_mem_cons.mpr ⟨SMOK_le (Nat.le_of_ble_eq_true rfl : 1 ≤ 1) (kX11_put_0 hSP), fun s h => absurd h List.not_mem_nil⟩⟩)
noncomputable def sX11_goesBy_3 : SM := (mX11_goesBy, [(2, 54, 0, 0), (0, 0, (-2), 1), (0, 0, 1, 1)], [], [([], [], [])], [(0, 73, 0, 8), (0, 74, 0, 8)])
theorem kX11_goesBy_3 {SP : CT} (hSP : MONO SP) {sh : List (Nat × Nat)} : SMOK gE gRL sh (CLd SP 2) sX11_goesBy_3 :=
  chkS hSP [sX11_flag_0, sX11_flag_1, sX11_put_0] 42 [(false, 0)]
  [((2, [(0, (2, 54, 0, 0)), (1, (0, 0, (-2), 1)), (2, (0, 0, 1, 1)), (3, (0, 0, 0, 9))], [], [], [(0, 3, 0), (1, 3, 9), (0, 1, 0)]), [(false, 0), (false, 1)]), ((33, [(0, (2, 54, 0, 0)), (1, (0, 0, (-2), 1)), (2, (0, 0, 1, 1)), (3, (0, 0, (-1), 2))], [], [], [(0, 2, 0), (1, 3, 2), (0, 2, 0)]), [(false, 1), (false, 2)]), ((49, [(0, (2, 54, 0, 0)), (1, (0, 0, (-2), 1)), (2, (0, 0, 1, 1)), (3, (0, 0, (-1), 1)), (4, (0, 0, 0, 9))], [], [], [(0, 2, 0), (1, 3, 2), (0, 1, 0), (1, 4, 9), (0, 1, 0)]), [(true, 0), (false, 0)]), ((120, [(0, (2, 54, 0, 0)), (1, (0, 0, (-2), 1)), (2, (0, 0, 1, 1)), (3, (0, 0, 0, 9))], [], [], [(0, 1, 0), (1, 3, 9), (0, 1, 0)]), [(false, 0)])]
  (by decide +kernel) (List.forall_mem_cons.mpr ⟨SMOK_le (Nat.le_of_ble_eq_true rfl : 1 ≤ 1) (kX11_flag_0 hSP), List.forall_mem_cons.mpr ⟨SMOK_le (Nat.le_of_ble_eq_true rfl : 1 ≤ 1) (kX11_flag_1 hSP), List.forall_mem_cons.mpr ⟨SMOK_le (Nat.le_of_ble_eq_true rfl : 1 ≤ 1) (kX11_put_0 hSP), fun s h => absurd h List.not_mem_nil⟩⟩⟩)
noncomputable def sX11_goesBy_4 : SM := (mX11_goesBy, [(2, 54, 0, 0), (0, 0, (-2), 1), (0, 0, 0, 0)], [], [([], [], [])], [(0, 73, 0, 8), (0, 74, 0, 8)])
theorem kX11_goesBy_4 {SP : CT} (hSP : MONO SP) {sh : List (Nat × Nat)} : SMOK gE gRL sh (CLd SP 2) sX11_goesBy_4 :=
  chkS hSP [sX11_flag_1, sX11_put_0] 32 [(false, 0)]
  [((2, [(0, (2, 54, 0, 0)), (1, (0, 0, (-2), 1)), (2, (0, 0, 0, 0)), (3, (0, 0, 0, 9))], [], [], [(0, 3, 0), (1, 3, 9), (0, 1, 0)]), [(false, 0), (false, 1)]), ((33, [(0, (2, 54, 0, 0)), (1, (0, 0, (-2), 1)), (2, (0, 0, 0, 0)), (3, (0, 0, (-2), 2))], [], [], [(0, 2, 0), (1, 3, 2), (0, 2, 0)]), [(false, 1), (false, 2)]), ((49, [(0, (2, 54, 0, 0)), (1, (0, 0, (-2), 1)), (2, (0, 0, 0, 0)), (3, (0, 0, (-2), 1)), (4, (0, 0, 0, 9))], [], [], [(0, 2, 0), (1, 3, 2), (0, 1, 0), (1, 4, 9), (0, 1, 0)]), [(true, 0), (false, 0)]), ((120, [(0, (2, 54, 0, 0)), (1, (0, 0, (-2), 1)), (2, (0, 0, 0, 0)), (3, (0, 0, 0, 9))], [], [], [(0, 1, 0), (1, 3, 9), (0, 1, 0)]), [(false, 0)])]
  (by decide +kernel) (List.forall_mem_cons.mpr ⟨SMOK_le (Nat.le_of_ble_eq_true rfl : 1 ≤ 1) (kX11_flag_1 hSP), List.forall_mem_cons.mpr ⟨SMOK_le (Nat.le_of_ble_eq_true rfl : 1 ≤ 1) (kX11_put_0 hSP), fun s h => absurd h List.not_mem_nil⟩⟩)
noncomputable def sX11_in_32 : SM := (mX11_in, [(1, 0, (-2147483648), (-1)), (1, 0, 0, 0), (1, 0, 30, 30)], [], [([(0, 0, 0, 0)], [], [])], [])
theorem kX11_in_32 {SP : CT} (hSP : MONO SP) {sh : List (Nat × Nat)} : SMOK gE gRL sh (CLd SP 1) sX11_in_32 :=
  chkS hSP [] 8 []
  []
  (by decide +kernel) (fun s h => absurd h List.not_mem_nil)
noncomputable def sX11_in_33 : SM := (mX11_in, [(1, 0, 0, 30), (1, 0, 0, 0), (1, 0, 30, 30)], [], [([(0, 0, 1, 1)], [], [])], [])
theorem kX11_in_33 {SP : CT} (hSP : MONO SP) {sh : List (Nat × Nat)} : SMOK gE gRL sh (CLd SP 1) sX11_in_33 :=
  chkS hSP [] 13 []
  []
  (by decide +kernel) (fun s h => absurd h List.not_mem_nil)
noncomputable def sX11_in_34 : SM := (mX11_in, [(1, 0, 31, 2147483647), (1, 0, 0, 0), (1, 0, 30, 30)], [], [([(0, 0, 0, 0)], [], [])], [])
theorem kX11_in_34 {SP : CT} (hSP : MONO SP) {sh : List (Nat × Nat)} : SMOK gE gRL sh (CLd SP 1) sX11_in_34 :=
  chkS hSP [] 12 []
  []
  (by decide +kernel) (fun s h => absurd h List.not_mem_nil)
noncomputable def sX11_in_35 : SM := (jn 1 0 (-2147483648) (-1) 2147483647 [(1, 0, (-2147483648), 2147483647), (1, 0, 0, 0), (1, 0, 30, 30)] sX11_in_32 (jn 1 0 0 30 2147483647 [(1, 0, 0, 2147483647), (1, 0, 0, 0), (1, 0, 30, 30)] sX11_in_33 sX11_in_34))
theorem kX11_in_35 {SP : CT} (hSP : MONO SP) {sh : List (Nat × Nat)} : SMOK gE gRL sh (CLd SP 1) sX11_in_35 :=
  SMOK_jn (MONO_CLd hSP 1) 1 (by decide) 0 (-2147483648) (-1) 2147483647 (as := [(1, 0, (-2147483648), 2147483647), (1, 0, 0, 0), (1, 0, 30, 30)]) rfl rfl rfl rfl rfl rfl rfl (SMOK_le (Nat.le_of_ble_eq_true rfl : 1 ≤ 1) (kX11_in_32 hSP)) (SMOK_jn (MONO_CLd hSP 1) 1 (by decide) 0 0 30 2147483647 (as := [(1, 0, 0, 2147483647), (1, 0, 0, 0), (1, 0, 30, 30)]) rfl rfl rfl rfl rfl rfl rfl (SMOK_le (Nat.le_of_ble_eq_true rfl : 1 ≤ 1) (kX11_in_33 hSP)) (SMOK_le (Nat.le_of_ble_eq_true rfl : 1 ≤ 1) (kX11_in_34 hSP)))
noncomputable def sX11_in_36 : SM := (mX11_in, [(1, 0, (-2147483648), 0), (1, 0, 1, 1), (1, 0, 999, 999)], [], [([(0, 0, 0, 0)], [], [])], [])
theorem kX11_in_36 {SP : CT} (hSP : MONO SP) {sh : List (Nat × Nat)} : SMOK gE gRL sh (CLd SP 1) sX11_in_36 :=
  chkS hSP [] 8 []
  []
  (by decide +kernel) (fun s h => absurd h List.not_mem_nil)
noncomputable def sX11_in_37 : SM := (mX11_in, [(1, 0, 1, 999), (1, 0, 1, 1), (1, 0, 999, 999)], [], [([(0, 0, 1, 1)], [], [])], [])
theorem kX11_in_37 {SP : CT} (hSP : MONO SP) {sh : List (Nat × Nat)} : SMOK gE gRL sh (CLd SP 1) sX11_in_37 :=
  chkS hSP [] 13 []
  []
  (by decide +kernel) (fun s h => absurd h List.not_mem_nil)
noncomputable def sX11_in_38 : SM := (mX11_in, [(1, 0, 1000, 2147483647), (1, 0, 1, 1), (1, 0, 999, 999)], [], [([(0, 0, 0, 0)], [], [])], [])
theorem kX11_in_38 {SP : CT} (hSP : MONO SP) {sh : List (Nat × Nat)} : SMOK gE gRL sh (CLd SP 1) sX11_in_38 :=
  chkS hSP [] 12 []
  []
  (by decide +kernel) (fun s h => absurd h List.not_mem_nil)
noncomputable def sX11_in_39 : SM := (jn 1 0 (-2147483648) 0 2147483647 [(1, 0, (-2147483648), 2147483647), (1, 0, 1, 1), (1, 0, 999, 999)] sX11_in_36 (jn 1 0 1 999 2147483647 [(1, 0, 1, 2147483647), (1, 0, 1, 1), (1, 0, 999, 999)] sX11_in_37 sX11_in_38))
theorem kX11_in_39 {SP : CT} (hSP : MONO SP) {sh : List (Nat × Nat)} : SMOK gE gRL sh (CLd SP 1) sX11_in_39 :=
  SMOK_jn (MONO_CLd hSP 1) 1 (by decide) 0 (-2147483648) 0 2147483647 (as := [(1, 0, (-2147483648), 2147483647), (1, 0, 1, 1), (1, 0, 999, 999)]) rfl rfl rfl rfl rfl rfl rfl (SMOK_le (Nat.le_of_ble_eq_true rfl : 1 ≤ 1) (kX11_in_36 hSP)) (SMOK_jn (MONO_CLd hSP 1) 1 (by decide) 0 1 999 2147483647 (as := [(1, 0, 1, 2147483647), (1, 0, 1, 1), (1, 0, 999, 999)]) rfl rfl rfl rfl rfl rfl rfl (SMOK_le (Nat.le_of_ble_eq_true rfl : 1 ≤ 1) (kX11_in_37 hSP)) (SMOK_le (Nat.le_of_ble_eq_true rfl : 1 ≤ 1) (kX11_in_38 hSP)))
noncomputable def sX11_in_40 : SM := (mX11_in, [(1, 0, 0, 999), (1, 0, (-2147483648), 2147483647), (1, 0, (-2147483647), 2147484646)], [], [([(0, 0, 1, 1)], [], []), ([(0, 0, 0, 0)], [], [])], [])
theorem kX11_in_40 {SP : CT} (hSP : MONO SP) {sh : List (Nat × Nat)} : SMOK gE gRL sh (CLd SP 1) sX11_in_40 :=
  chkS hSP [] 17 []
  []
  (by decide +kernel) (fun s h => absurd h List.not_mem_nil)
noncomputable def sX11_rocksIn_0 : SM := (mX11_rocksIn, [(2, 54, 0, 0), (0, 0, 1, 1), (0, 0, 1, 999)], [], [([(0, 0, (-2147483648), 2147483647)], [], [])], [])
theorem kX11_rocksIn_0 {SP : CT} (hSP : MONO SP) {sh : List (Nat × Nat)} : SMOK gE gRL sh (CLd SP 2) sX11_rocksIn_0 :=
  chkS hSP [sX11_flag_1, sX11_flag_0, sX11_in_40] 57 [(false, 0)]
  [((5, [(0, (2, 54, 0, 0)), (1, (0, 0, 1, 1)), (2, (0, 0, 1, 999)), (3, (0, 0, (-2147483648), 2147483647)), (4, (0, 0, 0, 16))], [], [(54, 6, 0, 16)], [(0, 1, 0), (1, 4, 16), (0, 1, 0)]), [(false, 0)])]
  (by decide +kernel) (List.forall_mem_cons.mpr ⟨SMOK_le (Nat.le_of_ble_eq_true rfl : 1 ≤ 1) (kX11_flag_1 hSP), List.forall_mem_cons.mpr ⟨SMOK_le (Nat.le_of_ble_eq_true rfl : 1 ≤ 1) (kX11_flag_0 hSP), List.forall_mem_cons.mpr ⟨SMOK_le (Nat.le_of_ble_eq_true rfl : 1 ≤ 1) (kX11_in_40 hSP), fun s h => absurd h List.not_mem_nil⟩⟩⟩)
noncomputable def sX11_rocksIn_1 : SM := (mX11_rocksIn, [(2, 54, 0, 0), (0, 0, 0, 0), (0, 0, 1, 999)], [], [([(0, 0, (-2147483648), 2147483647)], [], [])], [])
theorem kX11_rocksIn_1 {SP : CT} (hSP : MONO SP) {sh : List (Nat × Nat)} : SMOK gE gRL sh (CLd SP 2) sX11_rocksIn_1 :=
  chkS hSP [sX11_flag_1, sX11_flag_0, sX11_in_40] 57 [(false, 0)]
  [((5, [(0, (2, 54, 0, 0)), (1, (0, 0, 0, 0)), (2, (0, 0, 1, 999)), (3, (0, 0, (-2147483648), 2147483647)), (4, (0, 0, 0, 16))], [], [(54, 6, 0, 16)], [(0, 1, 0), (1, 4, 16), (0, 1, 0)]), [(false, 0)])]
  (by decide +kernel) (List.forall_mem_cons.mpr ⟨SMOK_le (Nat.le_of_ble_eq_true rfl : 1 ≤ 1) (kX11_flag_1 hSP), List.forall_mem_cons.mpr ⟨SMOK_le (Nat.le_of_ble_eq_true rfl : 1 ≤ 1) (kX11_flag_0 hSP), List.forall_mem_cons.mpr ⟨SMOK_le (Nat.le_of_ble_eq_true rfl : 1 ≤ 1) (kX11_in_40 hSP), fun s h => absurd h List.not_mem_nil⟩⟩⟩)
noncomputable def sX11_rocksIn_2 : SM := (mX11_rocksIn, [(2, 54, 0, 0), (0, 0, 1, 2), (0, 0, 1, 999)], [], [([(0, 0, (-2147483648), 2147483647)], [], [])], [])
theorem kX11_rocksIn_2 {SP : CT} (hSP : MONO SP) {sh : List (Nat × Nat)} : SMOK gE gRL sh (CLd SP 2) sX11_rocksIn_2 :=
  chkS hSP [sX11_flag_1, sX11_flag_0, sX11_in_40] 57 [(false, 0)]
  [((5, [(0, (2, 54, 0, 0)), (1, (0, 0, 1, 2)), (2, (0, 0, 1, 999)), (3, (0, 0, (-2147483648), 2147483647)), (4, (0, 0, 0, 16))], [], [(54, 6, 0, 16)], [(0, 1, 0), (1, 4, 16), (0, 1, 0)]), [(false, 0)])]
  (by decide +kernel) (List.forall_mem_cons.mpr ⟨SMOK_le (Nat.le_of_ble_eq_true rfl : 1 ≤ 1) (kX11_flag_1 hSP), List.forall_mem_cons.mpr ⟨SMOK_le (Nat.le_of_ble_eq_true rfl : 1 ≤ 1) (kX11_flag_0 hSP), List.forall_mem_cons.mpr ⟨SMOK_le (Nat.le_of_ble_eq_true rfl : 1 ≤ 1) (kX11_in_40 hSP), fun s h => absurd h List.not_mem_nil⟩⟩⟩)
noncomputable def sX11_rocksIn_3 : SM := (mX11_rocksIn, [(2, 54, 0, 0), (0, 0, 0, 1), (0, 0, 1, 999)], [], [([(0, 0, (-2147483648), 2147483647)], [], [])], [])
theorem kX11_rocksIn_3 {SP : CT} (hSP : MONO SP) {sh : List (Nat × Nat)} : SMOK gE gRL sh (CLd SP 2) sX11_rocksIn_3 :=
  chkS hSP [sX11_flag_1, sX11_flag_0, sX11_in_40] 57 [(false, 0)]
  [((5, [(0, (2, 54, 0, 0)), (1, (0, 0, 0, 1)), (2, (0, 0, 1, 999)), (3, (0, 0, (-2147483648), 2147483647)), (4, (0, 0, 0, 16))], [], [(54, 6, 0, 16)], [(0, 1, 0), (1, 4, 16), (0, 1, 0)]), [(false, 0)])]
  (by decide +kernel) (List.forall_mem_cons.mpr ⟨SMOK_le (Nat.le_of_ble_eq_true rfl : 1 ≤ 1) (kX11_flag_1 hSP), List.forall_mem_cons.mpr ⟨SMOK_le (Nat.le_of_ble_eq_true rfl : 1 ≤ 1) (kX11_flag_0 hSP), List.forall_mem_cons.mpr ⟨SMOK_le (Nat.le_of_ble_eq_true rfl : 1 ≤ 1) (kX11_in_40 hSP), fun s h => absurd h List.not_mem_nil⟩⟩⟩)
noncomputable def sX11_rocksIn_4 : SM := (mX11_rocksIn, [(2, 54, 0, 0), (0, 0, 1, 3), (0, 0, 1, 999)], [], [([(0, 0, (-2147483648), 2147483647)], [], [])], [])
theorem kX11_rocksIn_4 {SP : CT} (hSP : MONO SP) {sh : List (Nat × Nat)} : SMOK gE gRL sh (CLd SP 2) sX11_rocksIn_4 :=
  chkS hSP [sX11_flag_1, sX11_flag_0, sX11_in_40] 57 [(false, 0)]
  [((5, [(0, (2, 54, 0, 0)), (1, (0, 0, 1, 3)), (2, (0, 0, 1, 999)), (3, (0, 0, (-2147483648), 2147483647)), (4, (0, 0, 0, 16))], [], [(54, 6, 0, 16)], [(0, 1, 0), (1, 4, 16), (0, 1, 0)]), [(false, 0)])]
  (by decide +kernel) (List.forall_mem_cons.mpr ⟨SMOK_le (Nat.le_of_ble_eq_true rfl : 1 ≤ 1) (kX11_flag_1 hSP), List.forall_mem_cons.mpr ⟨SMOK_le (Nat.le_of_ble_eq_true rfl : 1 ≤ 1) (kX11_flag_0 hSP), List.forall_mem_cons.mpr ⟨SMOK_le (Nat.le_of_ble_eq_true rfl : 1 ≤ 1) (kX11_in_40 hSP), fun s h => absurd h List.not_mem_nil⟩⟩⟩)
noncomputable def sX11_rocksIn_5 : SM := (mX11_rocksIn, [(2, 54, 0, 0), (0, 0, 0, 2), (0, 0, 1, 999)], [], [([(0, 0, (-2147483648), 2147483647)], [], [])], [])
theorem kX11_rocksIn_5 {SP : CT} (hSP : MONO SP) {sh : List (Nat × Nat)} : SMOK gE gRL sh (CLd SP 2) sX11_rocksIn_5 :=
  chkS hSP [sX11_flag_1, sX11_flag_0, sX11_in_40] 57 [(false, 0)]
  [((5, [(0, (2, 54, 0, 0)), (1, (0, 0, 0, 2)), (2, (0, 0, 1, 999)), (3, (0, 0, (-2147483648), 2147483647)), (4, (0, 0, 0, 16))], [], [(54, 6, 0, 16)], [(0, 1, 0), (1, 4, 16), (0, 1, 0)]), [(false, 0)])]
  (by decide +kernel) (List.forall_mem_cons.mpr ⟨SMOK_le (Nat.le_of_ble_eq_true rfl : 1 ≤ 1) (kX11_flag_1 hSP), List.forall_mem_cons.mpr ⟨SMOK_le (Nat.le_of_ble_eq_true rfl : 1 ≤ 1) (kX11_flag_0 hSP), List.forall_mem_cons.mpr ⟨SMOK_le (Nat.le_of_ble_eq_true rfl : 1 ≤ 1) (kX11_in_40 hSP), fun s h => absurd h List.not_mem_nil⟩⟩⟩)
noncomputable def sX11_rocksIn_6 : SM := (mX11_rocksIn, [(2, 54, 0, 0), (0, 0, 1, 4), (0, 0, 1, 999)], [], [([(0, 0, (-2147483648), 2147483647)], [], [])], [])
theorem kX11_rocksIn_6 {SP : CT} (hSP : MONO SP) {sh : List (Nat × Nat)} : SMOK gE gRL sh (CLd SP 2) sX11_rocksIn_6 :=
  chkS hSP [sX11_flag_1, sX11_flag_0, sX11_in_40] 57 [(false, 0)]
  [((5, [(0, (2, 54, 0, 0)), (1, (0, 0, 1, 4)), (2, (0, 0, 1, 999)), (3, (0, 0, (-2147483648), 2147483647)), (4, (0, 0, 0, 16))], [], [(54, 6, 0, 16)], [(0, 1, 0), (1, 4, 16), (0, 1, 0)]), [(false, 0)])]
  (by decide +kernel) (List.forall_mem_cons.mpr ⟨SMOK_le (Nat.le_of_ble_eq_true rfl : 1 ≤ 1) (kX11_flag_1 hSP), List.forall_mem_cons.mpr ⟨SMOK_le (Nat.le_of_ble_eq_true rfl : 1 ≤ 1) (kX11_flag_0 hSP), List.forall_mem_cons.mpr ⟨SMOK_le (Nat.le_of_ble_eq_true rfl : 1 ≤ 1) (kX11_in_40 hSP), fun s h => absurd h List.not_mem_nil⟩⟩⟩)
noncomputable def sX11_rocksIn_7 : SM := (mX11_rocksIn, [(2, 54, 0, 0), (0, 0, 0, 3), (0, 0, 1, 999)], [], [([(0, 0, (-2147483648), 2147483647)], [], [])], [])
theorem kX11_rocksIn_7 {SP : CT} (hSP : MONO SP) {sh : List (Nat × Nat)} : SMOK gE gRL sh (CLd SP 2) sX11_rocksIn_7 :=
  chkS hSP [sX11_flag_1, sX11_flag_0, sX11_in_40] 57 [(false, 0)]
  [((5, [(0, (2, 54, 0, 0)), (1, (0, 0, 0, 3)), (2, (0, 0, 1, 999)), (3, (0, 0, (-2147483648), 2147483647)), (4, (0, 0, 0, 16))], [], [(54, 6, 0, 16)], [(0, 1, 0), (1, 4, 16), (0, 1, 0)]), [(false, 0)])]
  (by decide +kernel) (List.forall_mem_cons.mpr ⟨SMOK_le (Nat.le_of_ble_eq_true rfl : 1 ≤ 1) (kX11_flag_1 hSP), List.forall_mem_cons.mpr ⟨SMOK_le (Nat.le_of_ble_eq_true rfl : 1 ≤ 1) (kX11_flag_0 hSP), List.forall_mem_cons.mpr ⟨SMOK_le (Nat.le_of_ble_eq_true rfl : 1 ≤ 1) (kX11_in_40 hSP), fun s h => absurd h List.not_mem_nil⟩⟩⟩)
noncomputable def sX11_rocksIn_8 : SM := (mX11_rocksIn, [(2, 54, 0, 0), (0, 0, 1, 5), (0, 0, 1, 999)], [], [([(0, 0, (-2147483648), 2147483647)], [], [])], [])
theorem kX11_rocksIn_8 {SP : CT} (hSP : MONO SP) {sh : List (Nat × Nat)} : SMOK gE gRL sh (CLd SP 2) sX11_rocksIn_8 :=
  chkS hSP [sX11_flag_1, sX11_flag_0, sX11_in_40] 57 [(false, 0)]
  [((5, [(0, (2, 54, 0, 0)), (1, (0, 0, 1, 5)), (2, (0, 0, 1, 999)), (3, (0, 0, (-2147483648), 2147483647)), (4, (0, 0, 0, 16))], [], [(54, 6, 0, 16)], [(0, 1, 0), (1, 4, 16), (0, 1, 0)]), [(false, 0)])]
  (by decide +kernel) (List.forall_mem_cons.mpr ⟨SMOK_le (Nat.le_of_ble_eq_true rfl : 1 ≤ 1) (kX11_flag_1 hSP), List.forall_mem_cons.mpr ⟨SMOK_le (Nat.le_of_ble_eq_true rfl : 1 ≤ 1) (kX11_flag_0 hSP), List.forall_mem_cons.mpr ⟨SMOK_le (Nat.le_of_ble_eq_true rfl : 1 ≤ 1) (kX11_in_40 hSP), fun s h => absurd h List.not_mem_nil⟩⟩⟩)
noncomputable def sX11_rocksIn_9 : SM := (mX11_rocksIn, [(2, 54, 0, 0), (0, 0, 0, 4), (0, 0, 1, 999)], [], [([(0, 0, (-2147483648), 2147483647)], [], [])], [])
theorem kX11_rocksIn_9 {SP : CT} (hSP : MONO SP) {sh : List (Nat × Nat)} : SMOK gE gRL sh (CLd SP 2) sX11_rocksIn_9 :=
  chkS hSP [sX11_flag_1, sX11_flag_0, sX11_in_40] 57 [(false, 0)]
  [((5, [(0, (2, 54, 0, 0)), (1, (0, 0, 0, 4)), (2, (0, 0, 1, 999)), (3, (0, 0, (-2147483648), 2147483647)), (4, (0, 0, 0, 16))], [], [(54, 6, 0, 16)], [(0, 1, 0), (1, 4, 16), (0, 1, 0)]), [(false, 0)])]
  (by decide +kernel) (List.forall_mem_cons.mpr ⟨SMOK_le (Nat.le_of_ble_eq_true rfl : 1 ≤ 1) (kX11_flag_1 hSP), List.forall_mem_cons.mpr ⟨SMOK_le (Nat.le_of_ble_eq_true rfl : 1 ≤ 1) (kX11_flag_0 hSP), List.forall_mem_cons.mpr ⟨SMOK_le (Nat.le_of_ble_eq_true rfl : 1 ≤ 1) (kX11_in_40 hSP), fun s h => absurd h List.not_mem_nil⟩⟩⟩)
noncomputable def sX11_rocksIn_10 : SM := (mX11_rocksIn, [(2, 54, 0, 0), (0, 0, 1, 6), (0, 0, 1, 999)], [], [([(0, 0, (-2147483648), 2147483647)], [], [])], [])
theorem kX11_rocksIn_10 {SP : CT} (hSP : MONO SP) {sh : List (Nat × Nat)} : SMOK gE gRL sh (CLd SP 2) sX11_rocksIn_10 :=
  chkS hSP [sX11_flag_1, sX11_flag_0, sX11_in_40] 57 [(false, 0)]
  [((5, [(0, (2, 54, 0, 0)), (1, (0, 0, 1, 6)), (2, (0, 0, 1, 999)), (3, (0, 0, (-2147483648), 2147483647)), (4, (0, 0, 0, 16))], [], [(54, 6, 0, 16)], [(0, 1, 0), (1, 4, 16), (0, 1, 0)]), [(false, 0)])]
  (by decide +kernel) (List.forall_mem_cons.mpr ⟨SMOK_le (Nat.le_of_ble_eq_true rfl : 1 ≤ 1) (kX11_flag_1 hSP), List.forall_mem_cons.mpr ⟨SMOK_le (Nat.le_of_ble_eq_true rfl : 1 ≤ 1) (kX11_flag_0 hSP), List.forall_mem_cons.mpr ⟨SMOK_le (Nat.le_of_ble_eq_true rfl : 1 ≤ 1) (kX11_in_40 hSP), fun s h => absurd h List.not_mem_nil⟩⟩⟩)
noncomputable def sX11_rocksIn_11 : SM := (mX11_rocksIn, [(2, 54, 0, 0), (0, 0, 0, 5), (0, 0, 1, 999)], [], [([(0, 0, (-2147483648), 2147483647)], [], [])], [])
theorem kX11_rocksIn_11 {SP : CT} (hSP : MONO SP) {sh : List (Nat × Nat)} : SMOK gE gRL sh (CLd SP 2) sX11_rocksIn_11 :=
  chkS hSP [sX11_flag_1, sX11_flag_0, sX11_in_40] 57 [(false, 0)]
  [((5, [(0, (2, 54, 0, 0)), (1, (0, 0, 0, 5)), (2, (0, 0, 1, 999)), (3, (0, 0, (-2147483648), 2147483647)), (4, (0, 0, 0, 16))], [], [(54, 6, 0, 16)], [(0, 1, 0), (1, 4, 16), (0, 1, 0)]), [(false, 0)])]
  (by decide +kernel) (List.forall_mem_cons.mpr ⟨SMOK_le (Nat.le_of_ble_eq_true rfl : 1 ≤ 1) (kX11_flag_1 hSP), List.forall_mem_cons.mpr ⟨SMOK_le (Nat.le_of_ble_eq_true rfl : 1 ≤ 1) (kX11_flag_0 hSP), List.forall_mem_cons.mpr ⟨SMOK_le (Nat.le_of_ble_eq_true rfl : 1 ≤ 1) (kX11_in_40 hSP), fun s h => absurd h List.not_mem_nil⟩⟩⟩)
noncomputable def sX11_rocksIn_12 : SM := (mX11_rocksIn, [(2, 54, 0, 0), (0, 0, 1, 7), (0, 0, 1, 999)], [], [([(0, 0, (-2147483648), 2147483647)], [], [])], [])
theorem kX11_rocksIn_12 {SP : CT} (hSP : MONO SP) {sh : List (Nat × Nat)} : SMOK gE gRL sh (CLd SP 2) sX11_rocksIn_12 :=
  chkS hSP [sX11_flag_1, sX11_flag_0, sX11_in_40] 57 [(false, 0)]
  [((5, [(0, (2, 54, 0, 0)), (1, (0, 0, 1, 7)), (2, (0, 0, 1, 999)), (3, (0, 0, (-2147483648), 2147483647)), (4, (0, 0, 0, 16))], [], [(54, 6, 0, 16)], [(0, 1, 0), (1, 4, 16), (0, 1, 0)]), [(false, 0)])]
  (by decide +kernel) (List.forall_mem_cons.mpr ⟨SMOK_le (Nat.le_of_ble_eq_true rfl : 1 ≤ 1) (kX11_flag_1 hSP), List.forall_mem_cons.mpr ⟨SMOK_le (Nat.le_of_ble_eq_true rfl : 1 ≤ 1) (kX11_flag_0 hSP), List.forall_mem_cons.mpr ⟨SMOK_le (Nat.le_of_ble_eq_true rfl : 1 ≤ 1) (kX11_in_40 hSP), fun s h => absurd h List.not_mem_nil⟩⟩⟩)
noncomputable def sX11_rocksIn_13 : SM := (mX11_rocksIn, [(2, 54, 0, 0), (0, 0, 0, 6), (0, 0, 1, 999)], [], [([(0, 0, (-2147483648), 2147483647)], [], [])], [])
theorem kX11_rocksIn_13 {SP : CT} (hSP : MONO SP) {sh : List (Nat × Nat)} : SMOK gE gRL sh (CLd SP 2) sX11_rocksIn_13 :=
  chkS hSP [sX11_flag_1, sX11_flag_0, sX11_in_40] 57 [(false, 0)]
  [((5, [(0, (2, 54, 0, 0)), (1, (0, 0, 0, 6)), (2, (0, 0, 1, 999)), (3, (0, 0, (-2147483648), 2147483647)), (4, (0, 0, 0, 16))], [], [(54, 6, 0, 16)], [(0, 1, 0), (1, 4, 16), (0, 1, 0)]), [(false, 0)])]
  (by decide +kernel) (List.forall_mem_cons.mpr ⟨SMOK_le (Nat.le_of_ble_eq_true rfl : 1 ≤ 1) (kX11_flag_1 hSP), List.forall_mem_cons.mpr ⟨SMOK_le (Nat.le_of_ble_eq_true rfl : 1 ≤ 1) (kX11_flag_0 hSP), List.forall_mem_cons.mpr ⟨SMOK_le (Nat.le_of_ble_eq_true rfl : 1 ≤ 1) (kX11_in_40 hSP), fun s h => absurd h List.not_mem_nil⟩⟩⟩)
noncomputable def sX11_rocksIn_14 : SM := (mX11_rocksIn, [(2, 54, 0, 0), (0, 0, 1, 8), (0, 0, 1, 999)], [], [([(0, 0, (-2147483648), 2147483647)], [], [])], [])
theorem kX11_rocksIn_14 {SP : CT} (hSP : MONO SP) {sh : List (Nat × Nat)} : SMOK gE gRL sh (CLd SP 2) sX11_rocksIn_14 :=
  chkS hSP [sX11_flag_1, sX11_flag_0, sX11_in_40] 57 [(false, 0)]
  [((5, [(0, (2, 54, 0, 0)), (1, (0, 0, 1, 8)), (2, (0, 0, 1, 999)), (3, (0, 0, (-2147483648), 2147483647)), (4, (0, 0, 0, 16))], [], [(54, 6, 0, 16)], [(0, 1, 0), (1, 4, 16), (0, 1, 0)]), [(false, 0)])]
  (by decide +kernel) (List.forall_mem_cons.mpr ⟨SMOK_le (Nat.le_of_ble_eq_true rfl : 1 ≤ 1) (kX11_flag_1 hSP), List.forall_mem_cons.mpr ⟨SMOK_le (Nat.le_of_ble_eq_true rfl : 1 ≤ 1) (kX11_flag_0 hSP), List.forall_mem_cons.mpr ⟨SMOK_le (Nat.le_of_ble_eq_true rfl : 1 ≤ 1) (kX11_in_40 hSP), fun s h => absurd h List.not_mem_nil⟩⟩⟩)
noncomputable def sX11_rocksIn_15 : SM := (mX11_rocksIn, [(2, 54, 0, 0), (0, 0, 0, 7), (0, 0, 1, 999)], [], [([(0, 0, (-2147483648), 2147483647)], [], [])], [])
theorem kX11_rocksIn_15 {SP : CT} (hSP : MONO SP) {sh : List (Nat × Nat)} : SMOK gE gRL sh (CLd SP 2) sX11_rocksIn_15 :=
  chkS hSP [sX11_flag_1, sX11_flag_0, sX11_in_40] 57 [(false, 0)]
  [((5, [(0, (2, 54, 0, 0)), (1, (0, 0, 0, 7)), (2, (0, 0, 1, 999)), (3, (0, 0, (-2147483648), 2147483647)), (4, (0, 0, 0, 16))], [], [(54, 6, 0, 16)], [(0, 1, 0), (1, 4, 16), (0, 1, 0)]), [(false, 0)])]
  (by decide +kernel) (List.forall_mem_cons.mpr ⟨SMOK_le (Nat.le_of_ble_eq_true rfl : 1 ≤ 1) (kX11_flag_1 hSP), List.forall_mem_cons.mpr ⟨SMOK_le (Nat.le_of_ble_eq_true rfl : 1 ≤ 1) (kX11_flag_0 hSP), List.forall_mem_cons.mpr ⟨SMOK_le (Nat.le_of_ble_eq_true rfl : 1 ≤ 1) (kX11_in_40 hSP), fun s h => absurd h List.not_mem_nil⟩⟩⟩)
noncomputable def sX11_rocksIn_16 : SM := (mX11_rocksIn, [(2, 54, 0, 0), (0, 0, 0, 8), (0, 0, 1, 999)], [], [([(0, 0, (-2147483648), 2147483647)], [], [])], [])
theorem kX11_rocksIn_16 {SP : CT} (hSP : MONO SP) {sh : List (Nat × Nat)} : SMOK gE gRL sh (CLd SP 2) sX11_rocksIn_16 :=
  chkS hSP [sX11_flag_1, sX11_flag_0, sX11_in_40] 57 [(false, 0)]
  [((5, [(0, (2, 54, 0, 0)), (1, (0, 0, 0, 8)), (2, (0, 0, 1, 999)), (3, (0, 0, (-2147483648), 2147483647)), (4, (0, 0, 0, 16))], [], [(54, 6, 0, 16)], [(0, 1, 0), (1, 4, 16), (0, 1, 0)]), [(false, 0)])]
  (by decide +kernel) (List.forall_mem_cons.mpr ⟨SMOK_le (Nat.le_of_ble_eq_true rfl : 1 ≤ 1) (kX11_flag_1 hSP), List.forall_mem_cons.mpr ⟨SMOK_le (Nat.le_of_ble_eq_true rfl : 1 ≤ 1) (kX11_flag_0 hSP), List.forall_mem_cons.mpr ⟨SMOK_le (Nat.le_of_ble_eq_true rfl : 1 ≤ 1) (kX11_in_40 hSP), fun s h => absurd h List.not_mem_nil⟩⟩⟩)
noncomputable def sX11_safest_0 : SM := (mX11_safest, [(2, 54, 0, 0), (0, 0, (-2147483648), 2147483647)], [], [([(0, 0, 0, 8)], [(54, 0, 0, 0), (54, 1, 2, 2)], []), ([(0, 0, (-1), (-1))], [(54, 0, 0, 0)], [])], [(0, 54, 0, 1), (1, 55, 0, 1)])
theorem kX11_safest_0 {SP : CT} (hSP : MONO SP) {sh : List (Nat × Nat)} : SMOK gE gRL sh (CLd SP 3) sX11_safest_0 :=
  chkS hSP [sX11_enters_0, sX11_enters_1, sX11_in_39, sX11_rocksIn_0, sX11_rocksIn_1, sX11_rocksIn_2, sX11_rocksIn_3, sX11_rocksIn_4, sX11_rocksIn_5, sX11_rocksIn_6, sX11_rocksIn_7, sX11_rocksIn_8, sX11_rocksIn_9, sX11_rocksIn_10, sX11_rocksIn_11, sX11_rocksIn_12, sX11_rocksIn_13, sX11_rocksIn_14, sX11_rocksIn_15, sX11_rocksIn_16] 77 [(false, 0)]
  [((23, [(0, (2, 54, 0, 0)), (1, (0, 0, 1, 999)), (2, (0, 0, 0, 8)), (3, (0, 0, 1, 9))], [], [(54, 0, 0, 0)], [(0, 1, 0), (1, 3, 9), (0, 1, 0)]), [(false, 0)])]
  (by decide +kernel) (List.forall_mem_cons.mpr ⟨SMOK_le (Nat.le_of_ble_eq_true rfl : 1 ≤ 2) (kX11_enters_0 hSP), List.forall_mem_cons.mpr ⟨SMOK_le (Nat.le_of_ble_eq_true rfl : 1 ≤ 2) (kX11_enters_1 hSP), List.forall_mem_cons.mpr ⟨SMOK_le (Nat.le_of_ble_eq_true rfl : 1 ≤ 2) (kX11_in_39 hSP), List.forall_mem_cons.mpr ⟨SMOK_le (Nat.le_of_ble_eq_true rfl : 2 ≤ 2) (kX11_rocksIn_0 hSP), List.forall_mem_cons.mpr ⟨SMOK_le (Nat.le_of_ble_eq_true rfl : 2 ≤ 2) (kX11_rocksIn_1 hSP), List.forall_mem_cons.mpr ⟨SMOK_le (Nat.le_of_ble_eq_true rfl : 2 ≤ 2) (kX11_rocksIn_2 hSP), List.forall_mem_cons.mpr ⟨SMOK_le (Nat.le_of_ble_eq_true rfl : 2 ≤ 2) (kX11_rocksIn_3 hSP), List.forall_mem_cons.mpr ⟨SMOK_le (Nat.le_of_ble_eq_true rfl : 2 ≤ 2) (kX11_rocksIn_4 hSP), List.forall_mem_cons.mpr ⟨SMOK_le (Nat.le_of_ble_eq_true rfl : 2 ≤ 2) (kX11_rocksIn_5 hSP), List.forall_mem_cons.mpr ⟨SMOK_le (Nat.le_of_ble_eq_true rfl : 2 ≤ 2) (kX11_rocksIn_6 hSP), List.forall_mem_cons.mpr ⟨SMOK_le (Nat.le_of_ble_eq_true rfl : 2 ≤ 2) (kX11_rocksIn_7 hSP), List.forall_mem_cons.mpr ⟨SMOK_le (Nat.le_of_ble_eq_true rfl : 2 ≤ 2) (kX11_rocksIn_8 hSP), List.forall_mem_cons.mpr ⟨SMOK_le (Nat.le_of_ble_eq_true rfl : 2 ≤ 2) (kX11_rocksIn_9 hSP), List.forall_mem_cons.mpr ⟨SMOK_le (Nat.le_of_ble_eq_true rfl : 2 ≤ 2) (kX11_rocksIn_10 hSP), List.forall_mem_cons.mpr ⟨SMOK_le (Nat.le_of_ble_eq_true rfl : 2 ≤ 2) (kX11_rocksIn_11 hSP), List.forall_mem_cons.mpr ⟨SMOK_le (Nat.le_of_ble_eq_true rfl : 2 ≤ 2) (kX11_rocksIn_12 hSP), List.forall_mem_cons.mpr ⟨SMOK_le (Nat.le_of_ble_eq_true rfl : 2 ≤ 2) (kX11_rocksIn_13 hSP), List.forall_mem_cons.mpr ⟨SMOK_le (Nat.le_of_ble_eq_true rfl : 2 ≤ 2) (kX11_rocksIn_14 hSP), List.forall_mem_cons.mpr ⟨SMOK_le (Nat.le_of_ble_eq_true rfl : 2 ≤ 2) (kX11_rocksIn_15 hSP), List.forall_mem_cons.mpr ⟨SMOK_le (Nat.le_of_ble_eq_true rfl : 2 ≤ 2) (kX11_rocksIn_16 hSP), fun s h => absurd h List.not_mem_nil⟩⟩⟩⟩⟩⟩⟩⟩⟩⟩⟩⟩⟩⟩⟩⟩⟩⟩⟩⟩)
noncomputable def sX11_flag_2 : SM := (mX11_flag, [(0, 0, 0, 1)], [], [([(0, 0, 1, 1)], [], []), ([(0, 0, 0, 0)], [], [])], [])
theorem kX11_flag_2 {SP : CT} (hSP : MONO SP) {sh : List (Nat × Nat)} : SMOK gE gRL sh (CLd SP 1) sX11_flag_2 :=
  chkS hSP [] 9 []
  []
  (by decide +kernel) (fun s h => absurd h List.not_mem_nil)
noncomputable def sX11_enters_2 : SM := (mX11_enters, [(2, 54, 0, 0), (1, 0, (-9223372036854775808), 9223372036854775807)], [(54, 1, 2, 2)], [([], [(54, 1, 3, 3)], [])], [(0, 54, 1, 1), (1, 55, 2, 2)])
theorem kX11_enters_2 {SP : CT} (hSP : MONO SP) {sh : List (Nat × Nat)} : SMOK gE gRL sh (CLd SP 1) sX11_enters_2 :=
  chkS hSP [] 15 []
  []
  (by decide +kernel) (fun s h => absurd h List.not_mem_nil)
noncomputable def sX11_enters_3 : SM := (mX11_enters, [(2, 54, 0, 0), (1, 0, (-9223372036854775808), 9223372036854775807)], [(54, 1, 3, 3)], [([], [(54, 1, 4, 4)], [])], [(0, 54, 1, 1), (1, 55, 3, 3)])
theorem kX11_enters_3 {SP : CT} (hSP : MONO SP) {sh : List (Nat × Nat)} : SMOK gE gRL sh (CLd SP 1) sX11_enters_3 :=
  chkS hSP [] 15 []
  []
  (by decide +kernel) (fun s h => absurd h List.not_mem_nil)
noncomputable def sX11_enters_4 : SM := (mX11_enters, [(2, 54, 0, 0), (1, 0, (-9223372036854775808), 9223372036854775807)], [(54, 1, 4, 4)], [([], [(54, 1, 5, 5)], [])], [(0, 54, 1, 1), (1, 55, 4, 4)])
theorem kX11_enters_4 {SP : CT} (hSP : MONO SP) {sh : List (Nat × Nat)} : SMOK gE gRL sh (CLd SP 1) sX11_enters_4 :=
  chkS hSP [] 15 []
  []
  (by decide +kernel) (fun s h => absurd h List.not_mem_nil)
noncomputable def sX11_enters_5 : SM := (mX11_enters, [(2, 54, 0, 0), (1, 0, (-9223372036854775808), 9223372036854775807)], [(54, 1, 5, 5)], [([], [(54, 1, 6, 6)], [])], [(0, 54, 1, 1), (1, 55, 5, 5)])
theorem kX11_enters_5 {SP : CT} (hSP : MONO SP) {sh : List (Nat × Nat)} : SMOK gE gRL sh (CLd SP 1) sX11_enters_5 :=
  chkS hSP [] 15 []
  []
  (by decide +kernel) (fun s h => absurd h List.not_mem_nil)
noncomputable def sX11_enters_6 : SM := (mX11_enters, [(2, 54, 0, 0), (1, 0, (-9223372036854775808), 9223372036854775807)], [(54, 1, 6, 6)], [([], [(54, 1, 7, 7)], [])], [(0, 54, 1, 1), (1, 55, 6, 6)])
theorem kX11_enters_6 {SP : CT} (hSP : MONO SP) {sh : List (Nat × Nat)} : SMOK gE gRL sh (CLd SP 1) sX11_enters_6 :=
  chkS hSP [] 15 []
  []
  (by decide +kernel) (fun s h => absurd h List.not_mem_nil)
noncomputable def sX11_enters_7 : SM := (mX11_enters, [(2, 54, 0, 0), (1, 0, (-9223372036854775808), 9223372036854775807)], [(54, 1, 7, 7)], [([], [(54, 1, 8, 8)], [])], [(0, 54, 1, 1), (1, 55, 7, 7)])
theorem kX11_enters_7 {SP : CT} (hSP : MONO SP) {sh : List (Nat × Nat)} : SMOK gE gRL sh (CLd SP 1) sX11_enters_7 :=
  chkS hSP [] 15 []
  []
  (by decide +kernel) (fun s h => absurd h List.not_mem_nil)
noncomputable def sX11_enters_8 : SM := (mX11_enters, [(2, 54, 0, 0), (1, 0, (-9223372036854775808), 9223372036854775807)], [(54, 1, 8, 8)], [([], [(54, 1, 9, 9)], [])], [(0, 54, 1, 1), (1, 55, 8, 8)])
theorem kX11_enters_8 {SP : CT} (hSP : MONO SP) {sh : List (Nat × Nat)} : SMOK gE gRL sh (CLd SP 1) sX11_enters_8 :=
  chkS hSP [] 15 []
  []
  (by decide +kernel) (fun s h => absurd h List.not_mem_nil)
noncomputable def sX11_enters_9 : SM := (mX11_enters, [(2, 54, 0, 0), (1, 0, (-9223372036854775808), 9223372036854775807)], [(54, 1, 9, 9)], [([], [(54, 1, 10, 10)], [])], [(0, 54, 1, 1), (1, 55, 9, 9)])
theorem kX11_enters_9 {SP : CT} (hSP : MONO SP) {sh : List (Nat × Nat)} : SMOK gE gRL sh (CLd SP 1) sX11_enters_9 :=
  chkS hSP [] 15 []
  []
  (by decide +kernel) (fun s h => absurd h List.not_mem_nil)
noncomputable def sX11_enters_10 : SM := (mX11_enters, [(2, 54, 0, 0), (1, 0, (-9223372036854775808), 9223372036854775807)], [(54, 1, 10, 10)], [([], [(54, 1, 11, 11)], [])], [(0, 54, 1, 1), (1, 55, 10, 10)])
theorem kX11_enters_10 {SP : CT} (hSP : MONO SP) {sh : List (Nat × Nat)} : SMOK gE gRL sh (CLd SP 1) sX11_enters_10 :=
  chkS hSP [] 15 []
  []
  (by decide +kernel) (fun s h => absurd h List.not_mem_nil)
noncomputable def sX11_enters_11 : SM := (mX11_enters, [(2, 54, 0, 0), (1, 0, (-9223372036854775808), 9223372036854775807)], [(54, 1, 11, 11)], [([], [(54, 1, 12, 12)], [])], [(0, 54, 1, 1), (1, 55, 11, 11)])
theorem kX11_enters_11 {SP : CT} (hSP : MONO SP) {sh : List (Nat × Nat)} : SMOK gE gRL sh (CLd SP 1) sX11_enters_11 :=
  chkS hSP [] 15 []
  []
  (by decide +kernel) (fun s h => absurd h List.not_mem_nil)
noncomputable def sX11_enters_12 : SM := (mX11_enters, [(2, 54, 0, 0), (1, 0, (-9223372036854775808), 9223372036854775807)], [(54, 1, 12, 12)], [([], [(54, 1, 13, 13)], [])], [(0, 54, 1, 1), (1, 55, 12, 12)])
theorem kX11_enters_12 {SP : CT} (hSP : MONO SP) {sh : List (Nat × Nat)} : SMOK gE gRL sh (CLd SP 1) sX11_enters_12 :=
  chkS hSP [] 15 []
  []
  (by decide +kernel) (fun s h => absurd h List.not_mem_nil)
noncomputable def sX11_enters_13 : SM := (mX11_enters, [(2, 54, 0, 0), (1, 0, (-9223372036854775808), 9223372036854775807)], [(54, 1, 13, 13)], [([], [(54, 1, 14, 14)], [])], [(0, 54, 1, 1), (1, 55, 13, 13)])
theorem kX11_enters_13 {SP : CT} (hSP : MONO SP) {sh : List (Nat × Nat)} : SMOK gE gRL sh (CLd SP 1) sX11_enters_13 :=
  chkS hSP [] 15 []
  []
  (by decide +kernel) (fun s h => absurd h List.not_mem_nil)
noncomputable def sX11_enters_14 : SM := (mX11_enters, [(2, 54, 0, 0), (1, 0, (-9223372036854775808), 9223372036854775807)], [(54, 1, 14, 14)], [([], [(54, 1, 15, 15)], [])], [(0, 54, 1, 1), (1, 55, 14, 14)])
theorem kX11_enters_14 {SP : CT} (hSP : MONO SP) {sh : List (Nat × Nat)} : SMOK gE gRL sh (CLd SP 1) sX11_enters_14 :=
  chkS hSP [] 15 []
  []
  (by decide +kernel) (fun s h => absurd h List.not_mem_nil)
noncomputable def sX11_enters_15 : SM := (mX11_enters, [(2, 54, 0, 0), (1, 0, (-9223372036854775808), 9223372036854775807)], [(54, 1, 15, 15)], [([], [(54, 1, 16, 16)], [])], [(0, 54, 1, 1), (1, 55, 15, 15)])
theorem kX11_enters_15 {SP : CT} (hSP : MONO SP) {sh : List (Nat × Nat)} : SMOK gE gRL sh (CLd SP 1) sX11_enters_15 :=
  chkS hSP [] 15 []
  []
  (by decide +kernel) (fun s h => absurd h List.not_mem_nil)
noncomputable def sX11_enters_16 : SM := (mX11_enters, [(2, 54, 0, 0), (1, 0, (-9223372036854775808), 9223372036854775807)], [(54, 1, 16, 16)], [([], [(54, 1, 17, 17)], [])], [(0, 54, 1, 1), (1, 55, 16, 16)])
theorem kX11_enters_16 {SP : CT} (hSP : MONO SP) {sh : List (Nat × Nat)} : SMOK gE gRL sh (CLd SP 1) sX11_enters_16 :=
  chkS hSP [] 15 []
  []
  (by decide +kernel) (fun s h => absurd h List.not_mem_nil)
noncomputable def sX11_enters_17 : SM := (mX11_enters, [(2, 54, 0, 0), (1, 0, (-9223372036854775808), 9223372036854775807)], [(54, 1, 17, 17)], [([], [(54, 1, 18, 18)], [])], [(0, 54, 1, 1), (1, 55, 17, 17)])
theorem kX11_enters_17 {SP : CT} (hSP : MONO SP) {sh : List (Nat × Nat)} : SMOK gE gRL sh (CLd SP 1) sX11_enters_17 :=
  chkS hSP [] 15 []
  []
  (by decide +kernel) (fun s h => absurd h List.not_mem_nil)
noncomputable def sX11_enters_18 : SM := (mX11_enters, [(2, 54, 0, 0), (1, 0, (-9223372036854775808), 9223372036854775807)], [(54, 1, 18, 18)], [([], [(54, 1, 19, 19)], [])], [(0, 54, 1, 1), (1, 55, 18, 18)])
theorem kX11_enters_18 {SP : CT} (hSP : MONO SP) {sh : List (Nat × Nat)} : SMOK gE gRL sh (CLd SP 1) sX11_enters_18 :=
  chkS hSP [] 15 []
  []
  (by decide +kernel) (fun s h => absurd h List.not_mem_nil)
noncomputable def sX11_enters_19 : SM := (mX11_enters, [(2, 54, 0, 0), (1, 0, (-9223372036854775808), 9223372036854775807)], [(54, 1, 19, 19)], [([], [(54, 1, 20, 20)], [])], [(0, 54, 1, 1), (1, 55, 19, 19)])
theorem kX11_enters_19 {SP : CT} (hSP : MONO SP) {sh : List (Nat × Nat)} : SMOK gE gRL sh (CLd SP 1) sX11_enters_19 :=
  chkS hSP [] 15 []
  []
  (by decide +kernel) (fun s h => absurd h List.not_mem_nil)
noncomputable def sX11_enters_20 : SM := (mX11_enters, [(2, 54, 0, 0), (1, 0, (-9223372036854775808), 9223372036854775807)], [(54, 1, 20, 20)], [([], [(54, 1, 21, 21)], [])], [(0, 54, 1, 1), (1, 55, 20, 20)])
theorem kX11_enters_20 {SP : CT} (hSP : MONO SP) {sh : List (Nat × Nat)} : SMOK gE gRL sh (CLd SP 1) sX11_enters_20 :=
  chkS hSP [] 15 []
  []
  (by decide +kernel) (fun s h => absurd h List.not_mem_nil)
noncomputable def sX11_enters_21 : SM := (mX11_enters, [(2, 54, 0, 0), (1, 0, (-9223372036854775808), 9223372036854775807)], [(54, 1, 21, 21)], [([], [(54, 1, 22, 22)], [])], [(0, 54, 1, 1), (1, 55, 21, 21)])
theorem kX11_enters_21 {SP : CT} (hSP : MONO SP) {sh : List (Nat × Nat)} : SMOK gE gRL sh (CLd SP 1) sX11_enters_21 :=
  chkS hSP [] 15 []
  []
  (by decide +kernel) (fun s h => absurd h List.not_mem_nil)
noncomputable def sX11_enters_22 : SM := (mX11_enters, [(2, 54, 0, 0), (1, 0, (-9223372036854775808), 9223372036854775807)], [(54, 1, 22, 22)], [([], [(54, 1, 23, 23)], [])], [(0, 54, 1, 1), (1, 55, 22, 22)])
theorem kX11_enters_22 {SP : CT} (hSP : MONO SP) {sh : List (Nat × Nat)} : SMOK gE gRL sh (CLd SP 1) sX11_enters_22 :=
  chkS hSP [] 15 []
  []
  (by decide +kernel) (fun s h => absurd h List.not_mem_nil)
noncomputable def sX11_enters_23 : SM := (mX11_enters, [(2, 54, 0, 0), (1, 0, (-9223372036854775808), 9223372036854775807)], [(54, 1, 23, 23)], [([], [(54, 1, 24, 24)], [])], [(0, 54, 1, 1), (1, 55, 23, 23)])
theorem kX11_enters_23 {SP : CT} (hSP : MONO SP) {sh : List (Nat × Nat)} : SMOK gE gRL sh (CLd SP 1) sX11_enters_23 :=
  chkS hSP [] 15 []
  []
  (by decide +kernel) (fun s h => absurd h List.not_mem_nil)
noncomputable def sX11_enters_24 : SM := (mX11_enters, [(2, 54, 0, 0), (1, 0, (-9223372036854775808), 9223372036854775807)], [(54, 1, 24, 24)], [([], [(54, 1, 25, 25)], [])], [(0, 54, 1, 1), (1, 55, 24, 24)])
theorem kX11_enters_24 {SP : CT} (hSP : MONO SP) {sh : List (Nat × Nat)} : SMOK gE gRL sh (CLd SP 1) sX11_enters_24 :=
  chkS hSP [] 15 []
  []
  (by decide +kernel) (fun s h => absurd h List.not_mem_nil)
noncomputable def sX11_enters_25 : SM := (mX11_enters, [(2, 54, 0, 0), (1, 0, (-9223372036854775808), 9223372036854775807)], [(54, 1, 25, 25)], [([], [(54, 1, 26, 26)], [])], [(0, 54, 1, 1), (1, 55, 25, 25)])
theorem kX11_enters_25 {SP : CT} (hSP : MONO SP) {sh : List (Nat × Nat)} : SMOK gE gRL sh (CLd SP 1) sX11_enters_25 :=
  chkS hSP [] 15 []
  []
  (by decide +kernel) (fun s h => absurd h List.not_mem_nil)
noncomputable def sX11_enters_26 : SM := (mX11_enters, [(2, 54, 0, 0), (1, 0, (-9223372036854775808), 9223372036854775807)], [(54, 1, 26, 26)], [([], [(54, 1, 27, 27)], [])], [(0, 54, 1, 1), (1, 55, 26, 26)])
theorem kX11_enters_26 {SP : CT} (hSP : MONO SP) {sh : List (Nat × Nat)} : SMOK gE gRL sh (CLd SP 1) sX11_enters_26 :=
  chkS hSP [] 15 []
  []
  (by decide +kernel) (fun s h => absurd h List.not_mem_nil)
noncomputable def sX11_enters_27 : SM := (mX11_enters, [(2, 54, 0, 0), (1, 0, (-9223372036854775808), 9223372036854775807)], [(54, 1, 27, 27)], [([], [(54, 1, 28, 28)], [])], [(0, 54, 1, 1), (1, 55, 27, 27)])
theorem kX11_enters_27 {SP : CT} (hSP : MONO SP) {sh : List (Nat × Nat)} : SMOK gE gRL sh (CLd SP 1) sX11_enters_27 :=
  chkS hSP [] 15 []
  []
  (by decide +kernel) (fun s h => absurd h List.not_mem_nil)
noncomputable def sX11_enters_28 : SM := (mX11_enters, [(2, 54, 0, 0), (1, 0, (-9223372036854775808), 9223372036854775807)], [(54, 1, 28, 28)], [([], [(54, 1, 29, 29)], [])], [(0, 54, 1, 1), (1, 55, 28, 28)])
theorem kX11_enters_28 {SP : CT} (hSP : MONO SP) {sh : List (Nat × Nat)} : SMOK gE gRL sh (CLd SP 1) sX11_enters_28 :=
  chkS hSP [] 15 []
  []
  (by decide +kernel) (fun s h => absurd h List.not_mem_nil)
noncomputable def sX11_enters_29 : SM := (mX11_enters, [(2, 54, 0, 0), (1, 0, (-9223372036854775808), 9223372036854775807)], [(54, 1, 29, 29)], [([], [(54, 1, 30, 30)], [])], [(0, 54, 1, 1), (1, 55, 29, 29)])
theorem kX11_enters_29 {SP : CT} (hSP : MONO SP) {sh : List (Nat × Nat)} : SMOK gE gRL sh (CLd SP 1) sX11_enters_29 :=
  chkS hSP [] 15 []
  []
  (by decide +kernel) (fun s h => absurd h List.not_mem_nil)
noncomputable def sX11_in_41 : SM := (mX11_in, [(1, 0, (-2147483648), (-1)), (1, 0, 0, 0), (1, 0, 12, 12)], [], [([(0, 0, 0, 0)], [], [])], [])
theorem kX11_in_41 {SP : CT} (hSP : MONO SP) {sh : List (Nat × Nat)} : SMOK gE gRL sh (CLd SP 1) sX11_in_41 :=
  chkS hSP [] 8 []
  []
  (by decide +kernel) (fun s h => absurd h List.not_mem_nil)
noncomputable def sX11_in_42 : SM := (mX11_in, [(1, 0, 0, 12), (1, 0, 0, 0), (1, 0, 12, 12)], [], [([(0, 0, 1, 1)], [], [])], [])
theorem kX11_in_42 {SP : CT} (hSP : MONO SP) {sh : List (Nat × Nat)} : SMOK gE gRL sh (CLd SP 1) sX11_in_42 :=
  chkS hSP [] 13 []
  []
  (by decide +kernel) (fun s h => absurd h List.not_mem_nil)
noncomputable def sX11_in_43 : SM := (mX11_in, [(1, 0, 13, 2147483647), (1, 0, 0, 0), (1, 0, 12, 12)], [], [([(0, 0, 0, 0)], [], [])], [])
theorem kX11_in_43 {SP : CT} (hSP : MONO SP) {sh : List (Nat × Nat)} : SMOK gE gRL sh (CLd SP 1) sX11_in_43 :=
  chkS hSP [] 12 []
  []
  (by decide +kernel) (fun s h => absurd h List.not_mem_nil)
noncomputable def sX11_in_44 : SM := (jn 1 0 (-2147483648) (-1) 2147483647 [(1, 0, (-2147483648), 2147483647), (1, 0, 0, 0), (1, 0, 12, 12)] sX11_in_41 (jn 1 0 0 12 2147483647 [(1, 0, 0, 2147483647), (1, 0, 0, 0), (1, 0, 12, 12)] sX11_in_42 sX11_in_43))
theorem kX11_in_44 {SP : CT} (hSP : MONO SP) {sh : List (Nat × Nat)} : SMOK gE gRL sh (CLd SP 1) sX11_in_44 :=
  SMOK_jn (MONO_CLd hSP 1) 1 (by decide) 0 (-2147483648) (-1) 2147483647 (as := [(1, 0, (-2147483648), 2147483647), (1, 0, 0, 0), (1, 0, 12, 12)]) rfl rfl rfl rfl rfl rfl rfl (SMOK_le (Nat.le_of_ble_eq_true rfl : 1 ≤ 1) (kX11_in_41 hSP)) (SMOK_jn (MONO_CLd hSP 1) 1 (by decide) 0 0 12 2147483647 (as := [(1, 0, 0, 2147483647), (1, 0, 0, 0), (1, 0, 12, 12)]) rfl rfl rfl rfl rfl rfl rfl (SMOK_le (Nat.le_of_ble_eq_true rfl : 1 ≤ 1) (kX11_in_42 hSP)) (SMOK_le (Nat.le_of_ble_eq_true rfl : 1 ≤ 1) (kX11_in_43 hSP)))
noncomputable def sX11_in_45 : SM := (mX11_in, [(1, 0, (-2147483648), 0), (1, 0, 1, 1), (1, 0, 39, 39)], [], [([(0, 0, 0, 0)], [], [])], [])
theorem kX11_in_45 {SP : CT} (hSP : MONO SP) {sh : List (Nat × Nat)} : SMOK gE gRL sh (CLd SP 1) sX11_in_45 :=
  chkS hSP [] 8 []
  []
  (by decide +kernel) (fun s h => absurd h List.not_mem_nil)
noncomputable def sX11_in_46 : SM := (mX11_in, [(1, 0, 1, 39), (1, 0, 1, 1), (1, 0, 39, 39)], [], [([(0, 0, 1, 1)], [], [])], [])
theorem kX11_in_46 {SP : CT} (hSP : MONO SP) {sh : List (Nat × Nat)} : SMOK gE gRL sh (CLd SP 1) sX11_in_46 :=
  chkS hSP [] 13 []
  []
  (by decide +kernel) (fun s h => absurd h List.not_mem_nil)
noncomputable def sX11_in_47 : SM := (mX11_in, [(1, 0, 40, 2147483647), (1, 0, 1, 1), (1, 0, 39, 39)], [], [([(0, 0, 0, 0)], [], [])], [])
theorem kX11_in_47 {SP : CT} (hSP : MONO SP) {sh : List (Nat × Nat)} : SMOK gE gRL sh (CLd SP 1) sX11_in_47 :=
  chkS hSP [] 12 []
  []
  (by decide +kernel) (fun s h => absurd h List.not_mem_nil)
noncomputable def sX11_in_48 : SM := (jn 1 0 (-2147483648) 0 2147483647 [(1, 0, (-2147483648), 2147483647), (1, 0, 1, 1), (1, 0, 39, 39)] sX11_in_45 (jn 1 0 1 39 2147483647 [(1, 0, 1, 2147483647), (1, 0, 1, 1), (1, 0, 39, 39)] sX11_in_46 sX11_in_47))
theorem kX11_in_48 {SP : CT} (hSP : MONO SP) {sh : List (Nat × Nat)} : SMOK gE gRL sh (CLd SP 1) sX11_in_48 :=
  SMOK_jn (MONO_CLd hSP 1) 1 (by decide) 0 (-2147483648) 0 2147483647 (as := [(1, 0, (-2147483648), 2147483647), (1, 0, 1, 1), (1, 0, 39, 39)]) rfl rfl rfl rfl rfl rfl rfl (SMOK_le (Nat.le_of_ble_eq_true rfl : 1 ≤ 1) (kX11_in_45 hSP)) (SMOK_jn (MONO_CLd hSP 1) 1 (by decide) 0 1 39 2147483647 (as := [(1, 0, 1, 2147483647), (1, 0, 1, 1), (1, 0, 39, 39)]) rfl rfl rfl rfl rfl rfl rfl (SMOK_le (Nat.le_of_ble_eq_true rfl : 1 ≤ 1) (kX11_in_46 hSP)) (SMOK_le (Nat.le_of_ble_eq_true rfl : 1 ≤ 1) (kX11_in_47 hSP)))
noncomputable def sX11_postsFor_0 : SM := (mX11_postsFor, [(2, 54, 0, 0), (0, 0, 1, 39)], [], [([(0, 0, (-1), 76)], [], [])], [])
theorem kX11_postsFor_0 {SP : CT} (hSP : MONO SP) {sh : List (Nat × Nat)} : SMOK gE gRL sh (CLd SP 1) sX11_postsFor_0 :=
  chkS hSP [] 15 []
  []
  (by decide +kernel) (fun s h => absurd h List.not_mem_nil)
noncomputable def sX11_fewest_0 : SM := (mX11_fewest, [(2, 54, 0, 0), (0, 0, (-2147483648), 2147483647)], [], [([(0, 0, (-1), (-1))], [(54, 0, 0, 0)], []), ([(0, 0, (-1), 76)], [(54, 0, 0, 0)], [])], [(0, 54, 0, 0)])
theorem kX11_fewest_0 {SP : CT} (hSP : MONO SP) {sh : List (Nat × Nat)} : SMOK gE gRL sh (CLd SP 2) sX11_fewest_0 :=
  chkS hSP [sX11_in_48, sX11_postsFor_0] 22 []
  []
  (by decide +kernel) (List.forall_mem_cons.mpr ⟨SMOK_le (Nat.le_of_ble_eq_true rfl : 1 ≤ 1) (kX11_in_48 hSP), List.forall_mem_cons.mpr ⟨SMOK_le (Nat.le_of_ble_eq_true rfl : 1 ≤ 1) (kX11_postsFor_0 hSP), fun s h => absurd h List.not_mem_nil⟩⟩)
noncomputable def sX11_in_49 : SM := (mX11_in, [(1, 0, (-2147483648), (-1)), (1, 0, 0, 0), (1, 0, 10, 10)], [], [([(0, 0, 0, 0)], [], [])], [])
theorem kX11_in_49 {SP : CT} (hSP : MONO SP) {sh : List (Nat × Nat)} : SMOK gE gRL sh (CLd SP 1) sX11_in_49 :=
  chkS hSP [] 8 []
  []
  (by decide +kernel) (fun s h => absurd h List.not_mem_nil)
noncomputable def sX11_in_50 : SM := (mX11_in, [(1, 0, 0, 10), (1, 0, 0, 0), (1, 0, 10, 10)], [], [([(0, 0, 1, 1)], [], [])], [])
theorem kX11_in_50 {SP : CT} (hSP : MONO SP) {sh : List (Nat × Nat)} : SMOK gE gRL sh (CLd SP 1) sX11_in_50 :=
  chkS hSP [] 13 []
  []
  (by decide +kernel) (fun s h => absurd h List.not_mem_nil)
noncomputable def sX11_in_51 : SM := (mX11_in, [(1, 0, 11, 2147483647), (1, 0, 0, 0), (1, 0, 10, 10)], [], [([(0, 0, 0, 0)], [], [])], [])
theorem kX11_in_51 {SP : CT} (hSP : MONO SP) {sh : List (Nat × Nat)} : SMOK gE gRL sh (CLd SP 1) sX11_in_51 :=
  chkS hSP [] 12 []
  []
  (by decide +kernel) (fun s h => absurd h List.not_mem_nil)
noncomputable def sX11_in_52 : SM := (jn 1 0 (-2147483648) (-1) 2147483647 [(1, 0, (-2147483648), 2147483647), (1, 0, 0, 0), (1, 0, 10, 10)] sX11_in_49 (jn 1 0 0 10 2147483647 [(1, 0, 0, 2147483647), (1, 0, 0, 0), (1, 0, 10, 10)] sX11_in_50 sX11_in_51))
theorem kX11_in_52 {SP : CT} (hSP : MONO SP) {sh : List (Nat × Nat)} : SMOK gE gRL sh (CLd SP 1) sX11_in_52 :=
  SMOK_jn (MONO_CLd hSP 1) 1 (by decide) 0 (-2147483648) (-1) 2147483647 (as := [(1, 0, (-2147483648), 2147483647), (1, 0, 0, 0), (1, 0, 10, 10)]) rfl rfl rfl rfl rfl rfl rfl (SMOK_le (Nat.le_of_ble_eq_true rfl : 1 ≤ 1) (kX11_in_49 hSP)) (SMOK_jn (MONO_CLd hSP 1) 1 (by decide) 0 0 10 2147483647 (as := [(1, 0, 0, 2147483647), (1, 0, 0, 0), (1, 0, 10, 10)]) rfl rfl rfl rfl rfl rfl rfl (SMOK_le (Nat.le_of_ble_eq_true rfl : 1 ≤ 1) (kX11_in_50 hSP)) (SMOK_le (Nat.le_of_ble_eq_true rfl : 1 ≤ 1) (kX11_in_51 hSP)))
noncomputable def sX11_in_53 : SM := (mX11_in, [(1, 0, (-2147483648), (-1)), (1, 0, 0, 0), (1, 0, 100, 100)], [], [([(0, 0, 0, 0)], [], [])], [])
theorem kX11_in_53 {SP : CT} (hSP : MONO SP) {sh : List (Nat × Nat)} : SMOK gE gRL sh (CLd SP 1) sX11_in_53 :=
  chkS hSP [] 8 []
  []
  (by decide +kernel) (fun s h => absurd h List.not_mem_nil)
noncomputable def sX11_in_54 : SM := (mX11_in, [(1, 0, 0, 100), (1, 0, 0, 0), (1, 0, 100, 100)], [], [([(0, 0, 1, 1)], [], [])], [])
theorem kX11_in_54 {SP : CT} (hSP : MONO SP) {sh : List (Nat × Nat)} : SMOK gE gRL sh (CLd SP 1) sX11_in_54 :=
  chkS hSP [] 13 []
  []
  (by decide +kernel) (fun s h => absurd h List.not_mem_nil)
noncomputable def sX11_in_55 : SM := (mX11_in, [(1, 0, 101, 2147483647), (1, 0, 0, 0), (1, 0, 100, 100)], [], [([(0, 0, 0, 0)], [], [])], [])
theorem kX11_in_55 {SP : CT} (hSP : MONO SP) {sh : List (Nat × Nat)} : SMOK gE gRL sh (CLd SP 1) sX11_in_55 :=
  chkS hSP [] 12 []
  []
  (by decide +kernel) (fun s h => absurd h List.not_mem_nil)
noncomputable def sX11_in_56 : SM := (jn 1 0 (-2147483648) (-1) 2147483647 [(1, 0, (-2147483648), 2147483647), (1, 0, 0, 0), (1, 0, 100, 100)] sX11_in_53 (jn 1 0 0 100 2147483647 [(1, 0, 0, 2147483647), (1, 0, 0, 0), (1, 0, 100, 100)] sX11_in_54 sX11_in_55))
theorem kX11_in_56 {SP : CT} (hSP : MONO SP) {sh : List (Nat × Nat)} : SMOK gE gRL sh (CLd SP 1) sX11_in_56 :=
  SMOK_jn (MONO_CLd hSP 1) 1 (by decide) 0 (-2147483648) (-1) 2147483647 (as := [(1, 0, (-2147483648), 2147483647), (1, 0, 0, 0), (1, 0, 100, 100)]) rfl rfl rfl rfl rfl rfl rfl (SMOK_le (Nat.le_of_ble_eq_true rfl : 1 ≤ 1) (kX11_in_53 hSP)) (SMOK_jn (MONO_CLd hSP 1) 1 (by decide) 0 0 100 2147483647 (as := [(1, 0, 0, 2147483647), (1, 0, 0, 0), (1, 0, 100, 100)]) rfl rfl rfl rfl rfl rfl rfl (SMOK_le (Nat.le_of_ble_eq_true rfl : 1 ≤ 1) (kX11_in_54 hSP)) (SMOK_le (Nat.le_of_ble_eq_true rfl : 1 ≤ 1) (kX11_in_55 hSP)))
noncomputable def sX11_bets_0 : SM := (mX11_bets, [(2, 54, 0, 0), (0, 0, 1, 1), (0, 0, 0, 10)], [], [([], [], [])], [(1, 54, 39, 40)])
theorem kX11_bets_0 {SP : CT} (hSP : MONO SP) {sh : List (Nat × Nat)} : SMOK gE gRL sh (CLd SP 1) sX11_bets_0 :=
  chkS hSP [] 25 [(false, 0)]
  [((12, [(0, (2, 54, 0, 0)), (1, (0, 0, 1, 1)), (2, (0, 0, 0, 10)), (3, (0, 0, 0, 0))], [], [], [(0, 6, 0)]), [(false, 1)]), ((12, [(0, (2, 54, 0, 0)), (1, (0, 0, 1, 1)), (2, (0, 0, 0, 10)), (3, (0, 0, 1, 1))], [], [], [(0, 5, 0)]), [(false, 1)]), ((37, [(0, (2, 54, 0, 0)), (1, (0, 0, 1, 1)), (2, (0, 0, 0, 10)), (3, (0, 0, 0, 0))], [], [], [(0, 4, 0)]), [(false, 1)]), ((50, [(0, (2, 54, 0, 0)), (1, (0, 0, 1, 1)), (2, (0, 0, 0, 10)), (3, (0, 0, 0, 0)), (4, (1, 0, 1, 1)), (6, (0, 0, 0, 0))], [], [], [(0, 3, 0)]), [(false, 1)]), ((81, [(0, (2, 54, 0, 0)), (1, (0, 0, 1, 1)), (2, (0, 0, 0, 10)), (3, (0, 0, 0, 0)), (4, (1, 0, (-9223372036854775808), 9223372036854775807)), (6, (0, 0, 0, 1))], [], [], [(0, 2, 0), (1, 6, 1), (0, 1, 0)]), [(false, 0), (false, 1)]), ((37, [(0, (2, 54, 0, 0)), (1, (0, 0, 1, 1)), (2, (0, 0, 0, 10)), (3, (0, 0, 1, 1)), (4, (1, 0, (-9223372036854775808), 9223372036854775807)), (6, (0, 0, 1, 1))], [], [], [(0, 1, 0)]), [])]
  (by decide +kernel) (fun s h => absurd h List.not_mem_nil)
noncomputable def sX11_bets_1 : SM := (mX11_bets, [(2, 54, 0, 0), (0, 0, 3, 3), (0, 0, 0, 10)], [], [([], [], [])], [(1, 54, 39, 40)])
theorem kX11_bets_1 {SP : CT} (hSP : MONO SP) {sh : List (Nat × Nat)} : SMOK gE gRL sh (CLd SP 1) sX11_bets_1 :=
  chkS hSP [] 32 [(false, 0)]
  [((12, [(0, (2, 54, 0, 0)), (1, (0, 0, 3, 3)), (2, (0, 0, 0, 10)), (3, (0, 0, 0, 0))], [], [], [(0, 11, 0)]), [(false, 1)]), ((12, [(0, (2, 54, 0, 0)), (1, (0, 0, 3, 3)), (2, (0, 0, 0, 10)), (3, (0, 0, 1, 1))], [], [], [(0, 10, 0)]), [(false, 1)]), ((12, [(0, (2, 54, 0, 0)), (1, (0, 0, 3, 3)), (2, (0, 0, 0, 10)), (3, (0, 0, 2, 2))], [], [], [(0, 9, 0)]), [(false, 1)]), ((12, [(0, (2, 54, 0, 0)), (1, (0, 0, 3, 3)), (2, (0, 0, 0, 10)), (3, (0, 0, 3, 3))], [], [], [(0, 8, 0)]), [(false, 1)]), ((37, [(0, (2, 54, 0, 0)), (1, (0, 0, 3, 3)), (2, (0, 0, 0, 10)), (3, (0, 0, 0, 0))], [], [], [(0, 7, 0)]), [(false, 1)]), ((50, [(0, (2, 54, 0, 0)), (1, (0, 0, 3, 3)), (2, (0, 0, 0, 10)), (3, (0, 0, 0, 0)), (4, (1, 0, 1, 1)), (6, (0, 0, 0, 0))], [], [], [(0, 6, 0)]), [(false, 1)]), ((81, [(0, (2, 54, 0, 0)), (1, (0, 0, 3, 3)), (2, (0, 0, 0, 10)), (3, (0, 0, 0, 0)), (4, (1, 0, (-9223372036854775808), 9223372036854775807)), (6, (0, 0, 0, 3))], [], [], [(0, 5, 0), (1, 6, 3), (0, 1, 0)]), [(false, 0), (false, 1)]), ((37, [(0, (2, 54, 0, 0)), (1, (0, 0, 3, 3)), (2, (0, 0, 0, 10)), (3, (0, 0, 1, 1)), (4, (1, 0, (-9223372036854775808), 9223372036854775807)), (6, (0, 0, 3, 3))], [], [], [(0, 4, 0)]), [(false, 1)]), ((50, [(0, (2, 54, 0, 0)), (1, (0, 0, 3, 3)), (2, (0, 0, 0, 10)), (3, (0, 0, 1, 1)), (4, (1, 0, (-9223372036854775808), 9223372036854775807)), (6, (0, 0, 0, 1))], [], [], [(0, 3, 0), (1, 6, 1), (0, 1, 0)]), [(false, 0), (false, 1)]), ((81, [(0, (2, 54, 0, 0)), (1, (0, 0, 3, 3)), (2, (0, 0, 0, 10)), (3, (0, 0, 1, 1)), (4, (1, 0, (-9223372036854775808), 9223372036854775807)), (6, (0, 0, 0, 3))], [], [], [(0, 2, 0), (1, 6, 3), (0, 1, 0)]), [(false, 0), (false, 1)]), ((37, [(0, (2, 54, 0, 0)), (1, (0, 0, 3, 3)), (2, (0, 0, 0, 10)), (3, (0, 0, 2, 2)), (4, (1, 0, (-9223372036854775808), 9223372036854775807)), (6, (0, 0, 3, 3))], [], [], [(0, 1, 0)]), [])]
  (by decide +kernel) (fun s h => absurd h List.not_mem_nil)
noncomputable def sX11_bets_2 : SM := (mX11_bets, [(2, 54, 0, 0), (0, 0, 5, 5), (0, 0, 0, 10)], [], [([], [], [])], [(1, 54, 39, 40)])
theorem kX11_bets_2 {SP : CT} (hSP : MONO SP) {sh : List (Nat × Nat)} : SMOK gE gRL sh (CLd SP 1) sX11_bets_2 :=
  chkS hSP [] 32 [(false, 0)]
  [((12, [(0, (2, 54, 0, 0)), (1, (0, 0, 5, 5)), (2, (0, 0, 0, 10)), (3, (0, 0, 0, 0))], [], [], [(0, 16, 0)]), [(false, 1)]), ((12, [(0, (2, 54, 0, 0)), (1, (0, 0, 5, 5)), (2, (0, 0, 0, 10)), (3, (0, 0, 1, 1))], [], [], [(0, 15, 0)]), [(false, 1)]), ((12, [(0, (2, 54, 0, 0)), (1, (0, 0, 5, 5)), (2, (0, 0, 0, 10)), (3, (0, 0, 2, 2))], [], [], [(0, 14, 0)]), [(false, 1)]), ((12, [(0, (2, 54, 0, 0)), (1, (0, 0, 5, 5)), (2, (0, 0, 0, 10)), (3, (0, 0, 3, 3))], [], [], [(0, 13, 0)]), [(false, 1)]), ((12, [(0, (2, 54, 0, 0)), (1, (0, 0, 5, 5)), (2, (0, 0, 0, 10)), (3, (0, 0, 4, 4))], [], [], [(0, 12, 0)]), [(false, 1)]), ((12, [(0, (2, 54, 0, 0)), (1, (0, 0, 5, 5)), (2, (0, 0, 0, 10)), (3, (0, 0, 5, 5))], [], [], [(0, 11, 0)]), [(false, 1)]), ((37, [(0, (2, 54, 0, 0)), (1, (0, 0, 5, 5)), (2, (0, 0, 0, 10)), (3, (0, 0, 0, 0))], [], [], [(0, 10, 0)]), [(false, 1)]), ((50, [(0, (2, 54, 0, 0)), (1, (0, 0, 5, 5)), (2, (0, 0, 0, 10)), (3, (0, 0, 0, 0)), (4, (1, 0, 1, 1)), (6, (0, 0, 0, 0))], [], [], [(0, 9, 0)]), [(false, 1)]), ((81, [(0, (2, 54, 0, 0)), (1, (0, 0, 5, 5)), (2, (0, 0, 0, 10)), (3, (0, 0, 0, 0)), (4, (1, 0, (-9223372036854775808), 9223372036854775807)), (6, (0, 0, 0, 5))], [], [], [(0, 8, 0), (1, 6, 5), (0, 1, 0)]), [(false, 0), (false, 1)]), ((37, [(0, (2, 54, 0, 0)), (1, (0, 0, 5, 5)), (2, (0, 0, 0, 10)), (3, (0, 0, 1, 1)), (4, (1, 0, (-9223372036854775808), 9223372036854775807)), (6, (0, 0, 5, 5))], [], [], [(0, 7, 0)]), [(false, 1)]), ((50, [(0, (2, 54, 0, 0)), (1, (0, 0, 5, 5)), (2, (0, 0, 0, 10)), (3, (0, 0, 1, 1)), (4, (1, 0, (-9223372036854775808), 9223372036854775807)), (6, (0, 0, 0, 1))], [], [], [(0, 6, 0), (1, 6, 1), (0, 1, 0)]), [(false, 0), (false, 1)]), ((81, [(0, (2, 54, 0, 0)), (1, (0, 0, 5, 5)), (2, (0, 0, 0, 10)), (3, (0, 0, 1, 1)), (4, (1, 0, (-9223372036854775808), 9223372036854775807)), (6, (0, 0, 0, 5))], [], [], [(0, 5, 0), (1, 6, 5), (0, 1, 0)]), [(false, 0), (false, 1)]), ((37, [(0, (2, 54, 0, 0)), (1, (0, 0, 5, 5)), (2, (0, 0, 0, 10)), (3, (0, 0, 2, 2)), (4, (1, 0, (-9223372036854775808), 9223372036854775807)), (6, (0, 0, 5, 5))], [], [], [(0, 4, 0)]), [(false, 1)]), ((50, [(0, (2, 54, 0, 0)), (1, (0, 0, 5, 5)), (2, (0, 0, 0, 10)), (3, (0, 0, 2, 2)), (4, (1, 0, (-9223372036854775808), 9223372036854775807)), (6, (0, 0, 0, 2))], [], [], [(0, 3, 0), (1, 6, 2), (0, 1, 0)]), [(false, 0), (false, 1)]), ((81, [(0, (2, 54, 0, 0)), (1, (0, 0, 5, 5)), (2, (0, 0, 0, 10)), (3, (0, 0, 2, 2)), (4, (1, 0, (-9223372036854775808), 9223372036854775807)), (6, (0, 0, 0, 5))], [], [], [(0, 2, 0), (1, 6, 5), (0, 1, 0)]), [(false, 0), (false, 1)]), ((37, [(0, (2, 54, 0, 0)), (1, (0, 0, 5, 5)), (2, (0, 0, 0, 10)), (3, (0, 0, 3, 3)), (4, (1, 0, (-9223372036854775808), 9223372036854775807)), (6, (0, 0, 5, 5))], [], [], [(0, 1, 0)]), [])]
  (by decide +kernel) (fun s h => absurd h List.not_mem_nil)
noncomputable def sX11_bets_3 : SM := (mX11_bets, [(2, 54, 0, 0), (0, 0, 7, 7), (0, 0, 0, 10)], [], [([], [], [])], [(1, 54, 39, 40)])
theorem kX11_bets_3 {SP : CT} (hSP : MONO SP) {sh : List (Nat × Nat)} : SMOK gE gRL sh (CLd SP 1) sX11_bets_3 :=
  chkS hSP [] 32 [(false, 0)]
  [((12, [(0, (2, 54, 0, 0)), (1, (0, 0, 7, 7)), (2, (0, 0, 0, 10)), (3, (0, 0, 0, 0))], [], [], [(0, 21, 0)]), [(false, 1)]), ((12, [(0, (2, 54, 0, 0)), (1, (0, 0, 7, 7)), (2, (0, 0, 0, 10)), (3, (0, 0, 1, 1))], [], [], [(0, 20, 0)]), [(false, 1)]), ((12, [(0, (2, 54, 0, 0)), (1, (0, 0, 7, 7)), (2, (0, 0, 0, 10)), (3, (0, 0, 2, 2))], [], [], [(0, 19, 0)]), [(false, 1)]), ((12, [(0, (2, 54, 0, 0)), (1, (0, 0, 7, 7)), (2, (0, 0, 0, 10)), (3, (0, 0, 3, 3))], [], [], [(0, 18, 0)]), [(false, 1)]), ((12, [(0, (2, 54, 0, 0)), (1, (0, 0, 7, 7)), (2, (0, 0, 0, 10)), (3, (0, 0, 4, 4))], [], [], [(0, 17, 0)]), [(false, 1)]), ((12, [(0, (2, 54, 0, 0)), (1, (0, 0, 7, 7)), (2, (0, 0, 0, 10)), (3, (0, 0, 5, 5))], [], [], [(0, 16, 0)]), [(false, 1)]), ((12, [(0, (2, 54, 0, 0)), (1, (0, 0, 7, 7)), (2, (0, 0, 0, 10)), (3, (0, 0, 6, 6))], [], [], [(0, 15, 0)]), [(false, 1)]), ((12, [(0, (2, 54, 0, 0)), (1, (0, 0, 7, 7)), (2, (0, 0, 0, 10)), (3, (0, 0, 7, 7))], [], [], [(0, 14, 0)]), [(false, 1)]), ((37, [(0, (2, 54, 0, 0)), (1, (0, 0, 7, 7)), (2, (0, 0, 0, 10)), (3, (0, 0, 0, 0))], [], [], [(0, 13, 0)]), [(false, 1)]), ((50, [(0, (2, 54, 0, 0)), (1, (0, 0, 7, 7)), (2, (0, 0, 0, 10)), (3, (0, 0, 0, 0)), (4, (1, 0, 1, 1)), (6, (0, 0, 0, 0))], [], [], [(0, 12, 0)]), [(false, 1)]), ((81, [(0, (2, 54, 0, 0)), (1, (0, 0, 7, 7)), (2, (0, 0, 0, 10)), (3, (0, 0, 0, 0)), (4, (1, 0, (-9223372036854775808), 9223372036854775807)), (6, (0, 0, 0, 7))], [], [], [(0, 11, 0), (1, 6, 7), (0, 1, 0)]), [(false, 0), (false, 1)]), ((37, [(0, (2, 54, 0, 0)), (1, (0, 0, 7, 7)), (2, (0, 0, 0, 10)), (3, (0, 0, 1, 1)), (4, (1, 0, (-9223372036854775808), 9223372036854775807)), (6, (0, 0, 7, 7))], [], [], [(0, 10, 0)]), [(false, 1)]), ((50, [(0, (2, 54, 0, 0)), (1, (0, 0, 7, 7)), (2, (0, 0, 0, 10)), (3, (0, 0, 1, 1)), (4, (1, 0, (-9223372036854775808), 9223372036854775807)), (6, (0, 0, 0, 1))], [], [], [(0, 9, 0), (1, 6, 1), (0, 1, 0)]), [(false, 0), (false, 1)]), ((81, [(0, (2, 54, 0, 0)), (1, (0, 0, 7, 7)), (2, (0, 0, 0, 10)), (3, (0, 0, 1, 1)), (4, (1, 0, (-9223372036854775808), 9223372036854775807)), (6, (0, 0, 0, 7))], [], [], [(0, 8, 0), (1, 6, 7), (0, 1, 0)]), [(false, 0), (false, 1)]), ((37, [(0, (2, 54, 0, 0)), (1, (0, 0, 7, 7)), (2, (0, 0, 0, 10)), (3, (0, 0, 2, 2)), (4, (1, 0, (-9223372036854775808), 9223372036854775807)), (6, (0, 0, 7, 7))], [], [], [(0, 7, 0)]), [(false, 1)]), ((50, [(0, (2, 54, 0, 0)), (1, (0, 0, 7, 7)), (2, (0, 0, 0, 10)), (3, (0, 0, 2, 2)), (4, (1, 0, (-9223372036854775808), 9223372036854775807)), (6, (0, 0, 0, 2))], [], [], [(0, 6, 0), (1, 6, 2), (0, 1, 0)]), [(false, 0), (false, 1)]), ((81, [(0, (2, 54, 0, 0)), (1, (0, 0, 7, 7)), (2, (0, 0, 0, 10)), (3, (0, 0, 2, 2)), (4, (1, 0, (-9223372036854775808), 9223372036854775807)), (6, (0, 0, 0, 7))], [], [], [(0, 5, 0), (1, 6, 7), (0, 1, 0)]), [(false, 0), (false, 1)]), ((37, [(0, (2, 54, 0, 0)), (1, (0, 0, 7, 7)), (2, (0, 0, 0, 10)), (3, (0, 0, 3, 3)), (4, (1, 0, (-9223372036854775808), 9223372036854775807)), (6, (0, 0, 7, 7))], [], [], [(0, 4, 0)]), [(false, 1)]), ((50, [(0, (2, 54, 0, 0)), (1, (0, 0, 7, 7)), (2, (0, 0, 0, 10)), (3, (0, 0, 3, 3)), (4, (1, 0, (-9223372036854775808), 9223372036854775807)), (6, (0, 0, 0, 3))], [], [], [(0, 3, 0), (1, 6, 3), (0, 1, 0)]), [(false, 0), (false, 1)]), ((81, [(0, (2, 54, 0, 0)), (1, (0, 0, 7, 7)), (2, (0, 0, 0, 10)), (3, (0, 0, 3, 3)), (4, (1, 0, (-9223372036854775808), 9223372036854775807)), (6, (0, 0, 0, 7))], [], [], [(0, 2, 0), (1, 6, 7), (0, 1, 0)]), [(false, 0), (false, 1)]), ((37, [(0, (2, 54, 0, 0)), (1, (0, 0, 7, 7)), (2, (0, 0, 0, 10)), (3, (0, 0, 4, 4)), (4, (1, 0, (-9223372036854775808), 9223372036854775807)), (6, (0, 0, 7, 7))], [], [], [(0, 1, 0)]), [])]
  (by decide +kernel) (fun s h => absurd h List.not_mem_nil)
noncomputable def sX11_bets_4 : SM := (mX11_bets, [(2, 54, 0, 0), (0, 0, 9, 9), (0, 0, 0, 10)], [], [([], [], [])], [(1, 54, 39, 40)])
theorem kX11_bets_4 {SP : CT} (hSP : MONO SP) {sh : List (Nat × Nat)} : SMOK gE gRL sh (CLd SP 1) sX11_bets_4 :=
  chkS hSP [] 32 [(false, 0)]
  [((12, [(0, (2, 54, 0, 0)), (1, (0, 0, 9, 9)), (2, (0, 0, 0, 10)), (3, (0, 0, 0, 0))], [], [], [(0, 26, 0)]), [(false, 1)]), ((12, [(0, (2, 54, 0, 0)), (1, (0, 0, 9, 9)), (2, (0, 0, 0, 10)), (3, (0, 0, 1, 1))], [], [], [(0, 25, 0)]), [(false, 1)]), ((12, [(0, (2, 54, 0, 0)), (1, (0, 0, 9, 9)), (2, (0, 0, 0, 10)), (3, (0, 0, 2, 2))], [], [], [(0, 24, 0)]), [(false, 1)]), ((12, [(0, (2, 54, 0, 0)), (1, (0, 0, 9, 9)), (2, (0, 0, 0, 10)), (3, (0, 0, 3, 3))], [], [], [(0, 23, 0)]), [(false, 1)]), ((12, [(0, (2, 54, 0, 0)), (1, (0, 0, 9, 9)), (2, (0, 0, 0, 10)), (3, (0, 0, 4, 4))], [], [], [(0, 22, 0)]), [(false, 1)]), ((12, [(0, (2, 54, 0, 0)), (1, (0, 0, 9, 9)), (2, (0, 0, 0, 10)), (3, (0, 0, 5, 5))], [], [], [(0, 21, 0)]), [(false, 1)]), ((12, [(0, (2, 54, 0, 0)), (1, (0, 0, 9, 9)), (2, (0, 0, 0, 10)), (3, (0, 0, 6, 6))], [], [], [(0, 20, 0)]), [(false, 1)]), ((12, [(0, (2, 54, 0, 0)), (1, (0, 0, 9, 9)), (2, (0, 0, 0, 10)), (3, (0, 0, 7, 7))], [], [], [(0, 19, 0)]), [(false, 1)]), ((12, [(0, (2, 54, 0, 0)), (1, (0, 0, 9, 9)), (2, (0, 0, 0, 10)), (3, (0, 0, 8, 8))], [], [], [(0, 18, 0)]), [(false, 1)]), ((12, [(0, (2, 54, 0, 0)), (1, (0, 0, 9, 9)), (2, (0, 0, 0, 10)), (3, (0, 0, 9, 9))], [], [], [(0, 17, 0)]), [(false, 1)]), ((37, [(0, (2, 54, 0, 0)), (1, (0, 0, 9, 9)), (2, (0, 0, 0, 10)), (3, (0, 0, 0, 0))], [], [], [(0, 16, 0)]), [(false, 1)]), ((50, [(0, (2, 54, 0, 0)), (1, (0, 0, 9, 9)), (2, (0, 0, 0, 10)), (3, (0, 0, 0, 0)), (4, (1, 0, 1, 1)), (6, (0, 0, 0, 0))], [], [], [(0, 15, 0)]), [(false, 1)]), ((81, [(0, (2, 54, 0, 0)), (1, (0, 0, 9, 9)), (2, (0, 0, 0, 10)), (3, (0, 0, 0, 0)), (4, (1, 0, (-9223372036854775808), 9223372036854775807)), (6, (0, 0, 0, 9))], [], [], [(0, 14, 0), (1, 6, 9), (0, 1, 0)]), [(false, 0), (false, 1)]), ((37, [(0, (2, 54, 0, 0)), (1, (0, 0, 9, 9)), (2, (0, 0, 0, 10)), (3, (0, 0, 1, 1)), (4, (1, 0, (-9223372036854775808), 9223372036854775807)), (6, (0, 0, 9, 9))], [], [], [(0, 13, 0)]), [(false, 1)]), ((50, [(0, (2, 54, 0, 0)), (1, (0, 0, 9, 9)), (2, (0, 0, 0, 10)), (3, (0, 0, 1, 1)), (4, (1, 0, (-9223372036854775808), 9223372036854775807)), (6, (0, 0, 0, 1))], [], [], [(0, 12, 0), (1, 6, 1), (0, 1, 0)]), [(false, 0), (false, 1)]), ((81, [(0, (2, 54, 0, 0)), (1, (0, 0, 9, 9)), (2, (0, 0, 0, 10)), (3, (0, 0, 1, 1)), (4, (1, 0, (-9223372036854775808), 9223372036854775807)), (6, (0, 0, 0, 9))], [], [], [(0, 11, 0), (1, 6, 9), (0, 1, 0)]), [(false, 0), (false, 1)]), ((37, [(0, (2, 54, 0, 0)), (1, (0, 0, 9, 9)), (2, (0, 0, 0, 10)), (3, (0, 0, 2, 2)), (4, (1, 0, (-9223372036854775808), 9223372036854775807)), (6, (0, 0, 9, 9))], [], [], [(0, 10, 0)]), [(false, 1)]), ((50, [(0, (2, 54, 0, 0)), (1, (0, 0, 9, 9)), (2, (0, 0, 0, 10)), (3, (0, 0, 2, 2)), (4, (1, 0, (-9223372036854775808), 9223372036854775807)), (6, (0, 0, 0, 2))], [], [], [(0, 9, 0), (1, 6, 2), (0, 1, 0)]), [(false, 0), (false, 1)]), ((81, [(0, (2, 54, 0, 0)), (1, (0, 0, 9, 9)), (2, (0, 0, 0, 10)), (3, (0, 0, 2, 2)), (4, (1, 0, (-9223372036854775808), 9223372036854775807)), (6, (0, 0, 0, 9))], [], [], [(0, 8, 0), (1, 6, 9), (0, 1, 0)]), [(false, 0), (false, 1)]), ((37, [(0, (2, 54, 0, 0)), (1, (0, 0, 9, 9)), (2, (0, 0, 0, 10)), (3, (0, 0, 3, 3)), (4, (1, 0, (-9223372036854775808), 9223372036854775807)), (6, (0, 0, 9, 9))], [], [], [(0, 7, 0)]), [(false, 1)]), ((50, [(0, (2, 54, 0, 0)), (1, (0, 0, 9, 9)), (2, (0, 0, 0, 10)), (3, (0, 0, 3, 3)), (4, (1, 0, (-9223372036854775808), 9223372036854775807)), (6, (0, 0, 0, 3))], [], [], [(0, 6, 0), (1, 6, 3), (0, 1, 0)]), [(false, 0), (false, 1)]), ((81, [(0, (2, 54, 0, 0)), (1, (0, 0, 9, 9)), (2, (0, 0, 0, 10)), (3, (0, 0, 3, 3)), (4, (1, 0, (-9223372036854775808), 9223372036854775807)), (6, (0, 0, 0, 9))], [], [], [(0, 5, 0), (1, 6, 9), (0, 1, 0)]), [(false, 0), (false, 1)]), ((37, [(0, (2, 54, 0, 0)), (1, (0, 0, 9, 9)), (2, (0, 0, 0, 10)), (3, (0, 0, 4, 4)), (4, (1, 0, (-9223372036854775808), 9223372036854775807)), (6, (0, 0, 9, 9))], [], [], [(0, 4, 0)]), [(false, 1)]), ((50, [(0, (2, 54, 0, 0)), (1, (0, 0, 9, 9)), (2, (0, 0, 0, 10)), (3, (0, 0, 4, 4)), (4, (1, 0, (-9223372036854775808), 9223372036854775807)), (6, (0, 0, 0, 4))], [], [], [(0, 3, 0), (1, 6, 4), (0, 1, 0)]), [(false, 0), (false, 1)]), ((81, [(0, (2, 54, 0, 0)), (1, (0, 0, 9, 9)), (2, (0, 0, 0, 10)), (3, (0, 0, 4, 4)), (4, (1, 0, (-9223372036854775808), 9223372036854775807)), (6, (0, 0, 0, 9))], [], [], [(0, 2, 0), (1, 6, 9), (0, 1, 0)]), [(false, 0), (false, 1)]), ((37, [(0, (2, 54, 0, 0)), (1, (0, 0, 9, 9)), (2, (0, 0, 0, 10)), (3, (0, 0, 5, 5)), (4, (1, 0, (-9223372036854775808), 9223372036854775807)), (6, (0, 0, 9, 9))], [], [], [(0, 1, 0)]), [])]
  (by decide +kernel) (fun s h => absurd h List.not_mem_nil)
noncomputable def sX11_bets_5 : SM := (mX11_bets, [(2, 54, 0, 0), (0, 0, 11, 11), (0, 0, 0, 10)], [], [([], [], [])], [(1, 54, 39, 40)])
theorem kX11_bets_5 {SP : CT} (hSP : MONO SP) {sh : List (Nat × Nat)} : SMOK gE gRL sh (CLd SP 1) sX11_bets_5 :=
  chkS hSP [] 32 [(false, 0)]
  [((12, [(0, (2, 54, 0, 0)), (1, (0, 0, 11, 11)), (2, (0, 0, 0, 10)), (3, (0, 0, 0, 0))], [], [], [(0, 31, 0)]), [(false, 1)]), ((12, [(0, (2, 54, 0, 0)), (1, (0, 0, 11, 11)), (2, (0, 0, 0, 10)), (3, (0, 0, 1, 1))], [], [], [(0, 30, 0)]), [(false, 1)]), ((12, [(0, (2, 54, 0, 0)), (1, (0, 0, 11, 11)), (2, (0, 0, 0, 10)), (3, (0, 0, 2, 2))], [], [], [(0, 29, 0)]), [(false, 1)]), ((12, [(0, (2, 54, 0, 0)), (1, (0, 0, 11, 11)), (2, (0, 0, 0, 10)), (3, (0, 0, 3, 3))], [], [], [(0, 28, 0)]), [(false, 1)]), ((12, [(0, (2, 54, 0, 0)), (1, (0, 0, 11, 11)), (2, (0, 0, 0, 10)), (3, (0, 0, 4, 4))], [], [], [(0, 27, 0)]), [(false, 1)]), ((12, [(0, (2, 54, 0, 0)), (1, (0, 0, 11, 11)), (2, (0, 0, 0, 10)), (3, (0, 0, 5, 5))], [], [], [(0, 26, 0)]), [(false, 1)]), ((12, [(0, (2, 54, 0, 0)), (1, (0, 0, 11, 11)), (2, (0, 0, 0, 10)), (3, (0, 0, 6, 6))], [], [], [(0, 25, 0)]), [(false, 1)]), ((12, [(0, (2, 54, 0, 0)), (1, (0, 0, 11, 11)), (2, (0, 0, 0, 10)), (3, (0, 0, 7, 7))], [], [], [(0, 24, 0)]), [(false, 1)]), ((12, [(0, (2, 54, 0, 0)), (1, (0, 0, 11, 11)), (2, (0, 0, 0, 10)), (3, (0, 0, 8, 8))], [], [], [(0, 23, 0)]), [(false, 1)]), ((12, [(0, (2, 54, 0, 0)), (1, (0, 0, 11, 11)), (2, (0, 0, 0, 10)), (3, (0, 0, 9, 9))], [], [], [(0, 22, 0)]), [(false, 1)]), ((12, [(0, (2, 54, 0, 0)), (1, (0, 0, 11, 11)), (2, (0, 0, 0, 10)), (3, (0, 0, 10, 10))], [], [], [(0, 21, 0)]), [(false, 1)]), ((12, [(0, (2, 54, 0, 0)), (1, (0, 0, 11, 11)), (2, (0, 0, 0, 10)), (3, (0, 0, 11, 11))], [], [], [(0, 20, 0)]), [(false, 1)]), ((37, [(0, (2, 54, 0, 0)), (1, (0, 0, 11, 11)), (2, (0, 0, 0, 10)), (3, (0, 0, 0, 0))], [], [], [(0, 19, 0)]), [(false, 1)]), ((50, [(0, (2, 54, 0, 0)), (1, (0, 0, 11, 11)), (2, (0, 0, 0, 10)), (3, (0, 0, 0, 0)), (4, (1, 0, 1, 1)), (6, (0, 0, 0, 0))], [], [], [(0, 18, 0)]), [(false, 1)]), ((81, [(0, (2, 54, 0, 0)), (1, (0, 0, 11, 11)), (2, (0, 0, 0, 10)), (3, (0, 0, 0, 0)), (4, (1, 0, (-9223372036854775808), 9223372036854775807)), (6, (0, 0, 0, 11))], [], [], [(0, 17, 0), (1, 6, 11), (0, 1, 0)]), [(false, 0), (false, 1)]), ((37, [(0, (2, 54, 0, 0)), (1, (0, 0, 11, 11)), (2, (0, 0, 0, 10)), (3, (0, 0, 1, 1)), (4, (1, 0, (-9223372036854775808), 9223372036854775807)), (6, (0, 0, 11, 11))], [], [], [(0, 16, 0)]), [(false, 1)]), ((50, [(0, (2, 54, 0, 0)), (1, (0, 0, 11, 11)), (2, (0, 0, 0, 10)), (3, (0, 0, 1, 1)), (4, (1, 0, (-9223372036854775808), 9223372036854775807)), (6, (0, 0, 0, 1))], [], [], [(0, 15, 0), (1, 6, 1), (0, 1, 0)]), [(false, 0), (false, 1)]), ((81, [(0, (2, 54, 0, 0)), (1, (0, 0, 11, 11)), (2, (0, 0, 0, 10)), (3, (0, 0, 1, 1)), (4, (1, 0, (-9223372036854775808), 9223372036854775807)), (6, (0, 0, 0, 11))], [], [], [(0, 14, 0), (1, 6, 11), (0, 1, 0)]), [(false, 0), (false, 1)]), ((37, [(0, (2, 54, 0, 0)), (1, (0, 0, 11, 11)), (2, (0, 0, 0, 10)), (3, (0, 0, 2, 2)), (4, (1, 0, (-9223372036854775808), 9223372036854775807)), (6, (0, 0, 11, 11))], [], [], [(0, 13, 0)]), [(false, 1)]), ((50, [(0, (2, 54, 0, 0)), (1, (0, 0, 11, 11)), (2, (0, 0, 0, 10)), (3, (0, 0, 2, 2)), (4, (1, 0, (-9223372036854775808), 9223372036854775807)), (6, (0, 0, 0, 2))], [], [], [(0, 12, 0), (1, 6, 2), (0, 1, 0)]), [(false, 0), (false, 1)]), ((81, [(0, (2, 54, 0, 0)), (1, (0, 0, 11, 11)), (2, (0, 0, 0, 10)), (3, (0, 0, 2, 2)), (4, (1, 0, (-9223372036854775808), 9223372036854775807)), (6, (0, 0, 0, 11))], [], [], [(0, 11, 0), (1, 6, 11), (0, 1, 0)]), [(false, 0), (false, 1)]), ((37, [(0, (2, 54, 0, 0)), (1, (0, 0, 11, 11)), (2, (0, 0, 0, 10)), (3, (0, 0, 3, 3)), (4, (1, 0, (-9223372036854775808), 9223372036854775807)), (6, (0, 0, 11, 11))], [], [], [(0, 10, 0)]), [(false, 1)]), ((50, [(0, (2, 54, 0, 0)), (1, (0, 0, 11, 11)), (2, (0, 0, 0, 10)), (3, (0, 0, 3, 3)), (4, (1, 0, (-9223372036854775808), 9223372036854775807)), (6, (0, 0, 0, 3))], [], [], [(0, 9, 0), (1, 6, 3), (0, 1, 0)]), [(false, 0), (false, 1)]), ((81, [(0, (2, 54, 0, 0)), (1, (0, 0, 11, 11)), (2, (0, 0, 0, 10)), (3, (0, 0, 3, 3)), (4, (1, 0, (-9223372036854775808), 9223372036854775807)), (6, (0, 0, 0, 11))], [], [], [(0, 8, 0), (1, 6, 11), (0, 1, 0)]), [(false, 0), (false, 1)]), ((37, [(0, (2, 54, 0, 0)), (1, (0, 0, 11, 11)), (2, (0, 0, 0, 10)), (3, (0, 0, 4, 4)), (4, (1, 0, (-9223372036854775808), 9223372036854775807)), (6, (0, 0, 11, 11))], [], [], [(0, 7, 0)]), [(false, 1)]), ((50, [(0, (2, 54, 0, 0)), (1, (0, 0, 11, 11)), (2, (0, 0, 0, 10)), (3, (0, 0, 4, 4)), (4, (1, 0, (-9223372036854775808), 9223372036854775807)), (6, (0, 0, 0, 4))], [], [], [(0, 6, 0), (1, 6, 4), (0, 1, 0)]), [(false, 0), (false, 1)]), ((81, [(0, (2, 54, 0, 0)), (1, (0, 0, 11, 11)), (2, (0, 0, 0, 10)), (3, (0, 0, 4, 4)), (4, (1, 0, (-9223372036854775808), 9223372036854775807)), (6, (0, 0, 0, 11))], [], [], [(0, 5, 0), (1, 6, 11), (0, 1, 0)]), [(false, 0), (false, 1)]), ((37, [(0, (2, 54, 0, 0)), (1, (0, 0, 11, 11)), (2, (0, 0, 0, 10)), (3, (0, 0, 5, 5)), (4, (1, 0, (-9223372036854775808), 9223372036854775807)), (6, (0, 0, 11, 11))], [], [], [(0, 4, 0)]), [(false, 1)]), ((50, [(0, (2, 54, 0, 0)), (1, (0, 0, 11, 11)), (2, (0, 0, 0, 10)), (3, (0, 0, 5, 5)), (4, (1, 0, (-9223372036854775808), 9223372036854775807)), (6, (0, 0, 0, 5))], [], [], [(0, 3, 0), (1, 6, 5), (0, 1, 0)]), [(false, 0), (false, 1)]), ((81, [(0, (2, 54, 0, 0)), (1, (0, 0, 11, 11)), (2, (0, 0, 0, 10)), (3, (0, 0, 5, 5)), (4, (1, 0, (-9223372036854775808), 9223372036854775807)), (6, (0, 0, 0, 11))], [], [], [(0, 2, 0), (1, 6, 11), (0, 1, 0)]), [(false, 0), (false, 1)]), ((37, [(0, (2, 54, 0, 0)), (1, (0, 0, 11, 11)), (2, (0, 0, 0, 10)), (3, (0, 0, 6, 6)), (4, (1, 0, (-9223372036854775808), 9223372036854775807)), (6, (0, 0, 11, 11))], [], [], [(0, 1, 0)]), [])]
  (by decide +kernel) (fun s h => absurd h List.not_mem_nil)
noncomputable def sX11_bets_6 : SM := (mX11_bets, [(2, 54, 0, 0), (0, 0, 13, 13), (0, 0, 0, 10)], [], [([], [], [])], [(1, 54, 39, 40)])
theorem kX11_bets_6 {SP : CT} (hSP : MONO SP) {sh : List (Nat × Nat)} : SMOK gE gRL sh (CLd SP 1) sX11_bets_6 :=
  chkS hSP [] 32 [(false, 0)]
  [((12, [(0, (2, 54, 0, 0)), (1, (0, 0, 13, 13)), (2, (0, 0, 0, 10)), (3, (0, 0, 0, 0))], [], [], [(0, 36, 0)]), [(false, 1)]), ((12, [(0, (2, 54, 0, 0)), (1, (0, 0, 13, 13)), (2, (0, 0, 0, 10)), (3, (0, 0, 1, 1))], [], [], [(0, 35, 0)]), [(false, 1)]), ((12, [(0, (2, 54, 0, 0)), (1, (0, 0, 13, 13)), (2, (0, 0, 0, 10)), (3, (0, 0, 2, 2))], [], [], [(0, 34, 0)]), [(false, 1)]), ((12, [(0, (2, 54, 0, 0)), (1, (0, 0, 13, 13)), (2, (0, 0, 0, 10)), (3, (0, 0, 3, 3))], [], [], [(0, 33, 0)]), [(false, 1)]), ((12, [(0, (2, 54, 0, 0)), (1, (0, 0, 13, 13)), (2, (0, 0, 0, 10)), (3, (0, 0, 4, 4))], [], [], [(0, 32, 0)]), [(false, 1)]), ((12, [(0, (2, 54, 0, 0)), (1, (0, 0, 13, 13)), (2, (0, 0, 0, 10)), (3, (0, 0, 5, 5))], [], [], [(0, 31, 0)]), [(false, 1)]), ((12, [(0, (2, 54, 0, 0)), (1, (0, 0, 13, 13)), (2, (0, 0, 0, 10)), (3, (0, 0, 6, 6))], [], [], [(0, 30, 0)]), [(false, 1)]), ((12, [(0, (2, 54, 0, 0)), (1, (0, 0, 13, 13)), (2, (0, 0, 0, 10)), (3, (0, 0, 7, 7))], [], [], [(0, 29, 0)]), [(false, 1)]), ((12, [(0, (2, 54, 0, 0)), (1, (0, 0, 13, 13)), (2, (0, 0, 0, 10)), (3, (0, 0, 8, 8))], [], [], [(0, 28, 0)]), [(false, 1)]), ((12, [(0, (2, 54, 0, 0)), (1, (0, 0, 13, 13)), (2, (0, 0, 0, 10)), (3, (0, 0, 9, 9))], [], [], [(0, 27, 0)]), [(false, 1)]), ((12, [(0, (2, 54, 0, 0)), (1, (0, 0, 13, 13)), (2, (0, 0, 0, 10)), (3, (0, 0, 10, 10))], [], [], [(0, 26, 0)]), [(false, 1)]), ((12, [(0, (2, 54, 0, 0)), (1, (0, 0, 13, 13)), (2, (0, 0, 0, 10)), (3, (0, 0, 11, 11))], [], [], [(0, 25, 0)]), [(false, 1)]), ((12, [(0, (2, 54, 0, 0)), (1, (0, 0, 13, 13)), (2, (0, 0, 0, 10)), (3, (0, 0, 12, 12))], [], [], [(0, 24, 0)]), [(false, 1)]), ((12, [(0, (2, 54, 0, 0)), (1, (0, 0, 13, 13)), (2, (0, 0, 0, 10)), (3, (0, 0, 13, 13))], [], [], [(0, 23, 0)]), [(false, 1)]), ((37, [(0, (2, 54, 0, 0)), (1, (0, 0, 13, 13)), (2, (0, 0, 0, 10)), (3, (0, 0, 0, 0))], [], [], [(0, 22, 0)]), [(false, 1)]), ((50, [(0, (2, 54, 0, 0)), (1, (0, 0, 13, 13)), (2, (0, 0, 0, 10)), (3, (0, 0, 0, 0)), (4, (1, 0, 1, 1)), (6, (0, 0, 0, 0))], [], [], [(0, 21, 0)]), [(false, 1)]), ((81, [(0, (2, 54, 0, 0)), (1, (0, 0, 13, 13)), (2, (0, 0, 0, 10)), (3, (0, 0, 0, 0)), (4, (1, 0, (-9223372036854775808), 9223372036854775807)), (6, (0, 0, 0, 13))], [], [], [(0, 20, 0), (1, 6, 13), (0, 1, 0)]), [(false, 0), (false, 1)]), ((37, [(0, (2, 54, 0, 0)), (1, (0, 0, 13, 13)), (2, (0, 0, 0, 10)), (3, (0, 0, 1, 1)), (4, (1, 0, (-9223372036854775808), 9223372036854775807)), (6, (0, 0, 13, 13))], [], [], [(0, 19, 0)]), [(false, 1)]), ((50, [(0, (2, 54, 0, 0)), (1, (0, 0, 13, 13)), (2, (0, 0, 0, 10)), (3, (0, 0, 1, 1)), (4, (1, 0, (-9223372036854775808), 9223372036854775807)), (6, (0, 0, 0, 1))], [], [], [(0, 18, 0), (1, 6, 1), (0, 1, 0)]), [(false, 0), (false, 1)]), ((81, [(0, (2, 54, 0, 0)), (1, (0, 0, 13, 13)), (2, (0, 0, 0, 10)), (3, (0, 0, 1, 1)), (4, (1, 0, (-9223372036854775808), 9223372036854775807)), (6, (0, 0, 0, 13))], [], [], [(0, 17, 0), (1, 6, 13), (0, 1, 0)]), [(false, 0), (false, 1)]), ((37, [(0, (2, 54, 0, 0)), (1, (0, 0, 13, 13)), (2, (0, 0, 0, 10)), (3, (0, 0, 2, 2)), (4, (1, 0, (-9223372036854775808), 9223372036854775807)), (6, (0, 0, 13, 13))], [], [], [(0, 16, 0)]), [(false, 1)]), ((50, [(0, (2, 54, 0, 0)), (1, (0, 0, 13, 13)), (2, (0, 0, 0, 10)), (3, (0, 0, 2, 2)), (4, (1, 0, (-9223372036854775808), 9223372036854775807)), (6, (0, 0, 0, 2))], [], [], [(0, 15, 0), (1, 6, 2), (0, 1, 0)]), [(false, 0), (false, 1)]), ((81, [(0, (2, 54, 0, 0)), (1, (0, 0, 13, 13)), (2, (0, 0, 0, 10)), (3, (0, 0, 2, 2)), (4, (1, 0, (-9223372036854775808), 9223372036854775807)), (6, (0, 0, 0, 13))], [], [], [(0, 14, 0), (1, 6, 13), (0, 1, 0)]), [(false, 0), (false, 1)]), ((37, [(0, (2, 54, 0, 0)), (1, (0, 0, 13, 13)), (2, (0, 0, 0, 10)), (3, (0, 0, 3, 3)), (4, (1, 0, (-9223372036854775808), 9223372036854775807)), (6, (0, 0, 13, 13))], [], [], [(0, 13, 0)]), [(false, 1)]), ((50, [(0, (2, 54, 0, 0)), (1, (0, 0, 13, 13)), (2, (0, 0, 0, 10)), (3, (0, 0, 3, 3)), (4, (1, 0, (-9223372036854775808), 9223372036854775807)), (6, (0, 0, 0, 3))], [], [], [(0, 12, 0), (1, 6, 3), (0, 1, 0)]), [(false, 0), (false, 1)]), ((81, [(0, (2, 54, 0, 0)), (1, (0, 0, 13, 13)), (2, (0, 0, 0, 10)), (3, (0, 0, 3, 3)), (4, (1, 0, (-9223372036854775808), 9223372036854775807)), (6, (0, 0, 0, 13))], [], [], [(0, 11, 0), (1, 6, 13), (0, 1, 0)]), [(false, 0), (false, 1)]), ((37, [(0, (2, 54, 0, 0)), (1, (0, 0, 13, 13)), (2, (0, 0, 0, 10)), (3, (0, 0, 4, 4)), (4, (1, 0, (-9223372036854775808), 9223372036854775807)), (6, (0, 0, 13, 13))], [], [], [(0, 10, 0)]), [(false, 1)]), ((50, [(0, (2, 54, 0, 0)), (1, (0, 0, 13, 13)), (2, (0, 0, 0, 10)), (3, (0, 0, 4, 4)), (4, (1, 0, (-9223372036854775808), 9223372036854775807)), (6, (0, 0, 0, 4))], [], [], [(0, 9, 0), (1, 6, 4), (0, 1, 0)]), [(false, 0), (false, 1)]), ((81, [(0, (2, 54, 0, 0)), (1, (0, 0, 13, 13)), (2, (0, 0, 0, 10)), (3, (0, 0, 4, 4)), (4, (1, 0, (-9223372036854775808), 9223372036854775807)), (6, (0, 0, 0, 13))], [], [], [(0, 8, 0), (1, 6, 13), (0, 1, 0)]), [(false, 0), (false, 1)]), ((37, [(0, (2, 54, 0, 0)), (1, (0, 0, 13, 13)), (2, (0, 0, 0, 10)), (3, (0, 0, 5, 5)), (4, (1, 0, (-9223372036854775808), 9223372036854775807)), (6, (0, 0, 13, 13))], [], [], [(0, 7, 0)]), [(false, 1)]), ((50, [(0, (2, 54, 0, 0)), (1, (0, 0, 13, 13)), (2, (0, 0, 0, 10)), (3, (0, 0, 5, 5)), (4, (1, 0, (-9223372036854775808), 9223372036854775807)), (6, (0, 0, 0, 5))], [], [], [(0, 6, 0), (1, 6, 5), (0, 1, 0)]), [(false, 0), (false, 1)]), ((81, [(0, (2, 54, 0, 0)), (1, (0, 0, 13, 13)), (2, (0, 0, 0, 10)), (3, (0, 0, 5, 5)), (4, (1, 0, (-9223372036854775808), 9223372036854775807)), (6, (0, 0, 0, 13))], [], [], [(0, 5, 0), (1, 6, 13), (0, 1, 0)]), [(false, 0), (false, 1)]), ((37, [(0, (2, 54, 0, 0)), (1, (0, 0, 13, 13)), (2, (0, 0, 0, 10)), (3, (0, 0, 6, 6)), (4, (1, 0, (-9223372036854775808), 9223372036854775807)), (6, (0, 0, 13, 13))], [], [], [(0, 4, 0)]), [(false, 1)]), ((50, [(0, (2, 54, 0, 0)), (1, (0, 0, 13, 13)), (2, (0, 0, 0, 10)), (3, (0, 0, 6, 6)), (4, (1, 0, (-9223372036854775808), 9223372036854775807)), (6, (0, 0, 0, 6))], [], [], [(0, 3, 0), (1, 6, 6), (0, 1, 0)]), [(false, 0), (false, 1)]), ((81, [(0, (2, 54, 0, 0)), (1, (0, 0, 13, 13)), (2, (0, 0, 0, 10)), (3, (0, 0, 6, 6)), (4, (1, 0, (-9223372036854775808), 9223372036854775807)), (6, (0, 0, 0, 13))], [], [], [(0, 2, 0), (1, 6, 13), (0, 1, 0)]), [(false, 0), (false, 1)]), ((37, [(0, (2, 54, 0, 0)), (1, (0, 0, 13, 13)), (2, (0, 0, 0, 10)), (3, (0, 0, 7, 7)), (4, (1, 0, (-9223372036854775808), 9223372036854775807)), (6, (0, 0, 13, 13))], [], [], [(0, 1, 0)]), [])]
  (by decide +kernel) (fun s h => absurd h List.not_mem_nil)
noncomputable def sX11_bets_7 : SM := (mX11_bets, [(2, 54, 0, 0), (0, 0, 15, 15), (0, 0, 0, 10)], [], [([], [], [])], [(1, 54, 39, 40)])
theorem kX11_bets_7 {SP : CT} (hSP : MONO SP) {sh : List (Nat × Nat)} : SMOK gE gRL sh (CLd SP 1) sX11_bets_7 :=
  chkS hSP [] 32 [(false, 0)]
  [((12, [(0, (2, 54, 0, 0)), (1, (0, 0, 15, 15)), (2, (0, 0, 0, 10)), (3, (0, 0, 0, 0))], [], [], [(0, 41, 0)]), [(false, 1)]), ((12, [(0, (2, 54, 0, 0)), (1, (0, 0, 15, 15)), (2, (0, 0, 0, 10)), (3, (0, 0, 1, 1))], [], [], [(0, 40, 0)]), [(false, 1)]), ((12, [(0, (2, 54, 0, 0)), (1, (0, 0, 15, 15)), (2, (0, 0, 0, 10)), (3, (0, 0, 2, 2))], [], [], [(0, 39, 0)]), [(false, 1)]), ((12, [(0, (2, 54, 0, 0)), (1, (0, 0, 15, 15)), (2, (0, 0, 0, 10)), (3, (0, 0, 3, 3))], [], [], [(0, 38, 0)]), [(false, 1)]), ((12, [(0, (2, 54, 0, 0)), (1, (0, 0, 15, 15)), (2, (0, 0, 0, 10)), (3, (0, 0, 4, 4))], [], [], [(0, 37, 0)]), [(false, 1)]), ((12, [(0, (2, 54, 0, 0)), (1, (0, 0, 15, 15)), (2, (0, 0, 0, 10)), (3, (0, 0, 5, 5))], [], [], [(0, 36, 0)]), [(false, 1)]), ((12, [(0, (2, 54, 0, 0)), (1, (0, 0, 15, 15)), (2, (0, 0, 0, 10)), (3, (0, 0, 6, 6))], [], [], [(0, 35, 0)]), [(false, 1)]), ((12, [(0, (2, 54, 0, 0)), (1, (0, 0, 15, 15)), (2, (0, 0, 0, 10)), (3, (0, 0, 7, 7))], [], [], [(0, 34, 0)]), [(false, 1)]), ((12, [(0, (2, 54, 0, 0)), (1, (0, 0, 15, 15)), (2, (0, 0, 0, 10)), (3, (0, 0, 8, 8))], [], [], [(0, 33, 0)]), [(false, 1)]), ((12, [(0, (2, 54, 0, 0)), (1, (0, 0, 15, 15)), (2, (0, 0, 0, 10)), (3, (0, 0, 9, 9))], [], [], [(0, 32, 0)]), [(false, 1)]), ((12, [(0, (2, 54, 0, 0)), (1, (0, 0, 15, 15)), (2, (0, 0, 0, 10)), (3, (0, 0, 10, 10))], [], [], [(0, 31, 0)]), [(false, 1)]), ((12, [(0, (2, 54, 0, 0)), (1, (0, 0, 15, 15)), (2, (0, 0, 0, 10)), (3, (0, 0, 11, 11))], [], [], [(0, 30, 0)]), [(false, 1)]), ((12, [(0, (2, 54, 0, 0)), (1, (0, 0, 15, 15)), (2, (0, 0, 0, 10)), (3, (0, 0, 12, 12))], [], [], [(0, 29, 0)]), [(false, 1)]), ((12, [(0, (2, 54, 0, 0)), (1, (0, 0, 15, 15)), (2, (0, 0, 0, 10)), (3, (0, 0, 13, 13))], [], [], [(0, 28, 0)]), [(false, 1)]), ((12, [(0, (2, 54, 0, 0)), (1, (0, 0, 15, 15)), (2, (0, 0, 0, 10)), (3, (0, 0, 14, 14))], [], [], [(0, 27, 0)]), [(false, 1)]), ((12, [(0, (2, 54, 0, 0)), (1, (0, 0, 15, 15)), (2, (0, 0, 0, 10)), (3, (0, 0, 15, 15))], [], [], [(0, 26, 0)]), [(false, 1)]), ((37, [(0, (2, 54, 0, 0)), (1, (0, 0, 15, 15)), (2, (0, 0, 0, 10)), (3, (0, 0, 0, 0))], [], [], [(0, 25, 0)]), [(false, 1)]), ((50, [(0, (2, 54, 0, 0)), (1, (0, 0, 15, 15)), (2, (0, 0, 0, 10)), (3, (0, 0, 0, 0)), (4, (1, 0, 1, 1)), (6, (0, 0, 0, 0))], [], [], [(0, 24, 0)]), [(false, 1)]), ((81, [(0, (2, 54, 0, 0)), (1, (0, 0, 15, 15)), (2, (0, 0, 0, 10)), (3, (0, 0, 0, 0)), (4, (1, 0, (-9223372036854775808), 9223372036854775807)), (6, (0, 0, 0, 15))], [], [], [(0, 23, 0), (1, 6, 15), (0, 1, 0)]), [(false, 0), (false, 1)]), ((37, [(0, (2, 54, 0, 0)), (1, (0, 0, 15, 15)), (2, (0, 0, 0, 10)), (3, (0, 0, 1, 1)), (4, (1, 0, (-9223372036854775808), 9223372036854775807)), (6, (0, 0, 15, 15))], [], [], [(0, 22, 0)]), [(false, 1)]), ((50, [(0, (2, 54, 0, 0)), (1, (0, 0, 15, 15)), (2, (0, 0, 0, 10)), (3, (0, 0, 1, 1)), (4, (1, 0, (-9223372036854775808), 9223372036854775807)), (6, (0, 0, 0, 1))], [], [], [(0, 21, 0), (1, 6, 1), (0, 1, 0)]), [(false, 0), (false, 1)]), ((81, [(0, (2, 54, 0, 0)), (1, (0, 0, 15, 15)), (2, (0, 0, 0, 10)), (3, (0, 0, 1, 1)), (4, (1, 0, (-9223372036854775808), 9223372036854775807)), (6, (0, 0, 0, 15))], [], [], [(0, 20, 0), (1, 6, 15), (0, 1, 0)]), [(false, 0), (false, 1)]), ((37, [(0, (2, 54, 0, 0)), (1, (0, 0, 15, 15)), (2, (0, 0, 0, 10)), (3, (0, 0, 2, 2)), (4, (1, 0, (-9223372036854775808), 9223372036854775807)), (6, (0, 0, 15, 15))], [], [], [(0, 19, 0)]), [(false, 1)]), ((50, [(0, (2, 54, 0, 0)), (1, (0, 0, 15, 15)), (2, (0, 0, 0, 10)), (3, (0, 0, 2, 2)), (4, (1, 0, (-9223372036854775808), 9223372036854775807)), (6, (0, 0, 0, 2))], [], [], [(0, 18, 0), (1, 6, 2), (0, 1, 0)]), [(false, 0), (false, 1)]), ((81, [(0, (2, 54, 0, 0)), (1, (0, 0, 15, 15)), (2, (0, 0, 0, 10)), (3, (0, 0, 2, 2)), (4, (1, 0, (-9223372036854775808), 9223372036854775807)), (6, (0, 0, 0, 15))], [], [], [(0, 17, 0), (1, 6, 15), (0, 1, 0)]), [(false, 0), (false, 1)]), ((37, [(0, (2, 54, 0, 0)), (1, (0, 0, 15, 15)), (2, (0, 0, 0, 10)), (3, (0, 0, 3, 3)), (4, (1, 0, (-9223372036854775808), 9223372036854775807)), (6, (0, 0, 15, 15))], [], [], [(0, 16, 0)]), [(false, 1)]), ((50, [(0, (2, 54, 0, 0)), (1, (0, 0, 15, 15)), (2, (0, 0, 0, 10)), (3, (0, 0, 3, 3)), (4, (1, 0, (-9223372036854775808), 9223372036854775807)), (6, (0, 0, 0, 3))], [], [], [(0, 15, 0), (1, 6, 3), (0, 1, 0)]), [(false, 0), (false, 1)]), ((81, [(0, (2, 54, 0, 0)), (1, (0, 0, 15, 15)), (2, (0, 0, 0, 10)), (3, (0, 0, 3, 3)), (4, (1, 0, (-9223372036854775808), 9223372036854775807)), (6, (0, 0, 0, 15))], [], [], [(0, 14, 0), (1, 6, 15), (0, 1, 0)]), [(false, 0), (false, 1)]), ((37, [(0, (2, 54, 0, 0)), (1, (0, 0, 15, 15)), (2, (0, 0, 0, 10)), (3, (0, 0, 4, 4)), (4, (1, 0, (-9223372036854775808), 9223372036854775807)), (6, (0, 0, 15, 15))], [], [], [(0, 13, 0)]), [(false, 1)]), ((50, [(0, (2, 54, 0, 0)), (1, (0, 0, 15, 15)), (2, (0, 0, 0, 10)), (3, (0, 0, 4, 4)), (4, (1, 0, (-9223372036854775808), 9223372036854775807)), (6, (0, 0, 0, 4))], [], [], [(0, 12, 0), (1, 6, 4), (0, 1, 0)]), [(false, 0), (false, 1)]), ((81, [(0, (2, 54, 0, 0)), (1, (0, 0, 15, 15)), (2, (0, 0, 0, 10)), (3, (0, 0, 4, 4)), (4, (1, 0, (-9223372036854775808), 9223372036854775807)), (6, (0, 0, 0, 15))], [], [], [(0, 11, 0), (1, 6, 15), (0, 1, 0)]), [(false, 0), (false, 1)]), ((37, [(0, (2, 54, 0, 0)), (1, (0, 0, 15, 15)), (2, (0, 0, 0, 10)), (3, (0, 0, 5, 5)), (4, (1, 0, (-9223372036854775808), 9223372036854775807)), (6, (0, 0, 15, 15))], [], [], [(0, 10, 0)]), [(false, 1)]), ((50, [(0, (2, 54, 0, 0)), (1, (0, 0, 15, 15)), (2, (0, 0, 0, 10)), (3, (0, 0, 5, 5)), (4, (1, 0, (-9223372036854775808), 9223372036854775807)), (6, (0, 0, 0, 5))], [], [], [(0, 9, 0), (1, 6, 5), (0, 1, 0)]), [(false, 0), (false, 1)]), ((81, [(0, (2, 54, 0, 0)), (1, (0, 0, 15, 15)), (2, (0, 0, 0, 10)), (3, (0, 0, 5, 5)), (4, (1, 0, (-9223372036854775808), 9223372036854775807)), (6, (0, 0, 0, 15))], [], [], [(0, 8, 0), (1, 6, 15), (0, 1, 0)]), [(false, 0), (false, 1)]), ((37, [(0, (2, 54, 0, 0)), (1, (0, 0, 15, 15)), (2, (0, 0, 0, 10)), (3, (0, 0, 6, 6)), (4, (1, 0, (-9223372036854775808), 9223372036854775807)), (6, (0, 0, 15, 15))], [], [], [(0, 7, 0)]), [(false, 1)]), ((50, [(0, (2, 54, 0, 0)), (1, (0, 0, 15, 15)), (2, (0, 0, 0, 10)), (3, (0, 0, 6, 6)), (4, (1, 0, (-9223372036854775808), 9223372036854775807)), (6, (0, 0, 0, 6))], [], [], [(0, 6, 0), (1, 6, 6), (0, 1, 0)]), [(false, 0), (false, 1)]), ((81, [(0, (2, 54, 0, 0)), (1, (0, 0, 15, 15)), (2, (0, 0, 0, 10)), (3, (0, 0, 6, 6)), (4, (1, 0, (-9223372036854775808), 9223372036854775807)), (6, (0, 0, 0, 15))], [], [], [(0, 5, 0), (1, 6, 15), (0, 1, 0)]), [(false, 0), (false, 1)]), ((37, [(0, (2, 54, 0, 0)), (1, (0, 0, 15, 15)), (2, (0, 0, 0, 10)), (3, (0, 0, 7, 7)), (4, (1, 0, (-9223372036854775808), 9223372036854775807)), (6, (0, 0, 15, 15))], [], [], [(0, 4, 0)]), [(false, 1)]), ((50, [(0, (2, 54, 0, 0)), (1, (0, 0, 15, 15)), (2, (0, 0, 0, 10)), (3, (0, 0, 7, 7)), (4, (1, 0, (-9223372036854775808), 9223372036854775807)), (6, (0, 0, 0, 7))], [], [], [(0, 3, 0), (1, 6, 7), (0, 1, 0)]), [(false, 0), (false, 1)]), ((81, [(0, (2, 54, 0, 0)), (1, (0, 0, 15, 15)), (2, (0, 0, 0, 10)), (3, (0, 0, 7, 7)), (4, (1, 0, (-9223372036854775808), 9223372036854775807)), (6, (0, 0, 0, 15))], [], [], [(0, 2, 0), (1, 6, 15), (0, 1, 0)]), [(false, 0), (false, 1)]), ((37, [(0, (2, 54, 0, 0)), (1, (0, 0, 15, 15)), (2, (0, 0, 0, 10)), (3, (0, 0, 8, 8)), (4, (1, 0, (-9223372036854775808), 9223372036854775807)), (6, (0, 0, 15, 15))], [], [], [(0, 1, 0)]), [])]
  (by decide +kernel) (fun s h => absurd h List.not_mem_nil)
noncomputable def sX11_survives_0 : SM := (mX11_survives, [(2, 54, 0, 0), (0, 0, (-2147483648), 2147483647), (0, 0, (-2147483648), 2147483647)], [], [([(0, 0, (-2), 15)], [(54, 0, 0, 0)], [])], [(0, 54, 0, 0), (1, 54, 39, 40)])
theorem kX11_survives_0 {SP : CT} (hSP : MONO SP) {sh : List (Nat × Nat)} : SMOK gE gRL sh (CLd SP 2) sX11_survives_0 :=
  chkS hSP [sX11_bets_0, sX11_bets_1, sX11_bets_2, sX11_bets_3, sX11_bets_4, sX11_bets_5, sX11_bets_6, sX11_bets_7, sX11_in_52, sX11_in_56] 31 [(false, 0)]
  [((33, [(0, (2, 54, 0, 0)), (1, (0, 0, 0, 10)), (2, (0, 0, 0, 100)), (3, (0, 0, 1, 1))], [], [(54, 0, 0, 0)], [(0, 9, 0)]), [(false, 1)]), ((33, [(0, (2, 54, 0, 0)), (1, (0, 0, 0, 10)), (2, (0, 0, 0, 100)), (3, (0, 0, 3, 3))], [], [(54, 0, 0, 0)], [(0, 8, 0)]), [(false, 1)]), ((33, [(0, (2, 54, 0, 0)), (1, (0, 0, 0, 10)), (2, (0, 0, 0, 100)), (3, (0, 0, 5, 5))], [], [(54, 0, 0, 0)], [(0, 7, 0)]), [(false, 1)]), ((33, [(0, (2, 54, 0, 0)), (1, (0, 0, 0, 10)), (2, (0, 0, 0, 100)), (3, (0, 0, 7, 7))], [], [(54, 0, 0, 0)], [(0, 6, 0)]), [(false, 1)]), ((33, [(0, (2, 54, 0, 0)), (1, (0, 0, 0, 10)), (2, (0, 0, 0, 100)), (3, (0, 0, 9, 9))], [], [(54, 0, 0, 0)], [(0, 5, 0)]), [(false, 1)]), ((33, [(0, (2, 54, 0, 0)), (1, (0, 0, 0, 10)), (2, (0, 0, 0, 100)), (3, (0, 0, 11, 11))], [], [(54, 0, 0, 0)], [(0, 4, 0)]), [(false, 1)]), ((33, [(0, (2, 54, 0, 0)), (1, (0, 0, 0, 10)), (2, (0, 0, 0, 100)), (3, (0, 0, 13, 13))], [], [(54, 0, 0, 0)], [(0, 3, 0)]), [(false, 1)]), ((33, [(0, (2, 54, 0, 0)), (1, (0, 0, 0, 10)), (2, (0, 0, 0, 100)), (3, (0, 0, 15, 15))], [], [(54, 0, 0, 0)], [(0, 2, 0)]), [(false, 1)]), ((33, [(0, (2, 54, 0, 0)), (1, (0, 0, 0, 10)), (2, (0, 0, 0, 100)), (3, (0, 0, 17, 17))], [], [(54, 0, 0, 0)], [(0, 1, 0)]), [])]
  (by decide +kernel) (List.forall_mem_cons.mpr ⟨SMOK_le (Nat.le_of_ble_eq_true rfl : 1 ≤ 1) (kX11_bets_0 hSP), List.forall_mem_cons.mpr ⟨SMOK_le (Nat.le_of_ble_eq_true rfl : 1 ≤ 1) (kX11_bets_1 hSP), List.forall_mem_cons.mpr ⟨SMOK_le (Nat.le_of_ble_eq_true rfl : 1 ≤ 1) (kX11_bets_2 hSP), List.forall_mem_cons.mpr ⟨SMOK_le (Nat.le_of_ble_eq_true rfl : 1 ≤ 1) (kX11_bets_3 hSP), List.forall_mem_cons.mpr ⟨SMOK_le (Nat.le_of_ble_eq_true rfl : 1 ≤ 1) (kX11_bets_4 hSP), List.forall_mem_cons.mpr ⟨SMOK_le (Nat.le_of_ble_eq_true rfl : 1 ≤ 1) (kX11_bets_5 hSP), List.forall_mem_cons.mpr ⟨SMOK_le (Nat.le_of_ble_eq_true rfl : 1 ≤ 1) (kX11_bets_6 hSP), List.forall_mem_cons.mpr ⟨SMOK_le (Nat.le_of_ble_eq_true rfl : 1 ≤ 1) (kX11_bets_7 hSP), List.forall_mem_cons.mpr ⟨SMOK_le (Nat.le_of_ble_eq_true rfl : 1 ≤ 1) (kX11_in_52 hSP), List.forall_mem_cons.mpr ⟨SMOK_le (Nat.le_of_ble_eq_true rfl : 1 ≤ 1) (kX11_in_56 hSP), fun s h => absurd h List.not_mem_nil⟩⟩⟩⟩⟩⟩⟩⟩⟩⟩)
noncomputable def sX11_lastsFor_0 : SM := (mX11_lastsFor, [(2, 54, 0, 0), (0, 0, 0, 0), (0, 0, 0, 7)], [], [([(0, 0, 99999, 99999)], [], []), ([(0, 0, (-2147483648), 2147483647)], [], [])], [])
theorem kX11_lastsFor_0 {SP : CT} (hSP : MONO SP) {sh : List (Nat × Nat)} : SMOK gE gRL sh (CLd SP 1) sX11_lastsFor_0 :=
  chkS hSP [] 32 [(false, 0)]
  [((8, [(0, (2, 54, 0, 0)), (1, (0, 0, 0, 0)), (2, (0, 0, 0, 7)), (3, (0, 0, 0, 0)), (4, (0, 0, 0, 0)), (5, (0, 0, 0, 0))], [], [], [(0, 9, 0)]), [(false, 1)]), ((8, [(0, (2, 54, 0, 0)), (1, (0, 0, 0, 0)), (2, (0, 0, 0, 7)), (3, (0, 0, (-2147483648), 2147483647)), (4, (0, 0, 0, 9)), (5, (0, 0, 1, 1))], [], [], [(0, 8, 0)]), [(false, 1)]), ((8, [(0, (2, 54, 0, 0)), (1, (0, 0, 0, 0)), (2, (0, 0, 1, 7)), (3, (0, 0, (-2147483648), 2147483647)), (4, (0, 0, 0, 18)), (5, (0, 0, 2, 2))], [], [], [(0, 7, 0)]), [(false, 1)]), ((8, [(0, (2, 54, 0, 0)), (1, (0, 0, 0, 0)), (2, (0, 0, 2, 7)), (3, (0, 0, (-2147483648), 2147483647)), (4, (0, 0, 0, 27)), (5, (0, 0, 3, 3))], [], [], [(0, 6, 0)]), [(false, 1)]), ((8, [(0, (2, 54, 0, 0)), (1, (0, 0, 0, 0)), (2, (0, 0, 3, 7)), (3, (0, 0, (-2147483648), 2147483647)), (4, (0, 0, 0, 36)), (5, (0, 0, 4, 4))], [], [], [(0, 5, 0)]), [(false, 1)]), ((8, [(0, (2, 54, 0, 0)), (1, (0, 0, 0, 0)), (2, (0, 0, 4, 7)), (3, (0, 0, (-2147483648), 2147483647)), (4, (0, 0, 0, 45)), (5, (0, 0, 5, 5))], [], [], [(0, 4, 0)]), [(false, 1)]), ((8, [(0, (2, 54, 0, 0)), (1, (0, 0, 0, 0)), (2, (0, 0, 5, 7)), (3, (0, 0, (-2147483648), 2147483647)), (4, (0, 0, 0, 54)), (5, (0, 0, 6, 6))], [], [], [(0, 3, 0)]), [(false, 1)]), ((8, [(0, (2, 54, 0, 0)), (1, (0, 0, 0, 0)), (2, (0, 0, 6, 7)), (3, (0, 0, (-2147483648), 2147483647)), (4, (0, 0, 0, 63)), (5, (0, 0, 7, 7))], [], [], [(0, 2, 0)]), [(false, 1)]), ((8, [(0, (2, 54, 0, 0)), (1, (0, 0, 0, 0)), (2, (0, 0, 7, 7)), (3, (0, 0, (-2147483648), 2147483647)), (4, (0, 0, 0, 72)), (5, (0, 0, 8, 8))], [], [], [(0, 1, 0)]), [])]
  (by decide +kernel) (fun s h => absurd h List.not_mem_nil)
noncomputable def sX11_lastsFor_1 : SM := (mX11_lastsFor, [(2, 54, 0, 0), (0, 0, 0, 7), (0, 0, 0, 7)], [], [([(0, 0, 99999, 99999)], [], []), ([(0, 0, (-2147483648), 2147483647)], [], [])], [])
theorem kX11_lastsFor_1 {SP : CT} (hSP : MONO SP) {sh : List (Nat × Nat)} : SMOK gE gRL sh (CLd SP 1) sX11_lastsFor_1 :=
  chkS hSP [] 32 [(false, 0)]
  [((8, [(0, (2, 54, 0, 0)), (1, (0, 0, 0, 7)), (2, (0, 0, 0, 7)), (3, (0, 0, 0, 0)), (4, (0, 0, 0, 0)), (5, (0, 0, 0, 7))], [], [], [(0, 9, 0)]), [(false, 1)]), ((8, [(0, (2, 54, 0, 0)), (1, (0, 0, 0, 7)), (2, (0, 0, 0, 7)), (3, (0, 0, (-2147483648), 2147483647)), (4, (0, 0, 0, 9)), (5, (0, 0, 1, 8))], [], [], [(0, 8, 0)]), [(false, 1)]), ((8, [(0, (2, 54, 0, 0)), (1, (0, 0, 0, 7)), (2, (0, 0, 1, 7)), (3, (0, 0, (-2147483648), 2147483647)), (4, (0, 0, 0, 18)), (5, (0, 0, 2, 8))], [], [], [(0, 7, 0)]), [(false, 1)]), ((8, [(0, (2, 54, 0, 0)), (1, (0, 0, 0, 7)), (2, (0, 0, 2, 7)), (3, (0, 0, (-2147483648), 2147483647)), (4, (0, 0, 0, 27)), (5, (0, 0, 3, 8))], [], [], [(0, 6, 0)]), [(false, 1)]), ((8, [(0, (2, 54, 0, 0)), (1, (0, 0, 0, 7)), (2, (0, 0, 3, 7)), (3, (0, 0, (-2147483648), 2147483647)), (4, (0, 0, 0, 36)), (5, (0, 0, 4, 8))], [], [], [(0, 5, 0)]), [(false, 1)]), ((8, [(0, (2, 54, 0, 0)), (1, (0, 0, 0, 7)), (2, (0, 0, 4, 7)), (3, (0, 0, (-2147483648), 2147483647)), (4, (0, 0, 0, 45)), (5, (0, 0, 5, 8))], [], [], [(0, 4, 0)]), [(false, 1)]), ((8, [(0, (2, 54, 0, 0)), (1, (0, 0, 0, 7)), (2, (0, 0, 5, 7)), (3, (0, 0, (-2147483648), 2147483647)), (4, (0, 0, 0, 54)), (5, (0, 0, 6, 8))], [], [], [(0, 3, 0)]), [(false, 1)]), ((8, [(0, (2, 54, 0, 0)), (1, (0, 0, 0, 7)), (2, (0, 0, 6, 7)), (3, (0, 0, (-2147483648), 2147483647)), (4, (0, 0, 0, 63)), (5, (0, 0, 7, 8))], [], [], [(0, 2, 0)]), [(false, 1)]), ((8, [(0, (2, 54, 0, 0)), (1, (0, 0, 0, 7)), (2, (0, 0, 7, 7)), (3, (0, 0, (-2147483648), 2147483647)), (4, (0, 0, 0, 72)), (5, (0, 0, 8, 8))], [], [], [(0, 1, 0)]), [])]
  (by decide +kernel) (fun s h => absurd h List.not_mem_nil)
noncomputable def sX11_lives_0 : SM := (mX11_lives, [(2, 54, 0, 0), (0, 0, (-2147483648), 2147483647)], [], [([(0, 0, (-2147483648), 2147483647)], [(54, 0, 0, 0), (54, 1, 1, 1)], []), ([(0, 0, (-1), (-1))], [(54, 0, 0, 0)], [])], [(0, 54, 0, 1), (1, 55, 0, 0)])
theorem kX11_lives_0 {SP : CT} (hSP : MONO SP) {sh : List (Nat × Nat)} : SMOK gE gRL sh (CLd SP 2) sX11_lives_0 :=
  chkS hSP [sX11_enters_0, sX11_in_7, sX11_lastsFor_0, sX11_lastsFor_1] 176 [(false, 0)]
  [((70, [(0, (2, 54, 0, 0)), (1, (0, 0, 0, 3)), (2, (0, 0, (-2147483648), 2147483647)), (3, (0, 0, (-1), 7)), (4, (0, 0, 0, 8))], [], [(54, 0, 0, 0), (54, 7, 1, 8)], [(0, 1, 0), (1, 4, 8), (0, 1, 0)]), [(false, 0)])]
  (by decide +kernel) (List.forall_mem_cons.mpr ⟨SMOK_le (Nat.le_of_ble_eq_true rfl : 1 ≤ 1) (kX11_enters_0 hSP), List.forall_mem_cons.mpr ⟨SMOK_le (Nat.le_of_ble_eq_true rfl : 1 ≤ 1) (kX11_in_7 hSP), List.forall_mem_cons.mpr ⟨SMOK_le (Nat.le_of_ble_eq_true rfl : 1 ≤ 1) (kX11_lastsFor_0 hSP), List.forall_mem_cons.mpr ⟨SMOK_le (Nat.le_of_ble_eq_true rfl : 1 ≤ 1) (kX11_lastsFor_1 hSP), fun s h => absurd h List.not_mem_nil⟩⟩⟩⟩)
noncomputable def sX11_has_0 : SM := (mX11_has, [(0, 0, (-2147483648), 2147483647), (0, 0, (-2147483648), 2147483647)], [], [([(0, 0, 1, 1)], [], []), ([(0, 0, 0, 0)], [], [])], [])
theorem kX11_has_0 {SP : CT} (hSP : MONO SP) {sh : List (Nat × Nat)} : SMOK gE gRL sh (CLd SP 1) sX11_has_0 :=
  chkS hSP [] 14 []
  []
  (by decide +kernel) (fun s h => absurd h List.not_mem_nil)
noncomputable def sX11_fast_0 : SM := (mX11_fast, [(2, 54, 0, 0), (0, 0, (-2147483648), 2147483647)], [], [([(0, 0, (-1), 2147483646)], [(54, 0, 0, 0), (54, 1, 2, 2)], []), ([(0, 0, (-1), (-1))], [(54, 0, 0, 0)], [])], [(0, 54, 0, 1), (1, 55, 0, 1)])
theorem kX11_fast_0 {SP : CT} (hSP : MONO SP) {sh : List (Nat × Nat)} : SMOK gE gRL sh (CLd SP 2) sX11_fast_0 :=
  chkS hSP [sJ6_bitCount_0f7a4_0, sX11_enters_0, sX11_enters_1, sX11_has_0, sX11_in_23] 113 [(false, 0)]
  [((30, [(0, (2, 54, 0, 0)), (1, (0, 0, 0, 99)), (2, (0, 0, (-2147483648), 2147483647)), (3, (0, 0, 0, 8))], [], [(54, 0, 0, 0), (54, 7, 1, 8)], [(0, 2, 0), (1, 3, 8), (0, 1, 0)]), [(false, 0), (false, 1)]), ((64, [(0, (2, 54, 0, 0)), (1, (0, 0, 0, 99)), (2, (0, 0, (-2147483648), 2147483647)), (3, (0, 0, (-1), 2147483646)), (4, (0, 0, 0, 2147483647)), (5, (0, 0, 0, 2147483647))], [], [(54, 0, 0, 0), (54, 7, 1, 8)], [(0, 1, 0), (1, 5, 2147483647), (0, 2, 0)]), [(false, 1)]), ((81, [(0, (2, 54, 0, 0)), (1, (0, 0, 0, 99)), (2, (0, 0, (-2147483648), 2147483647)), (3, (0, 0, (-1), 2147483646)), (4, (0, 0, 0, 2147483647)), (5, (0, 0, 0, 2147483646)), (6, (0, 0, (-2147483648), 2147483647)), (7, (0, 0, 0, 8))], [], [(54, 0, 0, 0), (54, 7, 1, 8)], [(0, 1, 0), (1, 5, 2147483647), (0, 1, 0), (1, 7, 8), (0, 1, 0)]), [(true, 0), (false, 0)])]
  (by decide +kernel) (List.forall_mem_cons.mpr ⟨SMOK_le (Nat.le_of_ble_eq_true rfl : 1 ≤ 1) (kJ6_bitCount_0f7a4_0 hSP), List.forall_mem_cons.mpr ⟨SMOK_le (Nat.le_of_ble_eq_true rfl : 1 ≤ 1) (kX11_enters_0 hSP), List.forall_mem_cons.mpr ⟨SMOK_le (Nat.le_of_ble_eq_true rfl : 1 ≤ 1) (kX11_enters_1 hSP), List.forall_mem_cons.mpr ⟨SMOK_le (Nat.le_of_ble_eq_true rfl : 1 ≤ 1) (kX11_has_0 hSP), List.forall_mem_cons.mpr ⟨SMOK_le (Nat.le_of_ble_eq_true rfl : 1 ≤ 1) (kX11_in_23 hSP), fun s h => absurd h List.not_mem_nil⟩⟩⟩⟩⟩)
noncomputable def sX11_in_65 : SM := (mX11_in, [(1, 0, (-2147483648), (-1)), (1, 0, 0, 0), (1, 0, 99999, 99999)], [], [([(0, 0, 0, 0)], [], [])], [])
theorem kX11_in_65 {SP : CT} (hSP : MONO SP) {sh : List (Nat × Nat)} : SMOK gE gRL sh (CLd SP 1) sX11_in_65 :=
  chkS hSP [] 8 []
  []
  (by decide +kernel) (fun s h => absurd h List.not_mem_nil)
noncomputable def sX11_in_66 : SM := (mX11_in, [(1, 0, 0, 99999), (1, 0, 0, 0), (1, 0, 99999, 99999)], [], [([(0, 0, 1, 1)], [], [])], [])
theorem kX11_in_66 {SP : CT} (hSP : MONO SP) {sh : List (Nat × Nat)} : SMOK gE gRL sh (CLd SP 1) sX11_in_66 :=
  chkS hSP [] 13 []
  []
  (by decide +kernel) (fun s h => absurd h List.not_mem_nil)
noncomputable def sX11_in_67 : SM := (mX11_in, [(1, 0, 100000, 2147483647), (1, 0, 0, 0), (1, 0, 99999, 99999)], [], [([(0, 0, 0, 0)], [], [])], [])
theorem kX11_in_67 {SP : CT} (hSP : MONO SP) {sh : List (Nat × Nat)} : SMOK gE gRL sh (CLd SP 1) sX11_in_67 :=
  chkS hSP [] 12 []
  []
  (by decide +kernel) (fun s h => absurd h List.not_mem_nil)
noncomputable def sX11_in_68 : SM := (jn 1 0 (-2147483648) (-1) 2147483647 [(1, 0, (-2147483648), 2147483647), (1, 0, 0, 0), (1, 0, 99999, 99999)] sX11_in_65 (jn 1 0 0 99999 2147483647 [(1, 0, 0, 2147483647), (1, 0, 0, 0), (1, 0, 99999, 99999)] sX11_in_66 sX11_in_67))
theorem kX11_in_68 {SP : CT} (hSP : MONO SP) {sh : List (Nat × Nat)} : SMOK gE gRL sh (CLd SP 1) sX11_in_68 :=
  SMOK_jn (MONO_CLd hSP 1) 1 (by decide) 0 (-2147483648) (-1) 2147483647 (as := [(1, 0, (-2147483648), 2147483647), (1, 0, 0, 0), (1, 0, 99999, 99999)]) rfl rfl rfl rfl rfl rfl rfl (SMOK_le (Nat.le_of_ble_eq_true rfl : 1 ≤ 1) (kX11_in_65 hSP)) (SMOK_jn (MONO_CLd hSP 1) 1 (by decide) 0 0 99999 2147483647 (as := [(1, 0, 0, 2147483647), (1, 0, 0, 0), (1, 0, 99999, 99999)]) rfl rfl rfl rfl rfl rfl rfl (SMOK_le (Nat.le_of_ble_eq_true rfl : 1 ≤ 1) (kX11_in_66 hSP)) (SMOK_le (Nat.le_of_ble_eq_true rfl : 1 ≤ 1) (kX11_in_67 hSP)))
noncomputable def sX11_in_69 : SM := (mX11_in, [(1, 0, (-2147483648), 1), (1, 0, 2, 2), (1, 0, 9, 9)], [], [([(0, 0, 0, 0)], [], [])], [])
theorem kX11_in_69 {SP : CT} (hSP : MONO SP) {sh : List (Nat × Nat)} : SMOK gE gRL sh (CLd SP 1) sX11_in_69 :=
  chkS hSP [] 8 []
  []
  (by decide +kernel) (fun s h => absurd h List.not_mem_nil)
noncomputable def sX11_canRest_0 : SM := (mX11_canRest, [(0, 0, (-2147483648), 1)], [], [([(0, 0, 0, 0)], [], [])], [])
theorem kX11_canRest_0 {SP : CT} (hSP : MONO SP) {sh : List (Nat × Nat)} : SMOK gE gRL sh (CLd SP 2) sX11_canRest_0 :=
  chkS hSP [sX11_in_69] 8 []
  []
  (by decide +kernel) (List.forall_mem_cons.mpr ⟨SMOK_le (Nat.le_of_ble_eq_true rfl : 1 ≤ 1) (kX11_in_69 hSP), fun s h => absurd h List.not_mem_nil⟩)
noncomputable def sX11_in_70 : SM := (mX11_in, [(1, 0, 2, 9), (1, 0, 2, 2), (1, 0, 9, 9)], [], [([(0, 0, 1, 1)], [], [])], [])
theorem kX11_in_70 {SP : CT} (hSP : MONO SP) {sh : List (Nat × Nat)} : SMOK gE gRL sh (CLd SP 1) sX11_in_70 :=
  chkS hSP [] 13 []
  []
  (by decide +kernel) (fun s h => absurd h List.not_mem_nil)
noncomputable def sX11_canRest_1 : SM := (mX11_canRest, [(0, 0, 2, 9)], [], [([(0, 0, 1, 1)], [], [])], [])
theorem kX11_canRest_1 {SP : CT} (hSP : MONO SP) {sh : List (Nat × Nat)} : SMOK gE gRL sh (CLd SP 2) sX11_canRest_1 :=
  chkS hSP [sX11_in_70] 8 []
  []
  (by decide +kernel) (List.forall_mem_cons.mpr ⟨SMOK_le (Nat.le_of_ble_eq_true rfl : 1 ≤ 1) (kX11_in_70 hSP), fun s h => absurd h List.not_mem_nil⟩)
noncomputable def sX11_in_71 : SM := (mX11_in, [(1, 0, 10, 2147483647), (1, 0, 2, 2), (1, 0, 9, 9)], [], [([(0, 0, 0, 0)], [], [])], [])
theorem kX11_in_71 {SP : CT} (hSP : MONO SP) {sh : List (Nat × Nat)} : SMOK gE gRL sh (CLd SP 1) sX11_in_71 :=
  chkS hSP [] 12 []
  []
  (by decide +kernel) (fun s h => absurd h List.not_mem_nil)
noncomputable def sX11_canRest_2 : SM := (mX11_canRest, [(0, 0, 10, 2147483647)], [], [([(0, 0, 0, 0)], [], [])], [])
theorem kX11_canRest_2 {SP : CT} (hSP : MONO SP) {sh : List (Nat × Nat)} : SMOK gE gRL sh (CLd SP 2) sX11_canRest_2 :=
  chkS hSP [sX11_in_71] 8 []
  []
  (by decide +kernel) (List.forall_mem_cons.mpr ⟨SMOK_le (Nat.le_of_ble_eq_true rfl : 1 ≤ 1) (kX11_in_71 hSP), fun s h => absurd h List.not_mem_nil⟩)
noncomputable def sX11_canRest_3 : SM := (jn 0 0 (-2147483648) 1 2147483647 [(0, 0, (-2147483648), 2147483647)] sX11_canRest_0 (jn 0 0 2 9 2147483647 [(0, 0, 2, 2147483647)] sX11_canRest_1 sX11_canRest_2))
theorem kX11_canRest_3 {SP : CT} (hSP : MONO SP) {sh : List (Nat × Nat)} : SMOK gE gRL sh (CLd SP 2) sX11_canRest_3 :=
  SMOK_jn (MONO_CLd hSP 2) 0 (by decide) 0 (-2147483648) 1 2147483647 (as := [(0, 0, (-2147483648), 2147483647)]) rfl rfl rfl rfl rfl rfl rfl (SMOK_le (Nat.le_of_ble_eq_true rfl : 2 ≤ 2) (kX11_canRest_0 hSP)) (SMOK_jn (MONO_CLd hSP 2) 0 (by decide) 0 2 9 2147483647 (as := [(0, 0, 2, 2147483647)]) rfl rfl rfl rfl rfl rfl rfl (SMOK_le (Nat.le_of_ble_eq_true rfl : 2 ≤ 2) (kX11_canRest_1 hSP)) (SMOK_le (Nat.le_of_ble_eq_true rfl : 2 ≤ 2) (kX11_canRest_2 hSP)))
noncomputable def sX11_boyBegins_0 : SM := (mX11_boyBegins, [(2, 54, 0, 0), (0, 0, 0, 0), (0, 0, 1, 1)], [], [([], [(54, 48, 0, 0), (54, 49, 1, 1)], [])], [(0, 54, 48, 49)])
theorem kX11_boyBegins_0 {SP : CT} (hSP : MONO SP) {sh : List (Nat × Nat)} : SMOK gE gRL sh (CLd SP 1) sX11_boyBegins_0 :=
  chkS hSP [] 9 []
  []
  (by decide +kernel) (fun s h => absurd h List.not_mem_nil)
noncomputable def sX11_boyGoes_0 : SM := (mX11_boyGoes, [(2, 54, 0, 0)], [], [([], [(54, 48, 1, 39), (54, 49, (-1), (-1))], []), ([], [(54, 48, 0, 0), (54, 49, 1, 1)], []), ([], [(54, 48, (-2147483648), 2147483647), (54, 49, (-2147483648), 2147483647)], [])], [(0, 54, 48, 49)])
theorem kX11_boyGoes_0 {SP : CT} (hSP : MONO SP) {sh : List (Nat × Nat)} : SMOK gE gRL sh (CLd SP 1) sX11_boyGoes_0 :=
  chkS hSP [] 32 []
  []
  (by decide +kernel) (fun s h => absurd h List.not_mem_nil)
noncomputable def sX11_boy_0 : SM := (mX11_boy, [(2, 54, 0, 0), (0, 0, (-2147483648), 2147483647), (0, 0, (-2147483648), 2147483647)], [], [([(0, 0, (-2147483648), 2147483647)], [(54, 0, 0, 0), (54, 1, 1, 1)], []), ([(0, 0, (-1), (-1))], [(54, 0, 0, 0)], [])], [(0, 54, 0, 1), (0, 54, 48, 49), (1, 55, 0, 0)])
theorem kX11_boy_0 {SP : CT} (hSP : MONO SP) {sh : List (Nat × Nat)} : SMOK gE gRL sh (CLd SP 3) sX11_boy_0 :=
  chkS hSP [sX11_boyBegins_0, sX11_boyGoes_0, sX11_canRest_3, sX11_enters_0, sX11_in_68] 32 [(false, 0)]
  [((34, [(0, (2, 54, 0, 0)), (1, (0, 0, 0, 99999)), (2, (0, 0, 2, 9)), (3, (0, 0, 1, 100000))], [], [(54, 0, 0, 0)], [(0, 1, 0), (1, 3, 100000), (0, 1, 0)]), [(false, 0)])]
  (by decide +kernel) (List.forall_mem_cons.mpr ⟨SMOK_le (Nat.le_of_ble_eq_true rfl : 1 ≤ 2) (kX11_boyBegins_0 hSP), List.forall_mem_cons.mpr ⟨SMOK_le (Nat.le_of_ble_eq_true rfl : 1 ≤ 2) (kX11_boyGoes_0 hSP), List.forall_mem_cons.mpr ⟨SMOK_le (Nat.le_of_ble_eq_true rfl : 2 ≤ 2) (kX11_canRest_3 hSP), List.forall_mem_cons.mpr ⟨SMOK_le (Nat.le_of_ble_eq_true rfl : 1 ≤ 2) (kX11_enters_0 hSP), List.forall_mem_cons.mpr ⟨SMOK_le (Nat.le_of_ble_eq_true rfl : 1 ≤ 2) (kX11_in_68 hSP), fun s h => absurd h List.not_mem_nil⟩⟩⟩⟩⟩)
noncomputable def sX11_meets_0 : SM := (mX11_meets, [(2, 54, 0, 0), (0, 0, (-2147483648), 2147483647)], [], [([(0, 0, 1, 999)], [(54, 0, 0, 0), (54, 1, 1, 1)], []), ([(0, 0, (-2), (-2))], [(54, 0, 0, 0)], []), ([(0, 0, (-1), (-1))], [(54, 0, 0, 0)], [])], [(0, 54, 0, 1), (0, 54, 48, 49), (1, 55, 0, 0)])
theorem kX11_meets_0 {SP : CT} (hSP : MONO SP) {sh : List (Nat × Nat)} : SMOK gE gRL sh (CLd SP 3) sX11_meets_0 :=
  chkS hSP [sX11_boyBegins_0, sX11_boyGoes_0, sX11_canRest_3, sX11_enters_0] 253 [(false, 0)]
  [((32, [(0, (2, 54, 0, 0)), (1, (0, 0, 2, 9)), (2, (0, 0, (-2147483648), 2147483647)), (3, (0, 0, (-1), 1)), (4, (0, 0, 1, 1000))], [], [(54, 0, 0, 0)], [(0, 1, 0), (1, 4, 1000), (0, 1, 0)]), [(false, 0)])]
  (by decide +kernel) (List.forall_mem_cons.mpr ⟨SMOK_le (Nat.le_of_ble_eq_true rfl : 1 ≤ 2) (kX11_boyBegins_0 hSP), List.forall_mem_cons.mpr ⟨SMOK_le (Nat.le_of_ble_eq_true rfl : 1 ≤ 2) (kX11_boyGoes_0 hSP), List.forall_mem_cons.mpr ⟨SMOK_le (Nat.le_of_ble_eq_true rfl : 2 ≤ 2) (kX11_canRest_3 hSP), List.forall_mem_cons.mpr ⟨SMOK_le (Nat.le_of_ble_eq_true rfl : 1 ≤ 2) (kX11_enters_0 hSP), fun s h => absurd h List.not_mem_nil⟩⟩⟩⟩)
noncomputable def sX11_in_72 : SM := (mX11_in, [(1, 0, (-2147483648), 0), (1, 0, 1, 1), (1, 0, 12, 12)], [], [([(0, 0, 0, 0)], [], [])], [])
theorem kX11_in_72 {SP : CT} (hSP : MONO SP) {sh : List (Nat × Nat)} : SMOK gE gRL sh (CLd SP 1) sX11_in_72 :=
  chkS hSP [] 8 []
  []
  (by decide +kernel) (fun s h => absurd h List.not_mem_nil)
noncomputable def sX11_in_73 : SM := (mX11_in, [(1, 0, 1, 12), (1, 0, 1, 1), (1, 0, 12, 12)], [], [([(0, 0, 1, 1)], [], [])], [])
theorem kX11_in_73 {SP : CT} (hSP : MONO SP) {sh : List (Nat × Nat)} : SMOK gE gRL sh (CLd SP 1) sX11_in_73 :=
  chkS hSP [] 13 []
  []
  (by decide +kernel) (fun s h => absurd h List.not_mem_nil)
noncomputable def sX11_in_74 : SM := (mX11_in, [(1, 0, 13, 2147483647), (1, 0, 1, 1), (1, 0, 12, 12)], [], [([(0, 0, 0, 0)], [], [])], [])
theorem kX11_in_74 {SP : CT} (hSP : MONO SP) {sh : List (Nat × Nat)} : SMOK gE gRL sh (CLd SP 1) sX11_in_74 :=
  chkS hSP [] 12 []
  []
  (by decide +kernel) (fun s h => absurd h List.not_mem_nil)
noncomputable def sX11_in_75 : SM := (jn 1 0 (-2147483648) 0 2147483647 [(1, 0, (-2147483648), 2147483647), (1, 0, 1, 1), (1, 0, 12, 12)] sX11_in_72 (jn 1 0 1 12 2147483647 [(1, 0, 1, 2147483647), (1, 0, 1, 1), (1, 0, 12, 12)] sX11_in_73 sX11_in_74))
theorem kX11_in_75 {SP : CT} (hSP : MONO SP) {sh : List (Nat × Nat)} : SMOK gE gRL sh (CLd SP 1) sX11_in_75 :=
  SMOK_jn (MONO_CLd hSP 1) 1 (by decide) 0 (-2147483648) 0 2147483647 (as := [(1, 0, (-2147483648), 2147483647), (1, 0, 1, 1), (1, 0, 12, 12)]) rfl rfl rfl rfl rfl rfl rfl (SMOK_le (Nat.le_of_ble_eq_true rfl : 1 ≤ 1) (kX11_in_72 hSP)) (SMOK_jn (MONO_CLd hSP 1) 1 (by decide) 0 1 12 2147483647 (as := [(1, 0, 1, 2147483647), (1, 0, 1, 1), (1, 0, 12, 12)]) rfl rfl rfl rfl rfl rfl rfl (SMOK_le (Nat.le_of_ble_eq_true rfl : 1 ≤ 1) (kX11_in_73 hSP)) (SMOK_le (Nat.le_of_ble_eq_true rfl : 1 ≤ 1) (kX11_in_74 hSP)))
noncomputable def sX11_in_76 : SM := (mX11_in, [(1, 0, (-2147483648), 0), (1, 0, 1, 1), (1, 0, 60, 60)], [], [([(0, 0, 0, 0)], [], [])], [])
theorem kX11_in_76 {SP : CT} (hSP : MONO SP) {sh : List (Nat × Nat)} : SMOK gE gRL sh (CLd SP 1) sX11_in_76 :=
  chkS hSP [] 8 []
  []
  (by decide +kernel) (fun s h => absurd h List.not_mem_nil)
noncomputable def sX11_in_77 : SM := (mX11_in, [(1, 0, 1, 60), (1, 0, 1, 1), (1, 0, 60, 60)], [], [([(0, 0, 1, 1)], [], [])], [])
theorem kX11_in_77 {SP : CT} (hSP : MONO SP) {sh : List (Nat × Nat)} : SMOK gE gRL sh (CLd SP 1) sX11_in_77 :=
  chkS hSP [] 13 []
  []
  (by decide +kernel) (fun s h => absurd h List.not_mem_nil)
noncomputable def sX11_in_78 : SM := (mX11_in, [(1, 0, 61, 2147483647), (1, 0, 1, 1), (1, 0, 60, 60)], [], [([(0, 0, 0, 0)], [], [])], [])
theorem kX11_in_78 {SP : CT} (hSP : MONO SP) {sh : List (Nat × Nat)} : SMOK gE gRL sh (CLd SP 1) sX11_in_78 :=
  chkS hSP [] 12 []
  []
  (by decide +kernel) (fun s h => absurd h List.not_mem_nil)
noncomputable def sX11_in_79 : SM := (jn 1 0 (-2147483648) 0 2147483647 [(1, 0, (-2147483648), 2147483647), (1, 0, 1, 1), (1, 0, 60, 60)] sX11_in_76 (jn 1 0 1 60 2147483647 [(1, 0, 1, 2147483647), (1, 0, 1, 1), (1, 0, 60, 60)] sX11_in_77 sX11_in_78))
theorem kX11_in_79 {SP : CT} (hSP : MONO SP) {sh : List (Nat × Nat)} : SMOK gE gRL sh (CLd SP 1) sX11_in_79 :=
  SMOK_jn (MONO_CLd hSP 1) 1 (by decide) 0 (-2147483648) 0 2147483647 (as := [(1, 0, (-2147483648), 2147483647), (1, 0, 1, 1), (1, 0, 60, 60)]) rfl rfl rfl rfl rfl rfl rfl (SMOK_le (Nat.le_of_ble_eq_true rfl : 1 ≤ 1) (kX11_in_76 hSP)) (SMOK_jn (MONO_CLd hSP 1) 1 (by decide) 0 1 60 2147483647 (as := [(1, 0, 1, 2147483647), (1, 0, 1, 1), (1, 0, 60, 60)]) rfl rfl rfl rfl rfl rfl rfl (SMOK_le (Nat.le_of_ble_eq_true rfl : 1 ≤ 1) (kX11_in_77 hSP)) (SMOK_le (Nat.le_of_ble_eq_true rfl : 1 ≤ 1) (kX11_in_78 hSP)))
noncomputable def sX11_count_0 : SM := (mX11_count, [(2, 54, 0, 0), (0, 0, (-2147483648), 2147483647)], [], [([(0, 0, (-2147483648), 2147483647)], [(54, 0, 0, 0)], [])], [(0, 54, 0, 0)])
theorem kX11_count_0 {SP : CT} (hSP : MONO SP) {sh : List (Nat × Nat)} : SMOK gE gRL sh (CLd SP 1) sX11_count_0 :=
  chkS hSP [] 56 []
  []
  (by decide +kernel) (fun s h => absurd h List.not_mem_nil)
noncomputable def sX4_add_0 : SM := (mX4_add, [(2, 8, 0, 0), (0, 0, (-2147483648), 2147483647)], [], [([], [], [])], [(0, 8, 1, 1), (0, 9, 0, 39)])
theorem kX4_add_0 {SP : CT} (hSP : MONO SP) {sh : List (Nat × Nat)} : SMOK gE gRL sh (CLd SP 1) sX4_add_0 :=
  chkS hSP [] 20 []
  []
  (by decide +kernel) (fun s h => absurd h List.not_mem_nil)
noncomputable def sX11_worked_0 : SM := (mX11_worked, [(0, 0, (-2147483648), 2147483647), (0, 0, (-2147483648), 2147483647), (0, 0, (-2147483648), (-1))], [], [([(0, 0, (-2147483648), 2147483647)], [], []), ([(0, 0, 1, 1)], [], []), ([(0, 0, 0, 0)], [], [])], [])
theorem kX11_worked_0 {SP : CT} (hSP : MONO SP) {sh : List (Nat × Nat)} : SMOK gE gRL sh (CLd SP 2) sX11_worked_0 :=
  chkS hSP [sX11_flag_0, sX11_flag_1] 52 []
  []
  (by decide +kernel) (List.forall_mem_cons.mpr ⟨SMOK_le (Nat.le_of_ble_eq_true rfl : 1 ≤ 1) (kX11_flag_0 hSP), List.forall_mem_cons.mpr ⟨SMOK_le (Nat.le_of_ble_eq_true rfl : 1 ≤ 1) (kX11_flag_1 hSP), fun s h => absurd h List.not_mem_nil⟩⟩)
noncomputable def sX11_worked_1 : SM := (mX11_worked, [(0, 0, (-2147483648), 2147483647), (0, 0, (-2147483648), 2147483647), (0, 0, 0, 0)], [], [([(0, 0, 0, 0)], [], []), ([(0, 0, (-2147483648), 2147483647)], [], []), ([(0, 0, 1, 1)], [], [])], [])
theorem kX11_worked_1 {SP : CT} (hSP : MONO SP) {sh : List (Nat × Nat)} : SMOK gE gRL sh (CLd SP 2) sX11_worked_1 :=
  chkS hSP [sX11_flag_0, sX11_flag_1] 51 []
  []
  (by decide +kernel) (List.forall_mem_cons.mpr ⟨SMOK_le (Nat.le_of_ble_eq_true rfl : 1 ≤ 1) (kX11_flag_0 hSP), List.forall_mem_cons.mpr ⟨SMOK_le (Nat.le_of_ble_eq_true rfl : 1 ≤ 1) (kX11_flag_1 hSP), fun s h => absurd h List.not_mem_nil⟩⟩)
noncomputable def sX11_worked_2 : SM := (mX11_worked, [(0, 0, (-2147483648), 2147483647), (0, 0, (-2147483648), 2147483647), (0, 0, 1, 2147483647)], [], [([(0, 0, (-2147483648), 2147483647)], [], []), ([(0, 0, 1, 1)], [], []), ([(0, 0, 0, 0)], [], [])], [])
theorem kX11_worked_2 {SP : CT} (hSP : MONO SP) {sh : List (Nat × Nat)} : SMOK gE gRL sh (CLd SP 2) sX11_worked_2 :=
  chkS hSP [sX11_flag_0, sX11_flag_1] 52 []
  []
  (by decide +kernel) (List.forall_mem_cons.mpr ⟨SMOK_le (Nat.le_of_ble_eq_true rfl : 1 ≤ 1) (kX11_flag_0 hSP), List.forall_mem_cons.mpr ⟨SMOK_le (Nat.le_of_ble_eq_true rfl : 1 ≤ 1) (kX11_flag_1 hSP), fun s h => absurd h List.not_mem_nil⟩⟩)
noncomputable def sX11_worked_3 : SM := (jn 0 2 (-2147483648) (-1) 2147483647 [(0, 0, (-2147483648), 2147483647), (0, 0, (-2147483648), 2147483647), (0, 0, (-2147483648), 2147483647)] sX11_worked_0 (jn 0 2 0 0 2147483647 [(0, 0, (-2147483648), 2147483647), (0, 0, (-2147483648), 2147483647), (0, 0, 0, 2147483647)] sX11_worked_1 sX11_worked_2))
theorem kX11_worked_3 {SP : CT} (hSP : MONO SP) {sh : List (Nat × Nat)} : SMOK gE gRL sh (CLd SP 2) sX11_worked_3 :=
  SMOK_jn (MONO_CLd hSP 2) 0 (by decide) 2 (-2147483648) (-1) 2147483647 (as := [(0, 0, (-2147483648), 2147483647), (0, 0, (-2147483648), 2147483647), (0, 0, (-2147483648), 2147483647)]) rfl rfl rfl rfl rfl rfl rfl (SMOK_le (Nat.le_of_ble_eq_true rfl : 2 ≤ 2) (kX11_worked_0 hSP)) (SMOK_jn (MONO_CLd hSP 2) 0 (by decide) 2 0 0 2147483647 (as := [(0, 0, (-2147483648), 2147483647), (0, 0, (-2147483648), 2147483647), (0, 0, 0, 2147483647)]) rfl rfl rfl rfl rfl rfl rfl (SMOK_le (Nat.le_of_ble_eq_true rfl : 2 ≤ 2) (kX11_worked_1 hSP)) (SMOK_le (Nat.le_of_ble_eq_true rfl : 2 ≤ 2) (kX11_worked_2 hSP)))
noncomputable def sX11_moved_0 : SM := (mX11_moved, [(0, 0, (-2147483648), 2147483647), (0, 0, (-2147483648), 2147483647)], [], [([(0, 0, (-2147483648), 2147483647)], [], [])], [])
theorem kX11_moved_0 {SP : CT} (hSP : MONO SP) {sh : List (Nat × Nat)} : SMOK gE gRL sh (CLd SP 2) sX11_moved_0 :=
  chkS hSP [sX11_has_0, sX11_put_0] 29 [(false, 0)]
  [((4, [(0, (0, 0, (-2147483648), 2147483647)), (1, (0, 0, (-2147483648), 2147483647)), (2, (0, 0, (-2147483648), 2147483647)), (3, (0, 0, 0, 9))], [], [], [(0, 1, 0), (1, 3, 9), (0, 1, 0)]), [(false, 0)])]
  (by decide +kernel) (List.forall_mem_cons.mpr ⟨SMOK_le (Nat.le_of_ble_eq_true rfl : 1 ≤ 1) (kX11_has_0 hSP), List.forall_mem_cons.mpr ⟨SMOK_le (Nat.le_of_ble_eq_true rfl : 1 ≤ 1) (kX11_put_0 hSP), fun s h => absurd h List.not_mem_nil⟩⟩)
noncomputable def sX11_movedByDue_0 : SM := (mX11_movedByDue, [(2, 54, 0, 0), (0, 0, (-2147483648), 2147483647), (0, 0, (-2147483648), 2147483647)], [], [([(0, 0, (-2147483648), 2147483647)], [], [])], [])
theorem kX11_movedByDue_0 {SP : CT} (hSP : MONO SP) {sh : List (Nat × Nat)} : SMOK gE gRL sh (CLd SP 3) sX11_movedByDue_0 :=
  chkS hSP [sX11_moved_0] 45 [(false, 0)]
  [((5, [(0, (2, 54, 0, 0)), (1, (0, 0, (-2147483648), 2147483647)), (2, (0, 0, (-2147483648), 2147483647)), (3, (0, 0, (-2147483648), 2147483647)), (4, (0, 0, 0, 12))], [], [(61, 3, 0, 12)], [(0, 1, 0), (1, 4, 12), (0, 1, 0)]), [(false, 0)])]
  (by decide +kernel) (List.forall_mem_cons.mpr ⟨SMOK_le (Nat.le_of_ble_eq_true rfl : 2 ≤ 2) (kX11_moved_0 hSP), fun s h => absurd h List.not_mem_nil⟩)
