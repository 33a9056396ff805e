/-! WHAT THE CHECKER SAYS OF METHODS, the answers that the law asks of the reference -/
def sX11_in_80 : SM := (mX11_in, [(1, 0, (-2147483648), (-1)), (1, 0, 0, 0), (1, 0, (-1), 9)], [], [([(0, 0, 0, 0)], [], [])], [])
theorem kX11_in_80 {SP : CT} (hSP : MONO SP) {sh : List (Nat × Nat)} : SMOK gE gRL sh (CLd SP 1) sX11_in_80 :=
  chkS hSP [] 8 []
  []
  (by decide +kernel) (fun s h => absurd h List.not_mem_nil)
def sX11_in_81 : SM := (mX11_in, [(1, 0, 0, 9), (1, 0, 0, 0), (1, 0, (-1), 9)], [], [([(0, 0, 1, 1)], [], []), ([(0, 0, 0, 0)], [], [])], [])
theorem kX11_in_81 {SP : CT} (hSP : MONO SP) {sh : List (Nat × Nat)} : SMOK gE gRL sh (CLd SP 1) sX11_in_81 :=
  chkS hSP [] 15 []
  []
  (by decide +kernel) (fun s h => absurd h List.not_mem_nil)
def sX11_in_82 : SM := (mX11_in, [(1, 0, 10, 2147483647), (1, 0, 0, 0), (1, 0, (-1), 9)], [], [([(0, 0, 0, 0)], [], [])], [])
theorem kX11_in_82 {SP : CT} (hSP : MONO SP) {sh : List (Nat × Nat)} : SMOK gE gRL sh (CLd SP 1) sX11_in_82 :=
  chkS hSP [] 12 []
  []
  (by decide +kernel) (fun s h => absurd h List.not_mem_nil)
def sX11_in_83 : SM := (jn 1 0 (-2147483648) (-1) 2147483647 [(1, 0, (-2147483648), 2147483647), (1, 0, 0, 0), (1, 0, (-1), 9)] sX11_in_80 (jn 1 0 0 9 2147483647 [(1, 0, 0, 2147483647), (1, 0, 0, 0), (1, 0, (-1), 9)] sX11_in_81 sX11_in_82))
theorem kX11_in_83 {SP : CT} (hSP : MONO SP) {sh : List (Nat × Nat)} : SMOK gE gRL sh (CLd SP 1) sX11_in_83 :=
  SMOK_jn (MONO_CLd hSP 1) 1 (by decide) 0 (-2147483648) (-1) 2147483647 (as := [(1, 0, (-2147483648), 2147483647), (1, 0, 0, 0), (1, 0, (-1), 9)]) rfl rfl rfl rfl rfl rfl rfl (SMOK_le (Nat.le_of_ble_eq_true rfl : 1 ≤ 1) (kX11_in_80 hSP)) (SMOK_jn (MONO_CLd hSP 1) 1 (by decide) 0 0 9 2147483647 (as := [(1, 0, 0, 2147483647), (1, 0, 0, 0), (1, 0, (-1), 9)]) rfl rfl rfl rfl rfl rfl rfl (SMOK_le (Nat.le_of_ble_eq_true rfl : 1 ≤ 1) (kX11_in_81 hSP)) (SMOK_le (Nat.le_of_ble_eq_true rfl : 1 ≤ 1) (kX11_in_82 hSP)))
def sX11_refuse_0 : SM := (mX11_refuse, [(2, 54, 0, 0)], [], [([(0, 0, 0, 0)], [(54, 0, 1, 1)], [])], [(0, 54, 0, 0)])
theorem kX11_refuse_0 {SP : CT} (hSP : MONO SP) {sh : List (Nat × Nat)} : SMOK gE gRL sh (CLd SP 1) sX11_refuse_0 :=
  chkS hSP [] 7 []
  []
  (by decide +kernel) (fun s h => absurd h List.not_mem_nil)
def sX11_post_0 : SM := (mX11_post, [(2, 54, 0, 0), (0, 0, (-2147483648), 2147483647), (0, 0, (-2147483648), 2147483647)], [], [([(0, 0, 0, 0)], [(54, 0, 1, 1)], []), ([(0, 0, (-2147483648), 2147483647)], [(54, 0, 0, 0)], []), ([(0, 0, 0, 0)], [(54, 0, 0, 0)], []), ([(0, 0, 1, 1)], [(54, 0, 0, 0)], [])], [(0, 54, 0, 0)])
theorem kX11_post_0 {SP : CT} (hSP : MONO SP) {sh : List (Nat × Nat)} : SMOK gE gRL sh (CLd SP 2) sX11_post_0 :=
  chkS hSP [sX11_flag_2, sX11_in_19, sX11_in_83, sX11_refuse_0] 56 []
  []
  (by decide +kernel) (List.forall_mem_cons.mpr ⟨SMOK_le (Nat.le_of_ble_eq_true rfl : 1 ≤ 1) (kX11_flag_2 hSP), List.forall_mem_cons.mpr ⟨SMOK_le (Nat.le_of_ble_eq_true rfl : 1 ≤ 1) (kX11_in_19 hSP), List.forall_mem_cons.mpr ⟨SMOK_le (Nat.le_of_ble_eq_true rfl : 1 ≤ 1) (kX11_in_83 hSP), List.forall_mem_cons.mpr ⟨SMOK_le (Nat.le_of_ble_eq_true rfl : 1 ≤ 1) (kX11_refuse_0 hSP), fun s h => absurd h List.not_mem_nil⟩⟩⟩⟩)
def sX11_in_84 : SM := (mX11_in, [(1, 0, (-2147483648), (-1)), (1, 0, 0, 0), (1, 0, (-1), 15)], [], [([(0, 0, 0, 0)], [], [])], [])
theorem kX11_in_84 {SP : CT} (hSP : MONO SP) {sh : List (Nat × Nat)} : SMOK gE gRL sh (CLd SP 1) sX11_in_84 :=
  chkS hSP [] 8 []
  []
  (by decide +kernel) (fun s h => absurd h List.not_mem_nil)
def sX11_in_85 : SM := (mX11_in, [(1, 0, 0, 15), (1, 0, 0, 0), (1, 0, (-1), 15)], [], [([(0, 0, 1, 1)], [], []), ([(0, 0, 0, 0)], [], [])], [])
theorem kX11_in_85 {SP : CT} (hSP : MONO SP) {sh : List (Nat × Nat)} : SMOK gE gRL sh (CLd SP 1) sX11_in_85 :=
  chkS hSP [] 15 []
  []
  (by decide +kernel) (fun s h => absurd h List.not_mem_nil)
def sX11_in_86 : SM := (mX11_in, [(1, 0, 16, 2147483647), (1, 0, 0, 0), (1, 0, (-1), 15)], [], [([(0, 0, 0, 0)], [], [])], [])
theorem kX11_in_86 {SP : CT} (hSP : MONO SP) {sh : List (Nat × Nat)} : SMOK gE gRL sh (CLd SP 1) sX11_in_86 :=
  chkS hSP [] 12 []
  []
  (by decide +kernel) (fun s h => absurd h List.not_mem_nil)
def sX11_in_87 : SM := (jn 1 0 (-2147483648) (-1) 2147483647 [(1, 0, (-2147483648), 2147483647), (1, 0, 0, 0), (1, 0, (-1), 15)] sX11_in_84 (jn 1 0 0 15 2147483647 [(1, 0, 0, 2147483647), (1, 0, 0, 0), (1, 0, (-1), 15)] sX11_in_85 sX11_in_86))
theorem kX11_in_87 {SP : CT} (hSP : MONO SP) {sh : List (Nat × Nat)} : SMOK gE gRL sh (CLd SP 1) sX11_in_87 :=
  SMOK_jn (MONO_CLd hSP 1) 1 (by decide) 0 (-2147483648) (-1) 2147483647 (as := [(1, 0, (-2147483648), 2147483647), (1, 0, 0, 0), (1, 0, (-1), 15)]) rfl rfl rfl rfl rfl rfl rfl (SMOK_le (Nat.le_of_ble_eq_true rfl : 1 ≤ 1) (kX11_in_84 hSP)) (SMOK_jn (MONO_CLd hSP 1) 1 (by decide) 0 0 15 2147483647 (as := [(1, 0, 0, 2147483647), (1, 0, 0, 0), (1, 0, (-1), 15)]) rfl rfl rfl rfl rfl rfl rfl (SMOK_le (Nat.le_of_ble_eq_true rfl : 1 ≤ 1) (kX11_in_85 hSP)) (SMOK_le (Nat.le_of_ble_eq_true rfl : 1 ≤ 1) (kX11_in_86 hSP)))
def sX11_rock_0 : SM := (mX11_rock, [(2, 54, 0, 0), (0, 0, (-2147483648), 2147483647), (0, 0, (-2147483648), 2147483647)], [], [([(0, 0, 0, 0)], [(54, 0, 1, 1)], []), ([(0, 0, 0, 999)], [(54, 0, 0, 0)], []), ([(0, 0, (-2147483648), 2147483647)], [(54, 0, 0, 0)], [])], [(0, 54, 0, 0)])
theorem kX11_rock_0 {SP : CT} (hSP : MONO SP) {sh : List (Nat × Nat)} : SMOK gE gRL sh (CLd SP 2) sX11_rock_0 :=
  chkS hSP [sX11_in_19, sX11_in_87, sX11_refuse_0] 54 []
  []
  (by decide +kernel) (List.forall_mem_cons.mpr ⟨SMOK_le (Nat.le_of_ble_eq_true rfl : 1 ≤ 1) (kX11_in_19 hSP), List.forall_mem_cons.mpr ⟨SMOK_le (Nat.le_of_ble_eq_true rfl : 1 ≤ 1) (kX11_in_87 hSP), List.forall_mem_cons.mpr ⟨SMOK_le (Nat.le_of_ble_eq_true rfl : 1 ≤ 1) (kX11_refuse_0 hSP), fun s h => absurd h List.not_mem_nil⟩⟩⟩)
def sX11_in_88 : SM := (mX11_in, [(1, 0, (-2147483648), (-1)), (1, 0, 0, 0), (1, 0, 2, 2)], [], [([(0, 0, 0, 0)], [], [])], [])
theorem kX11_in_88 {SP : CT} (hSP : MONO SP) {sh : List (Nat × Nat)} : SMOK gE gRL sh (CLd SP 1) sX11_in_88 :=
  chkS hSP [] 8 []
  []
  (by decide +kernel) (fun s h => absurd h List.not_mem_nil)
def sX11_in_89 : SM := (mX11_in, [(1, 0, 0, 2), (1, 0, 0, 0), (1, 0, 2, 2)], [], [([(0, 0, 1, 1)], [], [])], [])
theorem kX11_in_89 {SP : CT} (hSP : MONO SP) {sh : List (Nat × Nat)} : SMOK gE gRL sh (CLd SP 1) sX11_in_89 :=
  chkS hSP [] 13 []
  []
  (by decide +kernel) (fun s h => absurd h List.not_mem_nil)
def sX11_in_90 : SM := (mX11_in, [(1, 0, 3, 2147483647), (1, 0, 0, 0), (1, 0, 2, 2)], [], [([(0, 0, 0, 0)], [], [])], [])
theorem kX11_in_90 {SP : CT} (hSP : MONO SP) {sh : List (Nat × Nat)} : SMOK gE gRL sh (CLd SP 1) sX11_in_90 :=
  chkS hSP [] 12 []
  []
  (by decide +kernel) (fun s h => absurd h List.not_mem_nil)
def sX11_in_91 : SM := (jn 1 0 (-2147483648) (-1) 2147483647 [(1, 0, (-2147483648), 2147483647), (1, 0, 0, 0), (1, 0, 2, 2)] sX11_in_88 (jn 1 0 0 2 2147483647 [(1, 0, 0, 2147483647), (1, 0, 0, 0), (1, 0, 2, 2)] sX11_in_89 sX11_in_90))
theorem kX11_in_91 {SP : CT} (hSP : MONO SP) {sh : List (Nat × Nat)} : SMOK gE gRL sh (CLd SP 1) sX11_in_91 :=
  SMOK_jn (MONO_CLd hSP 1) 1 (by decide) 0 (-2147483648) (-1) 2147483647 (as := [(1, 0, (-2147483648), 2147483647), (1, 0, 0, 0), (1, 0, 2, 2)]) rfl rfl rfl rfl rfl rfl rfl (SMOK_le (Nat.le_of_ble_eq_true rfl : 1 ≤ 1) (kX11_in_88 hSP)) (SMOK_jn (MONO_CLd hSP 1) 1 (by decide) 0 0 2 2147483647 (as := [(1, 0, 0, 2147483647), (1, 0, 0, 0), (1, 0, 2, 2)]) rfl rfl rfl rfl rfl rfl rfl (SMOK_le (Nat.le_of_ble_eq_true rfl : 1 ≤ 1) (kX11_in_89 hSP)) (SMOK_le (Nat.le_of_ble_eq_true rfl : 1 ≤ 1) (kX11_in_90 hSP)))
def sX11_mess_0 : SM := (mX11_mess, [(2, 54, 0, 0), (0, 0, (-2147483648), 2147483647), (0, 0, (-2147483648), 2147483647)], [], [([(0, 0, 0, 0)], [(54, 0, 1, 1)], []), ([(0, 0, (-2147483648), 2147483647)], [(54, 0, 0, 0)], []), ([(0, 0, 0, 9)], [(54, 0, 0, 0)], [])], [(0, 54, 0, 0)])
theorem kX11_mess_0 {SP : CT} (hSP : MONO SP) {sh : List (Nat × Nat)} : SMOK gE gRL sh (CLd SP 3) sX11_mess_0 :=
  chkS hSP [sX11_in_91, sX11_isMess_3, sX11_refuse_0] 61 []
  []
  (by decide +kernel) (List.forall_mem_cons.mpr ⟨SMOK_le (Nat.le_of_ble_eq_true rfl : 1 ≤ 2) (kX11_in_91 hSP), List.forall_mem_cons.mpr ⟨SMOK_le (Nat.le_of_ble_eq_true rfl : 2 ≤ 2) (kX11_isMess_3 hSP), List.forall_mem_cons.mpr ⟨SMOK_le (Nat.le_of_ble_eq_true rfl : 1 ≤ 2) (kX11_refuse_0 hSP), fun s h => absurd h List.not_mem_nil⟩⟩⟩)
def sX11_in_92 : SM := (mX11_in, [(1, 0, (-2147483648), (-1)), (1, 0, 0, 0), (1, 0, (-1), 11)], [], [([(0, 0, 0, 0)], [], [])], [])
theorem kX11_in_92 {SP : CT} (hSP : MONO SP) {sh : List (Nat × Nat)} : SMOK gE gRL sh (CLd SP 1) sX11_in_92 :=
  chkS hSP [] 8 []
  []
  (by decide +kernel) (fun s h => absurd h List.not_mem_nil)
def sX11_in_93 : SM := (mX11_in, [(1, 0, 0, 11), (1, 0, 0, 0), (1, 0, (-1), 11)], [], [([(0, 0, 1, 1)], [], []), ([(0, 0, 0, 0)], [], [])], [])
theorem kX11_in_93 {SP : CT} (hSP : MONO SP) {sh : List (Nat × Nat)} : SMOK gE gRL sh (CLd SP 1) sX11_in_93 :=
  chkS hSP [] 15 []
  []
  (by decide +kernel) (fun s h => absurd h List.not_mem_nil)
def sX11_in_94 : SM := (mX11_in, [(1, 0, 12, 2147483647), (1, 0, 0, 0), (1, 0, (-1), 11)], [], [([(0, 0, 0, 0)], [], [])], [])
theorem kX11_in_94 {SP : CT} (hSP : MONO SP) {sh : List (Nat × Nat)} : SMOK gE gRL sh (CLd SP 1) sX11_in_94 :=
  chkS hSP [] 12 []
  []
  (by decide +kernel) (fun s h => absurd h List.not_mem_nil)
def sX11_in_95 : SM := (jn 1 0 (-2147483648) (-1) 2147483647 [(1, 0, (-2147483648), 2147483647), (1, 0, 0, 0), (1, 0, (-1), 11)] sX11_in_92 (jn 1 0 0 11 2147483647 [(1, 0, 0, 2147483647), (1, 0, 0, 0), (1, 0, (-1), 11)] sX11_in_93 sX11_in_94))
theorem kX11_in_95 {SP : CT} (hSP : MONO SP) {sh : List (Nat × Nat)} : SMOK gE gRL sh (CLd SP 1) sX11_in_95 :=
  SMOK_jn (MONO_CLd hSP 1) 1 (by decide) 0 (-2147483648) (-1) 2147483647 (as := [(1, 0, (-2147483648), 2147483647), (1, 0, 0, 0), (1, 0, (-1), 11)]) rfl rfl rfl rfl rfl rfl rfl (SMOK_le (Nat.le_of_ble_eq_true rfl : 1 ≤ 1) (kX11_in_92 hSP)) (SMOK_jn (MONO_CLd hSP 1) 1 (by decide) 0 0 11 2147483647 (as := [(1, 0, 0, 2147483647), (1, 0, 0, 0), (1, 0, (-1), 11)]) rfl rfl rfl rfl rfl rfl rfl (SMOK_le (Nat.le_of_ble_eq_true rfl : 1 ≤ 1) (kX11_in_93 hSP)) (SMOK_le (Nat.le_of_ble_eq_true rfl : 1 ≤ 1) (kX11_in_94 hSP)))
def sX11_isAhead_0 : SM := (mX11_isAhead, [(2, 54, 0, 0), (0, 0, 0, 0), (0, 0, 0, 0)], [], [([(0, 0, 1, 1)], [], []), ([(0, 0, 0, 0)], [], [])], [])
theorem kX11_isAhead_0 {SP : CT} (hSP : MONO SP) {sh : List (Nat × Nat)} : SMOK gE gRL sh (CLd SP 1) sX11_isAhead_0 :=
  chkS hSP [] 63 []
  []
  (by decide +kernel) (fun s h => absurd h List.not_mem_nil)
def sX11_isAhead_1 : SM := (mX11_isAhead, [(2, 54, 0, 0), (0, 0, 0, 1), (0, 0, 0, 0)], [], [([(0, 0, 1, 1)], [], []), ([(0, 0, 0, 0)], [], [])], [])
theorem kX11_isAhead_1 {SP : CT} (hSP : MONO SP) {sh : List (Nat × Nat)} : SMOK gE gRL sh (CLd SP 1) sX11_isAhead_1 :=
  chkS hSP [] 63 []
  []
  (by decide +kernel) (fun s h => absurd h List.not_mem_nil)
def sX11_isAhead_2 : SM := (mX11_isAhead, [(2, 54, 0, 0), (0, 0, 0, 2), (0, 0, 0, 0)], [], [([(0, 0, 1, 1)], [], []), ([(0, 0, 0, 0)], [], [])], [])
theorem kX11_isAhead_2 {SP : CT} (hSP : MONO SP) {sh : List (Nat × Nat)} : SMOK gE gRL sh (CLd SP 1) sX11_isAhead_2 :=
  chkS hSP [] 63 []
  []
  (by decide +kernel) (fun s h => absurd h List.not_mem_nil)
def sX11_isAhead_3 : SM := (mX11_isAhead, [(2, 54, 0, 0), (0, 0, 0, 3), (0, 0, 0, 0)], [], [([(0, 0, 1, 1)], [], []), ([(0, 0, 0, 0)], [], [])], [])
theorem kX11_isAhead_3 {SP : CT} (hSP : MONO SP) {sh : List (Nat × Nat)} : SMOK gE gRL sh (CLd SP 1) sX11_isAhead_3 :=
  chkS hSP [] 63 []
  []
  (by decide +kernel) (fun s h => absurd h List.not_mem_nil)
def sX11_isAhead_4 : SM := (mX11_isAhead, [(2, 54, 0, 0), (0, 0, 0, 4), (0, 0, 0, 0)], [], [([(0, 0, 1, 1)], [], []), ([(0, 0, 0, 0)], [], [])], [])
theorem kX11_isAhead_4 {SP : CT} (hSP : MONO SP) {sh : List (Nat × Nat)} : SMOK gE gRL sh (CLd SP 1) sX11_isAhead_4 :=
  chkS hSP [] 63 []
  []
  (by decide +kernel) (fun s h => absurd h List.not_mem_nil)
def sX11_isAhead_5 : SM := (mX11_isAhead, [(2, 54, 0, 0), (0, 0, 0, 5), (0, 0, 0, 0)], [], [([(0, 0, 1, 1)], [], []), ([(0, 0, 0, 0)], [], [])], [])
theorem kX11_isAhead_5 {SP : CT} (hSP : MONO SP) {sh : List (Nat × Nat)} : SMOK gE gRL sh (CLd SP 1) sX11_isAhead_5 :=
  chkS hSP [] 63 []
  []
  (by decide +kernel) (fun s h => absurd h List.not_mem_nil)
def sX11_isAhead_6 : SM := (mX11_isAhead, [(2, 54, 0, 0), (0, 0, 0, 6), (0, 0, 0, 0)], [], [([(0, 0, 1, 1)], [], []), ([(0, 0, 0, 0)], [], [])], [])
theorem kX11_isAhead_6 {SP : CT} (hSP : MONO SP) {sh : List (Nat × Nat)} : SMOK gE gRL sh (CLd SP 1) sX11_isAhead_6 :=
  chkS hSP [] 63 []
  []
  (by decide +kernel) (fun s h => absurd h List.not_mem_nil)
def sX11_isAhead_7 : SM := (mX11_isAhead, [(2, 54, 0, 0), (0, 0, 0, 7), (0, 0, 0, 0)], [], [([(0, 0, 1, 1)], [], []), ([(0, 0, 0, 0)], [], [])], [])
theorem kX11_isAhead_7 {SP : CT} (hSP : MONO SP) {sh : List (Nat × Nat)} : SMOK gE gRL sh (CLd SP 1) sX11_isAhead_7 :=
  chkS hSP [] 63 []
  []
  (by decide +kernel) (fun s h => absurd h List.not_mem_nil)
def sX11_isAhead_8 : SM := (mX11_isAhead, [(2, 54, 0, 0), (0, 0, 0, 8), (0, 0, 0, 0)], [], [([(0, 0, 1, 1)], [], []), ([(0, 0, 0, 0)], [], [])], [])
theorem kX11_isAhead_8 {SP : CT} (hSP : MONO SP) {sh : List (Nat × Nat)} : SMOK gE gRL sh (CLd SP 1) sX11_isAhead_8 :=
  chkS hSP [] 63 []
  []
  (by decide +kernel) (fun s h => absurd h List.not_mem_nil)
def sX11_isAhead_9 : SM := (mX11_isAhead, [(2, 54, 0, 0), (0, 0, 0, 9), (0, 0, 0, 0)], [], [([(0, 0, 1, 1)], [], []), ([(0, 0, 0, 0)], [], [])], [])
theorem kX11_isAhead_9 {SP : CT} (hSP : MONO SP) {sh : List (Nat × Nat)} : SMOK gE gRL sh (CLd SP 1) sX11_isAhead_9 :=
  chkS hSP [] 63 []
  []
  (by decide +kernel) (fun s h => absurd h List.not_mem_nil)
def sX11_isAhead_10 : SM := (mX11_isAhead, [(2, 54, 0, 0), (0, 0, 0, 10), (0, 0, 0, 0)], [], [([(0, 0, 1, 1)], [], []), ([(0, 0, 0, 0)], [], [])], [])
theorem kX11_isAhead_10 {SP : CT} (hSP : MONO SP) {sh : List (Nat × Nat)} : SMOK gE gRL sh (CLd SP 1) sX11_isAhead_10 :=
  chkS hSP [] 63 []
  []
  (by decide +kernel) (fun s h => absurd h List.not_mem_nil)
def sX11_isAhead_11 : SM := (mX11_isAhead, [(2, 54, 0, 0), (0, 0, 0, 11), (0, 0, 0, 0)], [], [([(0, 0, 1, 1)], [], []), ([(0, 0, 0, 0)], [], [])], [])
theorem kX11_isAhead_11 {SP : CT} (hSP : MONO SP) {sh : List (Nat × Nat)} : SMOK gE gRL sh (CLd SP 1) sX11_isAhead_11 :=
  chkS hSP [] 63 []
  []
  (by decide +kernel) (fun s h => absurd h List.not_mem_nil)
def sX11_isAhead_12 : SM := (mX11_isAhead, [(2, 54, 0, 0), (0, 0, 0, 11), (0, 0, 0, 1)], [], [([(0, 0, 1, 1)], [], []), ([(0, 0, 0, 0)], [], [])], [])
theorem kX11_isAhead_12 {SP : CT} (hSP : MONO SP) {sh : List (Nat × Nat)} : SMOK gE gRL sh (CLd SP 1) sX11_isAhead_12 :=
  chkS hSP [] 63 []
  []
  (by decide +kernel) (fun s h => absurd h List.not_mem_nil)
def sX11_isAhead_13 : SM := (mX11_isAhead, [(2, 54, 0, 0), (0, 0, 0, 11), (0, 0, 0, 2)], [], [([(0, 0, 1, 1)], [], []), ([(0, 0, 0, 0)], [], [])], [])
theorem kX11_isAhead_13 {SP : CT} (hSP : MONO SP) {sh : List (Nat × Nat)} : SMOK gE gRL sh (CLd SP 1) sX11_isAhead_13 :=
  chkS hSP [] 63 []
  []
  (by decide +kernel) (fun s h => absurd h List.not_mem_nil)
def sX11_isAhead_14 : SM := (mX11_isAhead, [(2, 54, 0, 0), (0, 0, 0, 11), (0, 0, 0, 3)], [], [([(0, 0, 1, 1)], [], []), ([(0, 0, 0, 0)], [], [])], [])
theorem kX11_isAhead_14 {SP : CT} (hSP : MONO SP) {sh : List (Nat × Nat)} : SMOK gE gRL sh (CLd SP 1) sX11_isAhead_14 :=
  chkS hSP [] 63 []
  []
  (by decide +kernel) (fun s h => absurd h List.not_mem_nil)
def sX11_isAhead_15 : SM := (mX11_isAhead, [(2, 54, 0, 0), (0, 0, 0, 11), (0, 0, 0, 4)], [], [([(0, 0, 1, 1)], [], []), ([(0, 0, 0, 0)], [], [])], [])
theorem kX11_isAhead_15 {SP : CT} (hSP : MONO SP) {sh : List (Nat × Nat)} : SMOK gE gRL sh (CLd SP 1) sX11_isAhead_15 :=
  chkS hSP [] 63 []
  []
  (by decide +kernel) (fun s h => absurd h List.not_mem_nil)
def sX11_isAhead_16 : SM := (mX11_isAhead, [(2, 54, 0, 0), (0, 0, 0, 11), (0, 0, 0, 5)], [], [([(0, 0, 1, 1)], [], []), ([(0, 0, 0, 0)], [], [])], [])
theorem kX11_isAhead_16 {SP : CT} (hSP : MONO SP) {sh : List (Nat × Nat)} : SMOK gE gRL sh (CLd SP 1) sX11_isAhead_16 :=
  chkS hSP [] 63 []
  []
  (by decide +kernel) (fun s h => absurd h List.not_mem_nil)
def sX11_isAhead_17 : SM := (mX11_isAhead, [(2, 54, 0, 0), (0, 0, 0, 11), (0, 0, 0, 6)], [], [([(0, 0, 1, 1)], [], []), ([(0, 0, 0, 0)], [], [])], [])
theorem kX11_isAhead_17 {SP : CT} (hSP : MONO SP) {sh : List (Nat × Nat)} : SMOK gE gRL sh (CLd SP 1) sX11_isAhead_17 :=
  chkS hSP [] 63 []
  []
  (by decide +kernel) (fun s h => absurd h List.not_mem_nil)
def sX11_isAhead_18 : SM := (mX11_isAhead, [(2, 54, 0, 0), (0, 0, 0, 11), (0, 0, 0, 7)], [], [([(0, 0, 1, 1)], [], []), ([(0, 0, 0, 0)], [], [])], [])
theorem kX11_isAhead_18 {SP : CT} (hSP : MONO SP) {sh : List (Nat × Nat)} : SMOK gE gRL sh (CLd SP 1) sX11_isAhead_18 :=
  chkS hSP [] 63 []
  []
  (by decide +kernel) (fun s h => absurd h List.not_mem_nil)
def sX11_isAhead_19 : SM := (mX11_isAhead, [(2, 54, 0, 0), (0, 0, 0, 11), (0, 0, 0, 8)], [], [([(0, 0, 1, 1)], [], []), ([(0, 0, 0, 0)], [], [])], [])
theorem kX11_isAhead_19 {SP : CT} (hSP : MONO SP) {sh : List (Nat × Nat)} : SMOK gE gRL sh (CLd SP 1) sX11_isAhead_19 :=
  chkS hSP [] 63 []
  []
  (by decide +kernel) (fun s h => absurd h List.not_mem_nil)
def sX11_isAhead_20 : SM := (mX11_isAhead, [(2, 54, 0, 0), (0, 0, 0, 11), (0, 0, 0, 9)], [], [([(0, 0, 1, 1)], [], []), ([(0, 0, 0, 0)], [], [])], [])
theorem kX11_isAhead_20 {SP : CT} (hSP : MONO SP) {sh : List (Nat × Nat)} : SMOK gE gRL sh (CLd SP 1) sX11_isAhead_20 :=
  chkS hSP [] 63 []
  []
  (by decide +kernel) (fun s h => absurd h List.not_mem_nil)
def sX11_isAhead_21 : SM := (mX11_isAhead, [(2, 54, 0, 0), (0, 0, 0, 11), (0, 0, 0, 10)], [], [([(0, 0, 1, 1)], [], []), ([(0, 0, 0, 0)], [], [])], [])
theorem kX11_isAhead_21 {SP : CT} (hSP : MONO SP) {sh : List (Nat × Nat)} : SMOK gE gRL sh (CLd SP 1) sX11_isAhead_21 :=
  chkS hSP [] 63 []
  []
  (by decide +kernel) (fun s h => absurd h List.not_mem_nil)
def sX11_isAhead_22 : SM := (mX11_isAhead, [(2, 54, 0, 0), (0, 0, 0, 11), (0, 0, 0, 11)], [], [([(0, 0, 1, 1)], [], []), ([(0, 0, 0, 0)], [], [])], [])
theorem kX11_isAhead_22 {SP : CT} (hSP : MONO SP) {sh : List (Nat × Nat)} : SMOK gE gRL sh (CLd SP 1) sX11_isAhead_22 :=
  chkS hSP [] 63 []
  []
  (by decide +kernel) (fun s h => absurd h List.not_mem_nil)
def sX11_way_0 : SM := (mX11_way, [(2, 54, 0, 0), (0, 0, (-2147483648), 2147483647), (0, 0, (-2147483648), 2147483647)], [], [([(0, 0, (-2147483648), 2147483647)], [(54, 0, 0, 0)], []), ([(0, 0, 0, 0)], [(54, 0, 1, 1)], [])], [(0, 54, 0, 0)])
theorem kX11_way_0 {SP : CT} (hSP : MONO SP) {sh : List (Nat × Nat)} : SMOK gE gRL sh (CLd SP 2) sX11_way_0 :=
  chkS hSP [sX11_flag_1, sX11_flag_0, sX11_in_19, sX11_in_95, sX11_isAhead_0, sX11_isAhead_1, sX11_isAhead_2, sX11_isAhead_3, sX11_isAhead_4, sX11_isAhead_5, sX11_isAhead_6, sX11_isAhead_7, sX11_isAhead_8, sX11_isAhead_9, sX11_isAhead_10, sX11_isAhead_11, sX11_isAhead_12, sX11_isAhead_13, sX11_isAhead_14, sX11_isAhead_15, sX11_isAhead_16, sX11_isAhead_17, sX11_isAhead_18, sX11_isAhead_19, sX11_isAhead_20, sX11_isAhead_21, sX11_isAhead_22, sX11_refuse_0] 47 [(false, 0)]
  [((43, [(0, (2, 54, 0, 0)), (1, (0, 0, 0, 11)), (2, (0, 0, 0, 1)), (3, (0, 0, 0, 11)), (4, (0, 0, 0, 12))], [], [(54, 0, 0, 0), (61, 3, 0, 12)], [(0, 1, 0), (1, 4, 12), (0, 2, 0)]), [(false, 1)]), ((60, [(0, (2, 54, 0, 0)), (1, (0, 0, 0, 11)), (2, (0, 0, 0, 1)), (3, (0, 0, 0, 11)), (4, (0, 0, 0, 11)), (5, (0, 0, (-2147483648), 2147483647)), (6, (0, 0, 0, 12))], [], [(54, 0, 0, 0), (61, 3, 1, 12)], [(0, 1, 0), (1, 4, 12), (0, 1, 0), (1, 6, 12), (0, 1, 0)]), [(true, 0), (false, 0)])]
  (by decide +kernel) (List.forall_mem_cons.mpr ⟨SMOK_le (Nat.le_of_ble_eq_true rfl : 1 ≤ 1) (kX11_flag_1 hSP), List.forall_mem_cons.mpr ⟨SMOK_le (Nat.le_of_ble_eq_true rfl : 1 ≤ 1) (kX11_flag_0 hSP), List.forall_mem_cons.mpr ⟨SMOK_le (Nat.le_of_ble_eq_true rfl : 1 ≤ 1) (kX11_in_19 hSP), List.forall_mem_cons.mpr ⟨SMOK_le (Nat.le_of_ble_eq_true rfl : 1 ≤ 1) (kX11_in_95 hSP), List.forall_mem_cons.mpr ⟨SMOK_le (Nat.le_of_ble_eq_true rfl : 1 ≤ 1) (kX11_isAhead_0 hSP), List.forall_mem_cons.mpr ⟨SMOK_le (Nat.le_of_ble_eq_true rfl : 1 ≤ 1) (kX11_isAhead_1 hSP), List.forall_mem_cons.mpr ⟨SMOK_le (Nat.le_of_ble_eq_true rfl : 1 ≤ 1) (kX11_isAhead_2 hSP), List.forall_mem_cons.mpr ⟨SMOK_le (Nat.le_of_ble_eq_true rfl : 1 ≤ 1) (kX11_isAhead_3 hSP), List.forall_mem_cons.mpr ⟨SMOK_le (Nat.le_of_ble_eq_true rfl : 1 ≤ 1) (kX11_isAhead_4 hSP), List.forall_mem_cons.mpr ⟨SMOK_le (Nat.le_of_ble_eq_true rfl : 1 ≤ 1) (kX11_isAhead_5 hSP), List.forall_mem_cons.mpr ⟨SMOK_le (Nat.le_of_ble_eq_true rfl : 1 ≤ 1) (kX11_isAhead_6 hSP), List.forall_mem_cons.mpr ⟨SMOK_le (Nat.le_of_ble_eq_true rfl : 1 ≤ 1) (kX11_isAhead_7 hSP), List.forall_mem_cons.mpr ⟨SMOK_le (Nat.le_of_ble_eq_true rfl : 1 ≤ 1) (kX11_isAhead_8 hSP), List.forall_mem_cons.mpr ⟨SMOK_le (Nat.le_of_ble_eq_true rfl : 1 ≤ 1) (kX11_isAhead_9 hSP), List.forall_mem_cons.mpr ⟨SMOK_le (Nat.le_of_ble_eq_true rfl : 1 ≤ 1) (kX11_isAhead_10 hSP), List.forall_mem_cons.mpr ⟨SMOK_le (Nat.le_of_ble_eq_true rfl : 1 ≤ 1) (kX11_isAhead_11 hSP), List.forall_mem_cons.mpr ⟨SMOK_le (Nat.le_of_ble_eq_true rfl : 1 ≤ 1) (kX11_isAhead_12 hSP), List.forall_mem_cons.mpr ⟨SMOK_le (Nat.le_of_ble_eq_true rfl : 1 ≤ 1) (kX11_isAhead_13 hSP), List.forall_mem_cons.mpr ⟨SMOK_le (Nat.le_of_ble_eq_true rfl : 1 ≤ 1) (kX11_isAhead_14 hSP), List.forall_mem_cons.mpr ⟨SMOK_le (Nat.le_of_ble_eq_true rfl : 1 ≤ 1) (kX11_isAhead_15 hSP), List.forall_mem_cons.mpr ⟨SMOK_le (Nat.le_of_ble_eq_true rfl : 1 ≤ 1) (kX11_isAhead_16 hSP), List.forall_mem_cons.mpr ⟨SMOK_le (Nat.le_of_ble_eq_true rfl : 1 ≤ 1) (kX11_isAhead_17 hSP), List.forall_mem_cons.mpr ⟨SMOK_le (Nat.le_of_ble_eq_true rfl : 1 ≤ 1) (kX11_isAhead_18 hSP), List.forall_mem_cons.mpr ⟨SMOK_le (Nat.le_of_ble_eq_true rfl : 1 ≤ 1) (kX11_isAhead_19 hSP), List.forall_mem_cons.mpr ⟨SMOK_le (Nat.le_of_ble_eq_true rfl : 1 ≤ 1) (kX11_isAhead_20 hSP), List.forall_mem_cons.mpr ⟨SMOK_le (Nat.le_of_ble_eq_true rfl : 1 ≤ 1) (kX11_isAhead_21 hSP), List.forall_mem_cons.mpr ⟨SMOK_le (Nat.le_of_ble_eq_true rfl : 1 ≤ 1) (kX11_isAhead_22 hSP), List.forall_mem_cons.mpr ⟨SMOK_le (Nat.le_of_ble_eq_true rfl : 1 ≤ 1) (kX11_refuse_0 hSP), fun s h => absurd h List.not_mem_nil⟩⟩⟩⟩⟩⟩⟩⟩⟩⟩⟩⟩⟩⟩⟩⟩⟩⟩⟩⟩⟩⟩⟩⟩⟩⟩⟩⟩)
def sX11_in_96 : SM := (mX11_in, [(1, 0, (-2147483648), (-1)), (1, 0, 0, 0), (1, 0, (-1), 39)], [], [([(0, 0, 0, 0)], [], [])], [])
theorem kX11_in_96 {SP : CT} (hSP : MONO SP) {sh : List (Nat × Nat)} : SMOK gE gRL sh (CLd SP 1) sX11_in_96 :=
  chkS hSP [] 8 []
  []
  (by decide +kernel) (fun s h => absurd h List.not_mem_nil)
def sX11_in_97 : SM := (mX11_in, [(1, 0, 0, 39), (1, 0, 0, 0), (1, 0, (-1), 39)], [], [([(0, 0, 1, 1)], [], []), ([(0, 0, 0, 0)], [], [])], [])
theorem kX11_in_97 {SP : CT} (hSP : MONO SP) {sh : List (Nat × Nat)} : SMOK gE gRL sh (CLd SP 1) sX11_in_97 :=
  chkS hSP [] 15 []
  []
  (by decide +kernel) (fun s h => absurd h List.not_mem_nil)
def sX11_in_98 : SM := (mX11_in, [(1, 0, 40, 2147483647), (1, 0, 0, 0), (1, 0, (-1), 39)], [], [([(0, 0, 0, 0)], [], [])], [])
theorem kX11_in_98 {SP : CT} (hSP : MONO SP) {sh : List (Nat × Nat)} : SMOK gE gRL sh (CLd SP 1) sX11_in_98 :=
  chkS hSP [] 12 []
  []
  (by decide +kernel) (fun s h => absurd h List.not_mem_nil)
def sX11_in_99 : SM := (jn 1 0 (-2147483648) (-1) 2147483647 [(1, 0, (-2147483648), 2147483647), (1, 0, 0, 0), (1, 0, (-1), 39)] sX11_in_96 (jn 1 0 0 39 2147483647 [(1, 0, 0, 2147483647), (1, 0, 0, 0), (1, 0, (-1), 39)] sX11_in_97 sX11_in_98))
theorem kX11_in_99 {SP : CT} (hSP : MONO SP) {sh : List (Nat × Nat)} : SMOK gE gRL sh (CLd SP 1) sX11_in_99 :=
  SMOK_jn (MONO_CLd hSP 1) 1 (by decide) 0 (-2147483648) (-1) 2147483647 (as := [(1, 0, (-2147483648), 2147483647), (1, 0, 0, 0), (1, 0, (-1), 39)]) rfl rfl rfl rfl rfl rfl rfl (SMOK_le (Nat.le_of_ble_eq_true rfl : 1 ≤ 1) (kX11_in_96 hSP)) (SMOK_jn (MONO_CLd hSP 1) 1 (by decide) 0 0 39 2147483647 (as := [(1, 0, 0, 2147483647), (1, 0, 0, 0), (1, 0, (-1), 39)]) rfl rfl rfl rfl rfl rfl rfl (SMOK_le (Nat.le_of_ble_eq_true rfl : 1 ≤ 1) (kX11_in_97 hSP)) (SMOK_le (Nat.le_of_ble_eq_true rfl : 1 ≤ 1) (kX11_in_98 hSP)))
def sX11_row_0 : SM := (mX11_row, [(2, 54, 0, 0), (0, 0, (-2147483648), 2147483647)], [], [([(1, 0, 0, 0)], [(54, 0, 1, 1)], []), ([(1, 0, (-9223372036854775808), 9223372036854775807)], [(54, 0, 0, 0)], [])], [(0, 54, 0, 0)])
theorem kX11_row_0 {SP : CT} (hSP : MONO SP) {sh : List (Nat × Nat)} : SMOK gE gRL sh (CLd SP 2) sX11_row_0 :=
  chkS hSP [sX11_in_99] 38 []
  []
  (by decide +kernel) (List.forall_mem_cons.mpr ⟨SMOK_le (Nat.le_of_ble_eq_true rfl : 1 ≤ 1) (kX11_in_99 hSP), fun s h => absurd h List.not_mem_nil⟩)
def sX10_chance_1 : SM := (mX10_chance, [(2, 0, 0, 0), (0, 0, (-2147483648), 0), (0, 0, (-2147483648), 2147483647), (0, 0, (-2147483648), 2147483647)], [], [([(0, 0, (-1), (-1))], [], [])], [])
theorem kX10_chance_1 {SP : CT} (hSP : MONO SP) {sh : List (Nat × Nat)} : SMOK gE gRL sh (CLd SP 1) sX10_chance_1 :=
  chkS hSP [] 7 []
  []
  (by decide +kernel) (fun s h => absurd h List.not_mem_nil)
def sX10_chance_2 : SM := (mX10_chance, [(2, 0, 0, 0), (0, 0, 13, 2147483647), (0, 0, (-2147483648), 2147483647), (0, 0, (-2147483648), 2147483647)], [], [([(0, 0, (-1), (-1))], [], [])], [])
theorem kX10_chance_2 {SP : CT} (hSP : MONO SP) {sh : List (Nat × Nat)} : SMOK gE gRL sh (CLd SP 1) sX10_chance_2 :=
  chkS hSP [] 10 []
  []
  (by decide +kernel) (fun s h => absurd h List.not_mem_nil)
def sX10_chance_3 : SM := (mX10_chance, [(2, 0, 0, 0), (0, 0, 1, 12), (0, 0, (-2147483648), (-1)), (0, 0, (-2147483648), 2147483647)], [], [([(0, 0, (-1), (-1))], [], [])], [])
theorem kX10_chance_3 {SP : CT} (hSP : MONO SP) {sh : List (Nat × Nat)} : SMOK gE gRL sh (CLd SP 1) sX10_chance_3 :=
  chkS hSP [] 12 []
  []
  (by decide +kernel) (fun s h => absurd h List.not_mem_nil)
def sX10_chance_4 : SM := (mX10_chance, [(2, 0, 0, 0), (0, 0, 1, 12), (0, 0, 11, 2147483647), (0, 0, (-2147483648), 2147483647)], [], [([(0, 0, (-1), (-1))], [], [])], [])
theorem kX10_chance_4 {SP : CT} (hSP : MONO SP) {sh : List (Nat × Nat)} : SMOK gE gRL sh (CLd SP 1) sX10_chance_4 :=
  chkS hSP [] 15 []
  []
  (by decide +kernel) (fun s h => absurd h List.not_mem_nil)
def sX10_chance_5 : SM := (mX10_chance, [(2, 0, 0, 0), (0, 0, 1, 12), (0, 0, 0, 10), (0, 0, (-2147483648), (-1))], [], [([(0, 0, (-1), (-1))], [], [])], [])
theorem kX10_chance_5 {SP : CT} (hSP : MONO SP) {sh : List (Nat × Nat)} : SMOK gE gRL sh (CLd SP 1) sX10_chance_5 :=
  chkS hSP [] 17 []
  []
  (by decide +kernel) (fun s h => absurd h List.not_mem_nil)
def sX10_chance_6 : SM := (mX10_chance, [(2, 0, 0, 0), (0, 0, 1, 12), (0, 0, 0, 10), (0, 0, 13, 2147483647)], [], [([(0, 0, (-1), (-1))], [], [])], [])
theorem kX10_chance_6 {SP : CT} (hSP : MONO SP) {sh : List (Nat × Nat)} : SMOK gE gRL sh (CLd SP 1) sX10_chance_6 :=
  chkS hSP [] 20 []
  []
  (by decide +kernel) (fun s h => absurd h List.not_mem_nil)
def sX10_chance_7 : SM := (mX10_chance, [(2, 0, 0, 0), (0, 0, 1, 12), (0, 0, 0, 10), (0, 0, 0, 12)], [], [([(0, 0, 0, 0)], [], [])], [(0, 3, 1, 1), (0, 8, 3, 3), (0, 10, 0, 39), (1, 4, 0, 29)])
theorem kX10_chance_7 {SP : CT} (hSP : MONO SP) {sh : List (Nat × Nat)} : SMOK gE gRL sh (CLd SP 5) sX10_chance_7 :=
  chkS hSP [sX10_delayAt_0, sX10_power_1, sX3_tellFraction_0] 70 []
  []
  (by decide +kernel) (List.forall_mem_cons.mpr ⟨SMOK_le (Nat.le_of_ble_eq_true rfl : 3 ≤ 4) (kX10_delayAt_0 hSP), List.forall_mem_cons.mpr ⟨SMOK_le (Nat.le_of_ble_eq_true rfl : 1 ≤ 4) (kX10_power_1 hSP), List.forall_mem_cons.mpr ⟨SMOK_le (Nat.le_of_ble_eq_true rfl : 4 ≤ 4) (kX3_tellFraction_0 hSP), fun s h => absurd h List.not_mem_nil⟩⟩⟩)
def sX11_chance_1 : SM := (mX11_chance, [(2, 54, 0, 0), (0, 0, (-2147483648), 0), (0, 0, (-2147483648), 2147483647), (0, 0, (-2147483648), 2147483647)], [], [([(0, 0, (-1), (-1))], [(54, 0, 0, 0)], [])], [(0, 54, 0, 0)])
theorem kX11_chance_1 {SP : CT} (hSP : MONO SP) {sh : List (Nat × Nat)} : SMOK gE gRL sh (CLd SP 2) sX11_chance_1 :=
  chkS hSP [sX11_in_72] 13 []
  []
  (by decide +kernel) (List.forall_mem_cons.mpr ⟨SMOK_le (Nat.le_of_ble_eq_true rfl : 1 ≤ 1) (kX11_in_72 hSP), fun s h => absurd h List.not_mem_nil⟩)
def sX11_chance_2 : SM := (mX11_chance, [(2, 54, 0, 0), (0, 0, 13, 2147483647), (0, 0, (-2147483648), 2147483647), (0, 0, (-2147483648), 2147483647)], [], [([(0, 0, (-1), (-1))], [(54, 0, 0, 0)], [])], [(0, 54, 0, 0)])
theorem kX11_chance_2 {SP : CT} (hSP : MONO SP) {sh : List (Nat × Nat)} : SMOK gE gRL sh (CLd SP 2) sX11_chance_2 :=
  chkS hSP [sX11_in_74] 13 []
  []
  (by decide +kernel) (List.forall_mem_cons.mpr ⟨SMOK_le (Nat.le_of_ble_eq_true rfl : 1 ≤ 1) (kX11_in_74 hSP), fun s h => absurd h List.not_mem_nil⟩)
def sX11_chance_3 : SM := (mX11_chance, [(2, 54, 0, 0), (0, 0, 1, 12), (0, 0, (-2147483648), (-1)), (0, 0, (-2147483648), 2147483647)], [], [([(0, 0, (-1), (-1))], [(54, 0, 0, 0)], [])], [(0, 54, 0, 0)])
theorem kX11_chance_3 {SP : CT} (hSP : MONO SP) {sh : List (Nat × Nat)} : SMOK gE gRL sh (CLd SP 2) sX11_chance_3 :=
  chkS hSP [sX11_in_73, sX11_in_49] 19 []
  []
  (by decide +kernel) (List.forall_mem_cons.mpr ⟨SMOK_le (Nat.le_of_ble_eq_true rfl : 1 ≤ 1) (kX11_in_73 hSP), List.forall_mem_cons.mpr ⟨SMOK_le (Nat.le_of_ble_eq_true rfl : 1 ≤ 1) (kX11_in_49 hSP), fun s h => absurd h List.not_mem_nil⟩⟩)
def sX11_chance_4 : SM := (mX11_chance, [(2, 54, 0, 0), (0, 0, 1, 12), (0, 0, 11, 2147483647), (0, 0, (-2147483648), 2147483647)], [], [([(0, 0, (-1), (-1))], [(54, 0, 0, 0)], [])], [(0, 54, 0, 0)])
theorem kX11_chance_4 {SP : CT} (hSP : MONO SP) {sh : List (Nat × Nat)} : SMOK gE gRL sh (CLd SP 2) sX11_chance_4 :=
  chkS hSP [sX11_in_73, sX11_in_51] 19 []
  []
  (by decide +kernel) (List.forall_mem_cons.mpr ⟨SMOK_le (Nat.le_of_ble_eq_true rfl : 1 ≤ 1) (kX11_in_73 hSP), List.forall_mem_cons.mpr ⟨SMOK_le (Nat.le_of_ble_eq_true rfl : 1 ≤ 1) (kX11_in_51 hSP), fun s h => absurd h List.not_mem_nil⟩⟩)
def sX11_chance_5 : SM := (mX11_chance, [(2, 54, 0, 0), (0, 0, 1, 12), (0, 0, 0, 10), (0, 0, (-2147483648), (-1))], [], [([(0, 0, (-1), (-1))], [(54, 0, 0, 0)], [])], [(0, 54, 0, 0)])
theorem kX11_chance_5 {SP : CT} (hSP : MONO SP) {sh : List (Nat × Nat)} : SMOK gE gRL sh (CLd SP 2) sX11_chance_5 :=
  chkS hSP [sX11_in_50, sX11_in_73, sX11_in_41] 25 []
  []
  (by decide +kernel) (List.forall_mem_cons.mpr ⟨SMOK_le (Nat.le_of_ble_eq_true rfl : 1 ≤ 1) (kX11_in_50 hSP), List.forall_mem_cons.mpr ⟨SMOK_le (Nat.le_of_ble_eq_true rfl : 1 ≤ 1) (kX11_in_73 hSP), List.forall_mem_cons.mpr ⟨SMOK_le (Nat.le_of_ble_eq_true rfl : 1 ≤ 1) (kX11_in_41 hSP), fun s h => absurd h List.not_mem_nil⟩⟩⟩)
def sX11_chance_6 : SM := (mX11_chance, [(2, 54, 0, 0), (0, 0, 1, 12), (0, 0, 0, 10), (0, 0, 13, 2147483647)], [], [([(0, 0, (-1), (-1))], [(54, 0, 0, 0)], [])], [(0, 54, 0, 0)])
theorem kX11_chance_6 {SP : CT} (hSP : MONO SP) {sh : List (Nat × Nat)} : SMOK gE gRL sh (CLd SP 2) sX11_chance_6 :=
  chkS hSP [sX11_in_50, sX11_in_73, sX11_in_43] 25 []
  []
  (by decide +kernel) (List.forall_mem_cons.mpr ⟨SMOK_le (Nat.le_of_ble_eq_true rfl : 1 ≤ 1) (kX11_in_50 hSP), List.forall_mem_cons.mpr ⟨SMOK_le (Nat.le_of_ble_eq_true rfl : 1 ≤ 1) (kX11_in_73 hSP), List.forall_mem_cons.mpr ⟨SMOK_le (Nat.le_of_ble_eq_true rfl : 1 ≤ 1) (kX11_in_43 hSP), fun s h => absurd h List.not_mem_nil⟩⟩⟩)
def sX11_chance_7 : SM := (mX11_chance, [(2, 54, 0, 0), (0, 0, 1, 12), (0, 0, 0, 10), (0, 0, 0, 12)], [], [([(0, 0, 0, 0)], [(54, 0, 0, 0), (54, 1, 2, 2), (68, 0, 2, 40), (68, 1, 0, 10), (68, 2, (-2147483648), 2147483647), (68, 3, (-11), 11)], [])], [(0, 54, 0, 1), (0, 67, 0, 79), (0, 68, 0, 3), (1, 55, 0, 39)])
theorem kX11_chance_7 {SP : CT} (hSP : MONO SP) {sh : List (Nat × Nat)} : SMOK gE gRL sh (CLd SP 131) sX11_chance_7 :=
  chkS hSP [sX11_delayAt_0, sX11_in_50, sX11_in_73, sX11_in_42, sX11_tellsFraction_0] 38 [(false, 0)]
  [((52, [(0, (2, 54, 0, 0)), (1, (0, 0, 1, 12)), (2, (0, 0, 0, 10)), (3, (0, 0, 0, 12)), (4, (1, 0, 1, 1)), (6, (1, 0, 1, 1)), (8, (0, 0, 0, 0))], [], [(54, 0, 0, 0)], [(0, 13, 0)]), [(false, 1)]), ((52, [(0, (2, 54, 0, 0)), (1, (0, 0, 1, 12)), (2, (0, 0, 0, 10)), (3, (0, 0, 0, 11)), (4, (1, 0, 0, 10)), (6, (1, 0, 10, 10)), (8, (0, 0, 1, 1))], [], [(54, 0, 0, 0), (68, 0, 2, 40), (68, 1, 0, 10), (68, 2, (-2147483648), 2147483647), (68, 3, (-11), 11)], [(0, 12, 0)]), [(false, 1)]), ((52, [(0, (2, 54, 0, 0)), (1, (0, 0, 2, 12)), (2, (0, 0, 0, 10)), (3, (0, 0, 0, 11)), (4, (1, 0, 0, 100)), (6, (1, 0, 100, 100)), (8, (0, 0, 2, 2))], [], [(54, 0, 0, 0), (68, 0, 2, 40), (68, 1, 0, 10), (68, 2, (-2147483648), 2147483647), (68, 3, (-11), 11)], [(0, 11, 0)]), [(false, 1)]), ((52, [(0, (2, 54, 0, 0)), (1, (0, 0, 3, 12)), (2, (0, 0, 0, 10)), (3, (0, 0, 0, 11)), (4, (1, 0, 0, 1000)), (6, (1, 0, 1000, 1000)), (8, (0, 0, 3, 3))], [], [(54, 0, 0, 0), (68, 0, 2, 40), (68, 1, 0, 10), (68, 2, (-2147483648), 2147483647), (68, 3, (-11), 11)], [(0, 10, 0)]), [(false, 1)]), ((52, [(0, (2, 54, 0, 0)), (1, (0, 0, 4, 12)), (2, (0, 0, 0, 10)), (3, (0, 0, 0, 11)), (4, (1, 0, 0, 10000)), (6, (1, 0, 10000, 10000)), (8, (0, 0, 4, 4))], [], [(54, 0, 0, 0), (68, 0, 2, 40), (68, 1, 0, 10), (68, 2, (-2147483648), 2147483647), (68, 3, (-11), 11)], [(0, 9, 0)]), [(false, 1)]), ((52, [(0, (2, 54, 0, 0)), (1, (0, 0, 5, 12)), (2, (0, 0, 0, 10)), (3, (0, 0, 0, 11)), (4, (1, 0, 0, 100000)), (6, (1, 0, 100000, 100000)), (8, (0, 0, 5, 5))], [], [(54, 0, 0, 0), (68, 0, 2, 40), (68, 1, 0, 10), (68, 2, (-2147483648), 2147483647), (68, 3, (-11), 11)], [(0, 8, 0)]), [(false, 1)]), ((52, [(0, (2, 54, 0, 0)), (1, (0, 0, 6, 12)), (2, (0, 0, 0, 10)), (3, (0, 0, 0, 11)), (4, (1, 0, 0, 1000000)), (6, (1, 0, 1000000, 1000000)), (8, (0, 0, 6, 6))], [], [(54, 0, 0, 0), (68, 0, 2, 40), (68, 1, 0, 10), (68, 2, (-2147483648), 2147483647), (68, 3, (-11), 11)], [(0, 7, 0)]), [(false, 1)]), ((52, [(0, (2, 54, 0, 0)), (1, (0, 0, 7, 12)), (2, (0, 0, 0, 10)), (3, (0, 0, 0, 11)), (4, (1, 0, 0, 10000000)), (6, (1, 0, 10000000, 10000000)), (8, (0, 0, 7, 7))], [], [(54, 0, 0, 0), (68, 0, 2, 40), (68, 1, 0, 10), (68, 2, (-2147483648), 2147483647), (68, 3, (-11), 11)], [(0, 6, 0)]), [(false, 1)]), ((52, [(0, (2, 54, 0, 0)), (1, (0, 0, 8, 12)), (2, (0, 0, 0, 10)), (3, (0, 0, 0, 11)), (4, (1, 0, 0, 100000000)), (6, (1, 0, 100000000, 100000000)), (8, (0, 0, 8, 8))], [], [(54, 0, 0, 0), (68, 0, 2, 40), (68, 1, 0, 10), (68, 2, (-2147483648), 2147483647), (68, 3, (-11), 11)], [(0, 5, 0)]), [(false, 1)]), ((52, [(0, (2, 54, 0, 0)), (1, (0, 0, 9, 12)), (2, (0, 0, 0, 10)), (3, (0, 0, 0, 11)), (4, (1, 0, 0, 1000000000)), (6, (1, 0, 1000000000, 1000000000)), (8, (0, 0, 9, 9))], [], [(54, 0, 0, 0), (68, 0, 2, 40), (68, 1, 0, 10), (68, 2, (-2147483648), 2147483647), (68, 3, (-11), 11)], [(0, 4, 0)]), [(false, 1)]), ((52, [(0, (2, 54, 0, 0)), (1, (0, 0, 10, 12)), (2, (0, 0, 0, 10)), (3, (0, 0, 0, 11)), (4, (1, 0, 0, 10000000000)), (6, (1, 0, 10000000000, 10000000000)), (8, (0, 0, 10, 10))], [], [(54, 0, 0, 0), (68, 0, 2, 40), (68, 1, 0, 10), (68, 2, (-2147483648), 2147483647), (68, 3, (-11), 11)], [(0, 3, 0)]), [(false, 1)]), ((52, [(0, (2, 54, 0, 0)), (1, (0, 0, 11, 12)), (2, (0, 0, 0, 10)), (3, (0, 0, 0, 11)), (4, (1, 0, 0, 100000000000)), (6, (1, 0, 100000000000, 100000000000)), (8, (0, 0, 11, 11))], [], [(54, 0, 0, 0), (68, 0, 2, 40), (68, 1, 0, 10), (68, 2, (-2147483648), 2147483647), (68, 3, (-11), 11)], [(0, 2, 0)]), [(false, 1)]), ((52, [(0, (2, 54, 0, 0)), (1, (0, 0, 12, 12)), (2, (0, 0, 0, 10)), (3, (0, 0, 0, 11)), (4, (1, 0, 0, 1000000000000)), (6, (1, 0, 1000000000000, 1000000000000)), (8, (0, 0, 12, 12))], [], [(54, 0, 0, 0), (68, 0, 2, 40), (68, 1, 0, 10), (68, 2, (-2147483648), 2147483647), (68, 3, (-11), 11)], [(0, 1, 0)]), [])]
  (by decide +kernel) (List.forall_mem_cons.mpr ⟨SMOK_le (Nat.le_of_ble_eq_true rfl : 5 ≤ 130) (kX11_delayAt_0 hSP), List.forall_mem_cons.mpr ⟨SMOK_le (Nat.le_of_ble_eq_true rfl : 1 ≤ 130) (kX11_in_50 hSP), List.forall_mem_cons.mpr ⟨SMOK_le (Nat.le_of_ble_eq_true rfl : 1 ≤ 130) (kX11_in_73 hSP), List.forall_mem_cons.mpr ⟨SMOK_le (Nat.le_of_ble_eq_true rfl : 1 ≤ 130) (kX11_in_42 hSP), List.forall_mem_cons.mpr ⟨SMOK_le (Nat.le_of_ble_eq_true rfl : 130 ≤ 130) (kX11_tellsFraction_0 hSP), fun s h => absurd h List.not_mem_nil⟩⟩⟩⟩⟩)
