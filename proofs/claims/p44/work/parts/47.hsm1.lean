/-! THE SAME IN THE CHECKER'S WORDS, 1 -/
def sX9_takeNumber_2 : SM := (mX9_takeNumber, [(2, 1, 0, 0), (0, 0, 1, 1)], [], [([(0, 0, (-1), (-1))], [(1, 5, 0, 1)], []), ([(0, 0, 0, 9)], [(1, 5, 0, 1)], [])], [(0, 1, 2, 2), (0, 1, 5, 5)])
theorem kX9_takeNumber_2 {SP : CT} (hSP : MONO SP) {sh : List (Nat × Nat)} : SMOK gE gRL sh (CLd SP 4) sX9_takeNumber_2 := by
  intro as h hX ga hG hov
  obtain ⟨x0, as0, rfl, g0, ga0⟩ := ar_c ga
  obtain rfl := ar_r (by decide) (by decide +kernel : ((List.range gRL.length).all fun c => !(decide (gRL[c]? = some 1)) || Nat.beq c 1) = true) g0
  obtain ⟨x1, as1, rfl, g1, ga1⟩ := ar_c ga0
  obtain ⟨n1, rn1, rfl, lo1, hi1⟩ := ar_i g1
  obtain rfl := ar_n ga1
  refine MONO_CLd hSP 4 _ _ _ _ _ _ _ (fun rv h' hq => ?_) (CLd_le (Nat.le_of_ble_eq_true rfl) (ctX9_takeNumber hSP hG (by omega)))
  revert hq
  rintro ⟨⟨e, rfl, -, he⟩, hG9, hF9, -, hc, -⟩
  rcases he with rfl | he
  · exact ⟨hG9, hF9, _, List.mem_cons_self, ge_i (by omega) (by omega) (by omega), gov_c (a := 1) (by decide) (by decide +kernel) (by omega) (gov_n), fun q hq => by cases hq⟩
  · exact ⟨hG9, hF9, _, (List.mem_cons_of_mem _ List.mem_cons_self), ge_i (by omega) (by omega) (by omega), gov_c (a := 1) (by decide) (by decide +kernel) (by omega) (gov_n), fun q hq => by cases hq⟩
def sX9_takeNumber_0 : SM := (mX9_takeNumber, [(2, 1, 0, 0), (0, 0, 2, 2)], [], [([(0, 0, (-1), (-1))], [(1, 5, 0, 1)], []), ([(0, 0, 0, 99)], [(1, 5, 0, 1)], [])], [(0, 1, 2, 2), (0, 1, 5, 5)])
theorem kX9_takeNumber_0 {SP : CT} (hSP : MONO SP) {sh : List (Nat × Nat)} : SMOK gE gRL sh (CLd SP 4) sX9_takeNumber_0 := by
  intro as h hX ga hG hov
  obtain ⟨x0, as0, rfl, g0, ga0⟩ := ar_c ga
  obtain rfl := ar_r (by decide) (by decide +kernel : ((List.range gRL.length).all fun c => !(decide (gRL[c]? = some 1)) || Nat.beq c 1) = true) g0
  obtain ⟨x1, as1, rfl, g1, ga1⟩ := ar_c ga0
  obtain ⟨n1, rn1, rfl, lo1, hi1⟩ := ar_i g1
  obtain rfl := ar_n ga1
  refine MONO_CLd hSP 4 _ _ _ _ _ _ _ (fun rv h' hq => ?_) (CLd_le (Nat.le_of_ble_eq_true rfl) (ctX9_takeNumber hSP hG (by omega)))
  revert hq
  rintro ⟨⟨e, rfl, -, he⟩, hG9, hF9, -, hc, -⟩
  rcases he with rfl | he
  · exact ⟨hG9, hF9, _, List.mem_cons_self, ge_i (by omega) (by omega) (by omega), gov_c (a := 1) (by decide) (by decide +kernel) (by omega) (gov_n), fun q hq => by cases hq⟩
  · exact ⟨hG9, hF9, _, (List.mem_cons_of_mem _ List.mem_cons_self), ge_i (by omega) (by omega) (by omega), gov_c (a := 1) (by decide) (by decide +kernel) (by omega) (gov_n), fun q hq => by cases hq⟩
def sX9_takeNumber_1 : SM := (mX9_takeNumber, [(2, 1, 0, 0), (0, 0, 3, 3)], [], [([(0, 0, (-1), (-1))], [(1, 5, 0, 1)], []), ([(0, 0, 0, 999)], [(1, 5, 0, 1)], [])], [(0, 1, 2, 2), (0, 1, 5, 5)])
theorem kX9_takeNumber_1 {SP : CT} (hSP : MONO SP) {sh : List (Nat × Nat)} : SMOK gE gRL sh (CLd SP 4) sX9_takeNumber_1 := by
  intro as h hX ga hG hov
  obtain ⟨x0, as0, rfl, g0, ga0⟩ := ar_c ga
  obtain rfl := ar_r (by decide) (by decide +kernel : ((List.range gRL.length).all fun c => !(decide (gRL[c]? = some 1)) || Nat.beq c 1) = true) g0
  obtain ⟨x1, as1, rfl, g1, ga1⟩ := ar_c ga0
  obtain ⟨n1, rn1, rfl, lo1, hi1⟩ := ar_i g1
  obtain rfl := ar_n ga1
  refine MONO_CLd hSP 4 _ _ _ _ _ _ _ (fun rv h' hq => ?_) (CLd_le (Nat.le_of_ble_eq_true rfl) (ctX9_takeNumber hSP hG (by omega)))
  revert hq
  rintro ⟨⟨e, rfl, -, he⟩, hG9, hF9, -, hc, -⟩
  rcases he with rfl | he
  · exact ⟨hG9, hF9, _, List.mem_cons_self, ge_i (by omega) (by omega) (by omega), gov_c (a := 1) (by decide) (by decide +kernel) (by omega) (gov_n), fun q hq => by cases hq⟩
  · exact ⟨hG9, hF9, _, (List.mem_cons_of_mem _ List.mem_cons_self), ge_i (by omega) (by omega) (by omega), gov_c (a := 1) (by decide) (by decide +kernel) (by omega) (gov_n), fun q hq => by cases hq⟩
def sX5_readFrom_0 : SM := (mX5_readFrom, [(2, 11, 0, 0), (2, 1, 0, 0), (2, 8, 0, 0)], [], [([(0, 0, (-2147483648), 2147483647)], [], [])], [(0, 1, 2, 2), (0, 1, 5, 5), (0, 8, 1, 1), (0, 9, 0, 39), (0, 11, 1, 4), (0, 12, 0, 39)])
theorem kX5_readFrom_0 {SP : CT} (hSP : MONO SP) {sh : List (Nat × Nat)} : SMOK gE gRL sh (CLd SP 8) sX5_readFrom_0 := by
  intro as h hX ga hG hov
  obtain ⟨x0, as0, rfl, g0, ga0⟩ := ar_c ga
  obtain rfl := ar_r (by decide) (by decide +kernel : ((List.range gRL.length).all fun c => !(decide (gRL[c]? = some 11)) || Nat.beq c 17) = true) g0
  obtain ⟨x1, as1, rfl, g1, ga1⟩ := ar_c ga0
  obtain rfl := ar_r (by decide) (by decide +kernel : ((List.range gRL.length).all fun c => !(decide (gRL[c]? = some 1)) || Nat.beq c 1) = true) g1
  obtain ⟨x2, as2, rfl, g2, ga2⟩ := ar_c ga1
  obtain ⟨b2, rfl, hb2⟩ := ar_q (by decide) g2
  obtain rfl := ar_n ga2
  refine MONO_CLd hSP 8 _ _ _ _ _ _ _ (fun rv h' hq => ?_) (CLd_le (Nat.le_of_ble_eq_true rfl) (ctX5_readFrom hSP hG hX hb2))
  revert hq
  rintro ⟨⟨e, rfl⟩, hG9, hF9⟩
  exact ⟨hG9, hF9, _, List.mem_cons_self, ge_a, gov_n, fun q hq => by cases hq⟩
def sX3_tellFraction_0 : SM := (mX3_tellFraction, [(2, 3, 0, 0), (1, 0, (-9223372036854775808), 9223372036854775807), (1, 0, (-9223372036854775808), 9223372036854775807)], [], [([], [], [])], [(0, 3, 1, 1), (1, 4, 0, 29)])
theorem kX3_tellFraction_0 {SP : CT} (hSP : MONO SP) {sh : List (Nat × Nat)} : SMOK gE gRL sh (CLd SP 4) sX3_tellFraction_0 := by
  intro as h hX ga hG hov
  obtain ⟨x0, as0, rfl, g0, ga0⟩ := ar_c ga
  obtain rfl := ar_r (by decide) (by decide +kernel : ((List.range gRL.length).all fun c => !(decide (gRL[c]? = some 3)) || Nat.beq c 3) = true) g0
  obtain ⟨x1, as1, rfl, g1, ga1⟩ := ar_c ga0
  obtain ⟨n1, rn1, rfl, lo1, hi1⟩ := ar_l g1
  obtain ⟨x2, as2, rfl, g2, ga2⟩ := ar_c ga1
  obtain ⟨n2, rn2, rfl, lo2, hi2⟩ := ar_l g2
  obtain rfl := ar_n ga2
  refine MONO_CLd hSP 4 _ _ _ _ _ _ _ (fun rv h' hq => ?_) (ctX3_tellFraction hSP hG hX rn1 rn2)
  revert hq
  rintro ⟨rfl, hG9, hF9⟩
  exact ⟨hG9, hF9, _, List.mem_cons_self, trivial, gov_n, fun q hq => by cases hq⟩
def sX11_tellsFraction_0 : SM := (mX11_tellsFraction, [(2, 54, 0, 0), (1, 0, 0, 9223372036854775807), (1, 0, 1, 9223372036854775807)], [], [([], [(54, 1, 2, 2)], [])], [(0, 54, 1, 1), (1, 55, 0, 39)])
theorem kX11_tellsFraction_0 {SP : CT} (hSP : MONO SP) {sh : List (Nat × Nat)} : SMOK gE gRL sh (CLd SP 130) sX11_tellsFraction_0 := by
  intro as h hX ga hG hov
  obtain ⟨x0, as0, rfl, g0, ga0⟩ := ar_c ga
  obtain rfl := ar_r (by decide) (by decide +kernel : ((List.range gRL.length).all fun c => !(decide (gRL[c]? = some 54)) || Nat.beq c 171) = true) g0
  obtain ⟨x1, as1, rfl, g1, ga1⟩ := ar_c ga0
  obtain ⟨n1, rn1, rfl, lo1, hi1⟩ := ar_l g1
  obtain ⟨x2, as2, rfl, g2, ga2⟩ := ar_c ga1
  obtain ⟨n2, rn2, rfl, lo2, hi2⟩ := ar_l g2
  obtain rfl := ar_n ga2
  refine MONO_CLd hSP 130 _ _ _ _ _ _ _ (fun rv h' hq => ?_) (ctX11_tellsFraction hSP hG lo1 lo2 rn1 rn2)
  revert hq
  rintro ⟨rfl, hG9, hF9, e9⟩
  exact ⟨hG9, hF9, _, List.mem_cons_self, trivial, gov_c (a := 171) (by decide) (by decide +kernel) (by omega) (gov_n), fun q hq => by cases hq⟩
def sX11_ruled_0 : SM := (mX11_ruled, [(2, 54, 0, 0)], [], [([(0, 0, 1, 12)], [], [])], [(0, 67, 0, 79)])
theorem kX11_ruled_0 {SP : CT} (hSP : MONO SP) {sh : List (Nat × Nat)} : SMOK gE gRL sh (CLd SP 4) sX11_ruled_0 := by
  intro as h hX ga hG hov
  obtain ⟨x0, as0, rfl, g0, ga0⟩ := ar_c ga
  obtain rfl := ar_r (by decide) (by decide +kernel : ((List.range gRL.length).all fun c => !(decide (gRL[c]? = some 54)) || Nat.beq c 171) = true) g0
  obtain rfl := ar_n ga0
  refine MONO_CLd hSP 4 _ _ _ _ _ _ _ (fun rv h' hq => ?_) (ctX11_ruled hSP hG hX)
  revert hq
  rintro ⟨⟨e, rfl, h1, h2⟩, hG9, hF9⟩
  exact ⟨hG9, hF9, _, List.mem_cons_self, ge_i (by omega) (by omega) (by omega), gov_n, fun q hq => by cases hq⟩
def sX11_puts_0 : SM := (mX11_puts, [(2, 54, 0, 0)], [], [([], [], [])], [(0, 62, 0, 56)])
theorem kX11_puts_0 {SP : CT} (hSP : MONO SP) {sh : List (Nat × Nat)} : SMOK gE gRL sh (CLd SP 2) sX11_puts_0 := by
  intro as h hX ga hG hov
  obtain ⟨x0, as0, rfl, g0, ga0⟩ := ar_c ga
  obtain rfl := ar_r (by decide) (by decide +kernel : ((List.range gRL.length).all fun c => !(decide (gRL[c]? = some 54)) || Nat.beq c 171) = true) g0
  obtain rfl := ar_n ga0
  refine MONO_CLd hSP 2 _ _ _ _ _ _ _ (fun rv h' hq => ?_) (ctX11_puts hSP hG)
  revert hq
  rintro ⟨rfl, hG9, hF9⟩
  exact ⟨hG9, hF9, _, List.mem_cons_self, trivial, gov_n, fun q hq => by cases hq⟩
def sX11_doesDue_1 : SM := (mX11_doesDue, [(2, 62, 0, 0)], [], [([], [], [])], [(0, 62, 1, 1), (0, 62, 3, 3), (0, 62, 5, 40)])
theorem kX11_doesDue_1 {SP : CT} (hSP : MONO SP) {sh : List (Nat × Nat)} : SMOK gE gRL sh (CLd SP 4) sX11_doesDue_1 := by
  intro as h hX ga hG hov
  obtain ⟨x0, as0, rfl, g0, ga0⟩ := ar_c ga
  obtain rfl := ar_r (by decide) (by decide +kernel : ((List.range gRL.length).all fun c => !(decide (gRL[c]? = some 62)) || Nat.beq c 179) = true) g0
  obtain rfl := ar_n ga0
  refine MONO_CLd hSP 4 _ _ _ _ _ _ _ (fun rv h' hq => ?_) (ctX11_doesDueT hSP hG)
  revert hq
  rintro ⟨rfl, hG9, hF9⟩
  exact ⟨hG9, hF9, _, List.mem_cons_self, trivial, gov_n, fun q hq => by cases hq⟩
