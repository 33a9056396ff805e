/-! THE SAME IN THE CHECKER'S WORDS, 2 -/
def sX11_gives_1 : SM := (mX11_gives, [(2, 54, 0, 0), (2, 62, 0, 0), (0, 0, (-2147483648), 2147483647)], [], [([(0, 0, (-2147483648), 2147483647)], [], [])], [(0, 62, 3, 40), (0, 67, 0, 79), (0, 68, 0, 3)])
theorem kX11_gives_1 {SP : CT} (hSP : MONO SP) {sh : List (Nat × Nat)} : SMOK gE gRL sh (CLd SP 7) sX11_gives_1 := by
  intro as h hX ga hG hov
  obtain ⟨x0, as0, rfl, g0, ga0⟩ := ar_c ga
  obtain rfl := ar_r (by decide) (by decide +kernel : ((List.range gRL.length).all fun c => !(decide (gRL[c]? = some 54)) || Nat.beq c 171) = true) g0
  obtain ⟨x1, as1, rfl, g1, ga1⟩ := ar_c ga0
  obtain rfl := ar_r (by decide) (by decide +kernel : ((List.range gRL.length).all fun c => !(decide (gRL[c]? = some 62)) || Nat.beq c 179) = true) g1
  obtain ⟨x2, as2, rfl, g2, ga2⟩ := ar_c ga1
  obtain ⟨n2, rn2, rfl, lo2, hi2⟩ := ar_i g2
  obtain rfl := ar_n ga2
  refine MONO_CLd hSP 7 _ _ _ _ _ _ _ (fun rv h' hq => ?_) (ctX11_givesT hSP hG hX rn2)
  revert hq
  rintro ⟨⟨e, rfl, l1, l2⟩, hG9, hF9⟩
  exact ⟨hG9, hF9, _, List.mem_cons_self, ge_a, gov_n, fun q hq => by cases hq⟩
