/-! THE FEWEST ORDERS (the reference): vectors of nine LANES -/
def nev : Nat → Int := fun _ => 1000
def gbL (u : Nat → Int) (w c : Int) : Nat → (Nat → Int) → Nat → Int
  | 0, a => a
  | l + 1, a => fun g => if (g : Int) = max 0 (min 8 (l + w)) then min (gbL u w c l a g) (u l + c) else gbL u w c l a g
/-- an order moves her: one that is given, or any, which costs 1 where it isn't 0 -/
def gbV (v : Int) (any : Bool) (u : Nat → Int) : Nat → Int := if any = true then gbL u 1 1 9 (gbL u 0 0 9 (gbL u (-1) 1 9 nev)) else gbL u v 0 9 nev
def rgV (u : Nat → Int) : Prop := ∀ l, 0 ≤ u l ∧ u l ≤ 1000
theorem nev_r : rgV nev := fun _ => by show (0 : Int) ≤ 1000 ∧ (1000 : Int) ≤ 1000; omega
theorem gbL_r {u a : Nat → Int} {w c : Int} (hu : rgV u) (hc : 0 ≤ c) (ha : rgV a) : ∀ n, rgV (gbL u w c n a)
  | 0 => ha
  | n + 1 => fun g => by
    have h1 := gbL_r (w := w) hu hc ha n g
    have h2 := hu n
    show 0 ≤ (if (g : Int) = max 0 (min 8 (n + w)) then min (gbL u w c n a g) (u n + c) else gbL u w c n a g) ∧ (if (g : Int) = max 0 (min 8 (n + w)) then min (gbL u w c n a g) (u n + c) else gbL u w c n a g) ≤ 1000
    split <;> omega
theorem gbV_r {u : Nat → Int} {v : Int} {any : Bool} (hu : rgV u) : rgV (gbV v any u) := by
  unfold gbV
  split
  · exact gbL_r hu (by omega) (gbL_r hu (by omega) (gbL_r hu (by omega) nev_r 9) 9) 9
  · exact gbL_r hu (by omega) nev_r 9
/-- the least of two, and what costs k more -/
def mn2 (u a : Nat → Int) : Nat → Int := fun l => min (u l) (a l)
def stV (u : Nat → Int) (k : Int) : Nat → Int := fun l => min 1000 (u l + k)
theorem mm1 {a b x y c : Int} : min (min a b) (min x y + c) = min (min a (x + c)) (min b (y + c)) := by omega
theorem mm2 {a x c k : Int} (hc : 0 ≤ c) (hk : 0 ≤ k) : min (min 1000 (a + k)) (min 1000 (x + k) + c) = min 1000 (min a (x + c) + k) := by omega
theorem mm3 {a b x : Int} : min (min a b) x = min a (min b x) := by omega
theorem gbL_mn {u v a b : Nat → Int} {w c : Int} : ∀ n, gbL (mn2 u v) w c n (mn2 a b) = mn2 (gbL u w c n a) (gbL v w c n b)
  | 0 => rfl
  | n + 1 => by
    funext g
    show (if (g : Int) = max 0 (min 8 (n + w)) then min (gbL (mn2 u v) w c n (mn2 a b) g) (min (u n) (v n) + c) else gbL (mn2 u v) w c n (mn2 a b) g) = min (if (g : Int) = max 0 (min 8 (n + w)) then min (gbL u w c n a g) (u n + c) else gbL u w c n a g) (if (g : Int) = max 0 (min 8 (n + w)) then min (gbL v w c n b g) (v n + c) else gbL v w c n b g)
    rw [gbL_mn n]
    by_cases c1 : (g : Int) = max 0 (min 8 (n + w))
    · rw [if_pos c1, if_pos c1, if_pos c1]; exact mm1
    · rw [if_neg c1, if_neg c1, if_neg c1]; rfl
theorem gbL_st {u a : Nat → Int} {w c k : Int} (hc : 0 ≤ c) (hk : 0 ≤ k) : ∀ n, gbL (stV u k) w c n (stV a k) = stV (gbL u w c n a) k
  | 0 => rfl
  | n + 1 => by
    funext g
    show (if (g : Int) = max 0 (min 8 (n + w)) then min (gbL (stV u k) w c n (stV a k) g) (min 1000 (u n + k) + c) else gbL (stV u k) w c n (stV a k) g) = min 1000 ((if (g : Int) = max 0 (min 8 (n + w)) then min (gbL u w c n a g) (u n + c) else gbL u w c n a g) + k)
    rw [gbL_st hc hk n]
    by_cases c1 : (g : Int) = max 0 (min 8 (n + w))
    · rw [if_pos c1, if_pos c1]; exact mm2 hc hk
    · rw [if_neg c1, if_neg c1]; rfl
theorem nev_st {k : Int} (hk : 0 ≤ k) : stV nev k = nev := funext fun _ => by show min 1000 (1000 + k) = 1000; omega
theorem nev_mn : mn2 nev nev = nev := funext fun _ => by show min (1000 : Int) 1000 = 1000; omega
/-- what is taken in behind a -/
theorem gbL_acc {u a b : Nat → Int} {w c : Int} : ∀ n, gbL u w c n (mn2 a b) = mn2 a (gbL u w c n b)
  | 0 => rfl
  | n + 1 => by
    funext g
    show (if (g : Int) = max 0 (min 8 (n + w)) then min (gbL u w c n (mn2 a b) g) (u n + c) else gbL u w c n (mn2 a b) g) = min (a g) (if (g : Int) = max 0 (min 8 (n + w)) then min (gbL u w c n b g) (u n + c) else gbL u w c n b g)
    rw [gbL_acc n]
    by_cases c1 : (g : Int) = max 0 (min 8 (n + w))
    · rw [if_pos c1, if_pos c1]; exact mm3
    · rw [if_neg c1, if_neg c1]; rfl
theorem gbL_c {u a : Nat → Int} {w c : Int} : ∀ n, (∀ g, mn2 (fun _ => 1000) (gbL u w c n (stV a c)) g = stV (gbL u w 0 n a) c g)
  | 0 => fun g => by show min 1000 (min 1000 (a g + c)) = min 1000 (a g + c); omega
  | n + 1 => fun g => by
    have ih := gbL_c (u := u) (a := a) (w := w) (c := c) n g
    have ih : min 1000 (gbL u w c n (stV a c) g) = min 1000 (gbL u w 0 n a g + c) := ih
    show min 1000 (if (g : Int) = max 0 (min 8 (n + w)) then min (gbL u w c n (stV a c) g) (u n + c) else gbL u w c n (stV a c) g) = min 1000 ((if (g : Int) = max 0 (min 8 (n + w)) then min (gbL u w 0 n a g) (u n + 0) else gbL u w 0 n a g) + c)
    split <;> omega
theorem mn_1000 {u : Nat → Int} (hu : rgV u) : mn2 (fun _ => 1000) u = u := funext fun g => by have := hu g; show min 1000 (u g) = u g; omega
theorem mn_nev {u : Nat → Int} (hu : rgV u) : mn2 u nev = u := funext fun g => by have := hu g; show min (u g) 1000 = u g; omega
theorem gb_cost {u : Nat → Int} {w c : Int} (hu : rgV u) (hc : 0 ≤ c) : gbL u w c 9 nev = stV (gbL u w 0 9 nev) c := by
  have h1 := funext (gbL_c (u := u) (a := nev) (w := w) (c := c) 9)
  rw [nev_st hc] at h1
  rw [← h1, mn_1000 (gbL_r hu hc nev_r 9)]
/-- any order: the best of the three -/
theorem gbV_any {u : Nat → Int} {v : Int} (hu : rgV u) : gbV v true u = mn2 (mn2 (stV (gbV (-1) false u) 1) (gbV 0 false u)) (stV (gbV 1 false u) 1) := by
  show gbL u 1 1 9 (gbL u 0 0 9 (gbL u (-1) 1 9 nev)) = mn2 (mn2 (stV (gbL u (-1) 0 9 nev) 1) (gbL u 0 0 9 nev)) (stV (gbL u 1 0 9 nev) 1)
  rw [← gb_cost hu (by omega), ← gb_cost hu (by omega)]
  have r1 := gbL_r (w := -1) (c := 1) hu (by omega) nev_r 9
  rw [← gbL_acc, ← mn_nev r1, gbL_acc, mn_nev r1]
  have r2 : rgV (mn2 (gbL u (-1) 1 9 nev) (gbL u 0 0 9 nev)) := fun l => by
    have a := r1 l
    have b := gbL_r (w := 0) (c := 0) hu (by omega) nev_r 9 l
    show 0 ≤ min _ _ ∧ min _ _ ≤ 1000
    omega
  rw [mn_nev r2]
theorem gbV_mn {u a : Nat → Int} {v : Int} : gbV v false (mn2 u a) = mn2 (gbV v false u) (gbV v false a) := by
  show gbL (mn2 u a) v 0 9 nev = mn2 (gbL u v 0 9 nev) (gbL a v 0 9 nev)
  rw [← gbL_mn, nev_mn]
theorem gbV_st {u : Nat → Int} {v k : Int} (hk : 0 ≤ k) : gbV v false (stV u k) = stV (gbV v false u) k := by
  show gbL (stV u k) v 0 9 nev = stV (gbL u v 0 9 nev) k
  rw [← gbL_st (by omega) hk, nev_st hk]
theorem mn2_r {u a : Nat → Int} (hu : rgV u) (ha : rgV a) : rgV (mn2 u a) := fun l => by
  have := hu l
  have := ha l
  show 0 ≤ min _ _ ∧ min _ _ ≤ 1000
  omega
theorem stV_r {u : Nat → Int} {k : Int} (hu : rgV u) (hk : 0 ≤ k) : rgV (stV u k) := fun l => by
  have := hu l
  show 0 ≤ min _ _ ∧ min _ _ ≤ 1000
  omega
theorem mn_p1 (a b : Int) : min 1000 (min a b + 1) = min (min 1000 (a + 1)) (min 1000 (b + 1)) := by omega
theorem mn_6 (x1 x2 y1 y2 z1 z2 : Int) : min (min (min x1 x2) (min y1 y2)) (min z1 z2) = min (min (min x1 y1) z1) (min (min x2 y2) z2) := by ac_rfl
theorem gbVA_mn {u a : Nat → Int} {v : Int} {any : Bool} (hu : rgV u) (ha : rgV a) : gbV v any (mn2 u a) = mn2 (gbV v any u) (gbV v any a) := by
  cases any
  · exact gbV_mn
  · rw [gbV_any (mn2_r hu ha), gbV_any hu, gbV_any ha, gbV_mn, gbV_mn, gbV_mn]
    funext g
    show min (min (min 1000 (min _ _ + 1)) (min _ _)) (min 1000 (min _ _ + 1)) = min (min (min (min 1000 _) _) _) (min (min (min 1000 _) _) _)
    simp only [mn2, stV]
    rw [mn_p1, mn_p1]
    exact mn_6 _ _ _ _ _ _
theorem gbVA_st {u : Nat → Int} {v k : Int} {any : Bool} (hu : rgV u) (hk : 0 ≤ k) : gbV v any (stV u k) = stV (gbV v any u) k := by
  cases any
  · exact gbV_st hk
  · rw [gbV_any (stV_r hu hk), gbV_any hu, gbV_st hk, gbV_st hk, gbV_st hk]
    funext g
    simp only [mn2, stV]
    omega
/-- what happens one behind another: 0 an order under way, 1 one that is chosen, 2 the ROCKS of a STEP -/
def opF (ch : Int → Int) (l : Int) (hit : Int → Nat → Int) (q : Int × Int) (u : Nat → Int) : Nat → Int :=
  if q.1 = 0 then gbV q.2 false u else if q.1 = 1 then gbV (tvF l (ch q.2)) (decide (ch q.2 = 2)) u else fun g => if 0 < hit q.2 g then 1000 else u g
def opsF (ch : Int → Int) (l : Int) (hit : Int → Nat → Int) (L : List (Int × Int)) (u : Nat → Int) : Nat → Int := L.foldl (fun u q => opF ch l hit q u) u
theorem opF_r {ch : Int → Int} {l : Int} {hit : Int → Nat → Int} {q : Int × Int} {u : Nat → Int} (hu : rgV u) : rgV (opF ch l hit q u) := by
  unfold opF
  split
  · exact gbV_r hu
  · split
    · exact gbV_r hu
    · intro g
      have := hu g
      show 0 ≤ (if _ then (1000 : Int) else u g) ∧ (if _ then (1000 : Int) else u g) ≤ 1000
      split <;> omega
theorem opF_mn {ch : Int → Int} {l : Int} {hit : Int → Nat → Int} {q : Int × Int} {u a : Nat → Int} (hu : rgV u) (ha : rgV a) : opF ch l hit q (mn2 u a) = mn2 (opF ch l hit q u) (opF ch l hit q a) := by
  unfold opF
  by_cases c : q.1 = 0
  · simp only [if_pos c]; exact gbVA_mn hu ha
  · by_cases c2 : q.1 = 1
    · simp only [if_neg c, if_pos c2]; exact gbVA_mn hu ha
    · simp only [if_neg c, if_neg c2]
      funext g
      simp only [mn2]
      split <;> omega
theorem opF_st {ch : Int → Int} {l : Int} {hit : Int → Nat → Int} {q : Int × Int} {u : Nat → Int} {k : Int} (hu : rgV u) (hk : 0 ≤ k) : opF ch l hit q (stV u k) = stV (opF ch l hit q u) k := by
  unfold opF
  by_cases c : q.1 = 0
  · simp only [if_pos c]; exact gbVA_st hu hk
  · by_cases c2 : q.1 = 1
    · simp only [if_neg c, if_pos c2]; exact gbVA_st hu hk
    · simp only [if_neg c, if_neg c2]
      funext g
      simp only [stV]
      split <;> omega
theorem opsF_r {ch : Int → Int} {l : Int} {hit : Int → Nat → Int} : ∀ (L : List (Int × Int)) (u : Nat → Int), rgV u → rgV (opsF ch l hit L u)
  | [], _, h => h
  | q :: r, u, h => opsF_r r _ (opF_r h)
theorem opsF_mn {ch : Int → Int} {l : Int} {hit : Int → Nat → Int} : ∀ (L : List (Int × Int)) (u a : Nat → Int), rgV u → rgV a → opsF ch l hit L (mn2 u a) = mn2 (opsF ch l hit L u) (opsF ch l hit L a)
  | [], _, _, _, _ => rfl
  | q :: r, u, a, hu, ha => by
    show opsF ch l hit r (opF ch l hit q (mn2 u a)) = mn2 (opsF ch l hit r (opF ch l hit q u)) (opsF ch l hit r (opF ch l hit q a))
    rw [opF_mn hu ha, opsF_mn r _ _ (opF_r hu) (opF_r ha)]
theorem opsF_st {ch : Int → Int} {l : Int} {hit : Int → Nat → Int} {k : Int} (hk : 0 ≤ k) : ∀ (L : List (Int × Int)) (u : Nat → Int), rgV u → opsF ch l hit L (stV u k) = stV (opsF ch l hit L u) k
  | [], _, _ => rfl
  | q :: r, u, hu => by
    show opsF ch l hit r (opF ch l hit q (stV u k)) = stV (opsF ch l hit r (opF ch l hit q u)) k
    rw [opF_st hu hk, opsF_st hk r _ (opF_r hu)]
theorem opsF_app {ch : Int → Int} {l : Int} {hit : Int → Nat → Int} {L R : List (Int × Int)} {u : Nat → Int} : opsF ch l hit (L ++ R) u = opsF ch l hit R (opsF ch l hit L u) := by unfold opsF; rw [List.foldl_append]
/-- choices that don't come don't count -/
theorem opsF_ch {ch ch' : Int → Int} {l : Int} {hit : Int → Nat → Int} : ∀ (L : List (Int × Int)) (u : Nat → Int), (∀ q ∈ L, q.1 = 1 → ch q.2 = ch' q.2) → opsF ch l hit L u = opsF ch' l hit L u
  | [], _, _ => rfl
  | q :: r, u, h => by
    show opsF ch l hit r (opF ch l hit q u) = opsF ch' l hit r (opF ch' l hit q u)
    have e : opF ch l hit q u = opF ch' l hit q u := by
      unfold opF
      by_cases c2 : q.1 = 1
      · simp only [h q List.mem_cons_self c2]
      · simp only [if_neg c2]
    rw [e]
    exact opsF_ch r _ fun z hz => h z (List.mem_cons_of_mem _ hz)
/-- the least of a vector -/
def fwN (u : Nat → Int) : Nat → Int
  | 0 => 1000
  | l + 1 => min (fwN u l) (u l)
theorem fwN_s {u : Nat → Int} {i : Int} (h : 0 ≤ i) : fwN u (i + 1).toNat = min (fwN u i.toNat) (u i.toNat) := by rw [tn_s h]; rfl
theorem fwN_r {u : Nat → Int} (hu : rgV u) : ∀ n, 0 ≤ fwN u n ∧ fwN u n ≤ 1000
  | 0 => by show (0 : Int) ≤ 1000 ∧ (1000 : Int) ≤ 1000; omega
  | n + 1 => by
    have := fwN_r hu n
    have := hu n
    show 0 ≤ min _ _ ∧ min _ _ ≤ 1000
    omega
theorem fwN_mn {u a : Nat → Int} : ∀ n, fwN (mn2 u a) n = min (fwN u n) (fwN a n)
  | 0 => by show (1000 : Int) = min 1000 1000; omega
  | n + 1 => by
    show min (fwN (mn2 u a) n) (min (u n) (a n)) = min (min (fwN u n) (u n)) (min (fwN a n) (a n))
    rw [fwN_mn n]; omega
theorem fwN_st {u : Nat → Int} {k : Int} (hk : 0 ≤ k) : ∀ n, fwN (stV u k) n = min 1000 (fwN u n + k)
  | 0 => by show (1000 : Int) = min 1000 (1000 + k); omega
  | n + 1 => by
    show min (fwN (stV u k) n) (min 1000 (u n + k)) = min 1000 (min (fwN u n) (u n) + k)
    rw [fwN_st hk n]; omega
def upC (ch : Int → Int) (k v : Int) : Int → Int := fun j => if j = k then v else ch j
/-- one choice that comes once: any of it costs as the best of three -/
theorem one_ch {ch : Int → Int} {l : Int} {hit : Int → Nat → Int} {k : Int} {A B : List (Int × Int)} {u : Nat → Int} (hu : rgV u) (hA : ∀ q ∈ A, q.1 = 1 → q.2 ≠ k) (hB : ∀ q ∈ B, q.1 = 1 → q.2 ≠ k) (hk : ch k = 2) :
    fwN (opsF ch l hit (A ++ ((1, k) :: B)) u) 9 = min (min (min 1000 (fwN (opsF (upC ch k (-1)) l hit (A ++ ((1, k) :: B)) u) 9 + 1)) (fwN (opsF (upC ch k 0) l hit (A ++ ((1, k) :: B)) u) 9)) (min 1000 (fwN (opsF (upC ch k 1) l hit (A ++ ((1, k) :: B)) u) 9 + 1)) := by
  have ha : ∀ v, opsF (upC ch k v) l hit A u = opsF ch l hit A u := fun v => opsF_ch A u fun q hq h1 => if_neg (hA q hq h1)
  have hb : ∀ v x, opsF (upC ch k v) l hit B x = opsF ch l hit B x := fun v x => opsF_ch B x fun q hq h1 => if_neg (hB q hq h1)
  have step : ∀ (ch' : Int → Int) x, opsF ch' l hit ((1, k) :: B) x = opsF ch' l hit B (gbV (tvF l (ch' k)) (decide (ch' k = 2)) x) := fun ch' x => rfl
  simp only [opsF_app, step, ha, hb]
  obtain ⟨x, hx⟩ : ∃ x, opsF ch l hit A u = x := ⟨_, rfl⟩
  have rx : rgV x := by rw [← hx]; exact opsF_r A u hu
  rw [hx, show upC ch k (-1) k = -1 from if_pos rfl, show upC ch k 0 k = 0 from if_pos rfl, show upC ch k 1 k = 1 from if_pos rfl, hk]
  rw [show decide ((2 : Int) = 2) = true from rfl, show decide ((-1 : Int) = 2) = false from rfl, show decide ((0 : Int) = 2) = false from rfl, show decide ((1 : Int) = 2) = false from rfl, gbV_any rx]
  have r1 := gbV_r (v := -1) (any := false) rx
  have r2 := gbV_r (v := 0) (any := false) rx
  have r3 := gbV_r (v := 1) (any := false) rx
  rw [opsF_mn B _ _ (mn2_r (stV_r r1 (by omega)) r2) (stV_r r3 (by omega)), opsF_mn B _ _ (stV_r r1 (by omega)) r2, opsF_st (by omega) B _ r1, opsF_st (by omega) B _ r3, fwN_mn, fwN_mn, fwN_st (by omega), fwN_st (by omega)]
  have e0 : tvF l 0 = 0 := by unfold tvF; split <;> rfl
  have e1 : (tvF l (-1) = -1 ∧ tvF l 1 = 1) ∨ (tvF l (-1) = 1 ∧ tvF l 1 = -1) := by unfold tvF; split <;> simp
  rw [e0]
  rcases e1 with ⟨a, b⟩ | ⟨a, b⟩
  · rw [a, b]
  · rw [a, b]; omega
def cmF (now last : Int) (dl : Int → Int) (k t : Int) : Bool := (decide (0 < k) || decide (last ≠ now)) && decide (k + dl (now + k) = t)
def blkC (now last : Int) (dl : Int → Int) (t : Int) : Nat → List (Int × Int)
  | 0 => []
  | k + 1 => blkC now last dl t k ++ if cmF now last dl k t = true then [(1, (k : Int))] else []
def wyF (L : List (Int × Int × Int)) (d : Int) : List (Int × Int) := (L.filter fun q => decide (q.1 = d)).map fun q => (0, q.2.1)
def blkT (L : List (Int × Int × Int)) (now last : Int) (dl : Int → Int) (t : Nat) : List (Int × Int) := wyF L (now + t) ++ (blkC now last dl t t ++ [(2, (t : Int))])
def opsT (L : List (Int × Int × Int)) (now last : Int) (dl : Int → Int) : Nat → List (Int × Int)
  | 0 => []
  | t + 1 => opsT L now last dl t ++ blkT L now last dl (t + 1)
theorem wyF_1 {L : List (Int × Int × Int)} {d : Int} {q : Int × Int} (h : q ∈ wyF L d) : q.1 = 0 := by
  obtain ⟨z, -, rfl⟩ := List.mem_map.mp h
  rfl
theorem blkC_1 {now last : Int} {dl : Int → Int} {t : Int} : ∀ (n : Nat) {q : Int × Int}, q ∈ blkC now last dl t n → q.1 = 1 ∧ 0 ≤ q.2 ∧ q.2 < n ∧ cmF now last dl q.2 t = true
  | 0, q, h => absurd h List.not_mem_nil
  | n + 1, q, h => by
    rcases List.mem_append.mp h with h | h
    · obtain ⟨a, b, c, d⟩ := blkC_1 n h
      exact ⟨a, b, by omega, d⟩
    · by_cases c : cmF now last dl n t = true
      · rw [if_pos c] at h
        obtain rfl := List.mem_singleton.mp h
        exact ⟨rfl, by show (0 : Int) ≤ n; omega, by show (n : Int) < _; omega, c⟩
      · rw [if_neg c] at h
        exact absurd h List.not_mem_nil
theorem cmF_t {now last : Int} {dl : Int → Int} {k t : Int} (h : cmF now last dl k t = true) : (0 < k ∨ last ≠ now) ∧ k + dl (now + k) = t := by
  unfold cmF at h
  rw [Bool.and_eq_true, Bool.or_eq_true, decide_eq_true_eq, decide_eq_true_eq, decide_eq_true_eq] at h
  exact h
theorem cmF_i {now last : Int} {dl : Int → Int} {k t : Int} (h : (0 < k ∨ last ≠ now) ∧ k + dl (now + k) = t) : cmF now last dl k t = true := by
  unfold cmF
  rw [Bool.and_eq_true, Bool.or_eq_true, decide_eq_true_eq, decide_eq_true_eq, decide_eq_true_eq]
  exact h
theorem blkT_1 {L : List (Int × Int × Int)} {now last : Int} {dl : Int → Int} {t : Nat} {q : Int × Int} (h : q ∈ blkT L now last dl t) (h1 : q.1 = 1) : cmF now last dl q.2 t = true := by
  rcases List.mem_append.mp h with h | h
  · have := wyF_1 h; omega
  · rcases List.mem_append.mp h with h | h
    · exact (blkC_1 t h).2.2.2
    · obtain rfl := List.mem_singleton.mp h
      exact absurd h1 (by show ¬ (2 : Int) = 1; omega)
theorem opsT_1 {L : List (Int × Int × Int)} {now last : Int} {dl : Int → Int} : ∀ (n : Nat) {q : Int × Int}, q ∈ opsT L now last dl n → q.1 = 1 → (0 < q.2 ∨ last ≠ now) ∧ q.2 + dl (now + q.2) ≤ n
  | 0, q, h, _ => absurd h List.not_mem_nil
  | n + 1, q, h, h1 => by
    rcases List.mem_append.mp h with h | h
    · have := opsT_1 n h h1
      exact ⟨this.1, by omega⟩
    · have := cmF_t (blkT_1 h h1)
      exact ⟨this.1, by omega⟩
theorem blkC_at {now last : Int} {dl : Int → Int} {t k : Int} (h0 : 0 ≤ k) (hc : cmF now last dl k t = true) : ∀ n : Nat, k < n → ∃ A B, blkC now last dl t n = A ++ ((1, k) :: B) ∧ (∀ q ∈ A, q.2 < k) ∧ ∀ q ∈ B, k < q.2
  | 0, h => absurd h (by omega)
  | n + 1, h => by
    by_cases c : k = n
    · refine ⟨blkC now last dl t n, [], ?_, fun q hq => by have := (blkC_1 n hq).2.2.1; omega, fun q hq => absurd hq List.not_mem_nil⟩
      show blkC now last dl t n ++ (if cmF now last dl n t = true then [(1, (n : Int))] else []) = _
      rw [← c, if_pos hc]
    · obtain ⟨A, B, e, a, b⟩ := blkC_at h0 hc n (by omega)
      refine ⟨A, B ++ if cmF now last dl n t = true then [(1, (n : Int))] else [], ?_, a, fun q hq => ?_⟩
      · show blkC now last dl t n ++ _ = _
        rw [e, List.append_assoc]; rfl
      · rcases List.mem_append.mp hq with hq | hq
        · exact b q hq
        · by_cases c2 : cmF now last dl n t = true
          · rw [if_pos c2] at hq
            obtain rfl := List.mem_singleton.mp hq
            show k < (n : Int); omega
          · rw [if_neg c2] at hq
            exact absurd hq List.not_mem_nil
/-- a choice that comes in n STEPS comes once -/
theorem opsT_at {L : List (Int × Int × Int)} {now last : Int} {dl : Int → Int} {k : Int} (h0 : 0 ≤ k) (hd : 1 ≤ dl (now + k)) (hm : 0 < k ∨ last ≠ now) : ∀ n : Nat, k + dl (now + k) ≤ n → ∃ A B, opsT L now last dl n = A ++ ((1, k) :: B) ∧ (∀ q ∈ A, q.1 = 1 → q.2 ≠ k) ∧ ∀ q ∈ B, q.1 = 1 → q.2 ≠ k
  | 0, h => absurd h (by omega)
  | n + 1, h => by
    by_cases c : k + dl (now + k) ≤ n
    · obtain ⟨A, B, e, a, b⟩ := opsT_at h0 hd hm n c
      refine ⟨A, B ++ blkT L now last dl (n + 1), ?_, a, fun q hq h1 => ?_⟩
      · show opsT L now last dl n ++ _ = _
        rw [e, List.append_assoc]; rfl
      · rcases List.mem_append.mp hq with hq | hq
        · exact b q hq h1
        · have := (cmF_t (blkT_1 hq h1)).2
          intro z
          rw [z] at this
          omega
    · obtain ⟨A, B, e, a, b⟩ := blkC_at (now := now) (last := last) (dl := dl) (t := ((n + 1 : Nat) : Int)) h0 (cmF_i ⟨hm, by omega⟩) (n + 1) (by omega)
      refine ⟨opsT L now last dl n ++ (wyF L (now + ((n + 1 : Nat) : Int)) ++ A), B ++ [(2, ((n + 1 : Nat) : Int))], ?_, fun q hq h1 => ?_, fun q hq h1 => ?_⟩
      · show opsT L now last dl n ++ (wyF L (now + ((n + 1 : Nat) : Int)) ++ (blkC now last dl ((n + 1 : Nat) : Int) (n + 1) ++ [(2, ((n + 1 : Nat) : Int))])) = _
        rw [e]
        simp only [List.append_assoc, List.cons_append]
      · rcases List.mem_append.mp hq with hq | hq
        · have := (opsT_1 n hq h1).2
          intro z
          rw [z] at this
          omega
        · rcases List.mem_append.mp hq with hq | hq
          · have := wyF_1 hq; omega
          · have := a q hq; omega
      · rcases List.mem_append.mp hq with hq | hq
        · have := b q hq; omega
        · obtain rfl := List.mem_singleton.mp hq
          exact absurd h1 (by show ¬ (2 : Int) = 1; omega)
/-- nine ints as a vector -/
def LV (h : aH) (a : Nat) : Nat → Int := fun l => if l < 9 then gi h a l else 1000
theorem LV_at {h : aH} {a l : Nat} (hl : l < 9) : LV h a l = gi h a l := if_pos hl
theorem LV_F {M : MD} {h h' : aH} {a r : Nat} (hF : FRM gRL M h h') (hr : gRL[a]? = some r) (hm : (M.all fun q => !(Nat.beq q.1 0 && Nat.beq q.2.1 r)) = true) : LV h' a = LV h a := by
  funext l
  unfold LV
  rw [FRM_gi hF hr (mHas_non hm _)]
theorem LV_rng {h : aH} {a : Nat} (hr : rgV (LV h a)) {l : Nat} (hl : l < 9) : 0 ≤ gi h a l ∧ gi h a l ≤ 1000 := by have := hr l; rw [LV_at hl] at this; exact this
