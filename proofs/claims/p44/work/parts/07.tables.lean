/-! THE CLASSES' TABLES, out of lw_tbl by places -/
theorem gw_of {w : Jvm.Cond} {i : Nat} (h : lw_tbl[i]? = some w) (g : goodWord w = true) : w ∈ GW := List.mem_filter.mpr ⟨List.mem_of_getElem? h, g⟩
def atT (i : Nat) (w : Jvm.Cond) : Bool := decide (lw_tbl[i]? = some w) && goodWord w
theorem atT_gw {i : Nat} {w : Jvm.Cond} (h : atT i w = true) : w ∈ GW := by
  unfold atT at h
  rw [Bool.and_eq_true, decide_eq_true_eq] at h
  exact gw_of h.1 h.2
def kdt (t : Nat) (ty : FieldType) : Prop := match t with
  | 0 => ty = .int
  | 1 => ty = .long
  | 3 => ty = .boolean
  | 2 => ty.isReference = true
  | _ => False
theorem lay_gw {C : String} {T : u_T} {N : Nat} (hs : List Nat) (h : (List.range N).all (fun k => atT (hs.getD k 0) (u_lay C T k)) = true) : ∀ w ∈ u_ws C T N, w ∈ GW := by
  intro w hw
  obtain ⟨k, hk, rfl⟩ := List.mem_map.mp hw
  exact atT_gw (List.all_eq_true.mp h k hk)
def ClsOk (ci : Nat) (C : String) (T : u_T) (N : Nat) (ty : Nat → FieldType) : Prop := vwCl[ci]? = some (C, T, N) ∧ (∀ w ∈ u_ws C T N, w ∈ GW) ∧ (∀ a, a < N → ∀ b, b < N → a ≠ b → (T a).2.1 ≠ (T b).2.1) ∧ (∀ k, k < N → parseFieldDescriptor (T k).2.2.1 = some (ty k)) ∧ (∀ k, k < N → kdt (fkd ci k) (ty k)) ∧ N = nf ci ∧ C = wdN ci ∧ ∀ k, wdC ci k = T k
set_option maxRecDepth 100000 in
theorem lay0 : ∀ w ∈ u_ws RX0 TX0 6, w ∈ GW := lay_gw [352, 354, 356, 358, 360, 362] (by decide +kernel)
theorem kd0 : ∀ k, k < 6 → kdt (fkd 0 k) (tyX0 k) := by
  intro k hk
  rcases (show k = 0 ∨ k = 1 ∨ k = 2 ∨ k = 3 ∨ k = 4 ∨ k = 5 by omega) with rfl | rfl | rfl | rfl | rfl | rfl <;> rfl
theorem cls0 : ClsOk 0 RX0 TX0 6 tyX0 := ⟨rfl, lay0, nmX0, tyX0_ok, kd0, rfl, rfl, fun _ => rfl⟩
set_option maxRecDepth 100000 in
theorem lay1 : ∀ w ∈ u_ws RX1 TX1 5, w ∈ GW := lay_gw [323, 325, 327, 329, 331] (by decide +kernel)
theorem kd1 : ∀ k, k < 5 → kdt (fkd 1 k) (tyX1 k) := by
  intro k hk
  rcases (show k = 0 ∨ k = 1 ∨ k = 2 ∨ k = 3 ∨ k = 4 by omega) with rfl | rfl | rfl | rfl | rfl <;> rfl
theorem cls1 : ClsOk 1 RX1 TX1 5 tyX1 := ⟨rfl, lay1, nmX1, tyX1_ok, kd1, rfl, rfl, fun _ => rfl⟩
set_option maxRecDepth 100000 in
theorem lay2 : ∀ w ∈ u_ws RX2 TX2 3, w ∈ GW := lay_gw [252, 254, 256] (by decide +kernel)
theorem kd2 : ∀ k, k < 3 → kdt (fkd 2 k) (tyX2 k) := by
  intro k hk
  rcases (show k = 0 ∨ k = 1 ∨ k = 2 by omega) with rfl | rfl | rfl <;> rfl
theorem cls2 : ClsOk 2 RX2 TX2 3 tyX2 := ⟨rfl, lay2, nmX2, tyX2_ok, kd2, rfl, rfl, fun _ => rfl⟩
set_option maxRecDepth 100000 in
theorem lay3 : ∀ w ∈ u_ws RX3 TX3 2, w ∈ GW := lay_gw [160, 162] (by decide +kernel)
theorem kd3 : ∀ k, k < 2 → kdt (fkd 3 k) (tyX3 k) := by
  intro k hk
  rcases (show k = 0 ∨ k = 1 by omega) with rfl | rfl <;> rfl
theorem cls3 : ClsOk 3 RX3 TX3 2 tyX3 := ⟨rfl, lay3, nmX3, tyX3_ok, kd3, rfl, rfl, fun _ => rfl⟩
set_option maxRecDepth 100000 in
theorem lay4 : ∀ w ∈ u_ws RX4 TX4 4, w ∈ GW := lay_gw [209, 211, 213, 215] (by decide +kernel)
theorem kd4 : ∀ k, k < 4 → kdt (fkd 4 k) (tyX4 k) := by
  intro k hk
  rcases (show k = 0 ∨ k = 1 ∨ k = 2 ∨ k = 3 by omega) with rfl | rfl | rfl | rfl <;> rfl
theorem cls4 : ClsOk 4 RX4 TX4 4 tyX4 := ⟨rfl, lay4, nmX4, tyX4_ok, kd4, rfl, rfl, fun _ => rfl⟩
set_option maxRecDepth 100000 in
theorem lay5 : ∀ w ∈ u_ws RX5 TX5 5, w ∈ GW := lay_gw [229, 231, 233, 235, 237] (by decide +kernel)
theorem kd5 : ∀ k, k < 5 → kdt (fkd 5 k) (tyX5 k) := by
  intro k hk
  rcases (show k = 0 ∨ k = 1 ∨ k = 2 ∨ k = 3 ∨ k = 4 by omega) with rfl | rfl | rfl | rfl | rfl <;> rfl
theorem cls5 : ClsOk 5 RX5 TX5 5 tyX5 := ⟨rfl, lay5, nmX5, tyX5_ok, kd5, rfl, rfl, fun _ => rfl⟩
set_option maxRecDepth 100000 in
theorem lay6 : ∀ w ∈ u_ws RX6 TX6 5, w ∈ GW := lay_gw [185, 187, 189, 191, 193] (by decide +kernel)
theorem kd6 : ∀ k, k < 5 → kdt (fkd 6 k) (tyX6 k) := by
  intro k hk
  rcases (show k = 0 ∨ k = 1 ∨ k = 2 ∨ k = 3 ∨ k = 4 by omega) with rfl | rfl | rfl | rfl | rfl <;> rfl
theorem cls6 : ClsOk 6 RX6 TX6 5 tyX6 := ⟨rfl, lay6, nmX6, tyX6_ok, kd6, rfl, rfl, fun _ => rfl⟩
set_option maxRecDepth 100000 in
theorem lay7 : ∀ w ∈ u_ws RX7 TX7 3, w ∈ GW := lay_gw [382, 384, 386] (by decide +kernel)
theorem kd7 : ∀ k, k < 3 → kdt (fkd 7 k) (tyX7 k) := by
  intro k hk
  rcases (show k = 0 ∨ k = 1 ∨ k = 2 by omega) with rfl | rfl | rfl <;> rfl
theorem cls7 : ClsOk 7 RX7 TX7 3 tyX7 := ⟨rfl, lay7, nmX7, tyX7_ok, kd7, rfl, rfl, fun _ => rfl⟩
set_option maxRecDepth 100000 in
theorem lay8 : ∀ w ∈ u_ws RX8 TX8 9, w ∈ GW := lay_gw [287, 289, 291, 293, 295, 297, 299, 301, 303] (by decide +kernel)
theorem kd8 : ∀ k, k < 9 → kdt (fkd 8 k) (tyX8 k) := by
  intro k hk
  rcases (show k = 0 ∨ k = 1 ∨ k = 2 ∨ k = 3 ∨ k = 4 ∨ k = 5 ∨ k = 6 ∨ k = 7 ∨ k = 8 by omega) with rfl | rfl | rfl | rfl | rfl | rfl | rfl | rfl | rfl <;> rfl
theorem cls8 : ClsOk 8 RX8 TX8 9 tyX8 := ⟨rfl, lay8, nmX8, tyX8_ok, kd8, rfl, rfl, fun _ => rfl⟩
set_option maxRecDepth 100000 in
theorem lay9 : ∀ w ∈ u_ws RX9 TX9 6, w ∈ GW := lay_gw [136, 138, 140, 142, 144, 146] (by decide +kernel)
theorem kd9 : ∀ k, k < 6 → kdt (fkd 9 k) (tyX9 k) := by
  intro k hk
  rcases (show k = 0 ∨ k = 1 ∨ k = 2 ∨ k = 3 ∨ k = 4 ∨ k = 5 by omega) with rfl | rfl | rfl | rfl | rfl | rfl <;> rfl
theorem cls9 : ClsOk 9 RX9 TX9 6 tyX9 := ⟨rfl, lay9, nmX9, tyX9_ok, kd9, rfl, rfl, fun _ => rfl⟩
set_option maxRecDepth 100000 in
theorem lay10 : ∀ w ∈ u_ws RX10 TX10 17, w ∈ GW := lay_gw [408, 410, 412, 414, 416, 418, 420, 422, 424, 426, 428, 430, 432, 434, 436, 438, 440] (by decide +kernel)
theorem kd10 : ∀ k, k < 17 → kdt (fkd 10 k) (tyX10 k) := by
  intro k hk
  rcases (show k = 0 ∨ k = 1 ∨ k = 2 ∨ k = 3 ∨ k = 4 ∨ k = 5 ∨ k = 6 ∨ k = 7 ∨ k = 8 ∨ k = 9 ∨ k = 10 ∨ k = 11 ∨ k = 12 ∨ k = 13 ∨ k = 14 ∨ k = 15 ∨ k = 16 by omega) with rfl | rfl | rfl | rfl | rfl | rfl | rfl | rfl | rfl | rfl | rfl | rfl | rfl | rfl | rfl | rfl | rfl <;> rfl
theorem cls10 : ClsOk 10 RX10 TX10 17 tyX10 := ⟨rfl, lay10, nmX10, tyX10_ok, kd10, rfl, rfl, fun _ => rfl⟩
set_option maxRecDepth 100000 in
theorem lay11 : ∀ w ∈ u_ws RX11 TX11 53, w ∈ GW := lay_gw [1135, 1137, 1139, 1141, 1143, 1145, 1147, 1149, 1151, 1153, 1155, 1157, 1159, 1161, 1163, 1165, 1167, 1169, 1171, 1173, 1175, 1177, 1179, 1181, 1183, 1185, 1187, 1189, 1191, 1193, 1195, 1197, 1199, 1201, 1203, 1205, 1207, 1209, 1211, 1213, 1215, 1217, 1219, 1221, 1223, 1225, 1227, 1229, 1231, 1233, 1235, 1237, 1239] (by decide +kernel)
theorem kd11 : ∀ k, k < 53 → kdt (fkd 11 k) (tyX11 k) := by
  intro k hk
  rcases (show k = 0 ∨ k = 1 ∨ k = 2 ∨ k = 3 ∨ k = 4 ∨ k = 5 ∨ k = 6 ∨ k = 7 ∨ k = 8 ∨ k = 9 ∨ k = 10 ∨ k = 11 ∨ k = 12 ∨ k = 13 ∨ k = 14 ∨ k = 15 ∨ k = 16 ∨ k = 17 ∨ k = 18 ∨ k = 19 ∨ k = 20 ∨ k = 21 ∨ k = 22 ∨ k = 23 ∨ k = 24 ∨ k = 25 ∨ k = 26 ∨ k = 27 ∨ k = 28 ∨ k = 29 ∨ k = 30 ∨ k = 31 ∨ k = 32 ∨ k = 33 ∨ k = 34 ∨ k = 35 ∨ k = 36 ∨ k = 37 ∨ k = 38 ∨ k = 39 ∨ k = 40 ∨ k = 41 ∨ k = 42 ∨ k = 43 ∨ k = 44 ∨ k = 45 ∨ k = 46 ∨ k = 47 ∨ k = 48 ∨ k = 49 ∨ k = 50 ∨ k = 51 ∨ k = 52 by omega) with rfl | rfl | rfl | rfl | rfl | rfl | rfl | rfl | rfl | rfl | rfl | rfl | rfl | rfl | rfl | rfl | rfl | rfl | rfl | rfl | rfl | rfl | rfl | rfl | rfl | rfl | rfl | rfl | rfl | rfl | rfl | rfl | rfl | rfl | rfl | rfl | rfl | rfl | rfl | rfl | rfl | rfl | rfl | rfl | rfl | rfl | rfl | rfl | rfl | rfl | rfl | rfl | rfl <;> rfl
theorem cls11 : ClsOk 11 RX11 TX11 53 tyX11 := ⟨rfl, lay11, nmX11, tyX11_ok, kd11, rfl, rfl, fun _ => rfl⟩
theorem cls_ok {ci : Nat} (h : ci < 12) : ∃ (C : String) (T : u_T) (N : Nat) (ty : Nat → FieldType), ClsOk ci C T N ty := by
  rcases (show ci = 0 ∨ ci = 1 ∨ ci = 2 ∨ ci = 3 ∨ ci = 4 ∨ ci = 5 ∨ ci = 6 ∨ ci = 7 ∨ ci = 8 ∨ ci = 9 ∨ ci = 10 ∨ ci = 11 by omega) with rfl | rfl | rfl | rfl | rfl | rfl | rfl | rfl | rfl | rfl | rfl | rfl
  · exact ⟨_, _, _, _, cls0⟩
  · exact ⟨_, _, _, _, cls1⟩
  · exact ⟨_, _, _, _, cls2⟩
  · exact ⟨_, _, _, _, cls3⟩
  · exact ⟨_, _, _, _, cls4⟩
  · exact ⟨_, _, _, _, cls5⟩
  · exact ⟨_, _, _, _, cls6⟩
  · exact ⟨_, _, _, _, cls7⟩
  · exact ⟨_, _, _, _, cls8⟩
  · exact ⟨_, _, _, _, cls9⟩
  · exact ⟨_, _, _, _, cls10⟩
  · exact ⟨_, _, _, _, cls11⟩
