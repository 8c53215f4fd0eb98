/-- what is known of a class of the list -/
def dkv (kd : Nat) : Value := match kd with
  | 0 => .int 0
  | 1 => .null
  | _ => .long 0
def CI (ci : Nat) (q : vw_C) : Prop := (∀ w ∈ u_ws q.1 q.2.1 q.2.2, w ∈ gtbl) ∧ (∀ a, a < q.2.2 → ∀ b, b < q.2.2 → a ≠ b → (q.2.1 a).2.1 ≠ (q.2.1 b).2.1) ∧ (∀ k, k < q.2.2 → parseFieldDescriptor (q.2.1 k).2.2.1 = some (cty ci k)) ∧ Cond.instantiable q.1 q.2.2 ∈ gtbl ∧ Cond.initialized q.1 ∈ gtbl ∧ (∀ k, k < q.2.2 → defaultValue (cty ci k) = dkv (ck ci k)) ∧ (∀ k, k < q.2.2 → (q.2.1 k).1 = q.1)
theorem inX0 : ∀ w ∈ u_ws RX0 TX0 6, w ∈ gtbl := by
  intro w hw
  have h := goodIn_r (big := lw_tbl) (u_ws RX0 TX0 6) [317, 319, 321, 323, 325, 327] (by decide +kernel) (by decide +kernel) w hw
  exact List.mem_filter.mpr ⟨h.1, List.all_eq_true.mp (show (u_ws RX0 TX0 6).all goodWord = true by decide +kernel) w hw⟩
theorem ciX0 : CI 0 (RX0, TX0, 6) := ⟨inX0, by decide +kernel, by decide +kernel, gm 299 (by decide +kernel) rfl, gm 85 (by decide +kernel) rfl, by decide +kernel, by decide +kernel⟩
theorem inX1 : ∀ w ∈ u_ws RX1 TX1 6, w ∈ gtbl := by
  intro w hw
  have h := goodIn_r (big := lw_tbl) (u_ws RX1 TX1 6) [115, 117, 119, 121, 123, 125] (by decide +kernel) (by decide +kernel) w hw
  exact List.mem_filter.mpr ⟨h.1, List.all_eq_true.mp (show (u_ws RX1 TX1 6).all goodWord = true by decide +kernel) w hw⟩
theorem ciX1 : CI 1 (RX1, TX1, 6) := ⟨inX1, by decide +kernel, by decide +kernel, gm 97 (by decide +kernel) rfl, gm 74 (by decide +kernel) rfl, by decide +kernel, by decide +kernel⟩
theorem inX2 : ∀ w ∈ u_ws RX2 TX2 5, w ∈ gtbl := by
  intro w hw
  have h := goodIn_r (big := lw_tbl) (u_ws RX2 TX2 5) [143, 145, 147, 149, 151] (by decide +kernel) (by decide +kernel) w hw
  exact List.mem_filter.mpr ⟨h.1, List.all_eq_true.mp (show (u_ws RX2 TX2 5).all goodWord = true by decide +kernel) w hw⟩
theorem ciX2 : CI 2 (RX2, TX2, 5) := ⟨inX2, by decide +kernel, by decide +kernel, gm 130 (by decide +kernel) rfl, gm 75 (by decide +kernel) rfl, by decide +kernel, by decide +kernel⟩
theorem inX3 : ∀ w ∈ u_ws RX3 TX3 5, w ∈ gtbl := by
  intro w hw
  have h := goodIn_r (big := lw_tbl) (u_ws RX3 TX3 5) [217, 219, 221, 223, 225] (by decide +kernel) (by decide +kernel) w hw
  exact List.mem_filter.mpr ⟨h.1, List.all_eq_true.mp (show (u_ws RX3 TX3 5).all goodWord = true by decide +kernel) w hw⟩
theorem ciX3 : CI 3 (RX3, TX3, 5) := ⟨inX3, by decide +kernel, by decide +kernel, gm 200 (by decide +kernel) rfl, gm 82 (by decide +kernel) rfl, by decide +kernel, by decide +kernel⟩
theorem inX4 : ∀ w ∈ u_ws RX4 TX4 5, w ∈ gtbl := by
  intro w hw
  have h := goodIn_r (big := lw_tbl) (u_ws RX4 TX4 5) [816, 818, 820, 822, 824] (by decide +kernel) (by decide +kernel) w hw
  exact List.mem_filter.mpr ⟨h.1, List.all_eq_true.mp (show (u_ws RX4 TX4 5).all goodWord = true by decide +kernel) w hw⟩
theorem ciX4 : CI 4 (RX4, TX4, 5) := ⟨inX4, by decide +kernel, by decide +kernel, gm 800 (by decide +kernel) rfl, gm 87 (by decide +kernel) rfl, by decide +kernel, by decide +kernel⟩
theorem inX5 : ∀ w ∈ u_ws RX5 TX5 11, w ∈ gtbl := by
  intro w hw
  have h := goodIn_r (big := lw_tbl) (u_ws RX5 TX5 11) [264, 266, 268, 270, 272, 274, 276, 278, 280, 282, 284] (by decide +kernel) (by decide +kernel) w hw
  exact List.mem_filter.mpr ⟨h.1, List.all_eq_true.mp (show (u_ws RX5 TX5 11).all goodWord = true by decide +kernel) w hw⟩
theorem ciX5 : CI 5 (RX5, TX5, 11) := ⟨inX5, by decide +kernel, by decide +kernel, gm 241 (by decide +kernel) rfl, gm 84 (by decide +kernel) rfl, by decide +kernel, by decide +kernel⟩
theorem inX6 : ∀ w ∈ u_ws RX6 TX6 7, w ∈ gtbl := by
  intro w hw
  have h := goodIn_r (big := lw_tbl) (u_ws RX6 TX6 7) [161, 163, 165, 167, 169, 171, 173] (by decide +kernel) (by decide +kernel) w hw
  exact List.mem_filter.mpr ⟨h.1, List.all_eq_true.mp (show (u_ws RX6 TX6 7).all goodWord = true by decide +kernel) w hw⟩
theorem ciX6 : CI 6 (RX6, TX6, 7) := ⟨inX6, by decide +kernel, by decide +kernel, gm 89 (by decide +kernel) rfl, gm 73 (by decide +kernel) rfl, by decide +kernel, by decide +kernel⟩
theorem inX7 : ∀ w ∈ u_ws RX7 TX7 16, w ∈ gtbl := by
  intro w hw
  have h := goodIn_r (big := lw_tbl) (u_ws RX7 TX7 16) [928, 930, 932, 934, 936, 938, 940, 942, 944, 946, 948, 950, 952, 954, 956, 958] (by decide +kernel) (by decide +kernel) w hw
  exact List.mem_filter.mpr ⟨h.1, List.all_eq_true.mp (show (u_ws RX7 TX7 16).all goodWord = true by decide +kernel) w hw⟩
theorem ciX7 : CI 7 (RX7, TX7, 16) := ⟨inX7, by decide +kernel, by decide +kernel, gm 907 (by decide +kernel) rfl, gm 76 (by decide +kernel) rfl, by decide +kernel, by decide +kernel⟩
theorem ci_ok : ∀ (ci : Nat) (q : vw_C), am_cl[ci]? = some q → CI ci q := by
  intro ci q h
  match ci, h with
  | 0, h => cases h; exact ciX0
  | 1, h => cases h; exact ciX1
  | 2, h => cases h; exact ciX2
  | 3, h => cases h; exact ciX3
  | 4, h => cases h; exact ciX4
  | 5, h => cases h; exact ciX5
  | 6, h => cases h; exact ciX6
  | 7, h => cases h; exact ciX7
  | n + 8, h => simp [am_cl] at h
