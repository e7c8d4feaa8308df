theorem tb_df {P : Nat → Prop} : ∀ j, j < 0 → P j := fun j h => absurd h (Nat.not_lt_zero j)
theorem df_s {n : Nat} {P : Nat → Prop} (h : ∀ j, j < n → P j) (hn : P n) : ∀ j, j < n + 1 → P j := fun j hj => by
  rcases Nat.lt_or_ge j n with q | q
  · exact h j q
  · rw [show j = n by omega]; exact hn
theorem df_X0 : ∀ j, j < 2 → defaultValue (tyX0 j) = vp_V [.int 0, .int 0] j := by
  refine df_s (n := 1) ?_ rfl
  refine df_s (n := 0) ?_ rfl
  exact tb_df
theorem df_X1 : ∀ j, j < 11 → defaultValue (tyX1 j) = vp_V [.null, .null, .null, .null, .null, .null, .int 0, .int 0, .int 0, .int 0, .int 0] j := by
  refine df_s (n := 10) ?_ rfl
  refine df_s (n := 9) ?_ rfl
  refine df_s (n := 8) ?_ rfl
  refine df_s (n := 7) ?_ rfl
  refine df_s (n := 6) ?_ rfl
  refine df_s (n := 5) ?_ rfl
  refine df_s (n := 4) ?_ rfl
  refine df_s (n := 3) ?_ rfl
  refine df_s (n := 2) ?_ rfl
  refine df_s (n := 1) ?_ rfl
  refine df_s (n := 0) ?_ rfl
  exact tb_df
theorem df_X2 : ∀ j, j < 10 → defaultValue (tyX2 j) = vp_V [.null, .null, .int 0, .int 0, .int 0, .int 0, .int 0, .int 0, .null, .null] j := by
  refine df_s (n := 9) ?_ rfl
  refine df_s (n := 8) ?_ rfl
  refine df_s (n := 7) ?_ rfl
  refine df_s (n := 6) ?_ rfl
  refine df_s (n := 5) ?_ rfl
  refine df_s (n := 4) ?_ rfl
  refine df_s (n := 3) ?_ rfl
  refine df_s (n := 2) ?_ rfl
  refine df_s (n := 1) ?_ rfl
  refine df_s (n := 0) ?_ rfl
  exact tb_df
theorem df_X3 : ∀ j, j < 3 → defaultValue (tyX3 j) = vp_V [.null, .null, .null] j := by
  refine df_s (n := 2) ?_ rfl
  refine df_s (n := 1) ?_ rfl
  refine df_s (n := 0) ?_ rfl
  exact tb_df
theorem df_X4 : ∀ j, j < 9 → defaultValue (tyX4 j) = vp_V [.int 0, .int 0, .int 0, .int 0, .int 0, .int 0, .int 0, .int 0, .int 0] j := by
  refine df_s (n := 8) ?_ rfl
  refine df_s (n := 7) ?_ rfl
  refine df_s (n := 6) ?_ rfl
  refine df_s (n := 5) ?_ rfl
  refine df_s (n := 4) ?_ rfl
  refine df_s (n := 3) ?_ rfl
  refine df_s (n := 2) ?_ rfl
  refine df_s (n := 1) ?_ rfl
  refine df_s (n := 0) ?_ rfl
  exact tb_df
theorem df_X5 : ∀ j, j < 10 → defaultValue (tyX5 j) = vp_V [.int 0, .int 0, .int 0, .int 0, .int 0, .int 0, .null, .null, .null, .null] j := by
  refine df_s (n := 9) ?_ rfl
  refine df_s (n := 8) ?_ rfl
  refine df_s (n := 7) ?_ rfl
  refine df_s (n := 6) ?_ rfl
  refine df_s (n := 5) ?_ rfl
  refine df_s (n := 4) ?_ rfl
  refine df_s (n := 3) ?_ rfl
  refine df_s (n := 2) ?_ rfl
  refine df_s (n := 1) ?_ rfl
  refine df_s (n := 0) ?_ rfl
  exact tb_df
theorem df_X6 : ∀ j, j < 5 → defaultValue (tyX6 j) = vp_V [.int 0, .int 0, .null, .null, .null] j := by
  refine df_s (n := 4) ?_ rfl
  refine df_s (n := 3) ?_ rfl
  refine df_s (n := 2) ?_ rfl
  refine df_s (n := 1) ?_ rfl
  refine df_s (n := 0) ?_ rfl
  exact tb_df
theorem df_X7 : ∀ j, j < 9 → defaultValue (tyX7 j) = vp_V [.int 0, .int 0, .int 0, .int 0, .int 0, .int 0, .int 0, .int 0, .null] j := by
  refine df_s (n := 8) ?_ rfl
  refine df_s (n := 7) ?_ rfl
  refine df_s (n := 6) ?_ rfl
  refine df_s (n := 5) ?_ rfl
  refine df_s (n := 4) ?_ rfl
  refine df_s (n := 3) ?_ rfl
  refine df_s (n := 2) ?_ rfl
  refine df_s (n := 1) ?_ rfl
  refine df_s (n := 0) ?_ rfl
  exact tb_df
theorem df_X8 : ∀ j, j < 7 → defaultValue (tyX8 j) = vp_V [.null, .int 0, .int 0, .int 0, .int 0, .int 0, .int 0] j := by
  refine df_s (n := 6) ?_ rfl
  refine df_s (n := 5) ?_ rfl
  refine df_s (n := 4) ?_ rfl
  refine df_s (n := 3) ?_ rfl
  refine df_s (n := 2) ?_ rfl
  refine df_s (n := 1) ?_ rfl
  refine df_s (n := 0) ?_ rfl
  exact tb_df
theorem df_X9 : ∀ j, j < 6 → defaultValue (tyX9 j) = vp_V [.null, .null, .null, .null, .null, .int 0] j := by
  refine df_s (n := 5) ?_ rfl
  refine df_s (n := 4) ?_ rfl
  refine df_s (n := 3) ?_ rfl
  refine df_s (n := 2) ?_ rfl
  refine df_s (n := 1) ?_ rfl
  refine df_s (n := 0) ?_ rfl
  exact tb_df
theorem df_X10 : ∀ j, j < 7 → defaultValue (tyX10 j) = vp_V [.null, .null, .null, .int 0, .int 0, .int 0, .int 0] j := by
  refine df_s (n := 6) ?_ rfl
  refine df_s (n := 5) ?_ rfl
  refine df_s (n := 4) ?_ rfl
  refine df_s (n := 3) ?_ rfl
  refine df_s (n := 2) ?_ rfl
  refine df_s (n := 1) ?_ rfl
  refine df_s (n := 0) ?_ rfl
  exact tb_df
theorem df_X11 : ∀ j, j < 61 → defaultValue (tyX11 j) = vp_V [.int 0, .int 0, .int 0, .null, .null, .null, .null, .null, .null, .null, .null, .null, .null, .null, .null, .null, .int 0, .null, .int 0, .int 0, .int 0, .int 0, .int 0, .int 0, .int 0, .int 0, .int 0, .long 0, .int 0, .null, .null, .null, .null, .null, .null, .null, .null, .null, .null, .null, .null, .null, .null, .null, .null, .null, .null, .null, .null, .int 0, .null, .int 0, .int 0, .int 0, .null, .null, .null, .null, .null, .int 0, .int 0] j := by
  refine df_s (n := 60) ?_ rfl
  refine df_s (n := 59) ?_ rfl
  refine df_s (n := 58) ?_ rfl
  refine df_s (n := 57) ?_ rfl
  refine df_s (n := 56) ?_ rfl
  refine df_s (n := 55) ?_ rfl
  refine df_s (n := 54) ?_ rfl
  refine df_s (n := 53) ?_ rfl
  refine df_s (n := 52) ?_ rfl
  refine df_s (n := 51) ?_ rfl
  refine df_s (n := 50) ?_ rfl
  refine df_s (n := 49) ?_ rfl
  refine df_s (n := 48) ?_ rfl
  refine df_s (n := 47) ?_ rfl
  refine df_s (n := 46) ?_ rfl
  refine df_s (n := 45) ?_ rfl
  refine df_s (n := 44) ?_ rfl
  refine df_s (n := 43) ?_ rfl
  refine df_s (n := 42) ?_ rfl
  refine df_s (n := 41) ?_ rfl
  refine df_s (n := 40) ?_ rfl
  refine df_s (n := 39) ?_ rfl
  refine df_s (n := 38) ?_ rfl
  refine df_s (n := 37) ?_ rfl
  refine df_s (n := 36) ?_ rfl
  refine df_s (n := 35) ?_ rfl
  refine df_s (n := 34) ?_ rfl
  refine df_s (n := 33) ?_ rfl
  refine df_s (n := 32) ?_ rfl
  refine df_s (n := 31) ?_ rfl
  refine df_s (n := 30) ?_ rfl
  refine df_s (n := 29) ?_ rfl
  refine df_s (n := 28) ?_ rfl
  refine df_s (n := 27) ?_ rfl
  refine df_s (n := 26) ?_ rfl
  refine df_s (n := 25) ?_ rfl
  refine df_s (n := 24) ?_ rfl
  refine df_s (n := 23) ?_ rfl
  refine df_s (n := 22) ?_ rfl
  refine df_s (n := 21) ?_ rfl
  refine df_s (n := 20) ?_ rfl
  refine df_s (n := 19) ?_ rfl
  refine df_s (n := 18) ?_ rfl
  refine df_s (n := 17) ?_ rfl
  refine df_s (n := 16) ?_ rfl
  refine df_s (n := 15) ?_ rfl
  refine df_s (n := 14) ?_ rfl
  refine df_s (n := 13) ?_ rfl
  refine df_s (n := 12) ?_ rfl
  refine df_s (n := 11) ?_ rfl
  refine df_s (n := 10) ?_ rfl
  refine df_s (n := 9) ?_ rfl
  refine df_s (n := 8) ?_ rfl
  refine df_s (n := 7) ?_ rfl
  refine df_s (n := 6) ?_ rfl
  refine df_s (n := 5) ?_ rfl
  refine df_s (n := 4) ?_ rfl
  refine df_s (n := 3) ?_ rfl
  refine df_s (n := 2) ?_ rfl
  refine df_s (n := 1) ?_ rfl
  refine df_s (n := 0) ?_ rfl
  exact tb_df
