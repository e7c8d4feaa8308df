/-! the small tests of both sides -/
theorem isBelow_eq (n : Nat) (σ : St) (a b : Int32) : f_10_isBelow n σ a b = some (if 0 ≤ a ∧ a < b then 1 else 0, σ) := by
  unfold f_10_isBelow
  by_cases h1 : a < 0
  · rw [if_pos h1, if_neg (fun q => Int32.not_lt.mpr q.1 h1)]
  · rw [if_neg h1]
    by_cases h2 : b ≤ a
    · rw [if_pos h2, if_neg (fun q => Int32.not_lt.mpr h2 q.2)]
    · rw [if_neg h2, if_pos ⟨Int32.not_lt.mp h1, Int32.not_le.mp h2⟩]
theorem isIn_eq (n : Nat) (σ : St) (v lo hi : Int32) : f_11_isIn n σ v lo hi = some (if lo ≤ v ∧ v ≤ hi then 1 else 0, σ) := by
  unfold f_11_isIn
  by_cases h1 : v < lo
  · rw [if_pos h1, if_neg (fun q => Int32.not_lt.mpr q.1 h1)]
  · rw [if_neg h1]
    by_cases h2 : hi < v
    · rw [if_pos h2, if_neg (fun q => Int32.not_lt.mpr q.2 h2)]
    · rw [if_neg h2, if_pos ⟨Int32.not_lt.mp h1, Int32.not_lt.mp h2⟩]
theorem isSpring_eq (n : Nat) (σ : St) (v : Int32) : f_11_isSpring n σ v = some (if 0 ≤ v ∧ v ≤ 3 then 1 else 0, σ) := by
  unfold f_11_isSpring
  rw [isIn_eq, bd_eq]
  by_cases h : 0 ≤ v ∧ v ≤ 3
  · rw [if_pos h]; exact gd_t (show isb (1 : Int32) = true by decide)
  · rw [if_neg h]; exact gd_t (show isb (0 : Int32) = true by decide)
theorem isDay_eq (n : Nat) (σ : St) (d v : Int32) : f_11_isDay n σ d v = some (if v ≤ d ∧ d ≤ 99 then 1 else 0, σ) := by
  unfold f_11_isDay
  rw [isIn_eq, bd_eq]
  by_cases h : v ≤ d ∧ d ≤ 99
  · rw [if_pos h]; exact gd_t (show isb (1 : Int32) = true by decide)
  · rw [if_neg h]; exact gd_t (show isb (0 : Int32) = true by decide)
theorem one_if {c : Prop} [Decidable c] : (if c then (1 : Int32) else 0) = 0 ↔ ¬ c := by
  by_cases h : c <;> simp [h]
theorem spring_X (n : Nat) (σ : St) (a1 a2 a3 a4 a5 : Int32) : f_10_spring n σ a1 a2 a3 a4 a5 = if (0 ≤ a1 ∧ a1 < 4) ∧ (0 ≤ a2 ∧ a2 < 10) ∧ (0 ≤ a5 ∧ a5 < 10) ∧ 0 ≤ a3 ∧ a3 ≤ a4 ∧ a4 ≤ 48 then some (1, si (si (si (si σ (22 + a1.toNatClampNeg) 0 a2) (22 + a1.toNatClampNeg) 1 a3) (22 + a1.toNatClampNeg) 2 a4) (22 + a1.toNatClampNeg) 3 a5) else some (0, σ) := by
  unfold f_10_spring
  simp only [isBelow_eq, bd_eq, one_if, nm_eq]
  by_cases h1 : 0 ≤ a1 ∧ a1 < 4
  · by_cases h2 : 0 ≤ a2 ∧ a2 < 10
    · by_cases h3 : 0 ≤ a5 ∧ a5 < 10
      · by_cases h4 : a3 < 0
        · simp [h1, h2, h3, h4, Int32.not_le.mpr h4]
        · by_cases h5 : a4 < a3
          · simp [h1, h2, h3, h4, h5, Int32.not_le.mpr h5]
          · by_cases h6 : a4 ≤ 48
            · have hi : inb a1 4 = true := by
                obtain ⟨j, hj, rfl⟩ := rg_of (x := a1) (n := 4) (Int32.not_lt.mpr h1.1) (Int32.not_le.mpr h1.2) (by decide)
                exact inb_nI hj (by decide)
              simp [h1, h2, h3, h4, h5, h6, Int32.not_lt.mp h4, Int32.not_lt.mp h5, gd_t hi]
            · simp [h1, h2, h3, h4, h5, h6]
      · simp [h1, h2, h3]
    · simp [h1, h2]
  · simp [h1]
theorem i_le3 (v : Int32) : v ≤ 3 ↔ v < 4 := by
  rw [Int32.le_iff_toInt_le, Int32.lt_iff_toInt_lt, show (3 : Int32).toInt = 3 by decide, show (4 : Int32).toInt = 4 by decide]; omega
theorem i_le9 (v : Int32) : v ≤ 9 ↔ v < 10 := by
  rw [Int32.le_iff_toInt_le, Int32.lt_iff_toInt_lt, show (9 : Int32).toInt = 9 by decide, show (10 : Int32).toInt = 10 by decide]; omega
theorem i_le5 (v : Int32) : v ≤ 5 ↔ v < 6 := by
  rw [Int32.le_iff_toInt_le, Int32.lt_iff_toInt_lt, show (5 : Int32).toInt = 5 by decide, show (6 : Int32).toInt = 6 by decide]; omega
theorem i_le2 (v : Int32) : v ≤ 2 ↔ v < 3 := by
  rw [Int32.le_iff_toInt_le, Int32.lt_iff_toInt_lt, show (2 : Int32).toInt = 2 by decide, show (3 : Int32).toInt = 3 by decide]; omega
theorem i_le99 (v : Int32) : v ≤ 99 ↔ v < 100 := by
  rw [Int32.le_iff_toInt_le, Int32.lt_iff_toInt_lt, show (99 : Int32).toInt = 99 by decide, show (100 : Int32).toInt = 100 by decide]; omega
theorem i_le47 (v : Int32) : v ≤ 47 ↔ v < 48 := by
  rw [Int32.le_iff_toInt_le, Int32.lt_iff_toInt_lt, show (47 : Int32).toInt = 47 by decide, show (48 : Int32).toInt = 48 by decide]; omega
theorem i_le999 (v : Int32) : v ≤ 999 ↔ v < 1000 := by
  rw [Int32.le_iff_toInt_le, Int32.lt_iff_toInt_lt, show (999 : Int32).toInt = 999 by decide, show (1000 : Int32).toInt = 1000 by decide]; omega
theorem i_tr {a b c : Int32} (h1 : a ≤ b) (h2 : b ≤ c) : a ≤ c := by
  rw [Int32.le_iff_toInt_le] at *; omega
theorem spring_M (n : Nat) (σ : St) (a1 a2 a3 a4 a5 : Int32) : f_11_spring n σ a1 a2 a3 a4 a5 = if (0 ≤ a1 ∧ a1 < 4) ∧ (0 ≤ a2 ∧ a2 < 10) ∧ (0 ≤ a5 ∧ a5 < 10) ∧ 0 ≤ a3 ∧ a3 ≤ a4 ∧ a4 ≤ 48 then some (1, si (si (si (si σ 1 a1.toNatClampNeg a2) 2 a1.toNatClampNeg a3) 3 a1.toNatClampNeg a4) 4 a1.toNatClampNeg a5) else some (0, σ) := by
  unfold f_11_spring
  simp only [isIn_eq, isSpring_eq, bd_eq, one_if, nm_eq, i_le3, i_le9]
  by_cases h1 : 0 ≤ a1 ∧ a1 < 4
  · by_cases h2 : 0 ≤ a2 ∧ a2 < 10
    · by_cases h3 : 0 ≤ a5 ∧ a5 < 10
      · by_cases h4 : 0 ≤ a3
        · by_cases h5 : a3 ≤ a4
          · have h7 : 0 ≤ a4 := i_tr h4 h5
            by_cases h6 : a4 ≤ 48
            · have hi : inb a1 4 = true := by
                obtain ⟨j, hj, rfl⟩ := rg_of (x := a1) (n := 4) (Int32.not_lt.mpr h1.1) (Int32.not_le.mpr h1.2) (by decide)
                exact inb_nI hj (by decide)
              simp [h1, h2, h3, h4, h5, h6, h7, gd_t hi]
            · simp [h1, h2, h3, h4, h5, h6, h7]
          · by_cases h6 : 0 ≤ a4 ∧ a4 ≤ 48
            · simp [h1, h2, h3, h4, h5, h6]
            · simp [h1, h2, h3, h4, h5, h6]
        · by_cases h6 : 0 ≤ a4 ∧ a4 ≤ 48
          · simp [h1, h2, h3, h4, h6]
          · simp [h1, h2, h3, h4, h6]
      · by_cases h6 : 0 ≤ a4 ∧ a4 ≤ 48
        · by_cases h7 : 0 ≤ a3 ∧ a3 ≤ a4
          · simp [h1, h2, h3, h6, h7]
          · simp [h1, h2, h3, h6, h7]
        · simp [h1, h2, h3, h6]
    · simp [h1, h2]
  · simp [h1]
