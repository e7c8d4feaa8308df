/-! the small tests of both sides -/
theorem isBelow_eq (n : Nat) (σ : St) (a b : Int32) : f_10_isBelow n σ a b = some (if 0 ≤ a ∧ a < b then 1 else 0, σ) := by
  unfold f_10_isBelow
  by_cases h1 : a < 0
  · rw [if_pos h1, if_neg (fun q => Int32.not_lt.mpr q.1 h1)]
  · rw [if_neg h1]
    by_cases h2 : b ≤ a
    · rw [if_pos h2, if_neg (fun q => Int32.not_lt.mpr h2 q.2)]
    · rw [if_neg h2, if_pos ⟨Int32.not_lt.mp h1, Int32.not_le.mp h2⟩]
theorem isIn_eq (n : Nat) (σ : St) (v lo hi : Int32) : f_11_isIn n σ v lo hi = some (if lo ≤ v ∧ v ≤ hi then 1 else 0, σ) := by
  unfold f_11_isIn
  by_cases h1 : v < lo
  · rw [if_pos h1, if_neg (fun q => Int32.not_lt.mpr q.1 h1)]
  · rw [if_neg h1]
    by_cases h2 : hi < v
    · rw [if_pos h2, if_neg (fun q => Int32.not_lt.mpr q.2 h2)]
    · rw [if_neg h2, if_pos ⟨Int32.not_lt.mp h1, Int32.not_lt.mp h2⟩]
theorem isSpring_eq (n : Nat) (σ : St) (v : Int32) : f_11_isSpring n σ v = some (if 0 ≤ v ∧ v ≤ 3 then 1 else 0, σ) := by
  unfold f_11_isSpring
  rw [isIn_eq, bd_eq]
  by_cases h : 0 ≤ v ∧ v ≤ 3
  · rw [if_pos h]; exact gd_t (by decide)
  · rw [if_neg h]; exact gd_t (by decide)
theorem isDay_eq (n : Nat) (σ : St) (d v : Int32) : f_11_isDay n σ d v = some (if v ≤ d ∧ d ≤ 99 then 1 else 0, σ) := by
  unfold f_11_isDay
  rw [isIn_eq, bd_eq]
  by_cases h : v ≤ d ∧ d ≤ 99
  · rw [if_pos h]; exact gd_t (by decide)
  · rw [if_neg h]; exact gd_t (by decide)
theorem one_if {c : Prop} [Decidable c] : (if c then (1 : Int32) else 0) = 0 ↔ ¬ c := by
  by_cases h : c <;> simp [h]
theorem spring_X (n : Nat) (σ : St) (a1 a2 a3 a4 a5 : Int32) : f_10_spring n σ a1 a2 a3 a4 a5 = if (0 ≤ a1 ∧ a1 < 4) ∧ (0 ≤ a2 ∧ a2 < 10) ∧ (0 ≤ a5 ∧ a5 < 10) ∧ 0 ≤ a3 ∧ a3 ≤ a4 ∧ a4 ≤ 48 then some (1, si (si (si (si σ (22 + a1.toNatClampNeg) 0 a2) (22 + a1.toNatClampNeg) 1 a3) (22 + a1.toNatClampNeg) 2 a4) (22 + a1.toNatClampNeg) 3 a5) else some (0, σ) := by
  unfold f_10_spring
  simp only [isBelow_eq, bd_eq, one_if, nm_eq]
  by_cases h1 : 0 ≤ a1 ∧ a1 < 4
  · by_cases h2 : 0 ≤ a2 ∧ a2 < 10
    · by_cases h3 : 0 ≤ a5 ∧ a5 < 10
      · by_cases h4 : a3 < 0
        · simp [h1, h2, h3, h4, Int32.not_le.mpr h4]
        · by_cases h5 : a4 < a3
          · simp [h1, h2, h3, h4, h5, Int32.not_le.mpr h5]
          · by_cases h6 : a4 ≤ 48
            · have hi : inb a1 4 = true := by
                obtain ⟨j, hj, rfl⟩ := rg_of (x := a1) (n := 4) (Int32.not_lt.mpr h1.1) (Int32.not_le.mpr h1.2) (by decide)
                exact inb_nI hj (by decide)
              simp [h1, h2, h3, h4, h5, h6, Int32.not_lt.mp h4, Int32.not_lt.mp h5, gd_t hi]
            · simp [h1, h2, h3, h4, h5, h6]
      · simp [h1, h2, h3]
    · simp [h1, h2]
  · simp [h1]
