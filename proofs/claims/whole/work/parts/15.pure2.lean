/-! normal forms of the simple calls -/
theorem inb_rg {a : Int32} {n : Nat} {m : Int32} (hm : m = nI n) (hn : n < 2 ^ 31) (h : 0 ≤ a ∧ a < m) : inb a n = true := by
  subst hm
  obtain ⟨j, hj, rfl⟩ := rg_of (x := a) (n := n) (Int32.not_lt.mpr h.1) (Int32.not_le.mpr h.2) hn
  exact inb_nI hj hn
theorem bath_X (n : Nat) (σ : St) (a1 a2 a3 : Int32) (hb : isb a3 = true) : f_10_bath n σ a1 a2 a3 = if (0 ≤ a1 ∧ a1 < 6) ∧ (0 ≤ a2 ∧ a2 < 3) then some (1, si (si σ (30 + a1.toNatClampNeg) 0 a2) (30 + a1.toNatClampNeg) 1 a3) else some (0, σ) := by
  unfold f_10_bath
  simp only [isBelow_eq, bd_eq, one_if, nm_eq, gd_t hb]
  by_cases h1 : 0 ≤ a1 ∧ a1 < 6
  · by_cases h2 : 0 ≤ a2 ∧ a2 < 3
    · simp [h1, h2, gd_t (inb_rg (n := 6) rfl (by decide) h1)]
    · simp [h1, h2]
  · simp [h1]
theorem bath_M (n : Nat) (σ : St) (a1 a2 a3 : Int32) (hb : isb a3 = true) : f_11_bath n σ a1 a2 a3 = if (0 ≤ a1 ∧ a1 < 6) ∧ (0 ≤ a2 ∧ a2 < 3) then some (1, si (si σ 5 a1.toNatClampNeg a2) 7 a1.toNatClampNeg a3) else some (0, σ) := by
  unfold f_11_bath
  simp only [isIn_eq, bd_eq, one_if, nm_eq, gd_t hb, i_le5, i_le2]
  by_cases h1 : 0 ≤ a1 ∧ a1 < 6
  · by_cases h2 : 0 ≤ a2 ∧ a2 < 3
    · simp [h1, h2, gd_t (inb_rg (n := 6) rfl (by decide) h1)]
    · simp [h1, h2]
  · simp [h1]
theorem rate_X (n : Nat) (σ : St) (a1 a2 : Int32) : f_10_rate n σ a1 a2 = if (0 ≤ a1 ∧ a1 < 4) ∧ (0 ≤ a2 ∧ a2 < 1000) then some (1, si σ 5 a1.toNatClampNeg a2) else some (0, σ) := by
  unfold f_10_rate
  simp only [isBelow_eq, bd_eq, one_if, nm_eq]
  by_cases h1 : 0 ≤ a1 ∧ a1 < 4
  · by_cases h2 : 0 ≤ a2 ∧ a2 < 1000
    · simp [h1, h2, gd_t (inb_rg (n := 4) rfl (by decide) h1)]
    · simp [h1, h2]
  · simp [h1]
theorem rate_M (n : Nat) (σ : St) (a1 a2 : Int32) : f_11_rate n σ a1 a2 = if (0 ≤ a1 ∧ a1 < 4) ∧ (0 ≤ a2 ∧ a2 < 1000) then some (1, si σ 6 a1.toNatClampNeg a2) else some (0, σ) := by
  unfold f_11_rate
  simp only [isIn_eq, bd_eq, one_if, nm_eq, i_le3, i_le999]
  by_cases h1 : 0 ≤ a1 ∧ a1 < 4
  · by_cases h2 : 0 ≤ a2 ∧ a2 < 1000
    · simp [h1, h2, gd_t (inb_rg (n := 4) rfl (by decide) h1)]
    · simp [h1, h2]
  · simp [h1]
theorem end_X (n : Nat) (σ : St) (a1 : Int32) : f_10_end n σ a1 = if 0 ≤ a1 ∧ a1 ≤ σ.1 7 1 then some (1, si σ 7 1 a1) else some (0, σ) := by
  unfold f_10_end
  simp only [nm_eq]
  by_cases h1 : a1 < 0
  · simp [h1, Int32.not_le.mpr h1]
  · by_cases h2 : a1 ≤ σ.1 7 1
    · simp [h1, h2, Int32.not_lt.mp h1]
    · simp [h1, h2]
theorem end_M (n : Nat) (σ : St) (a1 : Int32) : f_11_end n σ a1 = if 0 ≤ a1 ∧ a1 ≤ σ.1 0 18 then some (1, si σ 0 18 a1) else some (0, σ) := by
  unfold f_11_end
  simp only [isIn_eq, bd_eq, one_if, nm_eq]
  by_cases h1 : 0 ≤ a1 ∧ a1 ≤ σ.1 0 18
  · simp [h1]
  · simp [h1]
theorem water_X (n : Nat) (σ : St) (a1 a2 : Int32) : f_10_water n σ a1 a2 = some (if 0 ≤ a1 ∧ a1 < 4 then (if a2 = 0 then σ.1 (22 + a1.toNatClampNeg) 4 else if a2 = 1 then σ.1 (22 + a1.toNatClampNeg) 5 else if a2 = 2 then σ.1 (22 + a1.toNatClampNeg) 6 else if a2 = 3 then σ.1 (22 + a1.toNatClampNeg) 7 else -1) else -1, σ) := by
  unfold f_10_water
  simp only [isBelow_eq, bd_eq, one_if]
  by_cases h1 : 0 ≤ a1 ∧ a1 < 4
  · simp only [h1, not_true_eq_false, if_false, and_self, if_true, gd_t (inb_rg (n := 4) rfl (by decide) h1)]
    (repeat' split) <;> rfl
  · simp [h1]
theorem water_M (n : Nat) (σ : St) (a1 a2 : Int32) : f_11_water n σ a1 a2 = some (if 0 ≤ a1 ∧ a1 < 4 then (if a2 = 0 then σ.1 37 a1.toNatClampNeg else if a2 = 1 then σ.1 38 a1.toNatClampNeg else if a2 = 2 then σ.1 39 a1.toNatClampNeg else if a2 = 3 then σ.1 40 a1.toNatClampNeg else -1) else -1, σ) := by
  unfold f_11_water
  simp only [isSpring_eq, bd_eq, one_if, i_le3]
  by_cases h1 : 0 ≤ a1 ∧ a1 < 4
  · simp only [h1, not_true_eq_false, if_false, and_self, if_true, gd_t (inb_rg (n := 4) rfl (by decide) h1)]
    (repeat' split) <;> rfl
  · simp [h1]
