/-! bottles, guest -/
theorem bottles_X (n : Nat) (σ : St) (a1 a2 : Int32) : f_10_bottles n σ a1 a2 = some (if (0 ≤ a1 ∧ a1 < 4) ∧ (0 ≤ a2 ∧ a2 < 100) then σ.1 (26 + a1.toNatClampNeg) a2.toNatClampNeg else -1, σ) := by
  unfold f_10_bottles
  simp only [isBelow_eq, bd_eq, one_if]
  by_cases h1 : 0 ≤ a1 ∧ a1 < 4
  · by_cases h2 : 0 ≤ a2 ∧ a2 < 100
    · simp [h1, h2, gd_t (inb_rg (n := 4) rfl (by decide) h1), gd_t (inb_rg (n := 100) rfl (by decide) h2)]
    · simp [h1, h2]
  · simp [h1]
theorem bottles_M (n : Nat) (σ : St) (a1 a2 : Int32) : f_11_bottles n σ a1 a2 = some (if (0 ≤ a1 ∧ a1 < 4) ∧ (0 ≤ a2 ∧ a2 < 100) then σ.1 36 (100 * a1.toNatClampNeg + a2.toNatClampNeg) else -1, σ) := by
  unfold f_11_bottles
  simp only [isSpring_eq, isDay_eq, bd_eq, one_if, nm_eq, i_le3, i_le99]
  by_cases h1 : 0 ≤ a1 ∧ a1 < 4
  · by_cases h2 : 0 ≤ a2 ∧ a2 < 100
    · simp only [h1, h2, not_true_eq_false, if_false, and_self, if_true]
      obtain ⟨i, hi, rfl⟩ := rg_of (x := a1) (n := 4) (Int32.not_lt.mpr h1.1) (Int32.not_le.mpr h1.2) (by decide)
      obtain ⟨j, hj, rfl⟩ := rg_of (x := a2) (n := 100) (Int32.not_lt.mpr h2.1) (Int32.not_le.mpr h2.2) (by decide)
      have e : (100 : Int32) * nI i + nI j = nI (100 * i + j) := by
        rw [show (100 : Int32) = nI 100 from rfl, pk_mul, nI_add]
      rw [e, gd_t (inb_nI (by omega) (by decide)), nI_clamp (by omega), nI_clamp (by omega), nI_clamp (by omega)]
    · simp [h1, h2]
  · simp [h1]
theorem guest_X (n : Nat) (σ : St) (a1 a2 a3 a4 a5 : Int32) {G : Nat} (hg : σ.1 1 5 = nI G) (hG : G ≤ 8) : f_10_guest n σ a1 a2 a3 a4 a5 = if (0 ≤ a1 ∧ a1 < 4) ∧ (0 ≤ a2 ∧ a2 < σ.1 6 2) ∧ (0 ≤ a5 ∧ a5 < 100) ∧ ¬ a3 < σ.1 0 3 ∧ ¬ a4 ≤ a3 ∧ ¬ 100 < a4 ∧ G < 8 then some (nI G, si (si (si (si (si (si σ (36 + G) 0 a1) (36 + G) 1 a2) (36 + G) 2 a3) (36 + G) 3 a4) (36 + G) 4 a5) 1 5 (nI (G + 1))) else some (-1, σ) := by
  unfold f_10_guest f_4_come
  simp only [isBelow_eq, bd_eq, one_if, nm_eq]
  by_cases h1 : ¬ (0 ≤ a1 ∧ a1 < 4)
  · rw [if_pos h1, if_neg (fun q => h1 q.1)]
  rw [if_neg h1]
  have h1 := Decidable.not_not.mp h1
  by_cases h2 : ¬ (0 ≤ a2 ∧ a2 < σ.1 6 2)
  · rw [if_pos h2, if_neg (fun q => h2 q.2.1)]
  rw [if_neg h2]
  have h2 := Decidable.not_not.mp h2
  by_cases h3 : ¬ (0 ≤ a5 ∧ a5 < 100)
  · rw [if_pos h3, if_neg (fun q => h3 q.2.2.1)]
  rw [if_neg h3]
  have h3 := Decidable.not_not.mp h3
  by_cases h4 : a3 < σ.1 0 3
  · rw [if_pos h4, if_neg (fun q => q.2.2.2.1 h4)]
  rw [if_neg h4]
  by_cases h5 : a4 ≤ a3
  · rw [if_pos h5, if_neg (fun q => q.2.2.2.2.1 h5)]
  rw [if_neg h5]
  by_cases h6 : 100 < a4
  · rw [if_pos h6, if_neg (fun q => q.2.2.2.2.2.1 h6)]
  rw [if_neg h6]
  by_cases h7 : G < 8
  · have h8 : σ.1 1 5 < 8 := by rw [hg]; exact nI_lt h7 (by decide)
    rw [if_pos h8, if_pos ⟨h1, h2, h3, h4, h5, h6, h7⟩, hg, gd_t (inb_nI h7 (by decide)), nI_clamp (by omega)]
    have e : ∀ (v1 v2 v3 v4 v5 : Int32), (si (si (si (si (si σ (36 + G) 0 v1) (36 + G) 1 v2) (36 + G) 2 v3) (36 + G) 3 v4) (36 + G) 4 v5).1 1 5 = nI G := by
      intro v1 v2 v3 v4 v5
      rw [si_cell (by omega), si_cell (by omega), si_cell (by omega), si_cell (by omega), si_cell (by omega), hg]
    rw [e, nI_1]
  · have h8 : ¬ σ.1 1 5 < 8 := by rw [hg, show G = 8 by omega]; decide
    rw [if_neg h8, if_neg (fun q => h7 q.2.2.2.2.2.2)]
