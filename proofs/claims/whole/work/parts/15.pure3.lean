/-! normal forms: fault, bottles, leave, bill, guest -/
theorem i_pred {v : Int32} {G : Nat} (hG : G < 2 ^ 20) : v ≤ nI G - 1 ↔ v < nI G := by
  rw [Int32.le_iff_toInt_le, Int32.lt_iff_toInt_lt, show (nI G - 1 : Int32) = nI G - nI 1 from rfl, pk_sub_toInt (by omega) (by decide), nI_toInt (by omega)]
  omega
theorem inb_up {a : Int32} {G n : Nat} (hG : G ≤ n) (hn : n < 2 ^ 20) (h : 0 ≤ a ∧ a < nI G) : inb a n = true := by
  obtain ⟨j, hj, rfl⟩ := rg_of (x := a) (n := G) (Int32.not_lt.mpr h.1) (Int32.not_le.mpr h.2) (by omega)
  exact inb_nI (by omega) (by omega)
theorem fault_X (n : Nat) (σ : St) (a1 : Int32) : f_10_fault n σ a1 = some (if a1 = 0 then σ.1 6 3 else if a1 = 1 then σ.1 6 4 else -1, σ) := by
  unfold f_10_fault
  (repeat' split) <;> rfl
theorem fault_M (n : Nat) (σ : St) (a1 : Int32) : f_11_fault n σ a1 = some (if a1 = 0 then σ.1 0 25 else if a1 = 1 then σ.1 0 26 else -1, σ) := by
  unfold f_11_fault
  (repeat' split) <;> rfl
theorem bill_X (n : Nat) (σ : St) (a1 a2 : Int32) {G : Nat} (hg : σ.1 1 5 = nI G) (hG : G ≤ 8) : f_10_bill n σ a1 a2 = some (if 0 ≤ a1 ∧ a1 < nI G then (if a2 = 0 then σ.1 (36 + a1.toNatClampNeg) 5 else if a2 = 1 then σ.1 (36 + a1.toNatClampNeg) 6 else if a2 = 2 then σ.1 (36 + a1.toNatClampNeg) 7 else if a2 = 3 then σ.1 (36 + a1.toNatClampNeg) 8 else -1) else -1, σ) := by
  unfold f_10_bill
  simp only [isBelow_eq, bd_eq, one_if, hg]
  by_cases h1 : 0 ≤ a1 ∧ a1 < nI G
  · simp only [h1, not_true_eq_false, if_false, and_self, if_true, gd_t (inb_up hG (by decide) h1)]
    (repeat' split) <;> rfl
  · simp [h1]
theorem bill_M (n : Nat) (σ : St) (a1 a2 : Int32) {G : Nat} (hg : σ.1 0 1 = nI G) (hG : G ≤ 8) : f_11_bill n σ a1 a2 = some (if 0 ≤ a1 ∧ a1 < nI G then (if a2 = 0 then σ.1 21 a1.toNatClampNeg else if a2 = 1 then σ.1 22 a1.toNatClampNeg else if a2 = 2 then σ.1 23 a1.toNatClampNeg else if a2 = 3 then σ.1 24 a1.toNatClampNeg else -1) else -1, σ) := by
  unfold f_11_bill
  simp only [isIn_eq, bd_eq, one_if, nm_eq, hg, i_pred (show G < 2 ^ 20 by omega)]
  by_cases h1 : 0 ≤ a1 ∧ a1 < nI G
  · simp only [h1, not_true_eq_false, if_false, and_self, if_true, gd_t (inb_up hG (by decide) h1)]
    (repeat' split) <;> rfl
  · simp [h1]
theorem leave_X (n : Nat) (σ : St) (a1 a2 : Int32) {G : Nat} (hg : σ.1 1 5 = nI G) (hG : G ≤ 8) : f_10_leave n σ a1 a2 = if (0 ≤ a1 ∧ a1 < nI G) ∧ ¬ a2 < σ.1 0 3 ∧ ¬ a2 ≤ σ.1 (36 + a1.toNatClampNeg) 2 ∧ a2 ≤ σ.1 (36 + a1.toNatClampNeg) 3 then some (1, si σ (36 + a1.toNatClampNeg) 3 a2) else some (0, σ) := by
  unfold f_10_leave
  simp only [isBelow_eq, bd_eq, one_if, nm_eq, hg]
  by_cases h1 : 0 ≤ a1 ∧ a1 < nI G
  · simp only [h1, not_true_eq_false, if_false, and_self, true_and, gd_t (inb_up hG (by decide) h1)]
    by_cases h2 : a2 < σ.1 0 3
    · rw [if_pos h2, if_neg (fun q => q.1 h2)]
    · rw [if_neg h2]
      by_cases h3 : a2 ≤ σ.1 (36 + a1.toNatClampNeg) 2
      · rw [if_pos h3, if_neg (fun q => q.2.1 h3)]
      · rw [if_neg h3]
        by_cases h4 : a2 ≤ σ.1 (36 + a1.toNatClampNeg) 3
        · rw [if_pos h4, if_pos ⟨h2, h3, h4⟩]
        · rw [if_neg h4, if_neg (fun q => h4 q.2.2)]
  · rw [if_pos h1, if_neg (fun q => h1 q.1)]
theorem leave_M (n : Nat) (σ : St) (a1 a2 : Int32) {G : Nat} (hg : σ.1 0 1 = nI G) (hG : G ≤ 8) : f_11_leave n σ a1 a2 = if (0 ≤ a1 ∧ a1 < nI G) ∧ ¬ a2 < σ.1 0 0 ∧ ¬ a2 ≤ σ.1 18 a1.toNatClampNeg ∧ a2 ≤ σ.1 19 a1.toNatClampNeg then some (1, si σ 19 a1.toNatClampNeg a2) else some (0, σ) := by
  unfold f_11_leave
  simp only [isIn_eq, bd_eq, one_if, nm_eq, hg, i_pred (show G < 2 ^ 20 by omega)]
  by_cases h1 : 0 ≤ a1 ∧ a1 < nI G
  · simp only [h1, not_true_eq_false, if_false, and_self, true_and, gd_t (inb_up hG (by decide) h1)]
    by_cases h2 : a2 < σ.1 0 0
    · rw [if_pos h2, if_neg (fun q => q.1 h2)]
    · rw [if_neg h2]
      by_cases h3 : a2 ≤ σ.1 18 a1.toNatClampNeg
      · rw [if_pos h3, if_neg (fun q => q.2.1 h3)]
      · rw [if_neg h3]
        by_cases h4 : a2 ≤ σ.1 19 a1.toNatClampNeg
        · rw [if_pos h4, if_pos ⟨h2, h3, h4⟩]
        · rw [if_neg h4, if_neg (fun q => h4 q.2.2)]
  · rw [if_pos h1, if_neg (fun q => h1 q.1)]
