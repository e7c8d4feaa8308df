theorem guest_M (n : Nat) (σ : St) (a1 a2 a3 a4 a5 : Int32) {G K : Nat} (hg : σ.1 0 1 = nI G) (hG : G ≤ 8) (hk : σ.1 0 2 = nI K) (hK : K ≤ 8) : f_11_guest n σ a1 a2 a3 a4 a5 = if (0 ≤ a1 ∧ a1 < 4) ∧ (0 ≤ a2 ∧ a2 < σ.1 0 2) ∧ (0 ≤ a5 ∧ a5 < 100) ∧ ¬ a3 < σ.1 0 0 ∧ ¬ a4 ≤ a3 ∧ ¬ 100 < a4 ∧ G < 8 then some (nI G, si (si (si (si (si (si σ 0 1 (nI (G + 1))) 16 G a1) 17 G a2) 18 G a3) 19 G a4) 20 G a5) else some (-1, σ) := by
  unfold f_11_guest
  simp only [isIn_eq, bd_eq, one_if, nm_eq, i_le3, hk, i_pred (show K < 2 ^ 20 by omega)]
  by_cases h1 : ¬ (0 ≤ a1 ∧ a1 < 4)
  · rw [if_pos h1, if_neg (fun q => h1 q.1)]
  rw [if_neg h1]
  have h1 := Decidable.not_not.mp h1
  by_cases h2 : ¬ (0 ≤ a2 ∧ a2 < nI K)
  · rw [if_pos h2, if_neg (fun q => h2 q.2.1)]
  rw [if_neg h2]
  have h2 := Decidable.not_not.mp h2
  by_cases h3 : ¬ (σ.1 0 0 ≤ a3 ∧ a3 ≤ 99)
  · rw [if_pos h3, if_neg (fun q => h3 (g_cond.mpr ⟨q.2.2.2.1, q.2.2.2.2.1, q.2.2.2.2.2.1⟩).1)]
  rw [if_neg h3]
  have h3 := Decidable.not_not.mp h3
  by_cases h4 : ¬ (a3 + 1 ≤ a4 ∧ a4 ≤ 100)
  · rw [if_pos h4, if_neg (fun q => h4 (g_cond.mpr ⟨q.2.2.2.1, q.2.2.2.2.1, q.2.2.2.2.2.1⟩).2)]
  rw [if_neg h4]
  have h4 := Decidable.not_not.mp h4
  have h34 := g_cond.mp ⟨h3, h4⟩
  by_cases h5 : ¬ (0 ≤ a5 ∧ a5 ≤ 99)
  · rw [if_pos h5, if_neg (fun q => h5 ⟨q.2.2.1.1, (i_le99 a5).mpr q.2.2.1.2⟩)]
  rw [if_neg h5]
  have h5 := Decidable.not_not.mp h5
  by_cases h7 : G < 8
  · have h8 : ¬ σ.1 0 1 = 8 := by
      rw [hg]
      intro q
      have := (nI_eq (a := G) (b := 8) (by omega) (by decide)).mp q
      omega
    rw [if_neg h8, if_pos ⟨h1, h2, ⟨h5.1, (i_le99 a5).mp h5.2⟩, h34.1, h34.2.1, h34.2.2, h7⟩, hg, gd_t (inb_nI h7 (by decide)), nI_clamp (by omega), nI_1]
  · have h8 : σ.1 0 1 = 8 := by rw [hg, show G = 8 by omega]; rfl
    rw [if_pos h8, if_neg (fun q => h7 q.2.2.2.2.2.2)]
