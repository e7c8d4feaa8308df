/-! who is there, and how many -/
def cT (f t : Nat → Int32) (d : Int32) : Nat → Nat
  | 0 => 0
  | g + 1 => cT f t d g + if f g ≤ d ∧ d < t g then 1 else 0
theorem isThere_X (n : Nat) (σ : St) (a1 a2 : Int32) {G : Nat} (hg : σ.1 1 5 = nI G) (hG : G ≤ 8) : f_9_isThere n σ a1 a2 = some (if (0 ≤ a1 ∧ a1 < nI G) ∧ σ.1 (36 + a1.toNatClampNeg) 2 ≤ a2 ∧ a2 < σ.1 (36 + a1.toNatClampNeg) 3 then 1 else 0, σ) := by
  unfold f_9_isThere
  simp only [isBelow_eq, bd_eq, one_if, hg]
  by_cases h1 : ¬ (0 ≤ a1 ∧ a1 < nI G)
  · rw [if_pos h1, if_neg (fun q => h1 q.1)]
  rw [if_neg h1]
  have h1 := Decidable.not_not.mp h1
  rw [gd_t (inb_up hG (by decide) h1)]
  by_cases h2 : a2 < σ.1 (36 + a1.toNatClampNeg) 2
  · rw [if_pos h2, if_neg (fun q => Int32.not_lt.mpr q.2.1 h2)]
  rw [if_neg h2]
  by_cases h3 : σ.1 (36 + a1.toNatClampNeg) 3 ≤ a2
  · rw [if_pos h3, if_neg (fun q => Int32.not_lt.mpr h3 q.2.2)]
  · rw [if_neg h3, if_pos ⟨h1, Int32.not_lt.mp h2, Int32.not_le.mp h3⟩]
theorem isHere_M (n : Nat) (σ : St) (a1 a2 : Int32) {G : Nat} (hg : σ.1 0 1 = nI G) (hG : G ≤ 8) : f_11_isHere n σ a1 a2 = some (if (0 ≤ a1 ∧ a1 < nI G) ∧ σ.1 18 a1.toNatClampNeg ≤ a2 ∧ a2 < σ.1 19 a1.toNatClampNeg then 1 else 0, σ) := by
  unfold f_11_isHere
  simp only [isIn_eq, bd_eq, one_if, nm_eq, hg, i_pred (show G < 2 ^ 20 by omega)]
  by_cases h1 : ¬ (0 ≤ a1 ∧ a1 < nI G)
  · rw [if_pos h1, if_neg (fun q => h1 q.1)]
  rw [if_neg h1]
  have h1 := Decidable.not_not.mp h1
  rw [gd_t (inb_up hG (by decide) h1)]
  by_cases h2 : a2 < σ.1 18 a1.toNatClampNeg
  · rw [if_pos h2, if_neg (fun q => Int32.not_lt.mpr q.2.1 h2)]
  rw [if_neg h2]
  by_cases h3 : σ.1 19 a1.toNatClampNeg ≤ a2
  · rw [if_pos h3, if_neg (fun q => Int32.not_lt.mpr h3 q.2.2)]
  · rw [if_neg h3, if_pos ⟨h1, Int32.not_lt.mp h2, Int32.not_le.mp h3⟩]
theorem count_X (n : Nat) (hn : 10 ≤ n) (σ : St) (d : Int32) {G : Nat} (hg : σ.1 1 5 = nI G) (hG : G ≤ 8) : f_9_countThere n σ d = some (nI (cT (fun g => σ.1 (36 + g) 2) (fun g => σ.1 (36 + g) 3) d G), σ) := by
  obtain ⟨e, he, hX⟩ := lq_ex (b := b_9_countThere_4 n d) (X := fun e => e = (nI (cT (fun g => σ.1 (36 + g) 2) (fun g => σ.1 (36 + g) 3) d G), nI G, σ)) (fun k s => ∃ i, i ≤ G ∧ k = G - i ∧ s = (nI (cT (fun g => σ.1 (36 + g) 2) (fun g => σ.1 (36 + g) 3) d i), nI i, σ)) (by
    rintro k s ⟨i, hi, rfl, rfl⟩
    unfold b_9_countThere_4
    simp only [hg, nm_eq]
    rcases Nat.lt_or_ge i G with q | q
    · left
      have h1 : 0 ≤ nI i ∧ nI i < nI G := ⟨nI_pos' (by omega), nI_lt q (by omega)⟩
      rw [if_neg (nI_ge q (by omega)), isThere_X n σ _ _ hg hG, bd_eq]
      simp only [h1, and_self, true_and, one_if, nI_clamp (show i < 2 ^ 31 by omega), nI_1]
      by_cases h2 : σ.1 (36 + i) 2 ≤ d ∧ d < σ.1 (36 + i) 3
      · exact ⟨G - (i + 1), _, by omega, by rw [if_neg (fun q => q h2)], i + 1, q, rfl, by rw [cT, if_pos h2]⟩
      · exact ⟨G - (i + 1), _, by omega, by rw [if_pos h2], i + 1, q, rfl, by rw [cT, if_neg h2]; rfl⟩
    · right
      rw [show i = G by omega]
      exact ⟨_, by rw [if_pos (nI_le (Nat.le_refl G) (by omega))], rfl⟩) n (G - 0) (0, 0, σ) (by omega) ⟨0, Nat.zero_le G, rfl, rfl⟩
  unfold f_9_countThere
  rw [he, bd_eq, hX]
