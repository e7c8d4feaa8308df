theorem count_M (n : Nat) (hn : 10 ≤ n) (σ : St) (d : Int32) {G : Nat} (hg : σ.1 0 1 = nI G) (hG : G ≤ 8) : f_11_here n σ d = some (nI (cT (fun g => σ.1 18 g) (fun g => σ.1 19 g) d G), σ) := by
  obtain ⟨e, he, hX⟩ := lq_ex (b := b_11_here_4 n d) (X := fun e => e = (nI (cT (fun g => σ.1 18 g) (fun g => σ.1 19 g) d G), nI G, σ)) (fun k s => ∃ i, i ≤ G ∧ k = G - i ∧ s = (nI (cT (fun g => σ.1 18 g) (fun g => σ.1 19 g) d i), nI i, σ)) (by
    rintro k s ⟨i, hi, rfl, rfl⟩
    unfold b_11_here_4
    simp only [hg, nm_eq, Int32.add_zero]
    rcases Nat.lt_or_ge i G with q | q
    · left
      have h1 : 0 ≤ nI i ∧ nI i < nI G := ⟨nI_pos' (by omega), nI_lt q (by omega)⟩
      rw [if_neg (nI_ge q (by omega)), isHere_M n σ _ _ hg hG, bd_eq]
      simp only [h1, and_self, true_and, one_if, nI_clamp (show i < 2 ^ 31 by omega), nI_1]
      by_cases h2 : σ.1 18 i ≤ d ∧ d < σ.1 19 i
      · exact ⟨G - (i + 1), _, by omega, by rw [if_neg (fun q => q h2)], i + 1, q, rfl, by rw [cT, if_pos h2]⟩
      · exact ⟨G - (i + 1), _, by omega, by rw [if_pos h2], i + 1, q, rfl, by rw [cT, if_neg h2]; rfl⟩
    · right
      rw [show i = G by omega]
      exact ⟨_, by rw [if_pos (nI_le (Nat.le_refl G) (by omega))], rfl⟩) n (G - 0) (0, 0, σ) (by omega) ⟨0, Nat.zero_le G, rfl, rfl⟩
  unfold f_11_here
  rw [he, bd_eq, hX]
