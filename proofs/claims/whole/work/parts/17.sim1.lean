/-! the simple calls keep the relation -/
section S1
variable {σ τ σ' τ' : St}
theorem r0_c {D G K L : Nat} (h0 : σ'.1 0 = σ.1 0) (h1 : σ'.1 1 = σ.1 1) (h6 : σ'.1 6 = σ.1 6) (h7 : σ'.1 7 = σ.1 7) (m0 : τ'.1 0 = τ.1 0) (h : r0 σ τ D G K L) : r0 σ' τ' D G K L := by
  unfold r0 at h ⊢
  rw [h0, h1, h6, h7, m0]; exact h
theorem rg_le {x : Int32} {n : Nat} {m : Int32} (hm : m = nI n) (hn : n < 2 ^ 31) (h : 0 ≤ x ∧ x < m) : ∃ j, j < n ∧ x = nI j := by
  subst hm
  exact rg_of (Int32.not_lt.mpr h.1) (Int32.not_le.mpr h.2) hn
theorem sim_spring (n : Nat) (a1 a2 a3 a4 a5 : Int32) : Sim Rel (fun σ => f_10_spring n σ a1 a2 a3 a4 a5) (fun τ => f_11_spring n τ a1 a2 a3 a4 a5) := by
  intro σ τ hR
  show ∃ r σ' τ', f_10_spring n σ a1 a2 a3 a4 a5 = some (r, σ') ∧ f_11_spring n τ a1 a2 a3 a4 a5 = some (r, τ') ∧ Rel σ' τ'
  rw [spring_X, spring_M]
  by_cases hc : (0 ≤ a1 ∧ a1 < 4) ∧ (0 ≤ a2 ∧ a2 < 10) ∧ (0 ≤ a5 ∧ a5 < 10) ∧ 0 ≤ a3 ∧ a3 ≤ a4 ∧ a4 ≤ 48
  · rw [if_pos hc, if_pos hc]
    obtain ⟨c1, c2, c5, c3, c4, c6⟩ := hc
    obtain ⟨s, hs, rfl⟩ := rg_le (n := 4) rfl (by decide) c1
    obtain ⟨a, ha, rfl⟩ := rg_le (n := 10) rfl (by decide) c2
    obtain ⟨d, hd, rfl⟩ := rg_le (n := 10) rfl (by decide) c5
    obtain ⟨b, hb0, rfl⟩ := nI_of (Int32.not_lt.mpr c3)
    obtain ⟨c, hc0, rfl⟩ := nI_of (Int32.not_lt.mpr (i_tr c3 c4))
    have hc4 := (nI_leI hb0 hc0).mp c4
    have hc6 := (nI_leI hc0 (show 48 < 2 ^ 31 by decide)).mp c6
    rw [nI_clamp (by omega)]
    refine ⟨1, _, _, rfl, rfl, ?_⟩
    obtain ⟨D, G, K, L, hD, hG, hK, hL, h0, hS, hC, hO, hB, hV, hg, hRr, hT⟩ := hR
    have hx : ∀ k, k ≠ 22 + s → (si (si (si (si σ (22 + s) 0 (nI a)) (22 + s) 1 (nI b)) (22 + s) 2 (nI c)) (22 + s) 3 (nI d)).1 k = σ.1 k := fun k h => by rw [si_ne h, si_ne h, si_ne h, si_ne h]
    have hm : ∀ k, (k = 0 ∨ 5 ≤ k) → (si (si (si (si τ 1 s (nI a)) 2 s (nI b)) 3 s (nI c)) 4 s (nI d)).1 k = τ.1 k := fun k h => by rw [si_ne (by omega), si_ne (by omega), si_ne (by omega), si_ne (by omega)]
    refine ⟨D, G, K, L, hD, hG, hK, hL, r0_c (hx 0 (by omega)) (hx 1 (by omega)) (hx 6 (by omega)) (hx 7 (by omega)) (hm 0 (by omega)) h0, ?_, rC_c (fun s' j hs' h1 h2 => by rw [si_place (by omega), si_place (by omega), si_place (by omega), si_place (by omega)]) (fun k s' h1 h2 _ => by rw [hm k (by omega)]) hC, rO_c (fun k h1 h2 => hx k (by omega)) (hm _ (by omega)) hO, rB_c (fun k h1 h2 => hx k (by omega)) (hm _ (by omega)) (hm _ (by omega)) hB, rV_c (hx _ (by omega)) (hm _ (by omega)) hV, rG_c (fun k h1 h2 => hx k (by omega)) (fun k h1 h2 => hm k (by omega)) hg, rR_c hK (fun k h1 h2 => hx k (by omega)) rfl (hm _ (by omega)) (hm _ (by omega)) hRr, rT_c (hx _ (by omega)) (hm _ (by omega)) hT⟩
    intro s' hs'
    by_cases e : s' = s
    · subst e
      exact ⟨a, b, c, d, by omega, hc4, hc6, by omega, by simp [si_get], by simp [si_get], by simp [si_get], by simp [si_get]⟩
    · obtain ⟨a', b', c', d', q1, q2, q3, q4, q5, q6, q7, q8⟩ := hS s' hs'
      have hy := hx (22 + s') (by omega)
      refine ⟨a', b', c', d', q1, q2, q3, q4, ?_, ?_, ?_, ?_⟩ <;> rw [hy] <;> simpa [si_get, e]
  · exact ⟨0, σ, τ, if_neg hc, if_neg hc, hR⟩
theorem sim_bath (n : Nat) (a1 a2 a3 : Int32) (h3 : a3 = 0 ∨ a3 = 1) : Sim Rel (fun σ => f_10_bath n σ a1 a2 a3) (fun τ => f_11_bath n τ a1 a2 a3) := by
  intro σ τ hR
  have hb : isb a3 = true := by rcases h3 with rfl | rfl <;> decide
  show ∃ r σ' τ', f_10_bath n σ a1 a2 a3 = some (r, σ') ∧ f_11_bath n τ a1 a2 a3 = some (r, τ') ∧ Rel σ' τ'
  rw [bath_X _ _ _ _ _ hb, bath_M _ _ _ _ _ hb]
  by_cases hc : (0 ≤ a1 ∧ a1 < 6) ∧ (0 ≤ a2 ∧ a2 < 3)
  · rw [if_pos hc, if_pos hc]
    obtain ⟨s, hs, rfl⟩ := rg_le (n := 6) rfl (by decide) hc.1
    rw [nI_clamp (by omega)]
    refine ⟨1, _, _, rfl, rfl, ?_⟩
    obtain ⟨D, G, K, L, hD, hG, hK, hL, h0, hS, hC, hO, hB, hV, hg, hRr, hT⟩ := hR
    have hx : ∀ k, k ≠ 30 + s → (si (si σ (30 + s) 0 a2) (30 + s) 1 a3).1 k = σ.1 k := fun k h => by rw [si_ne h, si_ne h]
    have hm : ∀ k, k ≠ 5 → k ≠ 7 → (si (si τ 5 s a2) 7 s a3).1 k = τ.1 k := fun k h h2 => by rw [si_ne h2, si_ne h]
    refine ⟨D, G, K, L, hD, hG, hK, hL, r0_c (hx 0 (by omega)) (hx 1 (by omega)) (hx 6 (by omega)) (hx 7 (by omega)) (hm 0 (by omega) (by omega)) h0, rS_c (fun s' j hs' h1 => by rw [hx _ (by omega)]) (fun k s' h1 h2 _ => by rw [hm k (by omega) (by omega)]) hS, rC_c (fun s' j hs' h1 h2 => by rw [hx _ (by omega)]) (fun k s' h1 h2 _ => by rw [hm k (by omega) (by omega)]) hC, rO_c (fun k h1 h2 => hx k (by omega)) (hm _ (by omega) (by omega)) hO, ?_, rV_c (hx _ (by omega)) (hm _ (by omega) (by omega)) hV, rG_c (fun k h1 h2 => hx k (by omega)) (fun k h1 h2 => hm k (by omega) (by omega)) hg, rR_c hK (fun k h1 h2 => hx k (by omega)) rfl (hm _ (by omega) (by omega)) (hm _ (by omega) (by omega)) hRr, rT_c (hx _ (by omega)) (hm _ (by omega) (by omega)) hT⟩
    intro k hk
    by_cases e : k = s
    · subst e
      simp [si_get]
    · rw [hx (30 + k) (by omega)]
      have := hB k hk
      simpa [si_get, e]
  · exact ⟨0, σ, τ, if_neg hc, if_neg hc, hR⟩
theorem sim_rate (n : Nat) (a1 a2 : Int32) : Sim Rel (fun σ => f_10_rate n σ a1 a2) (fun τ => f_11_rate n τ a1 a2) := by
  intro σ τ hR
  show ∃ r σ' τ', f_10_rate n σ a1 a2 = some (r, σ') ∧ f_11_rate n τ a1 a2 = some (r, τ') ∧ Rel σ' τ'
  rw [rate_X, rate_M]
  by_cases hc : (0 ≤ a1 ∧ a1 < 4) ∧ (0 ≤ a2 ∧ a2 < 1000)
  · rw [if_pos hc, if_pos hc]
    refine ⟨1, _, _, rfl, rfl, ?_⟩
    generalize a1.toNatClampNeg = s
    obtain ⟨D, G, K, L, hD, hG, hK, hL, h0, hS, hC, hO, hB, hV, hg, hRr, hT⟩ := hR
    have hx : ∀ k, k ≠ 5 → (si σ 5 s a2).1 k = σ.1 k := fun k h => by rw [si_ne h]
    have hm : ∀ k, k ≠ 6 → (si τ 6 s a2).1 k = τ.1 k := fun k h => by rw [si_ne h]
    refine ⟨D, G, K, L, hD, hG, hK, hL, r0_c (hx 0 (by omega)) (hx 1 (by omega)) (hx 6 (by omega)) (hx 7 (by omega)) (hm 0 (by omega)) h0, rS_c (fun s' j hs' h1 => by rw [hx _ (by omega)]) (fun k s' h1 h2 _ => by rw [hm k (by omega)]) hS, rC_c (fun s' j hs' h1 h2 => by rw [hx _ (by omega)]) (fun k s' h1 h2 _ => by rw [hm k (by omega)]) hC, rO_c (fun k h1 h2 => hx k (by omega)) (hm _ (by omega)) hO, rB_c (fun k h1 h2 => hx k (by omega)) (hm _ (by omega)) (hm _ (by omega)) hB, ?_, rG_c (fun k h1 h2 => hx k (by omega)) (fun k h1 h2 => hm k (by omega)) hg, rR_c hK (fun k h1 h2 => hx k (by omega)) rfl (hm _ (by omega)) (hm _ (by omega)) hRr, rT_c (hx _ (by omega)) (hm _ (by omega)) hT⟩
    intro k hk
    have := hV k hk
    by_cases e : k = s <;> simp [si_get, e, this]
  · exact ⟨0, σ, τ, if_neg hc, if_neg hc, hR⟩
theorem sim_end (n : Nat) (a1 : Int32) : Sim Rel (fun σ => f_10_end n σ a1) (fun τ => f_11_end n τ a1) := by
  intro σ τ hR
  show ∃ r σ' τ', f_10_end n σ a1 = some (r, σ') ∧ f_11_end n τ a1 = some (r, τ') ∧ Rel σ' τ'
  rw [end_X, end_M]
  have hR' := hR
  obtain ⟨D, G, K, L, hD, hG, hK, hL, h0, hS, hC, hO, hB, hV, hg, hRr, hT⟩ := hR
  have h71 : σ.1 7 1 = nI L := h0.2.2.2.2.2.2.2.2.2.2.2.1
  have h18 : τ.1 0 18 = nI L := h0.2.2.2.2.2.2.2.2.2.2.2.2
  rw [h71, h18]
  by_cases hc : 0 ≤ a1 ∧ a1 ≤ nI L
  · rw [if_pos hc, if_pos hc]
    obtain ⟨l, hl, rfl⟩ := nI_of (Int32.not_lt.mpr hc.1)
    have hlL : l ≤ L := (nI_leI hl (by omega)).mp hc.2
    refine ⟨1, _, _, rfl, rfl, ?_⟩
    have hx : ∀ k, k ≠ 7 → (si σ 7 1 (nI l)).1 k = σ.1 k := fun k h => by rw [si_ne h]
    have hm : ∀ k, k ≠ 0 → (si τ 0 18 (nI l)).1 k = τ.1 k := fun k h => by rw [si_ne h]
    refine ⟨D, G, K, l, hD, hG, hK, by omega, ?_, rS_c (fun s' j hs' h1 => by rw [hx _ (by omega)]) (fun k s' h1 h2 _ => by rw [hm k (by omega)]) hS, rC_c (fun s' j hs' h1 h2 => by rw [hx _ (by omega)]) (fun k s' h1 h2 _ => by rw [hm k (by omega)]) hC, rO_c (fun k h1 h2 => hx k (by omega)) (hm _ (by omega)) hO, rB_c (fun k h1 h2 => hx k (by omega)) (hm _ (by omega)) (hm _ (by omega)) hB, rV_c (hx _ (by omega)) (hm _ (by omega)) hV, rG_c (fun k h1 h2 => hx k (by omega)) (fun k h1 h2 => hm k (by omega)) hg, rR_c hK (fun k h1 h2 => hx k (by omega)) rfl (hm _ (by omega)) (hm _ (by omega)) hRr, rT_c (hx _ (by omega)) (hm _ (by omega)) (fun i hi => hT i (by omega))⟩
    unfold r0 at h0 ⊢
    simpa [si_get] using h0.imp_right (fun q => q.imp_right (fun q => q.imp_right (fun q => q.imp_right (fun q => q.imp_right (fun q => q.imp_right (fun q => q.imp_right (fun q => q.imp_right (fun q => q.imp_right (fun q => q.imp_right (fun q => q.1))))))))))
  · exact ⟨0, σ, τ, if_neg hc, if_neg hc, hR'⟩
theorem sim_fault (n : Nat) (a1 : Int32) : Sim Rel (fun σ => f_10_fault n σ a1) (fun τ => f_11_fault n τ a1) := by
  intro σ τ hR
  refine ⟨_, σ, τ, fault_X n σ a1, ?_, hR⟩
  obtain ⟨D, G, K, L, hD, hG, hK, hL, h0, -⟩ := hR
  show f_11_fault n τ a1 = _
  rw [fault_M, h0.2.2.2.2.2.2.2.2.2.1, h0.2.2.2.2.2.2.2.2.2.2.1]
theorem rg_in {a : Int32} {G : Nat} (hG : G ≤ 8) (h : 0 ≤ a ∧ a < nI G) : ∃ g, g < G ∧ a = nI g := rg_le rfl (by omega) h
theorem sim_bill (n : Nat) (a1 a2 : Int32) : Sim Rel (fun σ => f_10_bill n σ a1 a2) (fun τ => f_11_bill n τ a1 a2) := by
  intro σ τ hR
  have hR' := hR
  obtain ⟨D, G, K, L, hD, hG, hK, hL, h0, hS, hC, hO, hB, hV, hg, hRr, hT⟩ := hR
  refine ⟨_, σ, τ, bill_X n σ a1 a2 h0.2.2.2.2.2.1 hG, ?_, hR'⟩
  show f_11_bill n τ a1 a2 = _
  rw [bill_M n τ a1 a2 h0.2.2.2.2.2.2.1 hG]
  by_cases hc : 0 ≤ a1 ∧ a1 < nI G
  · obtain ⟨g, hgG, rfl⟩ := rg_in hG hc
    rw [if_pos hc, if_pos hc, nI_clamp (by omega), hg.1 g 5 (by omega) (by omega), hg.1 g 6 (by omega) (by omega), hg.1 g 7 (by omega) (by omega), hg.1 g 8 (by omega) (by omega)]
  · rw [if_neg hc, if_neg hc]
theorem sim_water (n : Nat) (a1 a2 : Int32) : Sim Rel (fun σ => f_10_water n σ a1 a2) (fun τ => f_11_water n τ a1 a2) := by
  intro σ τ hR
  have hR' := hR
  obtain ⟨D, G, K, L, hD, hG, hK, hL, h0, hS, hC, hO, hB, hV, hg, hRr, hT⟩ := hR
  refine ⟨_, σ, τ, water_X n σ a1 a2, ?_, hR'⟩
  show f_11_water n τ a1 a2 = _
  rw [water_M n τ a1 a2]
  by_cases hc : 0 ≤ a1 ∧ a1 < 4
  · obtain ⟨g, hgG, rfl⟩ := rg_le (n := 4) rfl (by decide) hc
    obtain ⟨q1, q2, q3, q4⟩ := hC g hgG
    rw [if_pos hc, if_pos hc, nI_clamp (by omega), q1, q2, q3, q4]
  · rw [if_neg hc, if_neg hc]
theorem sim_bottles (n : Nat) (a1 a2 : Int32) : Sim Rel (fun σ => f_10_bottles n σ a1 a2) (fun τ => f_11_bottles n τ a1 a2) := by
  intro σ τ hR
  have hR' := hR
  obtain ⟨D, G, K, L, hD, hG, hK, hL, h0, hS, hC, hO, hB, hV, hg, hRr, hT⟩ := hR
  refine ⟨_, σ, τ, bottles_X n σ a1 a2, ?_, hR'⟩
  show f_11_bottles n τ a1 a2 = _
  rw [bottles_M n τ a1 a2]
  by_cases hc : (0 ≤ a1 ∧ a1 < 4) ∧ (0 ≤ a2 ∧ a2 < 100)
  · obtain ⟨g, hgG, rfl⟩ := rg_le (n := 4) rfl (by decide) hc.1
    obtain ⟨d, hd, rfl⟩ := rg_le (n := 100) rfl (by decide) hc.2
    rw [if_pos hc, if_pos hc, nI_clamp (by omega), nI_clamp (by omega), hO g d hgG hd]
  · rw [if_neg hc, if_neg hc]
theorem cT_c {f f' t t' : Nat → Int32} {d : Int32} {G : Nat} (h1 : ∀ g, g < G → f g = f' g) (h2 : ∀ g, g < G → t g = t' g) : cT f t d G = cT f' t' d G := by
  induction G with
  | zero => rfl
  | succ G ih => rw [cT, cT, ih (fun g h => h1 g (by omega)) (fun g h => h2 g (by omega)), h1 G (by omega), h2 G (by omega)]
theorem cT_le {f t : Nat → Int32} {d : Int32} {G : Nat} : cT f t d G ≤ G := by
  induction G with
  | zero => exact Nat.le_refl 0
  | succ G ih => rw [cT]; split <;> omega
theorem sim_keep (n : Nat) (hn : 1000 ≤ n) (a1 : Int32) (h1 : a1 = 0 ∨ a1 = 1) : Sim Rel (fun σ => f_10_keep n σ a1) (fun τ => f_11_keep n τ a1) := by
  intro σ τ hR
  have hb : isb a1 = true := by rcases h1 with rfl | rfl <;> decide
  have hR' := hR
  obtain ⟨D, G, K, L, hD, hG, hK, hL, h0, hS, hC, hO, hB, hV, hg, hRr, hT⟩ := hR
  show ∃ r σ' τ', f_10_keep n σ a1 = some (r, σ') ∧ f_11_keep n τ a1 = some (r, τ') ∧ Rel σ' τ'
  unfold f_10_keep f_11_keep
  rw [count_X n (by omega) σ _ h0.2.2.2.2.2.1 hG, count_M n (by omega) τ _ h0.2.2.2.2.2.2.1 hG, h0.1, h0.2.1, cT_c (f' := fun g => τ.1 18 g) (t' := fun g => τ.1 19 g) (fun g h => hg.1 g 2 (by omega) (by omega)) (fun g h => hg.1 g 3 (by omega) (by omega))]
  simp only [bd_eq, gd_t hb, nm_eq]
  by_cases hc : nI (cT (fun g => τ.1 18 g) (fun g => τ.1 19 g) (nI D) G) ≤ 6
  · rw [if_pos hc, if_pos hc]
    refine ⟨1, _, _, rfl, rfl, ?_⟩
    have hx : ∀ k, k ≠ 0 → (si σ 0 4 a1).1 k = σ.1 k := fun k h => by rw [si_ne h]
    have hm : ∀ k, k ≠ 0 → (si τ 0 53 a1).1 k = τ.1 k := fun k h => by rw [si_ne h]
    refine ⟨D, G, K, L, hD, hG, hK, hL, ?_, rS_c (fun s' j hs' h1 => by rw [hx _ (by omega)]) (fun k s' h1 h2 _ => by rw [hm k (by omega)]) hS, rC_c (fun s' j hs' h1 h2 => by rw [hx _ (by omega)]) (fun k s' h1 h2 _ => by rw [hm k (by omega)]) hC, rO_c (fun k h1 h2 => hx k (by omega)) (hm _ (by omega)) hO, rB_c (fun k h1 h2 => hx k (by omega)) (hm _ (by omega)) (hm _ (by omega)) hB, rV_c (hx _ (by omega)) (hm _ (by omega)) hV, rG_c (fun k h1 h2 => hx k (by omega)) (fun k h1 h2 => hm k (by omega)) hg, rR_c hK (fun k h1 h2 => hx k (by omega)) rfl (hm _ (by omega)) (hm _ (by omega)) hRr, rT_c (hx _ (by omega)) (hm _ (by omega)) hT⟩
    unfold r0 at h0 ⊢
    obtain ⟨q1, q2, q3, q4⟩ := h0
    refine ⟨by simpa [si_get] using q1, by simpa [si_get] using q2, by simp [si_get], by simpa [si_get] using q4⟩
  · rw [if_neg hc, if_neg hc]
    exact ⟨0, σ, τ, rfl, rfl, hR'⟩
end S1
