/-! leave, guest, look, sell -/
section S2
variable {σ τ σ' τ' : St}
theorem sim_leave (n : Nat) (a1 a2 : Int32) : Sim Rel (fun σ => f_10_leave n σ a1 a2) (fun τ => f_11_leave n τ a1 a2) := by
  intro σ τ hR
  have hR' := hR
  obtain ⟨D, G, K, L, hD, hG, hK, hL, h0, hS, hC, hO, hB, hV, hg, hRr, hT⟩ := hR
  show ∃ r σ' τ', f_10_leave n σ a1 a2 = some (r, σ') ∧ f_11_leave n τ a1 a2 = some (r, τ') ∧ Rel σ' τ'
  rw [leave_X n σ a1 a2 h0.2.2.2.2.2.1 hG, leave_M n τ a1 a2 h0.2.2.2.2.2.2.1 hG, h0.1, h0.2.1]
  by_cases hc : 0 ≤ a1 ∧ a1 < nI G
  · obtain ⟨g, hgG, rfl⟩ := rg_in hG hc
    rw [nI_clamp (by omega), hg.1 g 2 (by omega) (by omega), hg.1 g 3 (by omega) (by omega)]
    by_cases hd : (0 ≤ nI g ∧ nI g < nI G) ∧ ¬ a2 < nI D ∧ ¬ a2 ≤ τ.1 18 g ∧ a2 ≤ τ.1 19 g
    · rw [if_pos hd, if_pos hd]
      refine ⟨1, _, _, rfl, rfl, ?_⟩
      have hx : ∀ k, k ≠ 36 + g → (si σ (36 + g) 3 a2).1 k = σ.1 k := fun k h => by rw [si_ne h]
      have hm : ∀ k, k ≠ 19 → (si τ 19 g a2).1 k = τ.1 k := fun k h => by rw [si_ne h]
      refine ⟨D, G, K, L, hD, hG, hK, hL, r0_c (hx 0 (by omega)) (hx 1 (by omega)) (hx 6 (by omega)) (hx 7 (by omega)) (hm 0 (by omega)) h0, rS_c (fun s' j hs' h1 => by rw [hx _ (by omega)]) (fun k s' h1 h2 _ => by rw [hm k (by omega)]) hS, rC_c (fun s' j hs' h1 h2 => by rw [hx _ (by omega)]) (fun k s' h1 h2 _ => by rw [hm k (by omega)]) hC, rO_c (fun k h1 h2 => hx k (by omega)) (hm _ (by omega)) hO, rB_c (fun k h1 h2 => hx k (by omega)) (hm _ (by omega)) (hm _ (by omega)) hB, rV_c (hx _ (by omega)) (hm _ (by omega)) hV, ⟨fun g' j hg' hj => ?_, fun g' hg' => ?_⟩, rR_c hK (fun k h1 h2 => hx k (by omega)) rfl (hm _ (by omega)) (hm _ (by omega)) hRr, rT_c (hx _ (by omega)) (hm _ (by omega)) hT⟩
      · rw [si_get, si_get]
        by_cases e : g' = g ∧ j = 3
        · rw [if_pos ⟨by omega, e.2⟩, if_pos ⟨by omega, e.1⟩]
        · rw [if_neg (fun q => e ⟨by omega, q.2⟩), if_neg (fun q => e ⟨q.2, by omega⟩)]
          exact hg.1 g' j hg' hj
      · rw [hm 16 (by omega), hm 17 (by omega), hm 20 (by omega)]; exact hg.2 g' hg'
    · rw [if_neg hd, if_neg hd]
      exact ⟨0, σ, τ, rfl, rfl, hR'⟩
  · rw [if_neg (fun q => hc q.1), if_neg (fun q => hc q.1)]
    exact ⟨0, σ, τ, rfl, rfl, hR'⟩
theorem sim_guest (n : Nat) (a1 a2 a3 a4 a5 : Int32) : Sim Rel (fun σ => f_10_guest n σ a1 a2 a3 a4 a5) (fun τ => f_11_guest n τ a1 a2 a3 a4 a5) := by
  intro σ τ hR
  have hR' := hR
  obtain ⟨D, G, K, L, hD, hG, hK, hL, h0, hS, hC, hO, hB, hV, hg, hRr, hT⟩ := hR
  show ∃ r σ' τ', f_10_guest n σ a1 a2 a3 a4 a5 = some (r, σ') ∧ f_11_guest n τ a1 a2 a3 a4 a5 = some (r, τ') ∧ Rel σ' τ'
  have hk1 : σ.1 6 2 = nI K := h0.2.2.2.2.2.2.2.1
  have hk2 : τ.1 0 2 = nI K := h0.2.2.2.2.2.2.2.2.1
  rw [guest_X n σ a1 a2 a3 a4 a5 h0.2.2.2.2.2.1 hG, guest_M n τ a1 a2 a3 a4 a5 h0.2.2.2.2.2.2.1 hG hk2 hK, h0.1, h0.2.1, hk1, hk2]
  by_cases hc : (0 ≤ a1 ∧ a1 < 4) ∧ (0 ≤ a2 ∧ a2 < nI K) ∧ (0 ≤ a5 ∧ a5 < 100) ∧ ¬ a3 < nI D ∧ ¬ a4 ≤ a3 ∧ ¬ 100 < a4 ∧ G < 8
  · rw [if_pos hc, if_pos hc]
    refine ⟨nI G, _, _, rfl, rfl, ?_⟩
    obtain ⟨r, hr, e1⟩ := rg_le (n := 4) rfl (by decide) hc.1
    obtain ⟨q, hq, e2⟩ := rg_le (n := K) rfl (by omega) hc.2.1
    obtain ⟨b, hb, e5⟩ := rg_le (n := 100) rfl (by decide) hc.2.2.1
    have hG8 : G < 8 := hc.2.2.2.2.2.2
    have hx : ∀ k, k ≠ 36 + G → k ≠ 1 → (si (si (si (si (si (si σ (36 + G) 0 a1) (36 + G) 1 a2) (36 + G) 2 a3) (36 + G) 3 a4) (36 + G) 4 a5) 1 5 (nI (G + 1))).1 k = σ.1 k := fun k h h' => by rw [si_ne h', si_ne h, si_ne h, si_ne h, si_ne h, si_ne h]
    have hm : ∀ k, k ≠ 0 → (k < 16 ∨ 20 < k) → (si (si (si (si (si (si τ 0 1 (nI (G + 1))) 16 G a1) 17 G a2) 18 G a3) 19 G a4) 20 G a5).1 k = τ.1 k := fun k h h' => by rw [si_ne (by omega), si_ne (by omega), si_ne (by omega), si_ne (by omega), si_ne (by omega), si_ne (by omega)]
    refine ⟨D, G + 1, K, L, hD, hG8, hK, hL, ?_, rS_c (fun s' j hs' h1 => by rw [hx _ (by omega) (by omega)]) (fun k s' h1 h2 _ => by rw [hm k (by omega) (by omega)]) hS, rC_c (fun s' j hs' h1 h2 => by rw [hx _ (by omega) (by omega)]) (fun k s' h1 h2 _ => by rw [hm k (by omega) (by omega)]) hC, rO_c (fun k h1 h2 => hx k (by omega) (by omega)) (hm _ (by omega) (by omega)) hO, rB_c (fun k h1 h2 => hx k (by omega) (by omega)) (hm _ (by omega) (by omega)) (hm _ (by omega) (by omega)) hB, rV_c (hx _ (by omega) (by omega)) (hm _ (by omega) (by omega)) hV, ⟨fun g' j hg' hj => ?_, fun g' hg' => ?_⟩, rR_c hK (fun k h1 h2 => hx k (by omega) (by omega)) rfl (hm _ (by omega) (by omega)) (hm _ (by omega) (by omega)) hRr, rT_c (hx _ (by omega) (by omega)) (hm _ (by omega) (by omega)) hT⟩
    · unfold r0 at h0 ⊢
      simp only [si_get]
      have hne : ∀ j : Nat, ¬ (0 = 36 + G ∧ (3 = j)) ∧ ¬ (0 = 36 + G ∧ (4 = j)) ∧ ¬ (0 = 36 + G ∧ (5 = j)) ∧ ¬ (0 = 36 + G ∧ (6 = j)) := fun j => by omega
      simp [show ¬ 0 = 36 + G by omega, show ¬ 1 = 36 + G by omega, show ¬ 6 = 36 + G by omega, show ¬ 7 = 36 + G by omega]
      obtain ⟨q1, q2, q3, q4, q5, q6, q7, q8⟩ := h0
      exact ⟨q1, q2, q3, q4, q5, q8⟩
    · by_cases e : g' = G
      · subst e
        have hj' : j = 0 ∨ j = 1 ∨ j = 2 ∨ j = 3 ∨ j = 4 ∨ 5 ≤ j := by omega
        rcases hj' with rfl | rfl | rfl | rfl | rfl | hj'
        · simp [si_get]
        · simp [si_get]
        · simp [si_get]
        · simp [si_get]
        · simp [si_get]
        · rw [hm (16 + j) (by omega) (by omega), si_cell (by omega), si_place (by omega), si_place (by omega), si_place (by omega), si_place (by omega), si_place (by omega)]
          exact hg.1 g' j hg' hj
      · rw [hx (36 + g') (by omega) (by omega)]
        rw [si_place (by omega), si_place (by omega), si_place (by omega), si_place (by omega), si_place (by omega), si_cell (by omega)]
        exact hg.1 g' j hg' hj
    · by_cases e : g' = G
      · subst e
        exact ⟨r, q, b, hr, hq, by omega, by simp [si_get, e1], by simp [si_get, e2], by simp [si_get, e5]⟩
      · rw [si_place (by omega), si_place (by omega), si_place (by omega), si_place (by omega), si_place (by omega), si_cell (by omega), si_place (by omega), si_place (by omega), si_place (by omega), si_place (by omega), si_place (by omega), si_cell (by omega), si_place (by omega), si_place (by omega), si_place (by omega), si_place (by omega), si_place (by omega), si_cell (by omega)]
        exact hg.2 g' (by omega)
  · rw [if_neg hc, if_neg hc]
    exact ⟨-1, σ, τ, rfl, rfl, hR'⟩
/-- a sum of ints -/
def sm (f : Nat → Int32) : Nat → Int32
  | 0 => 0
  | k + 1 => sm f k + f k
theorem bott_M (n : Nat) (hn : 1000 ≤ n) (τ : St) : lq (b_11_look_70 n) n (0, 0, τ) = some (sm (τ.1 36) 400, nI 400, τ) := by
  obtain ⟨e, he, hX⟩ := lq_for (b := b_11_look_70 n) (X := fun e => e = (sm (τ.1 36) 400, nI 400, τ)) 400 (fun i s => s = (sm (τ.1 36) i, nI i, τ)) (by
    rintro i s hi rfl
    left
    unfold b_11_look_70
    simp only [nm_eq]
    rw [if_neg (show ¬ (400 : Int32) ≤ nI i from nI_ge hi (by decide)), gd_t (inb_nI hi (by decide)), nI_clamp (by omega), nI_1]
    exact ⟨_, rfl, rfl⟩) (by
    rintro s rfl
    unfold b_11_look_70
    simp only [nm_eq]
    exact ⟨_, by rw [if_pos (show (400 : Int32) ≤ nI 400 from nI_le (Nat.le_refl 400) (by decide))], rfl⟩) (n := n) (by omega) (s := (0, 0, τ)) rfl
  rw [he, hX]
theorem bott_X (n : Nat) (hn : 1000 ≤ n) (σ : St) (f : Nat → Int32) (hf : ∀ s d, s < 4 → d < 100 → σ.1 (26 + s) d = f (100 * s + d)) : f_9_countBottles n σ = some (sm f 400, σ) := by
  obtain ⟨e, he, hX⟩ := lq_for (b := b_9_countBottles_4 n) (X := fun e => e = (sm f 400, nI 4, σ)) 4 (fun i s => s = (sm f (100 * i), nI i, σ)) (by
    rintro i s hi rfl
    left
    obtain ⟨e, he, hX⟩ := lq_for (b := b_9_countBottles_11 n (nI i)) (X := fun e => e = (sm f (100 * (i + 1)), nI 100, σ)) 100 (fun j s => s = (sm f (100 * i + j), nI j, σ)) (by
      rintro j s hj rfl
      left
      unfold b_9_countBottles_11
      simp only [nm_eq]
      rw [if_neg (show ¬ (100 : Int32) ≤ nI j from nI_ge hj (by decide)), gd_t (inb_nI hi (by decide)), gd_t (inb_nI hj (by decide)), nI_clamp (by omega), nI_clamp (by omega), nI_1, hf i j hi hj]
      exact ⟨_, rfl, rfl⟩) (by
      rintro s rfl
      unfold b_9_countBottles_11
      simp only [nm_eq]
      exact ⟨_, by rw [if_pos (show (100 : Int32) ≤ nI 100 from nI_le (Nat.le_refl 100) (by decide))]; rfl, rfl⟩) (n := n) (by omega) (s := (sm f (100 * i), 0, σ)) rfl
    unfold b_9_countBottles_4
    simp only [nm_eq]
    rw [if_neg (show ¬ (4 : Int32) ≤ nI i from nI_ge hi (by decide)), he, hX]
    simp only [nm_eq, bd_eq, nI_1]
    exact ⟨_, rfl, rfl⟩) (by
    rintro s rfl
    unfold b_9_countBottles_4
    simp only [nm_eq]
    exact ⟨_, by rw [if_pos (show (4 : Int32) ≤ nI 4 from nI_le (Nat.le_refl 4) (by decide))], rfl⟩) (n := n) (by omega) (s := (0, 0, σ)) rfl
  unfold f_9_countBottles
  rw [he, hX, bd_eq]
theorem sim_look (n : Nat) (hn : 1000 ≤ n) (a1 : Int32) : Sim Rel (fun σ => f_10_look n σ a1) (fun τ => f_11_look n τ a1) := by
  intro σ τ hR
  have hR' := hR
  obtain ⟨D, G, K, L, hD, hG, hK, hL, h0, hS, hC, hO, hB, hV, hg, hRr, hT⟩ := hR
  obtain ⟨q1, q2, q3, q4, q5, q6, q7, q8, q9, q10⟩ := h0
  show ∃ r σ' τ', f_10_look n σ a1 = some (r, σ') ∧ f_11_look n τ a1 = some (r, τ') ∧ Rel σ' τ'
  unfold f_10_look f_11_look
  rw [count_X n (by omega) σ _ q6 hG, count_M n (by omega) τ _ q7 hG, q1, q2, cT_c (f' := fun g => τ.1 18 g) (t' := fun g => τ.1 19 g) (fun g h => hg.1 g 2 (by omega) (by omega)) (fun g h => hg.1 g 3 (by omega) (by omega)), bott_X n hn σ (τ.1 36) hO, bott_M n hn τ, q4, q5, q6, q7, q8, q9]
  simp only [bd_eq]
  by_cases c0 : a1 = 0
  · rw [if_pos c0, if_pos c0]; exact ⟨_, σ, τ, rfl, rfl, hR'⟩
  by_cases c1 : a1 = 1
  · rw [if_neg c0, if_pos c1, if_neg c0, if_pos c1]; exact ⟨_, σ, τ, rfl, rfl, hR'⟩
  by_cases c2 : a1 = 2
  · rw [if_neg c0, if_neg c1, if_pos c2, if_neg c0, if_neg c1, if_pos c2]; exact ⟨_, σ, τ, rfl, rfl, hR'⟩
  by_cases c3 : a1 = 3
  · rw [if_neg c0, if_neg c1, if_neg c2, if_pos c3, if_neg c0, if_neg c1, if_neg c2, if_pos c3]; exact ⟨_, σ, τ, rfl, rfl, hR'⟩
  by_cases c4 : a1 = 4
  · rw [if_neg c0, if_neg c1, if_neg c2, if_neg c3, if_pos c4, if_neg c0, if_neg c1, if_neg c2, if_neg c3, if_pos c4]; exact ⟨_, σ, τ, rfl, rfl, hR'⟩
  by_cases c5 : a1 = 5
  · rw [if_neg c0, if_neg c1, if_neg c2, if_neg c3, if_neg c4, if_pos c5, if_neg c0, if_neg c1, if_neg c2, if_neg c3, if_neg c4, if_pos c5]; exact ⟨_, σ, τ, rfl, rfl, hR'⟩
  by_cases c6 : a1 = 6
  · rw [if_neg c0, if_neg c1, if_neg c2, if_neg c3, if_neg c4, if_neg c5, if_pos c6, if_neg c0, if_neg c1, if_neg c2, if_neg c3, if_neg c4, if_neg c5, if_pos c6]; exact ⟨_, σ, τ, rfl, rfl, hR'⟩
  rw [if_neg c0, if_neg c1, if_neg c2, if_neg c3, if_neg c4, if_neg c5, if_neg c6, if_neg c0, if_neg c1, if_neg c2, if_neg c3, if_neg c4, if_neg c5, if_neg c6]; exact ⟨_, σ, τ, rfl, rfl, hR'⟩
/-- what selling may change -/
def slI (σ0 τ0 σ τ : St) : Prop := rO σ τ ∧ (∀ k, (k < 26 ∨ 30 ≤ k) → σ.1 k = σ0.1 k) ∧ (∀ k, k ≠ 36 → τ.1 k = τ0.1 k) ∧ τ.2 = τ0.2
theorem mul_nI (c a b : Nat) : nI c * nI a + nI b = nI (c * a + b) := by rw [pk_mul, nI_add]
theorem sell_in (n : Nat) (a1 a1' w : Int32) (σ0 τ0 σ τ : St) (d : Nat) (hd : d < 100) (hn : 1000 ≤ n) (h : slI σ0 τ0 σ τ) : ∃ (e1 e2 : Int32 × Int32 × St), lq (b_10_sell_27 n a1 (nI d)) n (w, 0, σ) = some e1 ∧ lq (b_11_sell_26 n a1' (nI d)) n (w, 0, τ) = some e2 ∧ e1.1 = e2.1 ∧ slI σ0 τ0 e1.2.2 e2.2.2 := by
  refine lq_for2 (X := fun (e1 e2 : Int32 × Int32 × St) => e1.1 = e2.1 ∧ slI σ0 τ0 e1.2.2 e2.2.2) 4 (fun i s1 s2 => ∃ w σ τ, s1 = (w, nI i, σ) ∧ s2 = (w, nI i, τ) ∧ slI σ0 τ0 σ τ) ?_ ?_ (by omega) (by omega) ⟨w, σ, τ, rfl, rfl, h⟩
  · rintro i s1 s2 hi ⟨w, σ, τ, rfl, rfl, hO, hx, hm, h2⟩
    unfold b_10_sell_27 b_11_sell_26 j_11_sell_64
    simp only [nm_eq]
    rw [if_neg (show ¬ (4 : Int32) ≤ nI i from nI_ge hi (by decide)), if_neg (show ¬ (4 : Int32) ≤ nI i from nI_ge hi (by decide)), gd_t (inb_nI hi (by decide)), gd_t (inb_nI hd (by decide)), show (100 : Int32) * nI i + nI d = nI (100 * i + d) from mul_nI 100 i d, gd_t (inb_nI (show 100 * i + d < 400 by omega) (by decide)), gd_t (inb_nI (show 100 * i + d < 400 by omega) (by decide)), nI_clamp (by omega), nI_clamp (by omega), nI_clamp (by omega), nI_1, hO i d hi hd]
    have key : ∀ v : Int32, slI σ0 τ0 (si σ (26 + i) d (τ.1 36 (100 * i + d) - v)) (si τ 36 (100 * i + d) (τ.1 36 (100 * i + d) - v)) := by
      intro v
      refine ⟨fun s d' hs hd' => ?_, fun k hk => by rw [si_ne (by omega)]; exact hx k hk, fun k hk => by rw [si_ne hk]; exact hm k hk, h2⟩
      rw [si_get, si_get]
      by_cases e : s = i ∧ d' = d
      · rw [if_pos ⟨by omega, e.2⟩, if_pos ⟨rfl, by omega⟩]
      · rw [if_neg (fun q => e ⟨by omega, q.2⟩), if_neg (fun q => e (by omega))]
        exact hO s d' hs hd'
    by_cases c : w ≤ τ.1 36 (100 * i + d)
    · rw [if_pos c, if_neg (Int32.not_lt.mpr c)]
      exact ⟨_, _, rfl, rfl, _, _, _, rfl, rfl, key w⟩
    · rw [if_neg c, if_pos (Int32.not_le.mp c), gd_t (inb_nI (show 100 * i + d < 400 by omega) (by decide)), gd_t (inb_nI (show 100 * i + d < 400 by omega) (by decide))]
      exact ⟨_, _, rfl, rfl, _, _, _, rfl, rfl, key _⟩
  · rintro s1 s2 ⟨w, σ, τ, rfl, rfl, h⟩
    unfold b_10_sell_27 b_11_sell_26
    simp only [nm_eq]
    rw [if_pos (show (4 : Int32) ≤ nI 4 from nI_le (Nat.le_refl 4) (by decide)), if_pos (show (4 : Int32) ≤ nI 4 from nI_le (Nat.le_refl 4) (by decide))]
    exact ⟨_, _, rfl, rfl, rfl, h⟩
theorem sell_out (n : Nat) (a1 w : Int32) (σ0 τ0 : St) (hn : 1000 ≤ n) (h : slI σ0 τ0 σ0 τ0) : ∃ (e1 e2 : Int32 × Int32 × St), lq (b_10_sell_18 n a1) n (w, 0, σ0) = some e1 ∧ lq (b_11_sell_17 n a1) n (w, 0, τ0) = some e2 ∧ e1.1 = e2.1 ∧ slI σ0 τ0 e1.2.2 e2.2.2 := by
  refine lq_for2 (X := fun (e1 e2 : Int32 × Int32 × St) => e1.1 = e2.1 ∧ slI σ0 τ0 e1.2.2 e2.2.2) 100 (fun i s1 s2 => ∃ w σ τ, s1 = (w, nI i, σ) ∧ s2 = (w, nI i, τ) ∧ slI σ0 τ0 σ τ) ?_ ?_ (by omega) (by omega) ⟨w, σ0, τ0, rfl, rfl, h⟩
  · rintro i s1 s2 hi ⟨w, σ, τ, rfl, rfl, h⟩
    obtain ⟨⟨w1, d1, σ1⟩, ⟨w2, d2, τ2⟩, e1, e2, e3, e4⟩ := sell_in n a1 a1 w σ0 τ0 σ τ i hi hn h
    simp only at e3 e4
    subst e3
    unfold b_10_sell_18 b_11_sell_17
    simp only
    rw [if_neg (show ¬ (100 : Int32) ≤ nI i from nI_ge hi (by decide)), if_neg (show ¬ (100 : Int32) ≤ nI i from nI_ge hi (by decide)), e1, e2]
    simp only [bd_eq, nm_eq, nI_1]
    exact ⟨_, _, rfl, rfl, _, _, _, rfl, rfl, e4⟩
  · rintro s1 s2 ⟨w, σ, τ, rfl, rfl, h⟩
    unfold b_10_sell_18 b_11_sell_17
    simp only [nm_eq]
    rw [if_pos (show (100 : Int32) ≤ nI 100 from nI_le (Nat.le_refl 100) (by decide)), if_pos (show (100 : Int32) ≤ nI 100 from nI_le (Nat.le_refl 100) (by decide))]
    exact ⟨_, _, rfl, rfl, rfl, h⟩
theorem sim_sell (n : Nat) (hn : 1000 ≤ n) (a1 : Int32) : Sim Rel (fun σ => f_10_sell n σ a1) (fun τ => f_11_sell n τ a1) := by
  intro σ τ hR
  have hR' := hR
  obtain ⟨D, G, K, L, hD, hG, hK, hL, h0, hS, hC, hO, hB, hV, hg, hRr, hT⟩ := hR
  show ∃ r σ' τ', f_10_sell n σ a1 = some (r, σ') ∧ f_11_sell n τ a1 = some (r, τ') ∧ Rel σ' τ'
  unfold f_10_sell f_11_sell
  rw [isIn_eq]
  simp only [bd_eq, one_if]
  by_cases h1 : a1 < 1
  · rw [if_pos h1, if_pos (fun q => Int32.not_lt.mpr q.1 h1)]
    exact ⟨_, _, _, rfl, rfl, hR'⟩
  rw [if_neg h1]
  by_cases h2 : a1 ≤ 999
  · rw [if_pos h2, if_neg (fun q => q ⟨Int32.not_lt.mp h1, h2⟩)]
    obtain ⟨⟨w1, d1, σ1⟩, ⟨w2, d2, τ2⟩, e1, e2, e3, e4⟩ := sell_out n a1 a1 σ τ hn ⟨hO, fun _ _ => rfl, fun _ _ => rfl, rfl⟩
    simp only at e3 e4
    subst e3
    rw [e1, e2]
    simp only [bd_eq, nm_eq]
    refine ⟨_, _, _, rfl, rfl, ?_⟩
    obtain ⟨hO', hx0, hm0, h20⟩ := e4
    have hx : ∀ (v : Int32) k, k ≠ 0 → (k < 26 ∨ 30 ≤ k) → (si σ1 0 5 v).1 k = σ.1 k := fun v k h h' => by rw [si_ne h, hx0 k h']
    have hm : ∀ (v : Int32) k, k ≠ 0 → k ≠ 36 → (si τ2 0 59 v).1 k = τ.1 k := fun v k h h' => by rw [si_ne h, hm0 k h']
    refine ⟨D, G, K, L, hD, hG, hK, hL, ?_, rS_c (fun s' j hs' h1 => by rw [hx _ _ (by omega) (by omega)]) (fun k s' h1 h2 _ => by rw [hm _ k (by omega) (by omega)]) hS, rC_c (fun s' j hs' h1 h2 => by rw [hx _ _ (by omega) (by omega)]) (fun k s' h1 h2 _ => by rw [hm _ k (by omega) (by omega)]) hC, rO_c (σ := σ1) (τ := τ2) (fun k h1 h2 => by rw [si_ne (by omega)]) (by rw [si_ne (by omega)]) hO', rB_c (fun k h1 h2 => hx _ k (by omega) (by omega)) (hm _ _ (by omega) (by omega)) (hm _ _ (by omega) (by omega)) hB, rV_c (hx _ _ (by omega) (by omega)) (hm _ _ (by omega) (by omega)) hV, rG_c (fun k h1 h2 => hx _ k (by omega) (by omega)) (fun k h1 h2 => hm _ k (by omega) (by omega)) hg, rR_c hK (fun k h1 h2 => hx _ k (by omega) (by omega)) (by rw [si_l, h20]) (hm _ _ (by omega) (by omega)) (hm _ _ (by omega) (by omega)) hRr, rT_c (hx _ _ (by omega) (by omega)) (hm _ _ (by omega) (by omega)) hT⟩
    unfold r0 at h0 ⊢
    simp only [si_get, hx0 0 (by omega), hx0 1 (by omega), hx0 6 (by omega), hx0 7 (by omega), hm0 0 (by omega)]
    obtain ⟨q1, q2, q3, q4, q5⟩ := h0
    refine ⟨by simpa using q1, by simpa using q2, by simpa using q3, by simp [q4], by simpa using q5⟩
  · rw [if_neg h2, if_pos (fun q => h2 q.2)]
    exact ⟨_, _, _, rfl, rfl, hR'⟩
end S2
