/-! load -/
section LD
variable {n : Nat} {σ0 τ0 : St} {K L : Nat}
theorem load_loop (hn : 1000 ≤ n) {b : Nat → Nat} (h0 : tpR σ0 τ0 L b) (hK8 : K ≤ 8) (hnm : ∀ r, r < K → nmR (σ0.1 (44 + r) 0) (τ0.2 8 r)) (hK2 : τ0.1 0 2 = nI K) {i a e t F : Nat} {σ σs τ : St} (hP : PT n K L σ0 τ0 i σ σs τ a e t F 0) (h16 : τ.1 0 16 = nI F) : ∃ r : Int32 × St, lq (b_11_load_21 n) n (1, τ) = some r ∧ ((r.1 = 0 ∧ ∃ σf, XF n i σ σf ∧ BAD K σ0 τ0 σf r.2) ∨ (r.1 = 1 ∧ ∃ σf F', XF n i σ σf ∧ CM K σ0 τ0 σf r.2 F' ∧ r.2.1 0 16 = nI F')) := by
  have hL := h0.1
  refine lq_ex (b := b_11_load_21 n) (X := fun r => (r.1 = 0 ∧ ∃ σf, XF n i σ σf ∧ BAD K σ0 τ0 σf r.2) ∨ (r.1 = 1 ∧ ∃ σf F', XF n i σ σf ∧ CM K σ0 τ0 σf r.2 F' ∧ r.2.1 0 16 = nI F')) (fun k s => (∃ i' σ' σs' τ' a' e' t' F', k = L + 1 - a' ∧ s = (1, τ') ∧ XT n i σ i' σ' ∧ PT n K L σ0 τ0 i' σ' σs' τ' a' e' t' F' 0 ∧ τ'.1 0 16 = nI F') ∨ (k = 0 ∧ ∃ τf σf, s = (0, τf) ∧ XF n i σ σf ∧ BAD K σ0 τ0 σf τf)) ?_ n (L + 1 - a) (1, τ) (by omega) (.inl ⟨i, σ, σs, τ, a, e, t, F, rfl, rfl, XT_rf, hP, h16⟩)
  clear hP h16
  rintro k s (⟨i1, σ1, σs1, τ1, a1, e1, t1, F1, rfl, rfl, hT, hP, h16⟩ | ⟨rfl, τf, σf, rfl, q1, q2⟩)
  · obtain ⟨p1, p2, ⟨p, p3⟩, p4, p5⟩ := id hP
    obtain ⟨k1, k2, k3, k4, k5, k6, k7, k8, k9, k10, k11, k12, k13⟩ := id p3
    have hlt := tM_le (t := t1)
    by_cases c12 : t1 = 12
    · right
      have hb : b_11_load_21 n (1, τ1) = some (.inr (1, τ1)) := by
        unfold b_11_load_21
        simp only
        rw [if_neg (by decide), if_pos (by rw [k9, c12]; rfl)]
      have htk : f_2_take n σs1 (σs1.1 7 2) = some σs1 := by
        rw [k8, take_0 p5]
        unfold f_2_takeCure
        rw [if_pos (by rw [c12]; rfl)]
      refine ⟨_, hb, .inr ⟨rfl, σs1, F1, hT _ (XF_stop (by omega) p1 htk (.inr (by rw [k8, c12]; rfl))), p4, h16⟩⟩
    · left
      obtain ⟨r, τ', r1, r2⟩ := cure_two hn h0 hK8 hnm hK2 hP h16 c12
      have hb : b_11_load_21 n (1, τ1) = some (.inl (r, τ')) := by
        unfold b_11_load_21
        simp only
        rw [if_neg (by decide), if_neg (by rw [k9]; exact nI_ne (k := 0) (by omega) (by decide) (fun z => c12 (tM_inj t1 k10 12 (by decide) z))), r1, bd_eq]
      rcases r2 with ⟨rfl, σf, q1, q2⟩ | ⟨rfl, i', σ', σs', a', e', t', q1, q2, q3, q4⟩
      · exact ⟨0, _, by omega, hb, .inr ⟨rfl, τ', σf, rfl, hT σf q1, q2⟩⟩
      · have : a' ≤ L := by obtain ⟨-, -, ⟨p, q3⟩, -⟩ := q2; exact q3.2.2.2.2.2.1
        exact ⟨L + 1 - a', _, by omega, hb, .inl ⟨i', σ', σs', τ', a', e', t', F1 + 1, rfl, rfl, XT_tr hT q1, q2, q3⟩⟩
  · right
    have hb : b_11_load_21 n (0, τf) = some (.inr (0, τf)) := by
      unfold b_11_load_21
      simp only
      rw [if_pos trivial]
    exact ⟨_, hb, .inl ⟨rfl, σf, q1, q2⟩⟩
theorem copy_in (hn : 1000 ≤ n) {τ : St} {R r : Nat} (hR : R < 8) (hr : r < 8) (h2 : τ.1 0 2 = nI R) : ∃ e : Int32 × St, lq (b_11_load_117 n (nI r)) n (0, τ) = some e ∧ (∀ k, k ≠ 11 → e.2.1 k = τ.1 k) ∧ e.2.2 = τ.2 ∧ (∀ j, j < 90 * R → e.2.1 11 j = τ.1 11 j) ∧ ∀ j, j < 90 → e.2.1 11 (90 * R + j) = τ.1 13 (90 * r + j) := by
  refine lq_for (b := b_11_load_117 n (nI r)) (X := fun e => (∀ k, k ≠ 11 → e.2.1 k = τ.1 k) ∧ e.2.2 = τ.2 ∧ (∀ j, j < 90 * R → e.2.1 11 j = τ.1 11 j) ∧ ∀ j, j < 90 → e.2.1 11 (90 * R + j) = τ.1 13 (90 * r + j)) 90 (fun i s => ∃ τi, s = (nI i, τi) ∧ (∀ k, k ≠ 11 → τi.1 k = τ.1 k) ∧ τi.2 = τ.2 ∧ (∀ j, j < 90 * R → τi.1 11 j = τ.1 11 j) ∧ ∀ j, j < i → τi.1 11 (90 * R + j) = τ.1 13 (90 * r + j)) ?_ ?_ (n := n) (by omega) ⟨τ, rfl, fun _ _ => rfl, rfl, fun _ _ => rfl, fun j hj => absurd hj (Nat.not_lt_zero j)⟩
  · rintro i s hi ⟨τi, rfl, i1, i2, i3, i4⟩
    left
    unfold b_11_load_117
    simp only [nm_eq]
    rw [if_neg (show ¬ (90 : Int32) ≤ nI i from nI_ge (b := 90) hi (by decide)), i1 0 (by decide), h2, show (90 : Int32) * nI r + nI i = nI (90 * r + i) from mul_nI 90 r i, show (90 : Int32) * nI R + nI i = nI (90 * R + i) from mul_nI 90 R i, gd_t (inb_nI (show 90 * r + i < 720 by omega) (by decide)), gd_t (inb_nI (show 90 * R + i < 720 by omega) (by decide)), nI_clamp (by omega), nI_clamp (by omega), nI_1, i1 13 (by decide)]
    refine ⟨_, rfl, _, rfl, fun k hk => by rw [si_ne hk]; exact i1 k hk, i2, fun j hj => by rw [si_place (by omega)]; exact i3 j hj, fun j hj => ?_⟩
    rw [si_get]
    by_cases z : j = i
    · rw [if_pos ⟨rfl, by omega⟩, z]
    · rw [if_neg (fun y => z (by omega))]; exact i4 j (by omega)
  · rintro s ⟨τi, rfl, i1⟩
    unfold b_11_load_117
    simp only [nm_eq]
    rw [if_pos (show (90 : Int32) ≤ nI 90 from nI_le (Nat.le_refl 90) (by decide))]
    exact ⟨_, rfl, i1⟩
theorem copy_out (hn : 1000 ≤ n) {τ : St} {F : Nat} (hKF : K + F ≤ 8) (h2 : τ.1 0 2 = nI K) (h16 : τ.1 0 16 = nI F) : ∃ e : Int32 × St, lq (b_11_load_77 n) n (0, τ) = some e ∧ e.2.1 0 2 = nI (K + F) ∧ (∀ j, j ≠ 2 → e.2.1 0 j = τ.1 0 j) ∧ (∀ k, k ≠ 0 → k ≠ 10 → k ≠ 11 → e.2.1 k = τ.1 k) ∧ (∀ r, r < K → e.2.2 8 r = τ.2 8 r ∧ e.2.1 10 r = τ.1 10 r) ∧ (∀ j, j < 90 * K → e.2.1 11 j = τ.1 11 j) ∧ ∀ r, r < F → e.2.2 8 (K + r) = τ.2 9 r ∧ e.2.1 10 (K + r) = τ.1 12 r ∧ ∀ j, j < 90 → e.2.1 11 (90 * (K + r) + j) = τ.1 13 (90 * r + j) := by
  refine lq_for (b := b_11_load_77 n) (X := fun e => e.2.1 0 2 = nI (K + F) ∧ (∀ j, j ≠ 2 → e.2.1 0 j = τ.1 0 j) ∧ (∀ k, k ≠ 0 → k ≠ 10 → k ≠ 11 → e.2.1 k = τ.1 k) ∧ (∀ r, r < K → e.2.2 8 r = τ.2 8 r ∧ e.2.1 10 r = τ.1 10 r) ∧ (∀ j, j < 90 * K → e.2.1 11 j = τ.1 11 j) ∧ ∀ r, r < F → e.2.2 8 (K + r) = τ.2 9 r ∧ e.2.1 10 (K + r) = τ.1 12 r ∧ ∀ j, j < 90 → e.2.1 11 (90 * (K + r) + j) = τ.1 13 (90 * r + j)) F (fun i s => ∃ τi, s = (nI i, τi) ∧ τi.1 0 2 = nI (K + i) ∧ (∀ j, j ≠ 2 → τi.1 0 j = τ.1 0 j) ∧ (∀ k, k ≠ 0 → k ≠ 10 → k ≠ 11 → τi.1 k = τ.1 k) ∧ (∀ j, τi.2 9 j = τ.2 9 j) ∧ (∀ r, r < K → τi.2 8 r = τ.2 8 r ∧ τi.1 10 r = τ.1 10 r) ∧ (∀ j, j < 90 * K → τi.1 11 j = τ.1 11 j) ∧ ∀ r, r < i → τi.2 8 (K + r) = τ.2 9 r ∧ τi.1 10 (K + r) = τ.1 12 r ∧ ∀ j, j < 90 → τi.1 11 (90 * (K + r) + j) = τ.1 13 (90 * r + j)) ?_ ?_ (n := n) (by omega) ⟨τ, rfl, h2, fun _ _ => rfl, fun _ _ _ _ => rfl, fun _ => rfl, fun _ _ => ⟨rfl, rfl⟩, fun _ _ => rfl, fun r hr => absurd hr (Nat.not_lt_zero r)⟩
  · rintro i s hi ⟨τi, rfl, i1, i2, i3, i4, i5, i6, i7⟩
    left
    unfold b_11_load_77
    simp only [nm_eq]
    rw [i2 16 (by decide), h16, if_neg (nI_ge hi (by omega)), gd_t (inb_nI (show i < 8 by omega) (by decide)), i1, gd_t (inb_nI (show K + i < 8 by omega) (by decide)), nI_clamp (show i < 2 ^ 31 by omega), nI_clamp (show K + i < 2 ^ 31 by omega), sl_i, i1, gd_t (inb_nI (show K + i < 8 by omega) (by decide)), nI_clamp (show K + i < 2 ^ 31 by omega), i4, i3 12 (by decide) (by decide) (by decide)]
    obtain ⟨e, q1, q2, q3, q4, q5⟩ := copy_in hn (τ := si (sl τi 8 (K + i) (τ.2 9 i)) 10 (K + i) (τ.1 12 i)) (R := K + i) (r := i) (by omega) (by omega) (by rw [si_cell (by decide), sl_i]; exact i1)
    rw [q1, bd_eq, q2 0 (by decide), si_cell (show (0 : Nat) ≠ 10 by decide), sl_i, i1, nI_1, nI_1]
    have e0 : ∀ k, k ≠ 0 → (si e.2 0 2 (nI (K + i + 1))).1 k = e.2.1 k := fun k hk => si_ne hk
    refine ⟨_, rfl, _, rfl, by rw [si_hit, Nat.add_assoc], fun j hj => ?_, fun k k1 k2 k3 => ?_, fun j => ?_, fun r hr => ⟨?_, ?_⟩, fun j hj => ?_, fun r hr => ?_⟩
    · rw [si_place hj, q2 0 (by decide), si_cell (by decide), sl_i]; exact i2 j hj
    · rw [si_ne k1, q2 k k3, si_ne k2, sl_i]; exact i3 k k1 k2 k3
    · rw [si_l, q3, si_l, sl_get, if_neg (fun z => by omega)]; exact i4 j
    · rw [si_l, q3, si_l, sl_get, if_neg (fun z => by omega)]; exact (i5 r hr).1
    · rw [e0 10 (by decide), q2 10 (by decide), si_place (by omega), sl_i]; exact (i5 r hr).2
    · rw [e0 11 (by decide), q4 j (by omega), si_cell (by decide), sl_i]; exact i6 j hj
    · by_cases z : r = i
      · subst z
        refine ⟨?_, ?_, fun j hj => ?_⟩
        · rw [si_l, q3, si_l, sl_get, if_pos ⟨rfl, rfl⟩]
        · rw [e0 10 (by decide), q2 10 (by decide), si_hit]
        · rw [e0 11 (by decide), q5 j hj, si_cell (by decide), sl_i, i3 13 (by decide) (by decide) (by decide)]
      · obtain ⟨o1, o2, o3⟩ := i7 r (by omega)
        refine ⟨?_, ?_, fun j hj => ?_⟩
        · rw [si_l, q3, si_l, sl_get, if_neg (fun y => by omega)]; exact o1
        · rw [e0 10 (by decide), q2 10 (by decide), si_place (by omega), sl_i]; exact o2
        · rw [e0 11 (by decide), q4 _ (by omega), si_cell (by decide), sl_i]; exact o3 j hj
  · rintro s ⟨τi, rfl, i1, i2, i3, i4, i5⟩
    unfold b_11_load_77
    simp only [nm_eq]
    rw [i2 16 (by decide), h16, if_pos (nI_le (Nat.le_refl F) (by omega))]
    exact ⟨_, rfl, i1, i2, i3, i5⟩
end LD
theorem sim_load (n : Nat) (hn : 1000 ≤ n) : Sim Rel (fun σ => f_10_load n σ) (fun τ => f_11_load n τ) := by
  intro σ τ hR
  obtain ⟨D, G, K, L, hD, hG, hK, hL, h0, hS, hC, hO, hB, hV, hg, hRr, hT⟩ := hR
  obtain ⟨z1, z2, z3, z4, z5, z6, z7, z8, z9, z10, z11, z12, z13⟩ := id h0
  show ∃ r σ' τ', f_10_load n σ = some (r, σ') ∧ f_11_load n τ = some (r, τ') ∧ Rel σ' τ'
  have htp : tpR σ τ L (fun i => (τ.1 14 i).toNatClampNeg) := ⟨hL, z12, z13, fun i hi => by
    obtain ⟨bb, q1, q2, q3⟩ := hT i hi
    have e : (τ.1 14 i).toNatClampNeg = bb := by rw [q2, nI_clamp (by omega)]
    show (τ.1 14 i).toNatClampNeg < 256 ∧ τ.1 14 i = nI (τ.1 14 i).toNatClampNeg ∧ σ.1 8 i = sx (τ.1 14 i).toNatClampNeg
    rw [e]; exact ⟨q1, q2, q3⟩⟩
  have hnm : ∀ r, r < K → nmR (σ.1 (44 + r) 0) (τ.2 8 r) := fun r hr => (hRr r hr).1
  unfold f_10_load f_2_readTape f_8_rewind f_11_load
  simp only [nm_eq, bd_eq]
  have e62 : (si (si σ 6 3 0) 6 4 (-1)).1 6 2 = nI K := by rw [si_place (by decide), si_place (by decide)]; exact z8
  rw [e62]
  have x6 : ∀ k, k ≠ 6 → k ≠ 7 → (si (si (si (si (si σ 6 3 0) 6 4 (-1)) 6 5 (nI K)) 6 6 0) 7 4 0).1 k = σ.1 k := fun k k1 k2 => by rw [si_ne k2, si_ne k1, si_ne k1, si_ne k1, si_ne k1]
  have hC0 : CM K σ τ (si (si (si (si (si σ 6 3 0) 6 4 (-1)) 6 5 (nI K)) 6 6 0) 7 4 0) (si (si (si τ 0 23 0) 0 19 0) 0 16 0) 0 := by
    refine ⟨⟨fun k k1 k2 k3 k4 => x6 k k1 k2, ?_, ?_, fun r hr => ⟨x6 _ (by omega) (by omega), x6 _ (by omega) (by omega), x6 _ (by omega) (by omega), x6 _ (by omega) (by omega)⟩⟩, ⟨fun k k1 _ _ _ => by rw [si_ne k1, si_ne k1, si_ne k1], fun j j1 j2 => by rw [si_place (by omega), si_place (by omega), si_place (by omega)], fun _ => rfl⟩, ?_, ?_, ?_, ?_, by omega, fun r hr => absurd hr (Nat.not_lt_zero r)⟩
    · rw [si_cell (by decide), si_place (by decide), si_place (by decide), si_place (by decide), si_place (by decide)]
    · rw [si_place (by decide), si_cell (by decide), si_cell (by decide), si_cell (by decide), si_cell (by decide)]
    · rw [si_cell (by decide), si_place (by decide), si_place (by decide), si_place (by decide), si_hit]
    · rw [si_cell (by decide), si_place (by decide), si_place (by decide), si_hit]
    · rw [si_place (by decide), si_place (by decide), si_hit]
    · rw [si_cell (by decide), si_place (by decide), si_hit]; rfl
  obtain ⟨σs, τ1, a, e, t, n1, n2, n3, n4, n5⟩ := adv hn htp (i := 0) (e := 0) (w := 0) (Nat.le_refl 0) (Nat.zero_le L) (show (si (si (si (si (si σ 6 3 0) 6 4 (-1)) 6 5 (nI K)) 6 6 0) 7 4 0).1 7 4 = nI 0 by rw [si_hit]; rfl) (show (si (si (si τ 0 23 0) 0 19 0) 0 16 0).1 0 19 = nI 0 by rw [si_place (by decide), si_hit]; rfl) hC0 (by rw [si_cell (by decide), si_hit]; rfl)
  rw [n1, bd_eq]
  obtain ⟨⟨g, τf⟩, l1, l2⟩ := load_loop hn htp hK hnm z9 n2 (F := 0) (by rw [n4.2.1 16 (by omega), si_hit]; rfl)
  rw [l1, bd_eq]
  simp only
  simp only at l2
  unfold j_11_load_66
  simp only [nm_eq]
  rcases l2 with ⟨rfl, σf, q1, k, aa, b1, b2, b3, b4, b5, b6, ⟨c1, c2, c3, c4⟩, ⟨d1, d2, d3⟩⟩ | ⟨rfl, σf, F, q1, ⟨⟨c1, c2, c3, c4⟩, ⟨d1, d2, d3⟩, e1, e2, e3, e4, e5, e6⟩, f16⟩
  · -- a fault
    obtain ⟨w1, w2, hlq⟩ := q1 n (by omega)
    rw [show lq (b_2_readTape_34 n) n (1, 0, _) = some (w1, w2, σf) from hlq, bd_eq]
    simp only
    rw [b3, if_neg (nI_ne0 (by omega) (by omega)), if_pos trivial, if_pos trivial]
    simp only [bd_eq]
    have y6 : (si σf 7 1 0).1 6 3 = nI k := by rw [si_cell (by decide)]; exact b3
    rw [y6, if_neg (nI_ne0 (by omega) (by omega))]
    have t24 : (si (si τf 0 18 0) 0 25 ((si τf 0 18 0).1 0 23)).1 0 24 = nI aa := by rw [si_place (by decide), si_place (by decide)]; exact b6
    have t23 : (si τf 0 18 0).1 0 23 = nI k := by rw [si_place (by decide)]; exact b4
    rw [t24, t23]
    refine ⟨_, _, _, rfl, rfl, ?_⟩
    have hx : ∀ k, k ≠ 6 → k ≠ 7 → k ≠ 10 → (k < 44 ∨ 76 ≤ k) → (si σf 7 1 0).1 k = σ.1 k := fun k k1 k2 k3 k4 => by rw [si_ne k2]; exact c1 k k1 k2 k3 k4
    have hm : ∀ j, j ≠ 0 → j ≠ 12 → j ≠ 13 → j ≠ 15 → (si (si (si τf 0 18 0) 0 25 (nI k)) 0 26 (nI aa)).1 j = τ.1 j := fun j k1 k2 k3 k4 => by rw [si_ne k1, si_ne k1, si_ne k1]; exact d1 j k1 k2 k3 k4
    have hm0 : ∀ j, (j < 16 ∨ j = 17 ∨ 26 < j) → j ≠ 28 → (si (si (si τf 0 18 0) 0 25 (nI k)) 0 26 (nI aa)).1 0 j = τ.1 0 j := fun j j1 j2 => by rw [si_place (by omega), si_place (by omega), si_place (by omega)]; exact d2 j (by omega) j2
    refine ⟨D, G, K, 0, hD, hG, hK, Nat.zero_le _, ?_, rS_c (fun s j hs hj => by rw [hx _ (by omega) (by omega) (by omega) (by omega)]) (fun k s h1 h2 hs => by rw [hm _ (by omega) (by omega) (by omega) (by omega)]) hS, rC_c (fun s j hs _ hj => by rw [hx _ (by omega) (by omega) (by omega) (by omega)]) (fun k s h1 h2 hs => by rw [hm _ (by omega) (by omega) (by omega) (by omega)]) hC, rO_c (fun k h1 h2 => hx k (by omega) (by omega) (by omega) (by omega)) (hm _ (by omega) (by omega) (by omega) (by omega)) hO, rB_c (fun k h1 h2 => hx k (by omega) (by omega) (by omega) (by omega)) (hm _ (by omega) (by omega) (by omega) (by omega)) (hm _ (by omega) (by omega) (by omega) (by omega)) hB, rV_c (hx _ (by omega) (by omega) (by omega) (by omega)) (hm _ (by omega) (by omega) (by omega) (by omega)) hV, rG_c (fun k h1 h2 => hx k (by omega) (by omega) (by omega) (by omega)) (fun k h1 h2 => hm k (by omega) (by omega) (by omega) (by omega)) hg, fun r hr => ?_, fun i hi => absurd hi (Nat.not_lt_zero i)⟩
    · refine ⟨?_, ?_, ?_, ?_, ?_, ?_, ?_, ?_, ?_, ?_, ?_, si_hit, ?_⟩
      · rw [hx 0 (by decide) (by decide) (by decide) (by omega)]; exact z1
      · rw [hm0 0 (by omega) (by decide)]; exact z2
      · rw [hx 0 (by decide) (by decide) (by decide) (by omega), hm0 53 (by omega) (by decide)]; exact z3
      · rw [hx 0 (by decide) (by decide) (by decide) (by omega), hm0 59 (by omega) (by decide)]; exact z4
      · rw [hx 0 (by decide) (by decide) (by decide) (by omega), hm0 60 (by omega) (by decide)]; exact z5
      · rw [hx 1 (by decide) (by decide) (by decide) (by omega)]; exact z6
      · rw [hm0 1 (by omega) (by decide)]; exact z7
      · rw [si_cell (by decide), c2]; exact z8
      · rw [hm0 2 (by omega) (by decide)]; exact z9
      · rw [y6, si_place (by decide), si_hit]
      · rw [si_cell (by decide), b5, si_hit]
      · rw [si_place (by decide), si_place (by decide), si_hit]; rfl
    · obtain ⟨o1, o2, o3, o4⟩ := c4 r hr
      rw [show (si (si (si τf 0 18 0) 0 25 (nI k)) 0 26 (nI aa)).2 8 r = τ.2 8 r from d3 r, hm 10 (by decide) (by decide) (by decide) (by decide), hm 11 (by decide) (by decide) (by decide) (by decide)]
      exact rgR_c (by rw [si_ne (by omega)]; exact o1) (by rw [si_ne (by omega)]; exact o2) (by rw [si_ne (by omega)]; exact o3) (by rw [si_ne (by omega)]; exact o4) (fun _ _ => rfl) (hRr r hr)
  · -- all is well
    obtain ⟨w1, w2, hlq⟩ := q1 n (by omega)
    rw [show lq (b_2_readTape_34 n) n (1, 0, _) = some (w1, w2, σf) from hlq, bd_eq]
    simp only
    rw [e1, if_pos rfl, if_neg (show ¬ (1 : Int32) = 0 by decide), if_neg (show ¬ (1 : Int32) = 0 by decide), e4]
    simp only [bd_eq]
    have y6 : (si (si σf 6 2 (nI (K + F))) 7 1 0).1 6 3 = 0 := by rw [si_cell (by decide), si_place (by decide)]; exact e1
    have y2 : (si (si σf 6 2 (nI (K + F))) 7 1 0).1 6 2 = nI (K + F) := by rw [si_cell (by decide), si_hit]
    rw [y6, if_pos rfl, y2]
    have t23 : (si τf 0 18 0).1 0 23 = 0 := by rw [si_place (by decide)]; exact e3
    rw [t23]
    have hf2 : τf.1 0 2 = nI K := by rw [d2 2 (by omega) (by decide)]; exact z9
    obtain ⟨⟨zz, τ9⟩, m1, m2, m3, m4, m5, m6, m7⟩ := copy_out hn (K := K) (F := F) (τ := si (si (si τf 0 18 0) 0 25 0) 0 26 (-1)) e5 (by rw [si_place (by decide), si_place (by decide), si_place (by decide)]; exact hf2) (by rw [si_place (by decide), si_place (by decide), si_place (by decide)]; exact f16)
    simp only at m2 m3 m4 m5 m6 m7
    rw [m1, bd_eq]
    simp only
    rw [m2]
    refine ⟨_, _, _, rfl, rfl, ?_⟩
    have hx : ∀ k, k ≠ 6 → k ≠ 7 → k ≠ 10 → (k < 44 ∨ 76 ≤ k) → (si (si σf 6 2 (nI (K + F))) 7 1 0).1 k = σ.1 k := fun k k1 k2 k3 k4 => by rw [si_ne k2, si_ne k1]; exact c1 k k1 k2 k3 k4
    have hx' : ∀ k, k ≠ 6 → k ≠ 7 → (si (si σf 6 2 (nI (K + F))) 7 1 0).1 k = σf.1 k := fun k k1 k2 => by rw [si_ne k2, si_ne k1]
    have hm : ∀ j, j ≠ 0 → j ≠ 10 → j ≠ 11 → j ≠ 12 → j ≠ 13 → j ≠ 15 → τ9.1 j = τ.1 j := fun j k1 k2 k3 k4 k5 k6 => by rw [m4 j k1 k2 k3, si_ne k1, si_ne k1, si_ne k1]; exact d1 j k1 k4 k5 k6
    have hm0 : ∀ j, j ≠ 2 → (j < 16 ∨ j = 17 ∨ 26 < j) → j ≠ 28 → τ9.1 0 j = τ.1 0 j := fun j j0 j1 j2 => by rw [m3 j j0, si_place (by omega), si_place (by omega), si_place (by omega)]; exact d2 j (by omega) j2
    refine ⟨D, G, K + F, 0, hD, hG, e5, Nat.zero_le _, ?_, rS_c (fun s j hs hj => by rw [hx _ (by omega) (by omega) (by omega) (by omega)]) (fun k s h1 h2 hs => by rw [hm _ (by omega) (by omega) (by omega) (by omega) (by omega) (by omega)]) hS, rC_c (fun s j hs _ hj => by rw [hx _ (by omega) (by omega) (by omega) (by omega)]) (fun k s h1 h2 hs => by rw [hm _ (by omega) (by omega) (by omega) (by omega) (by omega) (by omega)]) hC, rO_c (fun k h1 h2 => hx k (by omega) (by omega) (by omega) (by omega)) (hm _ (by omega) (by omega) (by omega) (by omega) (by omega) (by omega)) hO, rB_c (fun k h1 h2 => hx k (by omega) (by omega) (by omega) (by omega)) (hm _ (by omega) (by omega) (by omega) (by omega) (by omega) (by omega)) (hm _ (by omega) (by omega) (by omega) (by omega) (by omega) (by omega)) hB, rV_c (hx _ (by omega) (by omega) (by omega) (by omega)) (hm _ (by omega) (by omega) (by omega) (by omega) (by omega) (by omega)) hV, ?_, fun r hr => ?_, fun i hi => absurd hi (Nat.not_lt_zero i)⟩
    · refine ⟨?_, ?_, ?_, ?_, ?_, ?_, ?_, y2, m2, ?_, ?_, si_hit, ?_⟩
      · rw [hx 0 (by decide) (by decide) (by decide) (by omega)]; exact z1
      · rw [hm0 0 (by decide) (by omega) (by decide)]; exact z2
      · rw [hx 0 (by decide) (by decide) (by decide) (by omega), hm0 53 (by decide) (by omega) (by decide)]; exact z3
      · rw [hx 0 (by decide) (by decide) (by decide) (by omega), hm0 59 (by decide) (by omega) (by decide)]; exact z4
      · rw [hx 0 (by decide) (by decide) (by decide) (by omega), hm0 60 (by decide) (by omega) (by decide)]; exact z5
      · rw [hx 1 (by decide) (by decide) (by decide) (by omega)]; exact z6
      · rw [hm0 1 (by decide) (by omega) (by decide)]; exact z7
      · rw [y6, m3 25 (by decide), si_place (by decide), si_hit]
      · rw [si_cell (by decide), si_place (by decide), e2, m3 26 (by decide), si_hit]
      · rw [m3 18 (by decide), si_place (by decide), si_place (by decide), si_hit]; rfl
    · have hg2 := rG_c (σ' := si (si σf 6 2 (nI (K + F))) 7 1 0) (τ' := τ9) (fun k h1 h2 => hx k (by omega) (by omega) (by omega) (by omega)) (fun k h1 h2 => hm k (by omega) (by omega) (by omega) (by omega) (by omega) (by omega)) hg
      refine ⟨hg2.1, fun g hgG => ?_⟩
      obtain ⟨r, q, bb, o1, o2, o3, o4⟩ := hg2.2 g hgG
      exact ⟨r, q, bb, o1, by omega, o3, o4⟩
    · by_cases hrK : r < K
      · obtain ⟨o1, o2, o3, o4⟩ := c4 r hrK
        obtain ⟨p1, p2⟩ := m5 r hrK
        rw [p1, p2, show (si (si (si τf 0 18 0) 0 25 0) 0 26 (-1)).2 8 r = τ.2 8 r from d3 r, show (si (si (si τf 0 18 0) 0 25 0) 0 26 (-1)).1 10 r = τ.1 10 r from by rw [si_cell (by decide), si_cell (by decide), si_cell (by decide), d1 10 (by decide) (by decide) (by decide) (by decide)]]
        exact rgR_c (by rw [hx' _ (by omega) (by omega)]; exact o1) (by rw [hx' _ (by omega) (by omega)]; exact o2) (by rw [hx' _ (by omega) (by omega)]; exact o3) (by rw [hx' _ (by omega) (by omega)]; exact o4) (fun j hj => by
          show τ9.1 11 (90 * r + j) = τ.1 11 (90 * r + j)
          rw [m6 _ (by omega), si_cell (by decide), si_cell (by decide), si_cell (by decide), d1 11 (by decide) (by decide) (by decide) (by decide)]) (hRr r hrK)
      · obtain ⟨r', rfl⟩ : ∃ r', r = K + r' := ⟨r - K, by omega⟩
        obtain ⟨p1, p2, p3⟩ := m7 r' (by omega)
        rw [p1, p2, show (si (si (si τf 0 18 0) 0 25 0) 0 26 (-1)).2 9 r' = τf.2 9 r' from rfl, show (si (si (si τf 0 18 0) 0 25 0) 0 26 (-1)).1 12 r' = τf.1 12 r' from by rw [si_cell (by decide), si_cell (by decide), si_cell (by decide)]]
        exact rgR_c (hx' _ (by omega) (by omega)) (hx' _ (by omega) (by omega)) (hx' _ (by omega) (by omega)) (hx' _ (by omega) (by omega)) (fun j hj => by
          show τ9.1 11 (90 * (K + r') + j) = τf.1 13 (90 * r' + j)
          rw [p3 j hj, si_cell (by decide), si_cell (by decide), si_cell (by decide)]) (e6 r' (by omega))
