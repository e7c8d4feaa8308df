/-! next -/
theorem sm_c {f f' : Nat → Int32} : ∀ {n : Nat}, (∀ j, j < n → f j = f' j) → sm f n = sm f' n := by
  intro n
  induction n with
  | zero => intro _; rfl
  | succ n ih => intro h; rw [sm, sm, ih (fun j hj => h j (by omega)), h n (by omega)]
theorem nvG_c {o o' : Nat → Int32} {rt rt' gl gl' dn dn' : Int32} {j : Nat} (h : ∀ k, k < 9 → o k = o' k) (h1 : rt = rt') (h2 : gl = gl') (h3 : dn = dn') (hj : j < 9) : nvG o rt gl dn j = nvG o' rt' gl' dn' j := by
  subst h1 h2 h3
  unfold nvG
  rw [h 5 (by omega), h 6 (by omega), h 7 (by omega), h 8 (by omega), h j hj]
theorem pour_sim (n : Nat) (hn : 1000 ≤ n) {σ τ : St} {D : Nat} (hD : D ≤ 99) (hx : σ.1 0 3 = nI D) (hm : τ.1 0 0 = nI D) (hO : rO σ τ) (hp : σ.1 0 6 = τ.1 0 60) : ∃ σ' z τ', f_10_pourOut n σ = some σ' ∧ lq (b_11_next_332 n) n (0, τ) = some (z, τ') ∧ rO σ' τ' ∧ σ'.1 0 6 = τ'.1 0 60 ∧ (∀ k, k ≠ 0 → (k < 26 ∨ 30 ≤ k) → σ'.1 k = σ.1 k) ∧ (∀ j, j ≠ 6 → σ'.1 0 j = σ.1 0 j) ∧ (∀ k, k ≠ 0 → k ≠ 36 → τ'.1 k = τ.1 k) ∧ (∀ j, j ≠ 60 → τ'.1 0 j = τ.1 0 j) ∧ τ'.2 = τ.2 := by
  unfold f_10_pourOut
  simp only [nm_eq]
  rw [hx]
  by_cases h20 : D < 20
  · have hneg : nI D - 20 < 0 := pk_sneg (b := 20) (by decide) h20
    rw [if_neg (Int32.not_le.mpr hneg)]
    obtain ⟨n', rfl⟩ : ∃ n', n = n' + 1 := ⟨n - 1, by omega⟩
    have hb : b_11_next_332 (n' + 1) (0, τ) = some (.inr (0, τ)) := by
      unfold b_11_next_332
      simp only [nm_eq]
      rw [if_neg (by decide), hm, if_pos (show nI D < (20 : Int32) from nI_lt (b := 20) h20 (by decide))]
    refine ⟨σ, 0, τ, rfl, by rw [lq, hb]; rfl, hO, hp, fun _ _ _ => rfl, fun _ _ => rfl, fun _ _ _ => rfl, fun _ _ => rfl, rfl⟩
  · have h20 : 20 ≤ D := by omega
    have hv : nI D - 20 = nI (D - 20) := pk_sub (b := 20) h20
    rw [hv, if_pos (nI_pos' (by omega))]
    obtain ⟨e1, e2, q1, q2, q3, q4, q5, q6, q7, q8, q9⟩ := lq_for2 (b1 := b_10_pourOut_15 n (nI (D - 20))) (b2 := b_11_next_332 n) (X := fun (e1 e2 : Int32 × St) => rO e1.2 e2.2 ∧ e1.2.1 0 6 = e2.2.1 0 60 ∧ (∀ k, k ≠ 0 → (k < 26 ∨ 30 ≤ k) → e1.2.1 k = σ.1 k) ∧ (∀ j, j ≠ 6 → e1.2.1 0 j = σ.1 0 j) ∧ (∀ k, k ≠ 0 → k ≠ 36 → e2.2.1 k = τ.1 k) ∧ (∀ j, j ≠ 60 → e2.2.1 0 j = τ.1 0 j) ∧ e2.2.2 = τ.2) 4 (fun i s1 s2 => ∃ σi τi, s1 = (nI i, σi) ∧ s2 = (nI i, τi) ∧ rO σi τi ∧ σi.1 0 6 = τi.1 0 60 ∧ (∀ k, k ≠ 0 → (k < 26 ∨ 30 ≤ k) → σi.1 k = σ.1 k) ∧ (∀ j, j ≠ 6 → σi.1 0 j = σ.1 0 j) ∧ (∀ k, k ≠ 0 → k ≠ 36 → τi.1 k = τ.1 k) ∧ (∀ j, j ≠ 60 → τi.1 0 j = τ.1 0 j) ∧ τi.2 = τ.2) (by
      rintro i s1 s2 hi ⟨σi, τi, rfl, rfl, i1, i2, i3, i4, i5, i6, i7⟩
      have hm' : τi.1 0 0 = nI D := by rw [i6 0 (by decide)]; exact hm
      have hidx : (100 : Int32) * nI i + nI D - 20 = nI (100 * i + (D - 20)) := by
        rw [show (100 : Int32) * nI i + nI D = nI (100 * i + D) from mul_nI 100 i D, show nI (100 * i + D) - 20 = nI (100 * i + D - 20) from pk_sub (b := 20) (by omega), show 100 * i + D - 20 = 100 * i + (D - 20) by omega]
      unfold b_10_pourOut_15 b_11_next_332
      simp only [nm_eq]
      rw [if_neg (show ¬ (4 : Int32) ≤ nI i from nI_ge (b := 4) hi (by decide)), if_neg (show ¬ (4 : Int32) ≤ nI i from nI_ge (b := 4) hi (by decide)), gd_t (inb_nI hi (by decide)), gd_t (inb_nI (show D - 20 < 100 by omega) (by decide)), nI_clamp (show i < 2 ^ 31 by omega), nI_clamp (show D - 20 < 2 ^ 31 by omega), nI_1]
      simp only [si_place (show (0 : Nat) ≠ 60 by decide), hm']
      rw [if_neg (show ¬ nI D < (20 : Int32) from nI_nlt (b := 20) h20 (by omega)), hidx, gd_t (inb_nI (show 100 * i + (D - 20) < 400 by omega) (by decide)), gd_t (inb_nI (show 100 * i + (D - 20) < 400 by omega) (by decide)), nI_clamp (show 100 * i + (D - 20) < 2 ^ 31 by omega), i1 i (D - 20) hi (by omega), i2]
      refine ⟨_, _, rfl, rfl, _, _, rfl, rfl, fun s x hs hx => ?_, ?_, fun k k1 k2 => ?_, fun j j1 => ?_, fun k k1 k2 => ?_, fun j j1 => ?_, i7⟩
      · rw [si_get _ (26 + i) _ _ (26 + s), si_get _ 36 _ _ 36]
        by_cases z : s = i ∧ x = D - 20
        · rw [if_pos ⟨by omega, z.2⟩, if_pos ⟨rfl, by omega⟩]
        · rw [if_neg (fun u => z ⟨by omega, u.2⟩), if_neg (fun u => z (by omega)), si_cell (by omega), si_cell (by decide)]
          exact i1 s x hs hx
      · rw [si_cell (by omega), si_hit, si_cell (by decide), si_hit]
      · rw [si_ne (by omega), si_ne k1]; exact i3 k k1 k2
      · rw [si_cell (by omega), si_place j1]; exact i4 j j1
      · rw [si_ne k2, si_ne k1]; exact i5 k k1 k2
      · rw [si_cell (by decide), si_place j1]; exact i6 j j1) (by
      rintro s1 s2 ⟨σi, τi, rfl, rfl, i1⟩
      unfold b_10_pourOut_15 b_11_next_332
      simp only [nm_eq]
      rw [if_pos (show (4 : Int32) ≤ nI 4 from nI_le (Nat.le_refl 4) (by decide)), if_pos (show (4 : Int32) ≤ nI 4 from nI_le (Nat.le_refl 4) (by decide))]
      exact ⟨_, _, rfl, rfl, i1⟩) (n1 := n) (n2 := n) (by omega) (by omega) (s1 := (0, σ)) (s2 := (0, τ)) ⟨σ, τ, rfl, rfl, hO, hp, fun _ _ _ => rfl, fun _ _ => rfl, fun _ _ _ => rfl, fun _ _ => rfl, rfl⟩
    rw [q1, bd_eq]
    exact ⟨e1.2, e2.1, e2.2, rfl, q2, q3, q4, q5, q6, q7, q8, q9⟩
theorem close_sim (n : Nat) (hn : 1000 ≤ n) {σ τ : St} {D G K Lt : Nat} {l : List Nat} {S : DS} (hD : D < 99) (hG : G ≤ 8) (hK : K ≤ 8) (hL : Lt ≤ 600) (h0 : r0 σ τ D G K Lt) (hS : rS σ τ) (hC : rC σ τ) (hO : rO σ τ) (hB : rB σ τ) (hV : rV σ τ) (hg : rG σ τ G K) (hR : rR σ τ K) (hT : rT σ τ Lt) (hX : dyX σ l S) (hM : dyM τ l S) (hmem : ∀ g, g < G → thO τ D g = true → g ∈ l) : ∃ r σ' τ', j_10_next_90 n σ = some (r, σ') ∧ ((lq (b_11_next_89 n) n (0, τ)).bind fun t2043 => (lq (b_11_next_226 n) n (0, t2043.2)).bind fun t3064 => (lq (b_11_next_332 n) n (0, si (si t3064.2 0 0 ((t3064.2.1 0 0) + 1)) 0 53 0)).bind fun t4086 => some ((t4086.2.1 0 0), t4086.2)) = some (r, τ') ∧ Rel σ' τ' := by
  obtain ⟨hEX, hEM, hEW⟩ := env_Rel (d := D) (by omega) hG hK h0 hS hB hg hR
  obtain ⟨z1, z2, z3, z4, z5, z6, z7, z8, z9, z10, z11, z12, z13⟩ := id h0
  -- the class
  obtain ⟨σ2, a1, a2, a3⟩ := guests_X n hn hEX hEW z1
  obtain ⟨σ3, b1, b2, b3, b4⟩ := water_X9 n hn (D := D) (by omega) (show σ2.1 0 3 = nI D by rw [a2 0 (by omega)]; exact z1)
  -- the reference
  obtain ⟨w1, τ2, c1, c2, c3, c4, c5⟩ := water_M9 n hn (τ := τ) (D := D) (by omega) z2
  have hEM2 := enM_c (τ' := τ2) (fun k k1 k2 => c2 k (by omega)) (by rw [c2 0 (by omega)]) hEM
  obtain ⟨w2, τ3, d1, d2, d3, d4⟩ := guests_M n hn hEM2 hEW (by rw [c2 0 (by omega)]; exact z2)
  have x3 : ∀ k, (k < 22 ∨ 44 ≤ k) → σ3.1 k = σ.1 k := fun k hk => by rw [b2 k (by omega), a2 k (by omega)]
  have m3 : ∀ k, (k < 21 ∨ (25 ≤ k ∧ k < 36) ∨ 41 ≤ k) → τ3.1 k = τ.1 k := fun k hk => by rw [d2 k (by omega), c2 k (by omega)]
  have hsm : ∀ s, s < 4 → sm (σ2.1 (116 + s)) 48 = sm (fun q => τ.1 25 (48 * s + q)) 48 := fun s hs => sm_c (fun q hq => by
    rw [a2 (116 + s) (by omega), hX.2.1 s q hs hq, hM.2.1 s q hs hq])
  have hgv : ∀ s, s < 4 → σ2.1 (22 + s) 0 * (σ2.1 (22 + s) 2 - σ2.1 (22 + s) 1) = τ.1 1 s * (τ.1 3 s - τ.1 2 s) := fun s hs => by
    obtain ⟨a, b, c, d, -, -, -, -, ⟨p1, p2⟩, ⟨p3, p4⟩, ⟨p5, p6⟩, -⟩ := hS s hs
    rw [a2 (22 + s) (by omega), p1, p3, p5, p2, p4, p6]
  unfold j_10_next_90
  rw [a1, bd_eq, b1, bd_eq, c1, bd_eq]
  simp only [nm_eq]
  rw [d1, bd_eq]
  simp only
  have e3 : σ3.1 0 3 = nI D := by rw [x3 0 (by omega)]; exact z1
  have f0 : τ3.1 0 0 = nI D := by rw [m3 0 (by omega)]; exact z2
  rw [e3, f0, nI_1]
  have hO4 : rO (si (si σ3 0 3 (nI (D + 1))) 0 4 0) (si (si τ3 0 0 (nI (D + 1))) 0 53 0) := fun s x hs hx => by
    rw [si_cell (by omega), si_cell (by omega), si_cell (by decide), si_cell (by decide), b4 s x hs, d2 36 (by omega), c5 s x hs hx, hgv s hs, hsm s hs, a2 (26 + s) (by omega), hO s x hs hx]
  obtain ⟨σ5, w3, τ5, g1, g2, g3, g4, g5, g6, g7, g8, g9⟩ := pour_sim n hn (σ := si (si σ3 0 3 (nI (D + 1))) 0 4 0) (τ := si (si τ3 0 0 (nI (D + 1))) 0 53 0) (D := D + 1) (by omega) (by rw [si_place (by decide), si_hit]) (by rw [si_place (by decide), si_hit]) hO4 (by rw [si_place (by decide), si_place (by decide), si_place (by decide), si_place (by decide), x3 0 (by omega), m3 0 (by omega)]; exact z5)
  rw [g1, bd_eq, g2, bd_eq]
  have y5 : ∀ k, k ≠ 0 → (k < 26 ∨ 30 ≤ k) → σ5.1 k = σ3.1 k := fun k k1 k2 => by rw [g5 k k1 k2, si_ne k1, si_ne k1]
  have n5 : ∀ k, k ≠ 0 → k ≠ 36 → τ5.1 k = τ3.1 k := fun k k1 k2 => by rw [g7 k k1 k2, si_ne k1, si_ne k1]
  have u0 : σ5.1 0 3 = nI (D + 1) := by rw [g6 3 (by decide), si_place (by decide), si_hit]
  have v0 : τ5.1 0 0 = nI (D + 1) := by rw [g8 0 (by decide), si_place (by decide), si_hit]
  have o5 : ∀ j, j ≠ 3 → j ≠ 4 → j ≠ 6 → σ5.1 0 j = σ.1 0 j := fun j j1 j2 j3 => by rw [g6 j j3, si_place j2, si_place j1, x3 0 (by omega)]
  have p5 : ∀ j, j ≠ 0 → j ≠ 53 → j ≠ 60 → τ5.1 0 j = τ.1 0 j := fun j j1 j2 j3 => by rw [g8 j j3, si_place j2, si_place j1, m3 0 (by omega)]
  refine ⟨nI (D + 1), σ5, τ5, by rw [u0], by rw [v0], D + 1, G, K, Lt, by omega, hG, hK, hL, ?_, ?_, ?_, g3, ?_, ?_, ⟨fun g j hg8 hj => ?_, fun g hgG => ?_⟩, ?_, ?_⟩
  · refine ⟨u0, v0, ?_, ?_, g4, ?_, ?_, ?_, ?_, ?_, ?_, ?_, ?_⟩
    · rw [g6 4 (by decide), si_hit, g8 53 (by decide), si_hit]
    · rw [o5 5 (by decide) (by decide) (by decide), p5 59 (by decide) (by decide) (by decide)]; exact z4
    · rw [y5 1 (by decide) (by omega), x3 1 (by omega)]; exact z6
    · rw [p5 1 (by decide) (by decide) (by decide)]; exact z7
    · rw [y5 6 (by decide) (by omega), x3 6 (by omega)]; exact z8
    · rw [p5 2 (by decide) (by decide) (by decide)]; exact z9
    · rw [y5 6 (by decide) (by omega), x3 6 (by omega), p5 25 (by decide) (by decide) (by decide)]; exact z10
    · rw [y5 6 (by decide) (by omega), x3 6 (by omega), p5 26 (by decide) (by decide) (by decide)]; exact z11
    · rw [y5 7 (by decide) (by omega), x3 7 (by omega)]; exact z12
    · rw [p5 18 (by decide) (by decide) (by decide)]; exact z13
  · refine rS_c (fun s j hs hj => ?_) (fun k s k1 k2 hs => ?_) hS
    · rw [y5 (22 + s) (by omega) (by omega), b3 s j hs, a2 (22 + s) (by omega)]
      unfold wvS
      rw [if_neg (by omega), if_neg (by omega), if_neg (by omega), if_neg (by omega)]
    · rw [n5 k (by omega) (by omega), m3 k (by omega)]
  · intro s hs
    obtain ⟨q1, q2, q3, q4⟩ := hC s hs
    obtain ⟨r1, r2, r3, r4⟩ := c4 s hs
    rw [y5 (22 + s) (by omega) (by omega), b3 s 4 hs, b3 s 5 hs, b3 s 6 hs, b3 s 7 hs, hgv s hs, hsm s hs, n5 37 (by decide) (by decide), n5 38 (by decide) (by decide), n5 39 (by decide) (by decide), n5 40 (by decide) (by decide), d2 37 (by omega), d2 38 (by omega), d2 39 (by omega), d2 40 (by omega), r1, r2, r3, r4, ← q1, ← q2, ← q3, ← q4, a2 (22 + s) (by omega)]
    exact ⟨rfl, rfl, rfl, rfl⟩
  · refine rB_c (fun k k1 k2 => ?_) ?_ ?_ hB
    · rw [y5 k (by omega) (by omega), b2 k (by omega), a2 k (by omega)]
    · rw [n5 5 (by decide) (by decide), m3 5 (by omega)]
    · rw [n5 7 (by decide) (by decide), m3 7 (by omega)]
  · refine rV_c ?_ ?_ hV
    · rw [y5 5 (by decide) (by omega), x3 5 (by omega)]
    · rw [n5 6 (by decide) (by decide), m3 6 (by omega)]
  · rw [y5 (36 + g) (by omega) (by omega), b2 (36 + g) (by omega), a3 g j hg8, n5 (16 + j) (by omega) (by omega), d4 g j hg8 hj]
    by_cases u : g < G ∧ thO τ D g = true
    · rw [if_pos u, if_pos u]
      have hml := hmem g u.1 u.2
      have hrX := (hX.1 g hml).2
      have hrM := (hM.1 g hml).2
      refine nvG_c (fun k hk => ?_) ?_ ?_ ?_ hj
      · rw [c2 (16 + k) (by omega)]; exact hg.1 g k hg8 hk
      · rw [c2 6 (by omega)]; exact hV _ (hEW.2.2.2 g u.1).2.2
      · rw [c2 29 (by omega)]
        generalize S.1 g = x at hrX hrM
        obtain ⟨now, str, len, ov, gl, lo, ac, T, B⟩ := x
        exact hrX.2.2.2.2.1.trans hrM.2.2.1.symm
      · rw [c2 27 (by omega)]
        generalize S.1 g = x at hrX hrM
        obtain ⟨now, str, len, ov, gl, lo, ac, T, B⟩ := x
        exact hrX.2.2.1.trans hrM.1.symm
    · rw [if_neg u, if_neg u, c2 (16 + j) (by omega)]; exact hg.1 g j hg8 hj
  · rw [n5 16 (by decide) (by decide), n5 17 (by decide) (by decide), n5 20 (by decide) (by decide), m3 16 (by omega), m3 17 (by omega), m3 20 (by omega)]
    exact hg.2 g hgG
  · refine rR_c hK (fun k k1 k2 => ?_) ?_ ?_ ?_ hR
    · rw [y5 k (by omega) (by omega), x3 k (by omega)]
    · rw [g9]; show τ3.2 8 = τ.2 8; rw [d3, c3]
    · rw [n5 10 (by decide) (by decide), m3 10 (by omega)]
    · rw [n5 11 (by decide) (by decide), m3 11 (by omega)]
  · refine rT_c ?_ ?_ hT
    · rw [y5 8 (by decide) (by omega), x3 8 (by omega)]
    · rw [n5 14 (by decide) (by decide), m3 14 (by omega)]
