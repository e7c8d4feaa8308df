/-! a day ends: guests and water are counted -/
def nvG (o : Nat → Int32) (rt gl dn : Int32) (j : Nat) : Int32 := if j = 5 then o 5 + 1 else if j = 6 then o 6 + rt else if j = 7 then o 7 + gl else if j = 8 then o 8 + dn else o j
def wvS (o : Nat → Int32) (g t : Int32) (j : Nat) : Int32 := if j = 4 then o 4 + g else if j = 5 then o 5 + t else if j = 6 then o 6 + (g - t) / 10 else if j = 7 then o 7 + (g - t - (g - t) / 10 * 10) else o j
section CL
variable {c : Cf} {d G : Nat} {P : Pg} {th : Nat → Bool} {rk : Nat → Nat}
theorem guests_X (n : Nat) (hn : 1000 ≤ n) {σ : St} (hE : enX σ c d G P th rk) (hW : enW c d G P rk) (hd : σ.1 0 3 = nI d) : ∃ σ', f_10_countGuests n σ = some σ' ∧ (∀ k, (k < 36 ∨ 44 ≤ k) → σ'.1 k = σ.1 k) ∧ ∀ g j, g < 8 → σ'.1 (36 + g) j = if g < G ∧ th g = true then nvG (σ.1 (36 + g)) (σ.1 5 (rk g)) (σ.1 (76 + g) 4) (σ.1 (76 + g) 2) j else σ.1 (36 + g) j := by
  have hG := hW.2.2.1
  obtain ⟨e, he, hX⟩ := lq_for (b := b_10_countGuests_2 n) (X := fun e => (∀ k, (k < 36 ∨ 44 ≤ k) → e.2.1 k = σ.1 k) ∧ ∀ g j, g < 8 → e.2.1 (36 + g) j = if g < G ∧ th g = true then nvG (σ.1 (36 + g)) (σ.1 5 (rk g)) (σ.1 (76 + g) 4) (σ.1 (76 + g) 2) j else σ.1 (36 + g) j) G (fun i s => ∃ σi, s = (nI i, σi) ∧ (∀ k, (k < 36 ∨ 44 ≤ k) → σi.1 k = σ.1 k) ∧ ∀ g j, g < 8 → σi.1 (36 + g) j = if g < i ∧ th g = true then nvG (σ.1 (36 + g)) (σ.1 5 (rk g)) (σ.1 (76 + g) 4) (σ.1 (76 + g) 2) j else σ.1 (36 + g) j) (by
    rintro i s hi ⟨σi, rfl, h1, h2⟩
    left
    have hself : σi.1 (36 + i) = σ.1 (36 + i) := funext (fun j => by rw [h2 i j (by omega), if_neg (fun z => by omega)])
    have hth : f_9_isThere n σi (nI i) (nI d) = some (if th i = true then 1 else 0, σi) := by
      rw [isThere_X n σi _ _ (by rw [h1 1 (by omega)]; exact hE.2.1) hG, nI_clamp (by omega), hself]
      by_cases z : th i = true
      · rw [if_pos z, if_pos ⟨⟨nI_pos' (by omega), nI_lt hi (by omega)⟩, (hE.2.2 i hi).2.2.mp z⟩]
      · rw [if_neg z, if_neg (fun y => z ((hE.2.2 i hi).2.2.mpr y.2))]
    unfold b_10_countGuests_2
    simp only [nm_eq]
    rw [h1 1 (by omega), hE.2.1, if_neg (nI_ge hi (by omega)), h1 0 (by omega), hd, hth, bd_eq]
    simp only
    by_cases y : th i = true
    · have hrk := (hE.2.2 i hi).2.1
      have hr4 := (hW.2.2.2 i hi).2.2
      rw [if_pos y, if_neg (by decide), gd_t (inb_nI (show i < 8 by omega) (by decide)), nI_clamp (by omega), hself]
      simp only [si_place (show (0 : Nat) ≠ 5 by decide), si_place (show (6 : Nat) ≠ 5 by decide), si_place (show (7 : Nat) ≠ 5 by decide), si_place (show (7 : Nat) ≠ 6 by decide), si_place (show (8 : Nat) ≠ 5 by decide), si_place (show (8 : Nat) ≠ 6 by decide), si_place (show (8 : Nat) ≠ 7 by decide), si_cell (show (5 : Nat) ≠ 36 + i by omega), si_cell (show 76 + i ≠ 36 + i by omega), hself, hrk, h1 5 (by omega), h1 (76 + i) (by omega), nI_clamp (show rk i < 2 ^ 31 by omega)]
      rw [gd_t (inb_nI hr4 (by decide)), nI_1]
      refine ⟨_, rfl, _, rfl, fun k hk => ?_, fun g j hg => ?_⟩
      · rw [si_ne (by omega), si_ne (by omega), si_ne (by omega), si_ne (by omega)]; exact h1 k hk
      · by_cases z : g = i
        · subst z
          rw [if_pos ⟨by omega, y⟩]
          simp only [si_get, true_and]
          unfold nvG
          by_cases j8 : j = 8
          · subst j8; simp
          by_cases j7 : j = 7
          · subst j7; simp
          by_cases j6 : j = 6
          · subst j6; simp
          by_cases j5 : j = 5
          · subst j5; simp
          rw [if_neg j8, if_neg j7, if_neg j6, if_neg j5, if_neg j5, if_neg j6, if_neg j7, if_neg j8, hself]
        · rw [si_cell (by omega), si_cell (by omega), si_cell (by omega), si_cell (by omega), h2 g j hg]
          by_cases u : g < i ∧ th g = true
          · rw [if_pos u, if_pos ⟨by omega, u.2⟩]
          · rw [if_neg u, if_neg (fun v => u ⟨by omega, v.2⟩)]
    · rw [if_neg y, if_pos rfl, nI_1]
      refine ⟨_, rfl, σi, rfl, h1, fun g j hg => ?_⟩
      rw [h2 g j hg]
      by_cases u : g < i ∧ th g = true
      · rw [if_pos u, if_pos ⟨by omega, u.2⟩]
      · rw [if_neg u, if_neg (fun v => by
          by_cases w : g = i
          · subst w; exact y v.2
          · exact u ⟨by omega, v.2⟩)]) (by
    rintro s ⟨σi, rfl, h1, h2⟩
    unfold b_10_countGuests_2
    simp only [nm_eq]
    rw [h1 1 (by omega), hE.2.1, if_pos (nI_le (Nat.le_refl G) (by omega))]
    exact ⟨_, rfl, h1, h2⟩) (n := n) (by omega) (s := (0, σ)) ⟨σ, rfl, fun _ _ => rfl, fun g j hg => by rw [if_neg (fun z => by omega)]⟩
  unfold f_10_countGuests
  rw [he, bd_eq]
  exact ⟨_, rfl, hX⟩
theorem guests_M (n : Nat) (hn : 1000 ≤ n) {τ : St} (hE : enM τ c d G P th rk) (hW : enW c d G P rk) (hd : τ.1 0 0 = nI d) : ∃ (z : Int32) (τ' : St), lq (b_11_next_226 n) n (0, τ) = some (z, τ') ∧ (∀ k, (k < 21 ∨ 25 ≤ k) → τ'.1 k = τ.1 k) ∧ τ'.2 = τ.2 ∧ ∀ g j, g < 8 → j < 9 → τ'.1 (16 + j) g = if g < G ∧ th g = true then nvG (fun j => τ.1 (16 + j) g) (τ.1 6 (rk g)) (τ.1 29 g) (τ.1 27 g) j else τ.1 (16 + j) g := by
  have hG := hW.2.2.1
  obtain ⟨e, he, hX⟩ := lq_for (b := b_11_next_226 n) (X := fun e => (∀ k, (k < 21 ∨ 25 ≤ k) → e.2.1 k = τ.1 k) ∧ e.2.2 = τ.2 ∧ ∀ g j, g < 8 → j < 9 → e.2.1 (16 + j) g = if g < G ∧ th g = true then nvG (fun j => τ.1 (16 + j) g) (τ.1 6 (rk g)) (τ.1 29 g) (τ.1 27 g) j else τ.1 (16 + j) g) G (fun i s => ∃ τi, s = (nI i, τi) ∧ (∀ k, (k < 21 ∨ 25 ≤ k) → τi.1 k = τ.1 k) ∧ τi.2 = τ.2 ∧ ∀ g j, g < 8 → j < 9 → τi.1 (16 + j) g = if g < i ∧ th g = true then nvG (fun j => τ.1 (16 + j) g) (τ.1 6 (rk g)) (τ.1 29 g) (τ.1 27 g) j else τ.1 (16 + j) g) (by
    rintro i s hi ⟨τi, rfl, h1, h3, h2⟩
    left
    have hself : ∀ j, j < 9 → τi.1 (16 + j) i = τ.1 (16 + j) i := fun j hj => by rw [h2 i j (by omega) hj, if_neg (fun z => by omega)]
    have hth : f_11_isHere n τi (nI i) (nI d) = some (if th i = true then 1 else 0, τi) := by
      rw [isHere_M n τi _ _ (by rw [h1 0 (by omega)]; exact hE.2.1) hG, nI_clamp (by omega), h1 18 (by omega), h1 19 (by omega)]
      by_cases z : th i = true
      · rw [if_pos z, if_pos ⟨⟨nI_pos' (by omega), nI_lt hi (by omega)⟩, (hE.2.2 i hi).2.2.mp z⟩]
      · rw [if_neg z, if_neg (fun y => z ((hE.2.2 i hi).2.2.mpr y.2))]
    unfold b_11_next_226
    simp only [nm_eq]
    rw [h1 0 (by omega), hE.2.1, if_neg (nI_ge hi (by omega)), hd, hth, bd_eq]
    simp only
    by_cases y : th i = true
    · have hrk := (hE.2.2 i hi).2.1
      have hr4 := (hW.2.2.2 i hi).2.2
      have s21 := hself 5 (by omega)
      have s22 := hself 6 (by omega)
      have s23 := hself 7 (by omega)
      have s24 := hself 8 (by omega)
      simp only [show 16 + 5 = 21 from rfl, show 16 + 6 = 22 from rfl, show 16 + 7 = 23 from rfl, show 16 + 8 = 24 from rfl] at s21 s22 s23 s24
      rw [if_pos y, if_neg (by decide), gd_t (inb_nI (show i < 8 by omega) (by decide)), nI_clamp (by omega)]
      simp only [si_cell (show (16 : Nat) ≠ 21 by decide), si_cell (show (22 : Nat) ≠ 21 by decide), si_cell (show (23 : Nat) ≠ 22 by decide), si_cell (show (23 : Nat) ≠ 21 by decide), si_cell (show (24 : Nat) ≠ 23 by decide), si_cell (show (24 : Nat) ≠ 22 by decide), si_cell (show (24 : Nat) ≠ 21 by decide), si_cell (show (6 : Nat) ≠ 21 by decide), si_cell (show (29 : Nat) ≠ 22 by decide), si_cell (show (29 : Nat) ≠ 21 by decide), si_cell (show (27 : Nat) ≠ 23 by decide), si_cell (show (27 : Nat) ≠ 22 by decide), si_cell (show (27 : Nat) ≠ 21 by decide), s21, s22, s23, s24, h1 16 (by omega), hrk, h1 6 (by omega), h1 29 (by omega), h1 27 (by omega), nI_clamp (show rk i < 2 ^ 31 by omega)]
      rw [gd_t (inb_nI hr4 (by decide)), nI_1]
      refine ⟨_, rfl, _, rfl, fun k hk => ?_, h3, fun g j hg hj => ?_⟩
      · rw [si_ne (by omega), si_ne (by omega), si_ne (by omega), si_ne (by omega)]; exact h1 k hk
      · by_cases z : g = i
        · subst z
          rw [if_pos ⟨by omega, y⟩]
          simp only [si_get, and_true]
          unfold nvG
          by_cases j8 : j = 8
          · subst j8; simp
          by_cases j7 : j = 7
          · subst j7; simp
          by_cases j6 : j = 6
          · subst j6; simp
          by_cases j5 : j = 5
          · subst j5; simp
          rw [if_neg (by omega), if_neg (by omega), if_neg (by omega), if_neg (by omega), if_neg j5, if_neg j6, if_neg j7, if_neg j8]
          exact hself j hj
        · rw [si_place z, si_place z, si_place z, si_place z, h2 g j hg hj]
          by_cases u : g < i ∧ th g = true
          · rw [if_pos u, if_pos ⟨by omega, u.2⟩]
          · rw [if_neg u, if_neg (fun v => u ⟨by omega, v.2⟩)]
    · rw [if_neg y, if_pos rfl, nI_1]
      refine ⟨_, rfl, τi, rfl, h1, h3, fun g j hg hj => ?_⟩
      rw [h2 g j hg hj]
      by_cases u : g < i ∧ th g = true
      · rw [if_pos u, if_pos ⟨by omega, u.2⟩]
      · rw [if_neg u, if_neg (fun v => by
          by_cases w : g = i
          · subst w; exact y v.2
          · exact u ⟨by omega, v.2⟩)]) (by
    rintro s ⟨τi, rfl, h1, h3, h2⟩
    unfold b_11_next_226
    simp only [nm_eq]
    rw [h1 0 (by omega), hE.2.1, if_pos (nI_le (Nat.le_refl G) (by omega))]
    exact ⟨_, rfl, h1, h3, h2⟩) (n := n) (by omega) (s := (0, τ)) ⟨τ, rfl, fun _ _ => rfl, rfl, fun g j hg hj => by rw [if_neg (fun z => by omega)]⟩
  exact ⟨e.1, e.2, by rw [he], hX⟩
theorem taken_X (n : Nat) (hn : 1000 ≤ n) {σ : St} {s : Nat} (hs : s < 4) : f_3_countTaken n σ (nI s) = some (sm (σ.1 (116 + s)) 48, σ) := by
  obtain ⟨e, he, hX⟩ := lq_for (b := b_3_countTaken_4 n (nI s)) (X := fun e => e = (sm (σ.1 (116 + s)) 48, nI 48, σ)) 48 (fun i st => st = (sm (σ.1 (116 + s)) i, nI i, σ)) (by
    rintro i st hi rfl
    left
    unfold b_3_countTaken_4
    simp only [nm_eq]
    rw [if_neg (show ¬ (48 : Int32) ≤ nI i from nI_ge (b := 48) hi (by decide)), gd_t (inb_nI hs (by decide)), gd_t (inb_nI hi (by decide)), nI_clamp (by omega), nI_clamp (by omega), nI_1]
    exact ⟨_, rfl, rfl⟩) (by
    rintro st rfl
    unfold b_3_countTaken_4
    simp only [nm_eq]
    rw [if_pos (show (48 : Int32) ≤ nI 48 from nI_le (Nat.le_refl 48) (by decide))]
    exact ⟨_, rfl, rfl⟩) (n := n) (by omega) (s := (0, 0, σ)) rfl
  unfold f_3_countTaken
  rw [he, hX, bd_eq]
theorem water_X9 (n : Nat) (hn : 1000 ≤ n) {σ : St} {D : Nat} (hD : D < 100) (hd : σ.1 0 3 = nI D) : ∃ σ', f_10_countWater n σ = some σ' ∧ (∀ k, (k < 22 ∨ 30 ≤ k) → σ'.1 k = σ.1 k) ∧ (∀ s j, s < 4 → σ'.1 (22 + s) j = wvS (σ.1 (22 + s)) (σ.1 (22 + s) 0 * (σ.1 (22 + s) 2 - σ.1 (22 + s) 1)) (sm (σ.1 (116 + s)) 48) j) ∧ ∀ s e, s < 4 → σ'.1 (26 + s) e = if e = D then (σ.1 (22 + s) 0 * (σ.1 (22 + s) 2 - σ.1 (22 + s) 1) - sm (σ.1 (116 + s)) 48) / 10 else σ.1 (26 + s) e := by
  obtain ⟨e, he, hX1, hX2, hX3⟩ := lq_for (b := b_10_countWater_2 n) (X := fun e => (∀ k, (k < 22 ∨ 30 ≤ k) → e.2.1 k = σ.1 k) ∧ (∀ s j, s < 4 → e.2.1 (22 + s) j = wvS (σ.1 (22 + s)) (σ.1 (22 + s) 0 * (σ.1 (22 + s) 2 - σ.1 (22 + s) 1)) (sm (σ.1 (116 + s)) 48) j) ∧ ∀ s x, s < 4 → e.2.1 (26 + s) x = if x = D then (σ.1 (22 + s) 0 * (σ.1 (22 + s) 2 - σ.1 (22 + s) 1) - sm (σ.1 (116 + s)) 48) / 10 else σ.1 (26 + s) x) 4 (fun i st => ∃ σi, st = (nI i, σi) ∧ (∀ k, (k < 22 ∨ 30 ≤ k) → σi.1 k = σ.1 k) ∧ (∀ s j, s < 4 → σi.1 (22 + s) j = if s < i then wvS (σ.1 (22 + s)) (σ.1 (22 + s) 0 * (σ.1 (22 + s) 2 - σ.1 (22 + s) 1)) (sm (σ.1 (116 + s)) 48) j else σ.1 (22 + s) j) ∧ ∀ s x, s < 4 → σi.1 (26 + s) x = if s < i ∧ x = D then (σ.1 (22 + s) 0 * (σ.1 (22 + s) 2 - σ.1 (22 + s) 1) - sm (σ.1 (116 + s)) 48) / 10 else σ.1 (26 + s) x) (by
    rintro i st hi ⟨σi, rfl, h1, h2, h3⟩
    left
    have hself : σi.1 (22 + i) = σ.1 (22 + i) := funext (fun j => by rw [h2 i j hi, if_neg (by omega)])
    unfold b_10_countWater_2
    simp only [nm_eq]
    rw [if_neg (show ¬ (4 : Int32) ≤ nI i from nI_ge (b := 4) hi (by decide)), gd_t (inb_nI hi (by decide)), taken_X n hn hi, bd_eq, nI_clamp (by omega), h1 0 (by omega), hd, h1 (116 + i) (by omega)]
    unfold f_7_closeDay
    simp only [nm_eq]
    rw [gd_t (inb_nI hD (by decide)), nI_clamp (by omega)]
    simp only [si_place (show (5 : Nat) ≠ 4 by decide), si_place (show (6 : Nat) ≠ 4 by decide), si_place (show (6 : Nat) ≠ 5 by decide), si_place (show (7 : Nat) ≠ 4 by decide), si_place (show (7 : Nat) ≠ 5 by decide), si_place (show (7 : Nat) ≠ 6 by decide), hself]
    rw [bd_eq, nI_1]
    refine ⟨_, rfl, _, rfl, fun k hk => ?_, fun s j hs => ?_, fun s x hs => ?_⟩
    · rw [si_ne (by omega), si_ne (by omega), si_ne (by omega), si_ne (by omega), si_ne (by omega)]; exact h1 k hk
    · rw [si_cell (by omega)]
      by_cases z : s = i
      · subst z
        rw [if_pos (by omega)]
        simp only [si_get, true_and]
        unfold wvS
        by_cases j7 : j = 7
        · subst j7; simp
        by_cases j6 : j = 6
        · subst j6; simp
        by_cases j5 : j = 5
        · subst j5; simp
        by_cases j4 : j = 4
        · subst j4; simp
        rw [if_neg j7, if_neg j6, if_neg j5, if_neg j4, if_neg j4, if_neg j5, if_neg j6, if_neg j7, hself]
      · rw [si_cell (by omega), si_cell (by omega), si_cell (by omega), si_cell (by omega), h2 s j hs]
        by_cases u : s < i
        · rw [if_pos u, if_pos (by omega)]
        · rw [if_neg u, if_neg (by omega)]
    · rw [si_get]
      by_cases z : s = i ∧ x = D
      · obtain ⟨z1, z2⟩ := z
        subst z1
        rw [if_pos ⟨rfl, z2⟩, if_pos ⟨by omega, z2⟩]
      · rw [if_neg (fun u => z ⟨by omega, u.2⟩), si_cell (by omega), si_cell (by omega), si_cell (by omega), si_cell (by omega), h3 s x hs]
        by_cases u : s < i ∧ x = D
        · rw [if_pos u, if_pos ⟨by omega, u.2⟩]
        · rw [if_neg u, if_neg (fun v => u ⟨by omega, v.2⟩)]) (by
    rintro st ⟨σi, rfl, h1, h2, h3⟩
    unfold b_10_countWater_2
    simp only [nm_eq]
    rw [if_pos (show (4 : Int32) ≤ nI 4 from nI_le (Nat.le_refl 4) (by decide))]
    refine ⟨_, rfl, h1, fun s j hs => ?_, fun s x hs => ?_⟩
    · rw [h2 s j hs, if_pos hs]
    · rw [h3 s x hs]
      by_cases u : x = D
      · rw [if_pos ⟨hs, u⟩, if_pos u]
      · rw [if_neg (fun v => u v.2), if_neg u]) (n := n) (by omega) (s := (0, σ)) ⟨σ, rfl, fun _ _ => rfl, fun s j hs => by rw [if_neg (by omega)], fun s x hs => by rw [if_neg (fun z => by omega)]⟩
  unfold f_10_countWater
  rw [he, bd_eq]
  exact ⟨_, rfl, hX1, hX2, hX3⟩
theorem gone_M (n : Nat) (hn : 1000 ≤ n) {τ : St} {s : Nat} {a : Int32} (hs : s < 4) : lq (b_11_next_120 n (nI s) a) n (0, 0, τ) = some (sm (fun q => τ.1 25 (48 * s + q)) 48, nI 48, τ) := by
  obtain ⟨e, he, hX⟩ := lq_for (b := b_11_next_120 n (nI s) a) (X := fun e => e = (sm (fun q => τ.1 25 (48 * s + q)) 48, nI 48, τ)) 48 (fun i st => st = (sm (fun q => τ.1 25 (48 * s + q)) i, nI i, τ)) (by
    rintro i st hi rfl
    left
    unfold b_11_next_120
    simp only [nm_eq]
    rw [if_neg (show ¬ (48 : Int32) ≤ nI i from nI_ge (b := 48) hi (by decide)), show (48 : Int32) * nI s + nI i = nI (48 * s + i) from mul_nI 48 s i, gd_t (inb_nI (show 48 * s + i < 192 by omega) (by decide)), nI_clamp (by omega), nI_1]
    exact ⟨_, rfl, rfl⟩) (by
    rintro st rfl
    unfold b_11_next_120
    simp only [nm_eq]
    rw [if_pos (show (48 : Int32) ≤ nI 48 from nI_le (Nat.le_refl 48) (by decide))]
    exact ⟨_, rfl, rfl⟩) (n := n) (by omega) (s := (0, 0, τ)) rfl
  rw [he, hX]
theorem water_M9 (n : Nat) (hn : 1000 ≤ n) {τ : St} {D : Nat} (hD : D < 100) (hd : τ.1 0 0 = nI D) : ∃ (z : Int32) (τ' : St), lq (b_11_next_89 n) n (0, τ) = some (z, τ') ∧ (∀ k, (k < 36 ∨ 41 ≤ k) → τ'.1 k = τ.1 k) ∧ τ'.2 = τ.2 ∧ (∀ s, s < 4 → τ'.1 37 s = τ.1 37 s + τ.1 1 s * (τ.1 3 s - τ.1 2 s) ∧ τ'.1 38 s = τ.1 38 s + sm (fun q => τ.1 25 (48 * s + q)) 48 ∧ τ'.1 39 s = τ.1 39 s + (τ.1 1 s * (τ.1 3 s - τ.1 2 s) - sm (fun q => τ.1 25 (48 * s + q)) 48) / 10 ∧ τ'.1 40 s = τ.1 40 s + (τ.1 1 s * (τ.1 3 s - τ.1 2 s) - sm (fun q => τ.1 25 (48 * s + q)) 48 - (τ.1 1 s * (τ.1 3 s - τ.1 2 s) - sm (fun q => τ.1 25 (48 * s + q)) 48) / 10 * 10)) ∧ ∀ s e, s < 4 → e < 100 → τ'.1 36 (100 * s + e) = if e = D then (τ.1 1 s * (τ.1 3 s - τ.1 2 s) - sm (fun q => τ.1 25 (48 * s + q)) 48) / 10 else τ.1 36 (100 * s + e) := by
  obtain ⟨e, he, hX1, hX2, hX3, hX4⟩ := lq_for (b := b_11_next_89 n) (X := fun e => (∀ k, (k < 36 ∨ 41 ≤ k) → e.2.1 k = τ.1 k) ∧ e.2.2 = τ.2 ∧ (∀ s, s < 4 → e.2.1 37 s = τ.1 37 s + τ.1 1 s * (τ.1 3 s - τ.1 2 s) ∧ e.2.1 38 s = τ.1 38 s + sm (fun q => τ.1 25 (48 * s + q)) 48 ∧ e.2.1 39 s = τ.1 39 s + (τ.1 1 s * (τ.1 3 s - τ.1 2 s) - sm (fun q => τ.1 25 (48 * s + q)) 48) / 10 ∧ e.2.1 40 s = τ.1 40 s + (τ.1 1 s * (τ.1 3 s - τ.1 2 s) - sm (fun q => τ.1 25 (48 * s + q)) 48 - (τ.1 1 s * (τ.1 3 s - τ.1 2 s) - sm (fun q => τ.1 25 (48 * s + q)) 48) / 10 * 10)) ∧ ∀ s x, s < 4 → x < 100 → e.2.1 36 (100 * s + x) = if x = D then (τ.1 1 s * (τ.1 3 s - τ.1 2 s) - sm (fun q => τ.1 25 (48 * s + q)) 48) / 10 else τ.1 36 (100 * s + x)) 4 (fun i st => ∃ τi, st = (nI i, τi) ∧ (∀ k, (k < 36 ∨ 41 ≤ k) → τi.1 k = τ.1 k) ∧ τi.2 = τ.2 ∧ (∀ s, s < 4 → i ≤ s → τi.1 37 s = τ.1 37 s ∧ τi.1 38 s = τ.1 38 s ∧ τi.1 39 s = τ.1 39 s ∧ τi.1 40 s = τ.1 40 s) ∧ (∀ s, s < i → τi.1 37 s = τ.1 37 s + τ.1 1 s * (τ.1 3 s - τ.1 2 s) ∧ τi.1 38 s = τ.1 38 s + sm (fun q => τ.1 25 (48 * s + q)) 48 ∧ τi.1 39 s = τ.1 39 s + (τ.1 1 s * (τ.1 3 s - τ.1 2 s) - sm (fun q => τ.1 25 (48 * s + q)) 48) / 10 ∧ τi.1 40 s = τ.1 40 s + (τ.1 1 s * (τ.1 3 s - τ.1 2 s) - sm (fun q => τ.1 25 (48 * s + q)) 48 - (τ.1 1 s * (τ.1 3 s - τ.1 2 s) - sm (fun q => τ.1 25 (48 * s + q)) 48) / 10 * 10)) ∧ ∀ s x, s < 4 → x < 100 → τi.1 36 (100 * s + x) = if s < i ∧ x = D then (τ.1 1 s * (τ.1 3 s - τ.1 2 s) - sm (fun q => τ.1 25 (48 * s + q)) 48) / 10 else τ.1 36 (100 * s + x)) (by
    rintro i st hi ⟨τi, rfl, h1, h2, h3, h4, h5⟩
    left
    obtain ⟨o1, o2, o3, o4⟩ := h3 i hi (Nat.le_refl i)
    unfold b_11_next_89
    simp only [nm_eq]
    rw [if_neg (show ¬ (4 : Int32) ≤ nI i from nI_ge (b := 4) hi (by decide)), gd_t (inb_nI hi (by decide)), gone_M n hn hi, bd_eq, nI_clamp (by omega)]
    simp only [si_cell (show (38 : Nat) ≠ 37 by decide), si_cell (show (0 : Nat) ≠ 38 by decide), si_cell (show (0 : Nat) ≠ 37 by decide), si_cell (show (39 : Nat) ≠ 36 by decide), si_cell (show (39 : Nat) ≠ 38 by decide), si_cell (show (39 : Nat) ≠ 37 by decide), si_cell (show (40 : Nat) ≠ 39 by decide), si_cell (show (40 : Nat) ≠ 36 by decide), si_cell (show (40 : Nat) ≠ 38 by decide), si_cell (show (40 : Nat) ≠ 37 by decide), o1, o2, o3, o4, h1 0 (by omega), h1 1 (by omega), h1 2 (by omega), h1 3 (by omega), h1 25 (by omega), hd]
    rw [show (100 : Int32) * nI i + nI D = nI (100 * i + D) from mul_nI 100 i D, gd_t (inb_nI (show 100 * i + D < 400 by omega) (by decide)), nI_clamp (by omega), nI_1]
    refine ⟨_, rfl, _, rfl, fun k hk => ?_, h2, fun s hs his => ?_, fun s hs => ?_, fun s x hs hx => ?_⟩
    · rw [si_ne (by omega), si_ne (by omega), si_ne (by omega), si_ne (by omega), si_ne (by omega)]; exact h1 k hk
    · obtain ⟨p1, p2, p3, p4⟩ := h3 s hs (by omega)
      have hne : s ≠ i := by omega
      refine ⟨?_, ?_, ?_, ?_⟩
      · rw [si_cell (by decide), si_cell (by decide), si_cell (by decide), si_cell (by decide), si_place hne]; exact p1
      · rw [si_cell (by decide), si_cell (by decide), si_cell (by decide), si_place hne, si_cell (by decide)]; exact p2
      · rw [si_cell (by decide), si_place hne, si_cell (by decide), si_cell (by decide), si_cell (by decide)]; exact p3
      · rw [si_place hne, si_cell (by decide), si_cell (by decide), si_cell (by decide), si_cell (by decide)]; exact p4
    · by_cases hne : s = i
      · subst hne
        refine ⟨?_, ?_, ?_, ?_⟩
        · rw [si_cell (by decide), si_cell (by decide), si_cell (by decide), si_cell (by decide), si_hit]
        · rw [si_cell (by decide), si_cell (by decide), si_cell (by decide), si_hit]
        · rw [si_cell (by decide), si_hit]
        · rw [si_hit]
      · obtain ⟨p1, p2, p3, p4⟩ := h4 s (by omega)
        refine ⟨?_, ?_, ?_, ?_⟩
        · rw [si_cell (by decide), si_cell (by decide), si_cell (by decide), si_cell (by decide), si_place hne]; exact p1
        · rw [si_cell (by decide), si_cell (by decide), si_cell (by decide), si_place hne, si_cell (by decide)]; exact p2
        · rw [si_cell (by decide), si_place hne, si_cell (by decide), si_cell (by decide), si_cell (by decide)]; exact p3
        · rw [si_place hne, si_cell (by decide), si_cell (by decide), si_cell (by decide), si_cell (by decide)]; exact p4
    · rw [si_cell (by decide), si_cell (by decide), si_get]
      by_cases z : s = i ∧ x = D
      · obtain ⟨z1, z2⟩ := z
        subst z1 z2
        rw [if_pos ⟨rfl, rfl⟩, if_pos ⟨by omega, rfl⟩]
      · rw [if_neg (fun u => z (by omega)), si_cell (by decide), si_cell (by decide), h5 s x hs hx]
        by_cases u : s < i ∧ x = D
        · rw [if_pos u, if_pos ⟨by omega, u.2⟩]
        · rw [if_neg u, if_neg (fun v => u ⟨by omega, v.2⟩)]) (by
    rintro st ⟨τi, rfl, h1, h2, h3, h4, h5⟩
    unfold b_11_next_89
    simp only [nm_eq]
    rw [if_pos (show (4 : Int32) ≤ nI 4 from nI_le (Nat.le_refl 4) (by decide))]
    refine ⟨_, rfl, h1, h2, h4, fun s x hs hx => ?_⟩
    rw [h5 s x hs hx]
    by_cases u : x = D
    · rw [if_pos ⟨hs, u⟩, if_pos u]
    · rw [if_neg (fun v => u v.2), if_neg u]) (n := n) (by omega) (s := (0, τ)) ⟨τ, rfl, fun _ _ => rfl, rfl, fun s hs _ => ⟨rfl, rfl, rfl, rfl⟩, fun s hs => absurd hs (Nat.not_lt_zero s), fun s x hs hx => by rw [if_neg (fun z => by omega)]⟩
  exact ⟨e.1, e.2, by rw [he], hX1, hX2, hX3, hX4⟩
end CL
