/-! blanks, letters, digits: both sides together -/
def tpR (σ τ : St) (L : Nat) (b : Nat → Nat) : Prop := L ≤ 600 ∧ σ.1 7 1 = nI L ∧ τ.1 0 18 = nI L ∧ ∀ i, i < L → b i < 256 ∧ τ.1 14 i = nI (b i) ∧ σ.1 8 i = sx (b i)
theorem tp_c {σ τ σ' τ' : St} {L : Nat} {b : Nat → Nat} (h1 : σ'.1 7 1 = σ.1 7 1) (h2 : σ'.1 8 = σ.1 8) (h3 : τ'.1 0 18 = τ.1 0 18) (h4 : τ'.1 14 = τ.1 14) (h : tpR σ τ L b) : tpR σ' τ' L b := by
  obtain ⟨a1, a2, a3, a4⟩ := h
  exact ⟨a1, h1.trans a2, h3.trans a3, fun i hi => by rw [h2, h4]; exact a4 i hi⟩
theorem see_M (n : Nat) {σ τ : St} {L q : Nat} {b : Nat → Nat} (h : tpR σ τ L b) (hq : q ≤ L) : f_11_see n τ (nI q) = some (if q < L then nI (b q) else -1, τ) := by
  obtain ⟨a1, a2, a3, a4⟩ := h
  unfold f_11_see
  rw [a3]
  by_cases c : q < L
  · rw [if_neg (nI_ge c (by omega)), gd_t (inb_nI (show q < 600 by omega) (by decide)), nI_clamp (by omega), (a4 q c).2.1, if_pos c]
  · rw [if_pos (nI_le (by omega) (by omega)), if_neg c]
theorem blank_two (n : Nat) (hn : 1000 ≤ n) {σ τ : St} {L p : Nat} {b : Nat → Nat} (h : tpR σ τ L b) (hp : p ≤ L) (hx : σ.1 7 3 = nI p) (hm : τ.1 0 19 = nI p) : ∃ σ' τ', lq (b_8_readToken_8 n) n σ = some σ' ∧ lq (b_11_next0_0 n) n τ = some τ' ∧ ∃ a, σ'.1 7 3 = nI a ∧ τ'.1 0 19 = nI a ∧ p ≤ a ∧ a ≤ L ∧ (∀ k, k ≠ 7 → σ'.1 k = σ.1 k) ∧ (∀ j, j ≠ 3 → σ'.1 7 j = σ.1 7 j) ∧ (∀ k, k ≠ 0 → τ'.1 k = τ.1 k) ∧ (∀ j, j ≠ 19 → τ'.1 0 j = τ.1 0 j) ∧ τ'.2 = τ.2 := by
  refine lq_two (b1 := b_8_readToken_8 n) (b2 := b_11_next0_0 n) (X := fun (σ' τ' : St) => ∃ a, σ'.1 7 3 = nI a ∧ τ'.1 0 19 = nI a ∧ p ≤ a ∧ a ≤ L ∧ (∀ k, k ≠ 7 → σ'.1 k = σ.1 k) ∧ (∀ j, j ≠ 3 → σ'.1 7 j = σ.1 7 j) ∧ (∀ k, k ≠ 0 → τ'.1 k = τ.1 k) ∧ (∀ j, j ≠ 19 → τ'.1 0 j = τ.1 0 j) ∧ τ'.2 = τ.2) (fun k s1 s2 => ∃ a, k = L - a ∧ s1.1 7 3 = nI a ∧ s2.1 0 19 = nI a ∧ p ≤ a ∧ a ≤ L ∧ (∀ k, k ≠ 7 → s1.1 k = σ.1 k) ∧ (∀ j, j ≠ 3 → s1.1 7 j = σ.1 7 j) ∧ (∀ k, k ≠ 0 → s2.1 k = τ.1 k) ∧ (∀ j, j ≠ 19 → s2.1 0 j = τ.1 0 j) ∧ s2.2 = τ.2) ?_ n n (L - p) σ τ (by have := h.1; omega) (by have := h.1; omega) ⟨p, rfl, hx, hm, Nat.le_refl _, hp, fun _ _ => rfl, fun _ _ => rfl, fun _ _ => rfl, fun _ _ => rfl, rfl⟩
  rintro k s1 s2 ⟨a, rfl, i1, i2, i3, i4, i5, i6, i7, i8, i9⟩
  have ht : tpR s1 s2 L b := tp_c (i6 1 (by decide)) (i5 8 (by decide)) (i8 18 (by decide)) (i7 14 (by decide)) h
  have hL := h.1
  unfold b_8_readToken_8 b_11_next0_0 j_11_next0_13
  simp only [nm_eq]
  rw [i1, i2, ht.2.1, see_M n ht i4]
  simp only [bd_eq]
  rw [i2, see_M n ht i4]
  simp only [bd_eq]
  by_cases c : a < L
  · obtain ⟨b1, b2, b3⟩ := ht.2.2.2 a c
    rw [if_neg (nI_ge c (by omega)), gd_t (inb_nI (show a < 600 by omega) (by decide)), nI_clamp (by omega), b3, isBlank_X n s1 b1, bd_eq, if_pos c]
    simp only
    rw [i1, i2, nI_1]
    have hgo : ∃ k' s1' s2', k' < L - a ∧ some (Sum.inl (si s1 7 3 (nI (a + 1))) : St ⊕ St) = some (.inl s1') ∧ some (Sum.inl (si s2 0 19 (nI (a + 1))) : St ⊕ St) = some (.inl s2') ∧ ∃ a, k' = L - a ∧ s1'.1 7 3 = nI a ∧ s2'.1 0 19 = nI a ∧ p ≤ a ∧ a ≤ L ∧ (∀ k, k ≠ 7 → s1'.1 k = σ.1 k) ∧ (∀ j, j ≠ 3 → s1'.1 7 j = σ.1 7 j) ∧ (∀ k, k ≠ 0 → s2'.1 k = τ.1 k) ∧ (∀ j, j ≠ 19 → s2'.1 0 j = τ.1 0 j) ∧ s2'.2 = τ.2 := ⟨L - (a + 1), _, _, by omega, rfl, rfl, a + 1, rfl, si_hit, si_hit, by omega, by omega, fun k hk => by rw [si_ne hk]; exact i5 k hk, fun j hj => by rw [si_place hj]; exact i6 j hj, fun k hk => by rw [si_ne hk]; exact i7 k hk, fun j hj => by rw [si_place hj]; exact i8 j hj, i9⟩
    by_cases e1 : b a = 32
    · rw [if_pos (show blB (b a) = true by simp [blB, e1]), if_neg (by decide), if_pos (show nI (b a) = 32 by rw [e1]; rfl)]
      exact .inl hgo
    · rw [if_neg (show ¬ nI (b a) = 32 from fun z => e1 ((nI_eq (b := 32) (by omega) (by decide)).mp z))]
      by_cases e2 : b a = 10
      · rw [if_pos (show blB (b a) = true by simp [blB, e2]), if_neg (by decide), if_pos (show nI (b a) = 10 by rw [e2]; rfl)]
        exact .inl hgo
      · rw [if_neg (show ¬ blB (b a) = true by simp [blB, e1, e2]), if_pos rfl, if_neg (show ¬ nI (b a) = 10 from fun z => e2 ((nI_eq (b := 10) (by omega) (by decide)).mp z))]
        exact .inr ⟨_, _, rfl, rfl, a, i1, i2, i3, i4, i5, i6, i7, i8, i9⟩
  · rw [if_pos (nI_le (by omega) (by omega)), if_neg c, if_neg (by decide), if_neg (by decide)]
    exact .inr ⟨_, _, rfl, rfl, a, i1, i2, i3, i4, i5, i6, i7, i8, i9⟩
theorem j56_X (n : Nat) {σ : St} {q : Nat} {w v : Int32} (hq : q < 600) (h4 : σ.1 7 4 = nI q) (h8 : σ.1 8 q = v) : j_8_readLetters_56 n w σ = some (.inl (w, si (si σ 7 6 (σ.1 7 6 * 27 + (v - 97 + 1))) 7 4 (nI (q + 1)))) := by
  unfold j_8_readLetters_56
  simp only [nm_eq]
  rw [h4, gd_t (inb_nI hq (by decide)), nI_clamp (by omega), h8, si_place (show (4 : Nat) ≠ 6 by decide), h4, nI_1]
theorem j122_M (n : Nat) {σ τ : St} {L q j : Nat} {b : Nat → Nat} {w : Int32} (h : tpR σ τ L b) (hq : q < L) (h19 : τ.1 0 19 = nI q) (hj : j < 2 ^ 30) : ∃ τ', j_11_next0_122 n (nI j) w τ = some (.inl (nI (j + 1), w, τ')) ∧ τ'.1 = (si τ 0 19 (nI (q + 1))).1 ∧ (∀ k i, k ≠ 0 → τ'.2 k i = τ.2 k i) ∧ (j < 7 → τ'.2 0 27 = (τ.2 0 27 <<< (Int32.toInt64 8 &&& 63)) ||| Int32.toInt64 (nI (b q))) := by
  unfold j_11_next0_122 j_11_next0_150
  simp only [nm_eq]
  rw [h19, see_M n h (by omega), if_pos hq]
  simp only [bd_eq]
  by_cases c : 7 ≤ j
  · rw [if_pos (show (7 : Int32) ≤ nI j from nI_le (a := 7) c (by omega)), nI_1, nI_1]
    exact ⟨_, rfl, rfl, fun _ _ _ => rfl, fun z => by omega⟩
  · rw [if_neg (show ¬ (7 : Int32) ≤ nI j from nI_ge (b := 7) (by omega) (by decide)), nI_1, sl_i, h19, nI_1]
    refine ⟨_, rfl, rfl, fun k i hk => ?_, fun _ => ?_⟩
    · rw [si_l, sl_get, if_neg (fun z => hk z.1)]
    · rw [si_l, sl_get, if_pos ⟨rfl, rfl⟩]
theorem letters_two (n : Nat) (hn : 1000 ≤ n) {σ τ : St} {L a : Nat} {b : Nat → Nat} (h : tpR σ τ L b) (ha : a ≤ L) (hx : σ.1 7 4 = nI a) (hx6 : σ.1 7 6 = 0) (hm : τ.1 0 19 = nI a) (hm27 : τ.2 0 27 = 0) : ∃ (e1 : Int32 × St) (e2 : Int32 × Int32 × St), lq (b_8_readLetters_7 n) n (1, σ) = some e1 ∧ lq (b_11_next0_85 n) n (0, 1, τ) = some e2 ∧ ∃ e, e1.1 = e2.2.1 ∧ e2.1 = nI (e - a) ∧ (e1.1 = 0 ∨ e1.1 = 1) ∧ e1.2.1 7 4 = nI e ∧ e2.2.2.1 0 19 = nI e ∧ a ≤ e ∧ e ≤ L ∧ (e = L ∨ letB (b e) = false) ∧ (∀ k, k ≠ 7 → e1.2.1 k = σ.1 k) ∧ (∀ j, j ≠ 4 → j ≠ 6 → e1.2.1 7 j = σ.1 7 j) ∧ (∀ k, k ≠ 0 → e2.2.2.1 k = τ.1 k) ∧ (∀ j, j ≠ 19 → e2.2.2.1 0 j = τ.1 0 j) ∧ (∀ k i, k ≠ 0 → e2.2.2.2 k i = τ.2 k i) ∧ (¬ e1.1 = 0 → (∀ i, i < e - a → smB (b (a + i)) = true) ∧ (e - a ≤ 6 → e1.2.1 7 6 = nI (cdB 27 0 (wOf b a (e - a))) ∧ e2.2.2.2 0 27 = lN (cdB 256 96 (wOf b a (e - a))))) := by
  refine lq_two (b1 := b_8_readLetters_7 n) (b2 := b_11_next0_85 n) (X := fun (e1 : Int32 × St) (e2 : Int32 × Int32 × St) => ∃ e, e1.1 = e2.2.1 ∧ e2.1 = nI (e - a) ∧ (e1.1 = 0 ∨ e1.1 = 1) ∧ e1.2.1 7 4 = nI e ∧ e2.2.2.1 0 19 = nI e ∧ a ≤ e ∧ e ≤ L ∧ (e = L ∨ letB (b e) = false) ∧ (∀ k, k ≠ 7 → e1.2.1 k = σ.1 k) ∧ (∀ j, j ≠ 4 → j ≠ 6 → e1.2.1 7 j = σ.1 7 j) ∧ (∀ k, k ≠ 0 → e2.2.2.1 k = τ.1 k) ∧ (∀ j, j ≠ 19 → e2.2.2.1 0 j = τ.1 0 j) ∧ (∀ k i, k ≠ 0 → e2.2.2.2 k i = τ.2 k i) ∧ (¬ e1.1 = 0 → (∀ i, i < e - a → smB (b (a + i)) = true) ∧ (e - a ≤ 6 → e1.2.1 7 6 = nI (cdB 27 0 (wOf b a (e - a))) ∧ e2.2.2.2 0 27 = lN (cdB 256 96 (wOf b a (e - a)))))) (fun k s1 s2 => ∃ q fl σq τq, s1 = (fl, σq) ∧ s2 = (nI (q - a), fl, τq) ∧ k = L - q ∧ a ≤ q ∧ q ≤ L ∧ (fl = 0 ∨ fl = 1) ∧ σq.1 7 4 = nI q ∧ τq.1 0 19 = nI q ∧ (∀ k, k ≠ 7 → σq.1 k = σ.1 k) ∧ (∀ j, j ≠ 4 → j ≠ 6 → σq.1 7 j = σ.1 7 j) ∧ (∀ k, k ≠ 0 → τq.1 k = τ.1 k) ∧ (∀ j, j ≠ 19 → τq.1 0 j = τ.1 0 j) ∧ (∀ k i, k ≠ 0 → τq.2 k i = τ.2 k i) ∧ (¬ fl = 0 → (∀ i, i < q - a → smB (b (a + i)) = true) ∧ (q - a ≤ 6 → σq.1 7 6 = nI (cdB 27 0 (wOf b a (q - a))) ∧ τq.2 0 27 = lN (cdB 256 96 (wOf b a (q - a)))))) ?_ n n (L - a) (1, σ) (0, 1, τ) (by have := h.1; omega) (by have := h.1; omega) ⟨a, 1, σ, τ, rfl, by rw [Nat.sub_self]; rfl, rfl, Nat.le_refl _, ha, .inr rfl, hx, hm, fun _ _ => rfl, fun _ _ _ => rfl, fun _ _ => rfl, fun _ _ => rfl, fun _ _ _ => rfl, fun _ => ⟨fun i hi => by omega, fun _ => by rw [Nat.sub_self]; exact ⟨hx6, hm27⟩⟩⟩
  rintro k s1 s2 ⟨q, fl, σq, τq, rfl, rfl, rfl, i1, i2, i3, i4, i5, i6, i7, i8, i9, i10, i11⟩
  have ht : tpR σq τq L b := tp_c (i7 1 (by decide) (by decide)) (i6 8 (by decide)) (i9 18 (by decide)) (i8 14 (by decide)) h
  have hL := h.1
  unfold b_8_readLetters_7 b_11_next0_85
  simp only
  rw [i4, ht.2.1, i5, see_M n ht i2]
  simp only [bd_eq]
  by_cases c : q < L
  · obtain ⟨b1, b2, b3⟩ := ht.2.2.2 q c
    rw [if_neg (nI_ge c (by omega)), gd_t (inb_nI (show q < 600 by omega) (by decide)), nI_clamp (by omega), b3, isLetter_X n σq b1, bd_eq, if_pos c, isLetter_M n τq b1, bd_eq]
    simp only
    by_cases el : letB (b q) = true
    · left
      rw [if_pos el, if_neg (show ¬ (1 : Int32) = 0 by decide), if_neg (show ¬ (1 : Int32) = 0 by decide)]
      have hb128 : b q < 128 := by simp only [letB, decide_eq_true_eq] at el; omega
      -- one letter more
      have key : ∀ fl' : Int32, (fl' = 0 ∨ fl' = 1) → (¬ fl' = 0 → ¬ fl = 0 ∧ smB (b q) = true) → ∃ k' s1' s2', k' < L - q ∧ j_8_readLetters_56 n fl' σq = some (.inl s1') ∧ j_11_next0_122 n (nI (q - a)) fl' τq = some (.inl s2') ∧ ∃ q fl σq τq, s1' = (fl, σq) ∧ s2' = (nI (q - a), fl, τq) ∧ k' = L - q ∧ a ≤ q ∧ q ≤ L ∧ (fl = 0 ∨ fl = 1) ∧ σq.1 7 4 = nI q ∧ τq.1 0 19 = nI q ∧ (∀ k, k ≠ 7 → σq.1 k = σ.1 k) ∧ (∀ j, j ≠ 4 → j ≠ 6 → σq.1 7 j = σ.1 7 j) ∧ (∀ k, k ≠ 0 → τq.1 k = τ.1 k) ∧ (∀ j, j ≠ 19 → τq.1 0 j = τ.1 0 j) ∧ (∀ k i, k ≠ 0 → τq.2 k i = τ.2 k i) ∧ (¬ fl = 0 → (∀ i, i < q - a → smB (b (a + i)) = true) ∧ (q - a ≤ 6 → σq.1 7 6 = nI (cdB 27 0 (wOf b a (q - a))) ∧ τq.2 0 27 = lN (cdB 256 96 (wOf b a (q - a))))) := by
        intro fl' hfl hfl2
        obtain ⟨τ', m1, m2, m3, m4⟩ := j122_M n (j := q - a) (w := fl') ht c i5 (by omega)
        have hq1 : q + 1 - a = q - a + 1 := by omega
        refine ⟨L - (q + 1), _, _, by omega, j56_X n (by omega) i4 b3, m1, q + 1, fl', _, τ', rfl, by rw [hq1], rfl, by omega, by omega, hfl, si_hit, ?_, fun k hk => ?_, fun j j1 j2 => ?_, fun k hk => ?_, fun j hj => ?_, fun k i hk => ?_, fun hz => ?_⟩
        · rw [m2]; exact si_hit
        · rw [si_ne hk, si_ne hk]; exact i6 k hk
        · rw [si_place j1, si_place j2]; exact i7 j j1 j2
        · rw [m2, si_ne hk]; exact i8 k hk
        · rw [m2, si_place hj]; exact i9 j hj
        · rw [m3 k i hk]; exact i10 k i hk
        · obtain ⟨y1, y2⟩ := hfl2 hz
          obtain ⟨w1, w2⟩ := i11 y1
          have hall : ∀ i, i < q + 1 - a → smB (b (a + i)) = true := fun i hi => by
            by_cases e : i = q - a
            · rw [e, show a + (q - a) = q by omega]; exact y2
            · exact w1 i (by omega)
          refine ⟨hall, fun h6 => ?_⟩
          obtain ⟨u1, u2⟩ := w2 (by omega)
          have hsm : 97 ≤ b q ∧ b q ≤ 122 := by simpa only [smB, decide_eq_true_eq] using y2
          have hcd : cdB 256 96 (wOf b a (q - a)) < 2 ^ 48 := by
            have := cdB_lt (B := 256) (o := 96) (by decide) (w := wOf b a (q - a)) (m := 6) (fun x hx => by have := wOf_mem w1 x hx; omega) (by rw [wOf_len]; omega)
            exact this
          rw [hq1, wOf, show a + (q - a) = q by omega]
          refine ⟨?_, ?_⟩
          · rw [si_place (by decide), si_hit, u1, sx_lo _ hb128, show nI (b q) - 97 = nI (b q - 97) from pk_sub (b := 97) hsm.1, nI_1, show (27 : Int32) = nI 27 from rfl, pk_mul, nI_add, show b q - 97 + 1 = 0 + (b q - 96) by omega]
            rfl
          · rw [m4 (by omega), u2, wsh hcd (by omega)]
            show lN (cdB 256 96 (wOf b a (q - a)) * 256 + b q) = lN (cdB 256 96 (wOf b a (q - a)) * 256 + (96 + (b q - 96)))
            rw [show 96 + (b q - 96) = b q by omega]
      rcases i3 with rfl | rfl
      · rw [if_pos rfl, if_pos rfl]
        exact key 0 (.inl rfl) (fun z => absurd rfl z)
      · rw [if_neg (show ¬ (1 : Int32) = 0 by decide), if_neg (show ¬ (1 : Int32) = 0 by decide), i4, gd_t (inb_nI (show q < 600 by omega) (by decide)), nI_clamp (by omega), b3, i5, see_M n ht i2, bd_eq, if_pos c]
        simp only
        rw [isSmall_M n τq b1, bd_eq, sx_lo _ hb128]
        simp only
        by_cases es : smB (b q) = true
        · have hsm : 97 ≤ b q ∧ b q ≤ 122 := by simpa only [smB, decide_eq_true_eq] using es
          rw [if_neg (show ¬ nI (b q) < (97 : Int32) from nI_nlt (b := 97) hsm.1 (by omega)), if_pos es, if_neg (by decide)]
          exact key 1 (.inr rfl) (fun _ => ⟨by decide, es⟩)
        · have hsm : b q < 97 := by
            simp only [letB, smB, decide_eq_true_eq] at el es
            omega
          rw [if_pos (show nI (b q) < (97 : Int32) from nI_lt (b := 97) hsm (by decide)), if_neg es, if_pos rfl]
          exact key 0 (.inl rfl) (fun z => absurd rfl z)
    · right
      rw [if_neg el, if_pos rfl, if_pos rfl]
      exact ⟨_, _, rfl, rfl, q, rfl, rfl, i3, i4, i5, i1, i2, .inr (Bool.eq_false_iff.mpr el), i6, i7, i8, i9, i10, i11⟩
  · right
    rw [if_pos (nI_le (by omega) (by omega)), if_neg c, (none_M n τq).1, bd_eq]
    simp only
    rw [if_pos trivial]
    exact ⟨_, _, rfl, rfl, q, rfl, rfl, i3, i4, i5, i1, i2, .inl (by omega), i6, i7, i8, i9, i10, i11⟩
theorem digits_two (n : Nat) (hn : 1000 ≤ n) {σ τ : St} {L a : Nat} {b : Nat → Nat} (h : tpR σ τ L b) (ha : a ≤ L) (hx : σ.1 7 4 = nI a) (hx5 : σ.1 7 5 = 0) (hm : τ.1 0 19 = nI a) (hm22 : τ.1 0 22 = 0) : ∃ (e1 : St) (e2 : Int32 × St), lq (b_8_readDigits_5 n) n σ = some e1 ∧ lq (b_11_next0_206 n) n (0, τ) = some e2 ∧ ∃ e, e2.1 = nI (e - a) ∧ e1.1 7 4 = nI e ∧ e2.2.1 0 19 = nI e ∧ a ≤ e ∧ e ≤ L ∧ (e = L ∨ dgB (b e) = false) ∧ (∀ k, k ≠ 7 → e1.1 k = σ.1 k) ∧ (∀ j, j ≠ 4 → j ≠ 5 → e1.1 7 j = σ.1 7 j) ∧ (∀ k, k ≠ 0 → e2.2.1 k = τ.1 k) ∧ (∀ j, j ≠ 19 → j ≠ 22 → e2.2.1 0 j = τ.1 0 j) ∧ e2.2.2 = τ.2 ∧ (e - a ≤ 2 → ∃ v, v < 10 ^ (e - a) ∧ e1.1 7 5 = nI v ∧ e2.2.1 0 22 = nI v) := by
  refine lq_two (b1 := b_8_readDigits_5 n) (b2 := b_11_next0_206 n) (X := fun (e1 : St) (e2 : Int32 × St) => ∃ e, e2.1 = nI (e - a) ∧ e1.1 7 4 = nI e ∧ e2.2.1 0 19 = nI e ∧ a ≤ e ∧ e ≤ L ∧ (e = L ∨ dgB (b e) = false) ∧ (∀ k, k ≠ 7 → e1.1 k = σ.1 k) ∧ (∀ j, j ≠ 4 → j ≠ 5 → e1.1 7 j = σ.1 7 j) ∧ (∀ k, k ≠ 0 → e2.2.1 k = τ.1 k) ∧ (∀ j, j ≠ 19 → j ≠ 22 → e2.2.1 0 j = τ.1 0 j) ∧ e2.2.2 = τ.2 ∧ (e - a ≤ 2 → ∃ v, v < 10 ^ (e - a) ∧ e1.1 7 5 = nI v ∧ e2.2.1 0 22 = nI v)) (fun k s1 s2 => ∃ q τq, s2 = (nI (q - a), τq) ∧ k = L - q ∧ a ≤ q ∧ q ≤ L ∧ s1.1 7 4 = nI q ∧ τq.1 0 19 = nI q ∧ (∀ k, k ≠ 7 → s1.1 k = σ.1 k) ∧ (∀ j, j ≠ 4 → j ≠ 5 → s1.1 7 j = σ.1 7 j) ∧ (∀ k, k ≠ 0 → τq.1 k = τ.1 k) ∧ (∀ j, j ≠ 19 → j ≠ 22 → τq.1 0 j = τ.1 0 j) ∧ τq.2 = τ.2 ∧ (q - a ≤ 2 → ∃ v, v < 10 ^ (q - a) ∧ s1.1 7 5 = nI v ∧ τq.1 0 22 = nI v)) ?_ n n (L - a) σ (0, τ) (by have := h.1; omega) (by have := h.1; omega) ⟨a, τ, by rw [Nat.sub_self]; rfl, rfl, Nat.le_refl _, ha, hx, hm, fun _ _ => rfl, fun _ _ _ => rfl, fun _ _ => rfl, fun _ _ _ => rfl, rfl, fun _ => ⟨0, by rw [Nat.sub_self]; decide, hx5, hm22⟩⟩
  rintro k σq s2 ⟨q, τq, rfl, rfl, i1, i2, i4, i5, i6, i7, i8, i9, i10, i11⟩
  have ht : tpR σq τq L b := tp_c (i7 1 (by decide) (by decide)) (i6 8 (by decide)) (i9 18 (by decide) (by decide)) (i8 14 (by decide)) h
  have hL := h.1
  unfold b_8_readDigits_5 b_11_next0_206 j_11_next0_248
  simp only [nm_eq]
  rw [i4, ht.2.1, i5, see_M n ht i2]
  simp only [bd_eq]
  by_cases c : q < L
  · obtain ⟨b1, b2, b3⟩ := ht.2.2.2 q c
    rw [if_neg (nI_ge c (by omega)), gd_t (inb_nI (show q < 600 by omega) (by decide)), nI_clamp (by omega), b3, isDigit_X n σq b1, bd_eq, if_pos c, isDigit_M n τq b1, bd_eq]
    simp only
    by_cases el : dgB (b q) = true
    · left
      have hdg : 48 ≤ b q ∧ b q ≤ 57 := by simpa only [dgB, decide_eq_true_eq] using el
      have hq1 : q + 1 - a = q - a + 1 := by omega
      rw [if_pos el, if_neg (by decide), if_neg (by decide), i4, gd_t (inb_nI (show q < 600 by omega) (by decide)), nI_clamp (by omega), b3, si_place (show (4 : Nat) ≠ 5 by decide), i4, i5, see_M n ht i2, nI_1, nI_1]
      simp only [bd_eq]
      rw [if_pos c, si_place (show (19 : Nat) ≠ 22 by decide), i5, nI_1, sx_lo _ (by omega), show nI (b q) - 48 = nI (b q - 48) from pk_sub (b := 48) hdg.1]
      by_cases e2 : 2 ≤ q - a
      · rw [if_pos (show (2 : Int32) ≤ nI (q - a) from nI_le (a := 2) e2 (by omega))]
        refine ⟨L - (q + 1), _, _, by omega, rfl, rfl, q + 1, si τq 0 19 (nI (q + 1)), by rw [hq1], rfl, by omega, by omega, si_hit, si_hit, fun k hk => ?_, fun j j1 j2 => ?_, fun k hk => ?_, fun j j1 j2 => ?_, i10, fun z => by omega⟩
        · rw [si_ne hk, si_ne hk]; exact i6 k hk
        · rw [si_place j1, si_place j2]; exact i7 j j1 j2
        · rw [si_ne hk]; exact i8 k hk
        · rw [si_place j1]; exact i9 j j1 j2
      · rw [if_neg (show ¬ (2 : Int32) ≤ nI (q - a) from nI_ge (b := 2) (by omega) (by decide))]
        obtain ⟨v, v1, v2, v3⟩ := i11 (by omega)
        refine ⟨L - (q + 1), _, _, by omega, rfl, rfl, q + 1, si (si τq 0 22 (10 * τq.1 0 22 + nI (b q) - 48)) 0 19 (nI (q + 1)), by rw [hq1], rfl, by omega, by omega, si_hit, si_hit, fun k hk => ?_, fun j j1 j2 => ?_, fun k hk => ?_, fun j j1 j2 => ?_, i10, fun z => ⟨v * 10 + (b q - 48), ?_, ?_, ?_⟩⟩
        · rw [si_ne hk, si_ne hk]; exact i6 k hk
        · rw [si_place j1, si_place j2]; exact i7 j j1 j2
        · rw [si_ne hk, si_ne hk]; exact i8 k hk
        · rw [si_place j1, si_place j2]; exact i9 j j1 j2
        · rw [hq1, Nat.pow_succ]; omega
        · rw [si_place (by decide), si_hit, v2, show (10 : Int32) = nI 10 from rfl, pk_mul, nI_add]
        · rw [si_place (by decide), si_hit, v3, show (10 : Int32) = nI 10 from rfl, pk_mul, nI_add, show nI (10 * v + b q) - 48 = nI (10 * v + b q - 48) from pk_sub (b := 48) (by omega), show 10 * v + b q - 48 = v * 10 + (b q - 48) by omega]
    · right
      rw [if_neg el, if_pos rfl, if_pos rfl]
      exact ⟨_, _, rfl, rfl, q, rfl, i4, i5, i1, i2, .inr (Bool.eq_false_iff.mpr el), i6, i7, i8, i9, i10, i11⟩
  · right
    rw [if_pos (nI_le (by omega) (by omega)), if_neg c, (none_M n τq).2, bd_eq]
    simp only
    rw [if_pos trivial]
    exact ⟨_, _, rfl, rfl, q, rfl, i4, i5, i1, i2, .inl (by omega), i6, i7, i8, i9, i10, i11⟩
