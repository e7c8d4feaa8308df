/-! the reference goes through all orders -/
theorem m2_nI (m : Nat) : nI (m + 1) - 2 = nI m - 1 := by
  rw [nI_succ, show (2 : Int32) = 1 + 1 by decide, ← Int32.sub_sub, Int32.add_sub_cancel]
theorem m1_lt : nI 0 - 1 < 0 := by decide
section FM
variable {c : Cf} {d G : Nat} {P : Pg} {th : Nat → Bool} {rk : Nat → Nat} {gs : Nat → Nat} {N : Nat}
def orM (τ : St) (gs : Nat → Nat) (a : Nat → Nat) (N : Nat) : Prop := ∀ k, k < N → τ.1 26 k = nI (gs (a k))
theorem fI_le {a : Nat → Nat} : ∀ {k : Nat}, fI a k ≤ k := by
  intro k
  induction k with
  | zero => exact Nat.le_refl 0
  | succ k ih => rw [fI]; split <;> omega
theorem lp1_M (n : Nat) (hn : 1000 ≤ n) {τ : St} {a : Nat → Nat} {a1 : Int32} (hN : N ≤ 6) (h1 : 1 ≤ N) (hgs : ∀ i, i < N → gs i < 8) (hmo : ∀ i j, i < N → j < N → (gs i ≤ gs j ↔ i ≤ j)) (ha : ∀ k, k < N → a k < N) (ho : orM τ gs a N) : lq (b_11_nextOrder_4 n a1) n (nI (N - 1) - 1, τ) = some (nI (fI a (N - 1)) - 1, τ) := by
  obtain ⟨e, he, hX⟩ := lq_ex (b := b_11_nextOrder_4 n a1) (X := fun e => e = (nI (fI a (N - 1)) - 1, τ)) (fun k s => s = (nI k - 1, τ) ∧ k < N ∧ fI a k = fI a (N - 1)) (by
    rintro k s ⟨rfl, hk, hf⟩
    unfold b_11_nextOrder_4
    simp only [nm_eq]
    cases k with
    | zero =>
      right
      rw [if_pos m1_lt]
      exact ⟨_, rfl, by rw [← hf]; rfl⟩
    | succ k =>
      rw [nI_pred, if_neg (nI_pos (by omega)), gd_t (inb_nI (show k < 8 by omega) (by decide)), nI_1, gd_t (inb_nI (show k + 1 < 8 by omega) (by decide)), nI_clamp (by omega), nI_clamp (by omega), ho k (by omega), ho (k + 1) hk]
      have ha1 := ha k (by omega)
      have ha2 := ha (k + 1) hk
      have hg1 := hgs _ ha1
      have hg2 := hgs _ ha2
      rw [fI] at hf
      by_cases e : a k ≤ a (k + 1)
      · right
        rw [if_pos (nI_le ((hmo _ _ ha1 ha2).mpr e) (by omega))]
        rw [if_pos e] at hf
        exact ⟨_, rfl, by rw [← hf, nI_pred]⟩
      · left
        rw [if_neg (fun z => e ((hmo _ _ ha1 ha2).mp ((nI_leI (by omega) (by omega)).mp z)))]
        rw [if_neg e] at hf
        exact ⟨k, (nI k - 1, τ), by omega, by rw [Int32.sub_eq_add_neg], rfl, by omega, hf⟩) n (N - 1) (nI (N - 1) - 1, τ) (by omega) ⟨rfl, by omega, rfl⟩
  rw [he, hX]
theorem lp2_M (n : Nat) (hn : 1000 ≤ n) {τ : St} {a : Nat → Nat} {a1 : Int32} {i : Nat} (hi : i < N) (hN : N ≤ 6) (hgs : ∀ i, i < N → gs i < 8) (hmo : ∀ i j, i < N → j < N → (gs i ≤ gs j ↔ i ≤ j)) (ha : ∀ k, k < N → a k < N) (ho : orM τ gs a N) : lq (b_11_nextOrder_41 n a1 (nI i)) n (nI (N - 1), τ) = some (nI (fJ a (a i) (N - 1)), τ) ∧ fJ a (a i) (N - 1) < N := by
  obtain ⟨e, he, hX⟩ := lq_ex (b := b_11_nextOrder_41 n a1 (nI i)) (X := fun e => e = (nI (fJ a (a i) (N - 1)), τ) ∧ fJ a (a i) (N - 1) < N) (fun k s => s = (nI k, τ) ∧ i ≤ k ∧ k < N ∧ fJ a (a i) k = fJ a (a i) (N - 1)) (by
    rintro k s ⟨rfl, hik, hk, hf⟩
    unfold b_11_nextOrder_41
    simp only [nm_eq]
    have ha1 := ha i hi
    have ha2 := ha k hk
    have hg1 := hgs _ ha1
    have hg2 := hgs _ ha2
    rw [gd_t (inb_nI (show k < 8 by omega) (by decide)), gd_t (inb_nI (show i < 8 by omega) (by decide)), nI_clamp (by omega), nI_clamp (by omega), ho i hi, ho k hk]
    by_cases e : a i ≤ a k
    · right
      rw [if_pos (nI_le ((hmo _ _ ha1 ha2).mpr e) (by omega))]
      have hfk : fJ a (a i) k = k := by
        cases k with
        | zero => rfl
        | succ k => rw [fJ, if_pos e]
      rw [hfk] at hf
      exact ⟨_, rfl, by rw [← hf], by rw [← hf]; exact hk⟩
    · left
      rw [if_neg (fun z => e ((hmo _ _ ha1 ha2).mp ((nI_leI (by omega) (by omega)).mp z)))]
      have hne : i ≠ k := fun z => e (by rw [z]; exact Nat.le_refl _)
      obtain ⟨k, rfl⟩ : ∃ k', k = k' + 1 := ⟨k - 1, by omega⟩
      rw [fJ, if_neg e] at hf
      rw [pk_m1]
      exact ⟨k, _, by omega, rfl, rfl, by omega, by omega, hf⟩) n (N - 1) (nI (N - 1), τ) (by omega) ⟨rfl, by omega, by omega, rfl⟩
  rw [he, hX.1]
  exact ⟨rfl, hX.2⟩
theorem sw_M {τ : St} {a : Nat → Nat} {x y : Nat} (ho : orM τ gs a N) : orM (si (si τ 26 x (nI (gs (a y)))) 26 y (nI (gs (a x)))) gs (sw a x y) N := fun k hk => by
  rw [si_get, si_get]
  unfold sw
  by_cases e1 : k = y
  · rw [if_pos ⟨rfl, e1⟩, if_pos e1]
  · rw [if_neg (fun z => e1 z.2), if_neg e1]
    by_cases e2 : k = x
    · rw [if_pos ⟨rfl, e2⟩, if_pos e2]
    · rw [if_neg (fun z => e2 z.2), if_neg e2]; exact ho k hk
theorem k26_sw {τ0 τ : St} {x y : Nat} {u v : Int32} (h : k26 τ0 τ) : k26 τ0 (si (si τ 26 x u) 26 y v) := ⟨fun k hk => by rw [si_ne hk, si_ne hk]; exact h.1 k hk, h.2⟩
theorem lp3_M (n : Nat) (hn : 1000 ≤ n) {τ0 : St} (hN : N ≤ 6) {F : Nat → Nat} : ∀ (f x y : Nat) (a : Nat → Nat) (τ : St), y - x ≤ f → x ≤ N → y < N → orM τ gs a N → k26 τ0 τ → rv f a x y = F → ∃ e : Int32 × Int32 × St, lq (b_11_nextOrder_100 n) n (nI x, nI y, τ) = some e ∧ orM e.2.2 gs F N ∧ k26 τ0 e.2.2 := by
  intro f x y a τ hf hx hy ho hk hF
  refine lq_ex (b := b_11_nextOrder_100 n) (X := fun e => orM e.2.2 gs F N ∧ k26 τ0 e.2.2) (fun k s => ∃ f x y a τ, k = y - x ∧ s = (nI x, nI y, τ) ∧ y - x ≤ f ∧ x ≤ N ∧ y < N ∧ orM τ gs a N ∧ k26 τ0 τ ∧ rv f a x y = F) ?_ n (y - x) _ (by omega) ⟨f, x, y, a, τ, rfl, rfl, hf, hx, hy, ho, hk, hF⟩
  clear hf hx hy ho hk hF f x y a τ
  rintro k s ⟨f, x, y, a, τ, rfl, rfl, hf, hx, hy, ho, hk, hF⟩
  unfold b_11_nextOrder_100
  simp only [nm_eq]
  by_cases e : y ≤ x
  · right
    rw [if_pos (nI_le e (by omega))]
    refine ⟨_, rfl, ?_, hk⟩
    have hF' : a = F := by
      cases f with
      | zero => exact hF
      | succ f => rw [rv, if_pos e] at hF; exact hF
    rw [← hF']; exact ho
  · left
    obtain ⟨f, rfl⟩ : ∃ f', f = f' + 1 := ⟨f - 1, by omega⟩
    obtain ⟨y, rfl⟩ : ∃ y', y = y' + 1 := ⟨y - 1, by omega⟩
    rw [rv, if_neg e, Nat.add_sub_cancel] at hF
    rw [if_neg (nI_ge (by omega) (by omega)), gd_t (inb_nI (show x < 8 by omega) (by decide)), gd_t (inb_nI (show y + 1 < 8 by omega) (by decide)), nI_clamp (by omega), nI_clamp (by omega), ho x (by omega), ho (y + 1) hy, nI_1, pk_m1]
    exact ⟨y - (x + 1), _, by omega, rfl, f, x + 1, y, _, _, rfl, rfl, by omega, by omega, by omega, sw_M ho, k26_sw hk, hF⟩
theorem next_M (n : Nat) (hn : 1000 ≤ n) {τ : St} {l : List Nat} (hN : N ≤ 6) (hgs : ∀ i, i < N → gs i < 8) (hmo : ∀ i j, i < N → j < N → (gs i ≤ gs j ↔ i ≤ j)) (hl : l.length = N) (ha : ∀ x, x ∈ l → x < N) (ho : orM τ gs (fun k => l.getD k 0) N) : (np N l = none ∧ f_11_nextOrder n τ (nI N) = some (0, τ)) ∨ ∃ l' τ', np N l = some l' ∧ f_11_nextOrder n τ (nI N) = some (1, τ') ∧ orM τ' gs (fun k => l'.getD k 0) N ∧ k26 τ τ' := by
  have ha' : ∀ k, k < N → (fun k => l.getD k 0) k < N := fun k hk => ha _ (getD_mem (by rw [hl]; exact hk))
  rcases Nat.eq_zero_or_pos N with h0 | h1
  · left
    subst h0
    refine ⟨rfl, ?_⟩
    unfold f_11_nextOrder
    simp only [nm_eq]
    obtain ⟨n', rfl⟩ : ∃ n', n = n' + 1 := ⟨n - 1, by omega⟩
    have hb : b_11_nextOrder_4 (n' + 1) (nI 0) (nI 0 - 2, τ) = some (.inr (nI 0 - 2, τ)) := by
      unfold b_11_nextOrder_4
      rw [if_pos (show (nI 0 - 2, τ).1 < 0 by show nI 0 - 2 < 0; decide)]
    rw [lq, hb]
    simp only [bd_eq, Sum.elim_inr]
    rw [if_neg (by decide)]
  · have h2 : nI N - 2 = nI (N - 1) - 1 := by
      have := m2_nI (N - 1)
      rwa [show N - 1 + 1 = N by omega] at this
    unfold f_11_nextOrder np
    simp only [nm_eq]
    rw [h2, lp1_M n hn hN h1 hgs hmo ha' ho, bd_eq]
    simp only
    have hle := fI_le (a := fun k => l.getD k 0) (k := N - 1)
    cases hi : fI (fun k => l.getD k 0) (N - 1) with
    | zero =>
      left
      refine ⟨rfl, ?_⟩
      rw [if_neg (by decide)]
    | succ i =>
      right
      rw [hi] at hle
      have hiN : i < N := by omega
      obtain ⟨p1, p2⟩ := lp2_M n hn (a1 := nI N) hiN hN hgs hmo ha' ho
      have p1' : lq (b_11_nextOrder_41 n (nI N) (nI i)) n (nI (N - 1), τ) = some (nI (fJ (fun k => l.getD k 0) (l.getD i 0) (N - 1)), τ) := p1
      rw [nI_pred, if_pos (nI_pos' (by omega)), show nI N - 1 = nI (N - 1) from by
        have := nI_pred (N - 1); rwa [show N - 1 + 1 = N by omega] at this, p1', bd_eq]
      simp only
      generalize hj : fJ (fun k => l.getD k 0) (l.getD i 0) (N - 1) = j
      have hjN : j < N := by rw [← hj]; exact p2
      rw [gd_t (inb_nI (show i < 8 by omega) (by decide)), gd_t (inb_nI (show j < 8 by omega) (by decide)), nI_clamp (by omega), nI_clamp (by omega), ho i hiN, ho j hjN, nI_1]
      obtain ⟨e, q1, q2, q3⟩ := lp3_M n hn (τ0 := τ) hN N (i + 1) (N - 1) (sw (fun k => l.getD k 0) i j) _ (by omega) (by omega) (by omega) (sw_M ho) (k26_sw ⟨fun _ _ => rfl, rfl⟩) rfl
      rw [q1, bd_eq]
      refine ⟨_, _, rfl, rfl, fun k hk => ?_, q3⟩
      rw [q2 k hk]
      congr 2
      show _ = ((List.range N).map (rv N (sw (fun k => l.getD k 0) i j) (i + 1) (N - 1))).getD k 0
      rw [List.getD_eq_getElem?_getD, List.getElem?_map, List.getElem?_range hk]
      rfl
end FM
