/-! words and tokens -/
def kwN : List (List Nat) := [[103, 108, 97, 115, 115], [98, 97, 116, 104], [114, 101, 115, 116], [117, 110, 116, 105, 108], [101, 97, 99, 104], [99, 117, 114, 101]]
def kwF (i1 i : Nat) : Nat := (kwN.getD i1 []).getD i 0
def kwL (i1 : Nat) : Nat := wdLen.getD i1 0
theorem kw_dec : ∀ i1, i1 < 6 → kwL i1 ≤ 5 ∧ ∀ i, i < 5 → i < kwL i1 → chr ((wdByt.getD i1 []).getD i 0) = nI (kwF i1 (0 + i)) ∧ 97 ≤ kwF i1 (0 + i) ∧ kwF i1 (0 + i) ≤ 122 := by decide
theorem isWord_X (n : Nat) (hn : 1000 ≤ n) {σ : St} {L a e i1 : Nat} {b : Nat → Nat} (hi1 : i1 < 6) (hL : L ≤ 600) (h4 : σ.1 7 4 = nI e) (h3 : σ.1 7 3 = nI a) (hae : a ≤ e) (heL : e ≤ L) (hsm : ∀ i, i < e - a → smB (b (a + i)) = true) (h8 : ∀ i, i < L → σ.1 8 i = sx (b i)) : f_8_isWord n σ i1 = some (if wOf b a (e - a) = wOf (kwF i1) 0 (kwL i1) then 1 else 0, σ) := by
  obtain ⟨k5, kd⟩ := kw_dec i1 hi1
  unfold f_8_isWord
  simp only [nm_eq]
  rw [h4, h3, pk_sub hae]
  show (if nI (e - a) = nI (kwL i1) then _ else _) = _
  by_cases c : e - a = kwL i1
  · rw [if_pos (by rw [c])]
    have hb97 : ∀ i, i < e - a → 97 ≤ b (a + i) ∧ b (a + i) ≤ 122 := fun i hi => by simpa only [smB, decide_eq_true_eq] using hsm i hi
    have heq : wOf b a (e - a) = wOf (kwF i1) 0 (kwL i1) ↔ ∀ i, i < kwL i1 → b (a + i) = kwF i1 (0 + i) := by
      rw [c]
      exact wOf_eq (fun i hi => (hb97 i (by omega)).1) (fun i hi => (kd i (by omega) hi).2.1)
    obtain ⟨r, hr, hX⟩ := lq_for (b := b_8_isWord_20 n i1) (X := fun r => r = if wOf b a (e - a) = wOf (kwF i1) 0 (kwL i1) then .inr (nI (kwL i1), σ) else .inl (0, σ)) (kwL i1) (fun i s => s = (nI i, σ) ∧ ∀ i', i' < i → b (a + i') = kwF i1 (0 + i')) (by
      rintro i s hi ⟨rfl, h1⟩
      obtain ⟨k1, k2, k3⟩ := kd i (by omega) hi
      have hbi := hb97 i (by omega)
      unfold b_8_isWord_20
      simp only [nm_eq]
      rw [if_neg (show ¬ nI (wdLen.getD i1 0) ≤ nI i from nI_ge hi (show kwL i1 < 2 ^ 31 by omega)), h3, nI_add, gd_t (inb_nI (show a + i < 600 by omega) (by decide)), gd_t (inb_nI (show i < wdLen.getD i1 0 from hi) (by show kwL i1 < 2 ^ 31; omega)), nI_clamp (show a + i < 2 ^ 31 by omega), nI_clamp (show i < 2 ^ 31 by omega), k1, h8 _ (by omega), sx_lo _ (by omega), nI_1]
      by_cases z : b (a + i) = kwF i1 (0 + i)
      · left
        rw [if_pos (by rw [z])]
        refine ⟨_, rfl, rfl, fun i' hi' => ?_⟩
        by_cases y : i' = i
        · rw [y]; exact z
        · exact h1 i' (by omega)
      · right
        rw [if_neg (fun y => z ((nI_eq (by omega) (by omega)).mp y))]
        refine ⟨_, rfl, ?_⟩
        rw [if_neg (fun y => z (heq.mp y i hi))]) (by
      rintro s ⟨rfl, h1⟩
      unfold b_8_isWord_20
      simp only [nm_eq]
      rw [if_pos (show nI (wdLen.getD i1 0) ≤ nI (kwL i1) from nI_le (Nat.le_refl _) (by omega))]
      exact ⟨_, rfl, by rw [if_pos (heq.mpr h1)]⟩) (n := n) (by omega) (s := (0, σ)) ⟨rfl, fun i hi => absurd hi (Nat.not_lt_zero i)⟩
    rw [hr, bd_eq, hX]
    by_cases z : wOf b a (e - a) = wOf (kwF i1) 0 (kwL i1)
    · rw [if_pos z, if_pos z]; rfl
    · rw [if_neg z, if_neg z]; rfl
  · rw [if_neg (fun y => c ((nI_eq (by omega) (by omega)).mp y)), if_neg (fun y => c (by
      have := congrArg List.length y
      rwa [wOf_len, wOf_len] at this))]
def wt (w : List Nat) : Nat := if w = wOf (kwF 0) 0 5 then 0 else if w = wOf (kwF 1) 0 4 then 1 else if w = wOf (kwF 2) 0 4 then 2 else if w = wOf (kwF 3) 0 5 then 3 else if w = wOf (kwF 4) 0 4 then 4 else if w = wOf (kwF 5) 0 4 then 5 else 6
theorem wt_le {w : List Nat} : wt w ≤ 6 := by
  unfold wt
  (repeat' split) <;> omega
theorem wordToken_X (n : Nat) (hn : 1000 ≤ n) {σ : St} {L a e : Nat} {b : Nat → Nat} (hL : L ≤ 600) (h4 : σ.1 7 4 = nI e) (h3 : σ.1 7 3 = nI a) (hae : a ≤ e) (heL : e ≤ L) (hsm : ∀ i, i < e - a → smB (b (a + i)) = true) (h8 : ∀ i, i < L → σ.1 8 i = sx (b i)) : f_8_wordToken n σ = some (nI (wt (wOf b a (e - a))), σ) := by
  unfold f_8_wordToken wt
  rw [isWord_X n hn (i1 := 0) (by decide) hL h4 h3 hae heL hsm h8]
  simp only [bd_eq]
  rw [isWord_X n hn (i1 := 1) (by decide) hL h4 h3 hae heL hsm h8]
  simp only [bd_eq]
  rw [isWord_X n hn (i1 := 2) (by decide) hL h4 h3 hae heL hsm h8]
  simp only [bd_eq]
  rw [isWord_X n hn (i1 := 3) (by decide) hL h4 h3 hae heL hsm h8]
  simp only [bd_eq]
  rw [isWord_X n hn (i1 := 4) (by decide) hL h4 h3 hae heL hsm h8]
  simp only [bd_eq]
  rw [isWord_X n hn (i1 := 5) (by decide) hL h4 h3 hae heL hsm h8]
  simp only [bd_eq, one_if, show kwL 0 = 5 from rfl, show kwL 1 = 4 from rfl, show kwL 2 = 4 from rfl, show kwL 3 = 5 from rfl, show kwL 4 = 4 from rfl, show kwL 5 = 4 from rfl]
  generalize wOf b a (e - a) = w
  by_cases c0 : w = wOf (kwF 0) 0 5
  · rw [if_neg (fun z => z c0), if_pos c0]; rfl
  rw [if_pos c0, if_neg c0]
  by_cases c1 : w = wOf (kwF 1) 0 4
  · rw [if_neg (fun z => z c1), if_pos c1]; rfl
  rw [if_pos c1, if_neg c1]
  by_cases c2 : w = wOf (kwF 2) 0 4
  · rw [if_neg (fun z => z c2), if_pos c2]; rfl
  rw [if_pos c2, if_neg c2]
  by_cases c3 : w = wOf (kwF 3) 0 5
  · rw [if_neg (fun z => z c3), if_pos c3]; rfl
  rw [if_pos c3, if_neg c3]
  by_cases c4 : w = wOf (kwF 4) 0 4
  · rw [if_neg (fun z => z c4), if_pos c4]; rfl
  rw [if_pos c4, if_neg c4]
  by_cases c5 : w = wOf (kwF 5) 0 4
  · rw [if_neg (fun z => z c5), if_pos c5]; rfl
  rw [if_pos c5, if_neg c5]; rfl
/-- the reference's token for the class's -/
def tM (t : Nat) : Nat := if t ≤ 4 then 10 + t else if t = 5 then 4 else if t = 6 then 2 else if t = 7 then 3 else if t = 8 then 58 else if t = 9 then 59 else if t = 10 then 40 else if t = 11 then 41 else if t = 12 then 0 else 1
theorem kwM {w k : List Nat} {C : Int64} (hC : C = lN (cdB 256 96 k)) (hw : ∀ x, x ∈ w → 1 ≤ x ∧ x ≤ 26) (hwl : w.length ≤ 6) (hk : ∀ x, x ∈ k → 1 ≤ x ∧ x ≤ 26) (hkl : k.length ≤ 6) : lg_cmp (lN (cdB 256 96 w)) C = 0 ↔ w = k := by
  have h1 : cdB 256 96 w < 256 ^ 6 := cdB_lt (by decide) (fun x hx => by have := hw x hx; omega) hwl
  have h2 : cdB 256 96 k < 256 ^ 6 := cdB_lt (by decide) (fun x hx => by have := hk x hx; omega) hkl
  rw [hC, lg_cmp_eq, pk_lEQ (Nat.lt_trans h1 (by decide)) (Nat.lt_trans h2 (by decide))]
  constructor
  · exact cdB_inj (by decide) (fun x hx => by have := hw x hx; omega) (fun x hx => by have := hk x hx; omega)
  · intro e; rw [e]
theorem wordOf_M (n : Nat) {τ : St} {w : List Nat} (hw : ∀ x, x ∈ w → 1 ≤ x ∧ x ≤ 26) (hwl : w.length ≤ 6) : f_11_wordOf n τ (lN (cdB 256 96 w)) = some (nI (tM (wt w)), τ) := by
  unfold f_11_wordOf
  simp only [nm_eq]
  have k0 := kwM (k := wOf (kwF 0) 0 5) (C := 444199957363) (by decide) hw hwl (by decide) (by decide)
  have k1 := kwM (k := wOf (kwF 1) 0 4) (C := 1650553960) (by decide) hw hwl (by decide) (by decide)
  have k2 := kwM (k := wOf (kwF 2) 0 4) (C := 1919251316) (by decide) hw hwl (by decide) (by decide)
  have k3 := kwM (k := wOf (kwF 3) 0 5) (C := 504364296556) (by decide) hw hwl (by decide) (by decide)
  have k4 := kwM (k := wOf (kwF 4) 0 4) (C := 1700881256) (by decide) hw hwl (by decide) (by decide)
  have k5 := kwM (k := wOf (kwF 5) 0 4) (C := 1668641381) (by decide) hw hwl (by decide) (by decide)
  simp only [k0, k1, k2, k3, k4, k5]
  unfold wt
  by_cases c5 : w = wOf (kwF 5) 0 4
  · rw [if_pos c5]
    subst c5
    rw [if_neg (by decide), if_neg (by decide), if_neg (by decide), if_neg (by decide), if_neg (by decide), if_pos rfl]; rfl
  rw [if_neg c5]
  by_cases c0 : w = wOf (kwF 0) 0 5
  · rw [if_pos c0, if_pos c0]; rfl
  rw [if_neg c0, if_neg c0]
  by_cases c1 : w = wOf (kwF 1) 0 4
  · rw [if_pos c1, if_pos c1]; rfl
  rw [if_neg c1, if_neg c1]
  by_cases c2 : w = wOf (kwF 2) 0 4
  · rw [if_pos c2, if_pos c2]; rfl
  rw [if_neg c2, if_neg c2]
  by_cases c3 : w = wOf (kwF 3) 0 5
  · rw [if_pos c3, if_pos c3]; rfl
  rw [if_neg c3, if_neg c3]
  by_cases c4 : w = wOf (kwF 4) 0 4
  · rw [if_pos c4, if_pos c4]; rfl
  rw [if_neg c4, if_neg c4, if_neg c5]; rfl
/-- a token was read on both sides: its place, its end, what it is -/
def tkR (σ τ : St) (L p a e t : Nat) : Prop := σ.1 7 3 = nI a ∧ τ.1 0 21 = nI a ∧ σ.1 7 4 = nI e ∧ τ.1 0 19 = nI e ∧ p ≤ a ∧ a ≤ L ∧ e ≤ L ∧ σ.1 7 2 = nI t ∧ τ.1 0 20 = nI (tM t) ∧ t ≤ 13 ∧ (t ≠ 12 → a < e) ∧ (t = 7 → ∃ v, v ≤ 99 ∧ σ.1 7 5 = nI v ∧ τ.1 0 22 = nI v) ∧ (t = 6 → nmR (σ.1 7 6) (τ.2 0 27))
def frT (σ σ' : St) : Prop := (∀ k, k ≠ 7 → σ'.1 k = σ.1 k) ∧ σ'.1 7 1 = σ.1 7 1
def frN (τ τ' : St) : Prop := (∀ k, k ≠ 0 → τ'.1 k = τ.1 k) ∧ (∀ j, (j < 19 ∨ 22 < j) → τ'.1 0 j = τ.1 0 j) ∧ ∀ k j, k ≠ 0 → τ'.2 k j = τ.2 k j
theorem tok_two (n : Nat) (hn : 1000 ≤ n) {σ τ : St} {L p : Nat} {b : Nat → Nat} (h : tpR σ τ L b) (hp : p ≤ L) (hx : σ.1 7 4 = nI p) (hm : τ.1 0 19 = nI p) : ∃ σ' τ' a e t, f_8_readToken n σ = some σ' ∧ f_11_next0 n τ = some τ' ∧ tkR σ' τ' L p a e t ∧ frT σ σ' ∧ frN τ τ' := by
  have hL := h.1
  obtain ⟨σ1, τ1, l1, l2, a, u1, u2, u3, u4, u5, u6, u7, u8, u9⟩ := blank_two n hn (σ := si σ 7 3 (nI p)) (τ := τ) (b := b) (tp_c (by rw [si_place (by decide)]) (by rw [si_ne (by decide)]) rfl rfl h) hp si_hit hm
  have v5 : ∀ k, k ≠ 7 → σ1.1 k = σ.1 k := fun k hk => by rw [u5 k hk, si_ne hk]
  have v6 : ∀ j, j ≠ 3 → σ1.1 7 j = σ.1 7 j := fun j hj => by rw [u6 j hj, si_place hj]
  have ht : tpR σ1 τ1 L b := tp_c (v6 1 (by decide)) (v5 8 (by decide)) (u8 18 (by decide)) (u7 14 (by decide)) h
  have ht2 : tpR (si σ1 7 4 (nI a)) (si τ1 0 21 (nI a)) L b := tp_c (by rw [si_place (by decide)]) (by rw [si_ne (by decide)]) (by rw [si_place (by decide)]) (by rw [si_ne (by decide)]) ht
  unfold f_8_readToken f_11_next0
  simp only [nm_eq]
  rw [hx, l1, bd_eq, l2, bd_eq, u1, u2]
  have e19 : (si τ1 0 21 (nI a)).1 0 19 = nI a := by rw [si_place (by decide)]; exact u2
  have e3 : (si σ1 7 4 (nI a)).1 7 3 = nI a := by rw [si_place (by decide)]; exact u1
  rw [e19, e3, ht2.2.1, see_M n ht2 u4]
  simp only [bd_eq]
  by_cases c : a < L
  · obtain ⟨b1, b2, b3⟩ := ht2.2.2.2 a c
    rw [if_pos (nI_lt c (by omega)), gd_t (inb_nI (show a < 600 by omega) (by decide)), nI_clamp (by omega), b3, isLetter_X n _ b1, bd_eq, if_pos c, if_neg (nI_nm1 (by omega)), isLetter_M n _ b1, bd_eq]
    simp only
    by_cases el : letB (b a) = true
    · rw [if_pos el, if_neg (show ¬ (1 : Int32) = 0 by decide), if_neg (show ¬ (1 : Int32) = 0 by decide)]
      unfold f_8_readLetters
      simp only [nm_eq]
      obtain ⟨⟨fl, σ4⟩, ⟨z1, z2, τ4⟩, q1, q2, e, r1, r2, r3, r4, r5, r6, r7, r8, r9, r10, r11, r12, r13, r14⟩ := letters_two n hn (σ := si (si σ1 7 4 (nI a)) 7 6 0) (τ := sl (si τ1 0 21 (nI a)) 0 27 0) (b := b) (a := a) (tp_c (by rw [si_place (by decide)]) (by rw [si_ne (by decide)]) rfl rfl ht2) u4 (by rw [si_place (by decide), si_hit]) si_hit e19 (by rw [sl_get, if_pos ⟨rfl, rfl⟩])
      simp only at r1 r2 r3 r4 r5 r9 r10 r11 r12 r13 r14
      subst r1 r2
      rw [q1, bd_eq, q2, bd_eq]
      simp only
      have hae : a < e := by
        rcases r8 with z | z
        · omega
        · rcases Nat.lt_or_ge a e with y | y
          · exact y
          · rw [show e = a by omega, el] at z; cases z
      have w3 : σ4.1 7 3 = nI a := by rw [r10 3 (by decide) (by decide), si_place (by decide), e3]
      have w21 : τ4.1 0 21 = nI a := by rw [r12 21 (by decide), sl_i, si_hit]
      have frx : ∀ v, frT σ (si σ4 7 2 v) := fun v => ⟨fun k hk => by rw [si_ne hk, r9 k hk, si_ne hk, si_ne hk]; exact v5 k hk, by rw [si_place (by decide), r10 1 (by decide) (by decide), si_place (by decide), si_place (by decide)]; exact v6 1 (by decide)⟩
      have frm : ∀ v, frN τ (si τ4 0 20 v) := fun v => ⟨fun k hk => by rw [si_ne hk, r11 k hk, sl_i, si_ne hk]; exact u7 k hk, fun j hj => by rw [si_place (by omega), r12 j (by omega), sl_i, si_place (by omega)]; exact u8 j (by omega), fun k j hk => by rw [si_l, r13 k j hk, sl_get, if_neg (fun z => hk z.1), si_l, u9]⟩
      have base : ∀ t, t ≤ 13 → t ≠ 7 → (t = 6 → nmR (σ4.1 7 6) (τ4.2 0 27)) → tkR (si σ4 7 2 (nI t)) (si τ4 0 20 (nI (tM t))) L p a e t := fun t h1 h2 h3 => ⟨by rw [si_place (by decide)]; exact w3, by rw [si_place (by decide)]; exact w21, by rw [si_place (by decide)]; exact r4, by rw [si_place (by decide)]; exact r5, u3, u4, r7, si_hit, si_hit, h1, fun _ => hae, fun z => absurd z h2, fun z => by rw [si_place (by decide), si_l]; exact h3 z⟩
      by_cases f0 : fl = 0
      · subst f0
        rw [if_pos rfl, if_pos rfl]
        have : (if (7 : Int32) ≤ nI (e - a) then some (si τ4 0 20 1) else some (si τ4 0 20 1)) = some (si τ4 0 20 1) := by split <;> rfl
        rw [this]
        exact ⟨_, _, a, e, 13, rfl, rfl, base 13 (by decide) (by decide) (fun z => absurd z (by decide)), frx _, frm _⟩
      · rw [if_neg f0, if_neg f0, r4, w3, pk_sub (by omega)]
        by_cases h6 : 6 < e - a
        · rw [if_pos (show (6 : Int32) < nI (e - a) from nI_lt (a := 6) h6 (by omega)), if_pos (show (7 : Int32) ≤ nI (e - a) from nI_le (a := 7) (by omega) (by omega))]
          exact ⟨_, _, a, e, 13, rfl, rfl, base 13 (by decide) (by decide) (fun z => absurd z (by decide)), frx _, frm _⟩
        · rw [if_neg (show ¬ (6 : Int32) < nI (e - a) from nI_nlt (a := 6) (by omega) (by decide)), if_neg (show ¬ (7 : Int32) ≤ nI (e - a) from nI_ge (b := 7) (by omega) (by decide))]
          obtain ⟨s1, s2⟩ := r14 f0
          obtain ⟨s3, s4⟩ := s2 (by omega)
          have h8 : ∀ i, i < L → σ4.1 8 i = sx (b i) := fun i hi => by rw [r9 8 (by decide), si_ne (by decide)]; exact (ht2.2.2.2 i hi).2.2
          have hmem := wOf_mem s1
          rw [wordToken_X n hn hL r4 w3 (by omega) r7 s1 h8, bd_eq, s4, wordOf_M n hmem (by rw [wOf_len]; omega), bd_eq]
          refine ⟨_, _, a, e, wt (wOf b a (e - a)), rfl, rfl, base _ (by have := wt_le (w := wOf b a (e - a)); omega) (by have := wt_le (w := wOf b a (e - a)); omega) (fun _ => ?_), frx _, frm _⟩
          exact ⟨wOf b a (e - a), by rw [wOf_len]; omega, hmem, s3, s4⟩
    · rw [if_neg el, if_pos rfl, if_pos rfl, e3, gd_t (inb_nI (show a < 600 by omega) (by decide)), nI_clamp (by omega), b3, isDigit_X n _ b1, bd_eq, isDigit_M n _ b1, bd_eq]
      simp only
      by_cases ed : dgB (b a) = true
      · rw [if_pos ed, if_neg (show ¬ (1 : Int32) = 0 by decide), if_neg (show ¬ (1 : Int32) = 0 by decide)]
        unfold f_8_readDigits
        simp only [nm_eq]
        obtain ⟨σ4, ⟨z1, τ4⟩, q1, q2, e, r2, r4, r5, r6, r7, r8, r9, r10, r11, r12, r13, r14⟩ := digits_two n hn (σ := si (si σ1 7 4 (nI a)) 7 5 0) (τ := si (si τ1 0 21 (nI a)) 0 22 0) (b := b) (a := a) (tp_c (by rw [si_place (by decide)]) (by rw [si_ne (by decide)]) (by rw [si_place (by decide)]) (by rw [si_ne (by decide)]) ht2) u4 (by rw [si_place (by decide), si_hit]) si_hit (by rw [si_place (by decide)]; exact e19) si_hit
        simp only at r2 r5 r11 r12 r13 r14
        subst r2
        rw [q1, bd_eq, q2, bd_eq]
        simp only
        have hae : a < e := by
          rcases r8 with z | z
          · omega
          · rcases Nat.lt_or_ge a e with y | y
            · exact y
            · rw [show e = a by omega, ed] at z; cases z
        have w3 : σ4.1 7 3 = nI a := by rw [r10 3 (by decide) (by decide), si_place (by decide), e3]
        have w21 : τ4.1 0 21 = nI a := by rw [r12 21 (by decide) (by decide), si_place (by decide), si_hit]
        have frx : ∀ v, frT σ (si σ4 7 2 v) := fun v => ⟨fun k hk => by rw [si_ne hk, r9 k hk, si_ne hk, si_ne hk]; exact v5 k hk, by rw [si_place (by decide), r10 1 (by decide) (by decide), si_place (by decide), si_place (by decide)]; exact v6 1 (by decide)⟩
        have frm : ∀ v, frN τ (si τ4 0 20 v) := fun v => ⟨fun k hk => by rw [si_ne hk, r11 k hk, si_ne hk, si_ne hk]; exact u7 k hk, fun j hj => by rw [si_place (by omega), r12 j (by omega) (by omega), si_place (by omega), si_place (by omega)]; exact u8 j (by omega), fun k j hk => by rw [si_l, r13, si_l, si_l, u9]⟩
        have base : ∀ t, t ≤ 13 → t ≠ 6 → (t = 7 → ∃ v, v ≤ 99 ∧ σ4.1 7 5 = nI v ∧ τ4.1 0 22 = nI v) → tkR (si σ4 7 2 (nI t)) (si τ4 0 20 (nI (tM t))) L p a e t := fun t h1 h2 h3 => ⟨by rw [si_place (by decide)]; exact w3, by rw [si_place (by decide)]; exact w21, by rw [si_place (by decide)]; exact r4, by rw [si_place (by decide)]; exact r5, u3, u4, r7, si_hit, si_hit, h1, fun _ => hae, fun z => by rw [si_place (by decide), si_place (by decide)]; exact h3 z, fun z => absurd z h2⟩
        rw [r4, w3, pk_sub (by omega)]
        by_cases h2 : 2 < e - a
        · rw [if_pos (show (2 : Int32) < nI (e - a) from nI_lt (a := 2) h2 (by omega)), if_pos (show (3 : Int32) ≤ nI (e - a) from nI_le (a := 3) (by omega) (by omega))]
          exact ⟨_, _, a, e, 13, rfl, rfl, base 13 (by decide) (by decide) (fun z => absurd z (by decide)), frx _, frm _⟩
        · rw [if_neg (show ¬ (2 : Int32) < nI (e - a) from nI_nlt (a := 2) (by omega) (by decide)), if_neg (show ¬ (3 : Int32) ≤ nI (e - a) from nI_ge (b := 3) (by omega) (by decide))]
          obtain ⟨v, v1, v2, v3⟩ := r14 (by omega)
          have : v ≤ 99 := by
            have : e - a = 1 ∨ e - a = 2 := by omega
            rcases this with y | y <;> rw [y] at v1 <;> omega
          exact ⟨_, _, a, e, 7, rfl, rfl, base 7 (by decide) (by decide) (fun _ => ⟨v, this, v2, v3⟩), frx _, frm _⟩
      · rw [if_neg ed, if_pos rfl, if_pos rfl, e3, gd_t (inb_nI (show a < 600 by omega) (by decide)), nI_clamp (by omega), b3, sign_X n _ b1, bd_eq, e19]
        simp only
        rw [si_place (show (4 : Nat) ≠ 2 by decide), si_hit, nI_1]
        have frx : frT σ (si (si (si σ1 7 4 (nI a)) 7 2 (nI (sgX (b a)))) 7 4 (nI (a + 1))) := ⟨fun k hk => by rw [si_ne hk, si_ne hk, si_ne hk]; exact v5 k hk, by rw [si_place (by decide), si_place (by decide), si_place (by decide)]; exact v6 1 (by decide)⟩
        have frm : ∀ v, frN τ (si (si (si τ1 0 21 (nI a)) 0 19 (nI (a + 1))) 0 20 v) := fun v => ⟨fun k hk => by rw [si_ne hk, si_ne hk, si_ne hk]; exact u7 k hk, fun j hj => by rw [si_place (by omega), si_place (by omega), si_place (by omega)]; exact u8 j (by omega), fun k j hk => by rw [si_l, si_l, si_l, u9]⟩
        have base : sgX (b a) ≤ 13 → sgX (b a) ≠ 6 → sgX (b a) ≠ 7 → tkR (si (si (si σ1 7 4 (nI a)) 7 2 (nI (sgX (b a)))) 7 4 (nI (a + 1))) (si (si (si τ1 0 21 (nI a)) 0 19 (nI (a + 1))) 0 20 (nI (tM (sgX (b a))))) L p a (a + 1) (sgX (b a)) := fun h1 h2 h3 => ⟨by rw [si_place (by decide), si_place (by decide), e3], by rw [si_place (by decide), si_place (by decide), si_hit], si_hit, by rw [si_place (by decide), si_hit], u3, u4, by omega, by rw [si_place (by decide), si_hit], si_hit, h1, fun _ => by omega, fun z => absurd z h3, fun z => absurd z h2⟩
        by_cases c58 : b a = 58
        · have hs : sgX (b a) = 8 := by rw [c58]; rfl
          rw [if_pos (show nI (b a) = 58 by rw [c58]; rfl)]
          refine ⟨_, _, a, a + 1, sgX (b a), rfl, rfl, ?_, frx, frm _⟩
          have := base (by omega) (by omega) (by omega)
          rwa [show nI (tM (sgX (b a))) = nI (b a) by rw [hs, c58]; rfl] at this
        rw [if_neg (show ¬ nI (b a) = 58 from fun z => c58 ((nI_eq (b := 58) (by omega) (by decide)).mp z))]
        by_cases c59 : b a = 59
        · have hs : sgX (b a) = 9 := by rw [c59]; rfl
          rw [if_pos (show nI (b a) = 59 by rw [c59]; rfl)]
          refine ⟨_, _, a, a + 1, sgX (b a), rfl, rfl, ?_, frx, frm _⟩
          have := base (by omega) (by omega) (by omega)
          rwa [show nI (tM (sgX (b a))) = nI (b a) by rw [hs, c59]; rfl] at this
        rw [if_neg (show ¬ nI (b a) = 59 from fun z => c59 ((nI_eq (b := 59) (by omega) (by decide)).mp z))]
        by_cases c40 : b a = 40
        · have hs : sgX (b a) = 10 := by rw [c40]; rfl
          rw [if_pos (show nI (b a) = 40 by rw [c40]; rfl)]
          refine ⟨_, _, a, a + 1, sgX (b a), rfl, rfl, ?_, frx, frm _⟩
          have := base (by omega) (by omega) (by omega)
          rwa [show nI (tM (sgX (b a))) = nI (b a) by rw [hs, c40]; rfl] at this
        rw [if_neg (show ¬ nI (b a) = 40 from fun z => c40 ((nI_eq (b := 40) (by omega) (by decide)).mp z))]
        by_cases c41 : b a = 41
        · have hs : sgX (b a) = 11 := by rw [c41]; rfl
          rw [if_pos (show nI (b a) = 41 by rw [c41]; rfl)]
          refine ⟨_, _, a, a + 1, sgX (b a), rfl, rfl, ?_, frx, frm _⟩
          have := base (by omega) (by omega) (by omega)
          rwa [show nI (tM (sgX (b a))) = nI (b a) by rw [hs, c41]; rfl] at this
        rw [if_neg (show ¬ nI (b a) = 41 from fun z => c41 ((nI_eq (b := 41) (by omega) (by decide)).mp z))]
        have hs : sgX (b a) = 13 := by unfold sgX; rw [if_neg c40, if_neg c41, if_neg c58, if_neg c59]
        refine ⟨_, _, a, a + 1, sgX (b a), rfl, rfl, ?_, frx, frm _⟩
        have := base (by omega) (by omega) (by omega)
        rwa [show nI (tM (sgX (b a))) = 1 by rw [hs]; rfl] at this
  · have haL : a = L := by omega
    rw [if_neg (nI_nlt (by omega) (by omega)), if_neg c, if_pos rfl]
    refine ⟨_, _, a, a, 12, rfl, rfl, ⟨by rw [si_place (by decide)]; exact e3, by rw [si_place (by decide), si_hit], by rw [si_place (by decide), si_hit], by rw [si_place (by decide)]; exact e19, u3, u4, u4, si_hit, si_hit, by decide, fun z => absurd rfl z, fun z => by omega, fun z => by omega⟩, ⟨fun k hk => by rw [si_ne hk, si_ne hk]; exact v5 k hk, by rw [si_place (by decide), si_place (by decide)]; exact v6 1 (by decide)⟩, ⟨fun k hk => by rw [si_ne hk, si_ne hk]; exact u7 k hk, fun j hj => by rw [si_place (by omega), si_place (by omega)]; exact u8 j (by omega), fun k j hk => by rw [si_l, si_l, u9]⟩⟩
