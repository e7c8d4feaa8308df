/-! the class lays a guest's day out -/
def rsX (σ : St) (T : Tk) (B : Bt) : Prop := (∀ s q, s < 4 → q < 48 → σ.1 (116 + s) q = nI (T s q)) ∧ ∀ k t, k < 6 → (σ.2 14 k).toBitVec.getLsbD t = B k t
def rwX (g : Nat) (σ : St) : Xs → Prop
  | (now, str, len, ov, gl, lo, ac, _, _) => σ.1 (76 + g) 0 = nI now ∧ σ.1 (76 + g) 1 = nI str ∧ σ.1 (76 + g) 2 = nI len ∧ σ.1 (76 + g) 3 = nI ov ∧ σ.1 (76 + g) 4 = nI gl ∧ σ.1 (76 + g) 5 = (if lo = true then 1 else 0) ∧ ∀ i, i < len → σ.1 (100 + g) i = nI (ac i).1 ∧ σ.1 (84 + g) i = nI (ac i).2.1 ∧ σ.1 (92 + g) i = nI (ac i).2.2.1 ∧ σ.1 (108 + g) i = if (ac i).1 = 2 then -1 else nI (ac i).2.2.2
def xT (x : Xs) : Tk := x.2.2.2.2.2.2.2.1
def xB (x : Xs) : Bt := x.2.2.2.2.2.2.2.2
def rpX (g : Nat) (σ : St) (x : Xs) : Prop := rwX g σ x ∧ rsX σ (xT x) (xB x)
def frX (g : Nat) (σ σ' : St) : Prop := ∀ k, k < 116 → k ≠ 76 + g → k ≠ 84 + g → k ≠ 92 + g → k ≠ 100 + g → k ≠ 108 + g → σ'.1 k = σ.1 k
theorem frX_rf {g : Nat} {σ : St} : frX g σ σ := fun _ _ _ _ _ _ _ => rfl
theorem frX_tr {g : Nat} {σ σ' σ'' : St} (h1 : frX g σ σ') (h2 : frX g σ' σ'') : frX g σ σ'' := fun k a b c d e f => (h2 k a b c d e f).trans (h1 k a b c d e f)
def cfX (σ : St) (c : Cf) : Prop := (∀ s, s < 4 → σ.1 (22 + s) 0 = nI (c.1 s) ∧ σ.1 (22 + s) 1 = nI (c.2.1 s) ∧ σ.1 (22 + s) 2 = nI (c.2.2.1 s) ∧ σ.1 (22 + s) 3 = nI (c.2.2.2.1 s)) ∧ ∀ k a, k < 6 → a < 3 → (c.2.2.2.2 k a = true ↔ ¬ σ.1 (30 + k) 1 = 0 ∧ σ.1 (30 + k) 0 = nI a)
def guX (σ : St) (g r bd m : Nat) (A : Rg) : Prop := σ.1 (36 + g) 1 = nI r ∧ r < 8 ∧ σ.1 (36 + g) 4 = nI bd ∧ σ.1 (44 + r) 1 = nI m ∧ ∀ i, i < m → σ.1 (52 + r) i = nI (A i).1 ∧ σ.1 (60 + r) i = nI (A i).2.1 ∧ ((A i).1 = 1 ∨ (A i).1 = 4 → σ.1 (68 + r) i = nI (A i).2.2)
theorem cfX_c {σ σ' : St} {c : Cf} (h : ∀ k, k < 76 → σ'.1 k = σ.1 k) (hc : cfX σ c) : cfX σ' c := by
  refine ⟨fun s hs => ?_, fun k a hk ha => ?_⟩
  · rw [h _ (by omega)]; exact hc.1 s hs
  · rw [h _ (by omega)]; exact hc.2 k a hk ha
theorem guX_c {σ σ' : St} {g r bd m : Nat} {A : Rg} (hg : g < 8) (h : ∀ k, k < 76 → σ'.1 k = σ.1 k) (hc : guX σ g r bd m A) : guX σ' g r bd m A := by
  obtain ⟨h1, h2, h3, h4, h5⟩ := hc
  unfold guX
  rw [h (36 + g) (by omega), h (44 + r) (by omega), h (52 + r) (by omega), h (60 + r) (by omega), h (68 + r) (by omega)]
  exact ⟨h1, h2, h3, h4, h5⟩
theorem nI_nm1 {k : Nat} (h : k < 2 ^ 31) : ¬ nI k = -1 := fun e => by
  have := congrArg Int32.toInt e
  rw [nI_toInt h, show (-1 : Int32).toInt = -1 by decide] at this
  omega
def σN (σ : St) (g len : Nat) (w q l p : Int32) : St := si (si (si (si (si (si (si σ (100 + g) len w) (84 + g) len q) (92 + g) len l) (108 + g) len p) (76 + g) 2 (nI (len + 1))) (76 + g) 3 (q + l)) (76 + g) 0 (q + l)
theorem note_X (n : Nat) (σ : St) (g len : Nat) (w q l p : Int32) (hl : σ.1 (76 + g) 2 = nI len) (hlen : len < 30) : f_5_note n σ g w q l p = some (σN σ g len w q l p) := by
  unfold f_5_note σN
  simp only [nm_eq]
  have e1 : ∀ v, (si σ (100 + g) len v).1 (76 + g) 2 = nI len := fun v => by rw [si_cell (by omega), hl]
  have e2 : ∀ v v2, (si (si σ (100 + g) len v) (84 + g) len v2).1 (76 + g) 2 = nI len := fun v v2 => by rw [si_cell (by omega), e1]
  have e3 : ∀ v v2 v3, (si (si (si σ (100 + g) len v) (84 + g) len v2) (92 + g) len v3).1 (76 + g) 2 = nI len := fun v v2 v3 => by rw [si_cell (by omega), e2]
  have e4 : ∀ v v2 v3 v4, (si (si (si (si σ (100 + g) len v) (84 + g) len v2) (92 + g) len v3) (108 + g) len v4).1 (76 + g) 2 = nI len := fun v v2 v3 v4 => by rw [si_cell (by omega), e3]
  rw [hl, if_neg (show ¬ (30 : Int32) ≤ nI len from nI_ge hlen (by decide)), gd_t (inb_nI hlen (by decide)), nI_clamp (by omega), e1, gd_t (inb_nI hlen (by decide)), nI_clamp (by omega), e2, gd_t (inb_nI hlen (by decide)), nI_clamp (by omega), e3, gd_t (inb_nI hlen (by decide)), nI_clamp (by omega), e4, nI_1, si_hit]
theorem σN_ne {σ : St} {g len : Nat} {w q l p : Int32} {k : Nat} (h1 : k ≠ 76 + g) (h2 : k ≠ 84 + g) (h3 : k ≠ 92 + g) (h4 : k ≠ 100 + g) (h5 : k ≠ 108 + g) : (σN σ g len w q l p).1 k = σ.1 k := by
  unfold σN
  rw [si_ne h1, si_ne h1, si_ne h1, si_ne h5, si_ne h3, si_ne h2, si_ne h4]
theorem σN_l {σ : St} {g len : Nat} {w q l p : Int32} : (σN σ g len w q l p).2 = σ.2 := rfl
theorem rwX_note {σ : St} {g now str len ov gl w q l pl : Nat} {lo : Bool} {ac : Nat → Act4} {T T' : Tk} {B B' : Bt} {p : Int32} (h : rwX g σ (now, str, len, ov, gl, lo, ac, T, B)) (hp : p = if w = 2 then -1 else nI pl) : rwX g (σN σ g len (nI w) (nI q) (nI l) p) (q + l, str, len + 1, q + l, gl, lo, upA ac len (w, q, l, pl), T', B') := by
  obtain ⟨h0, h1, h2, h3, h4, h5, h6⟩ := h
  refine ⟨by simp [σN, si_get, nI_add], by simpa [σN, si_get] using h1, by simp [σN, si_get], by simp [σN, si_get, nI_add], by simpa [σN, si_get] using h4, by simpa [σN, si_get] using h5, fun i hi => ?_⟩
  by_cases e : i = len
  · subst e
    rw [upA_at]
    simp [σN, si_get, hp]
  · rw [upA_ne e]
    simpa [σN, si_get, e] using h6 i (by omega)
theorem rsX_c {σ σ' : St} {T : Tk} {B : Bt} (h1 : ∀ k, 116 ≤ k → σ'.1 k = σ.1 k) (h2 : σ'.2 14 = σ.2 14) (h : rsX σ T B) : rsX σ' T B := by
  refine ⟨fun s q hs hq => ?_, fun k t hk => ?_⟩
  · rw [h1 _ (by omega)]; exact h.1 s q hs hq
  · rw [h2]; exact h.2 k t hk
theorem rwX_c {g : Nat} {σ σ' : St} {x : Xs} (h : ∀ k, 76 ≤ k → k < 116 → σ'.1 k = σ.1 k) (hg : g < 8) (hx : rwX g σ x) : rwX g σ' x := by
  obtain ⟨now, str, len, ov, gl, lo, ac, T, B⟩ := x
  unfold rwX at hx ⊢
  simp only at hx ⊢
  rw [h (76 + g) (by omega) (by omega), h (84 + g) (by omega) (by omega), h (92 + g) (by omega) (by omega), h (100 + g) (by omega) (by omega), h (108 + g) (by omega) (by omega)]
  exact hx
/-- something is lost -/
theorem lose_X {g : Nat} (hg : g < 8) {σ : St} {now str len ov gl : Nat} {lo : Bool} {ac : Nat → Act4} {T : Tk} {B : Bt} (h : rpX g σ (now, str, len, ov, gl, lo, ac, T, B)) : rpX g (si σ (76 + g) 5 1) (now, str, len, ov, gl, true, ac, T, B) ∧ frX g σ (si σ (76 + g) 5 1) := by
  obtain ⟨⟨h0, h1, h2, h3, h4, h5, h6⟩, h7⟩ := h
  refine ⟨⟨⟨by simpa [si_get] using h0, by simpa [si_get] using h1, by simpa [si_get] using h2, by simpa [si_get] using h3, by simpa [si_get] using h4, by simp [si_get], fun i hi => by simpa [si_get] using h6 i hi⟩, rsX_c (fun k hk => si_ne (by omega)) rfl h7⟩, fun k a b c d e f => si_ne b⟩
theorem addRest_X (n : Nat) {g : Nat} (hg : g < 8) {σ : St} {x : Xs} {bd i a : Nat} (hi : i < 30) (ha : a ≤ 16) (hW : xW bd i x) (h : rpX g σ x) : ∃ σ', f_3_addRest n σ g (nI a) = some σ' ∧ rpX g σ' (aRest a x) ∧ frX g σ σ' := by
  obtain ⟨now, str, len, ov, gl, lo, ac, T, B⟩ := x
  obtain ⟨w1, w2, w3, w4, w5, w6, w7⟩ := hW
  have h0 := h.1.1
  have h2 := h.1.2.2.1
  unfold f_3_addRest
  simp only [nm_eq]
  rw [h0, nI_add]
  unfold aRest
  by_cases e : 48 < now + a
  · simp only [if_pos e]
    rw [if_neg (show ¬ nI (now + a) ≤ (48 : Int32) from nI_ge (b := now + a) (a := 48) e (by omega))]
    exact ⟨_, rfl, lose_X hg h⟩
  · simp only [if_neg e]
    rw [if_pos (show nI (now + a) ≤ (48 : Int32) from nI_le (b := 48) (by omega) (by decide)), note_X n σ g len _ _ _ _ h2 (by omega), bd_eq]
    refine ⟨_, rfl, ⟨rwX_note (w := 2) h.1 rfl, rsX_c (fun k hk => σN_ne (by omega) (by omega) (by omega) (by omega) (by omega)) rfl h.2⟩, fun k a b c d e f => σN_ne b c d e f⟩
theorem glX (n : Nat) (hn : 1000 ≤ n) {σ : St} {c : Cf} {T : Tk} {B : Bt} {s g q0 : Nat} (hs : s < 4) (hq0 : q0 ≤ 48) (hc : cfX σ c) (hW : cfW c) (hT : rsX σ T B) (hb : rsW T B) : ∃ q, lq (b_3_addGlass_27 n s g (nI s)) n (nI q0, σ) = some (nI q, σ) ∧ q0 ≤ q ∧ q ≤ 48 ∧ (∀ j, q0 ≤ j → j < q → ¬ T s j < c.1 s) ∧ (q < c.2.2.1 s → T s q < c.1 s) := by
  obtain ⟨c0, c1, c2, c3⟩ := hc.1 s hs
  obtain ⟨w0, w1, w2, w3⟩ := hW s hs
  obtain ⟨e, he, q, rfl, hX⟩ := lq_ex (b := b_3_addGlass_27 n s g (nI s)) (X := fun e => ∃ q, e = (nI q, σ) ∧ q0 ≤ q ∧ q ≤ 48 ∧ (∀ j, q0 ≤ j → j < q → ¬ T s j < c.1 s) ∧ (q < c.2.2.1 s → T s q < c.1 s)) (fun k st => ∃ q, st = (nI q, σ) ∧ q0 ≤ q ∧ q ≤ 48 ∧ k = 48 - q ∧ ∀ j, q0 ≤ j → j < q → ¬ T s j < c.1 s) (by
    rintro k st ⟨q, rfl, h1, h2, rfl, h3⟩
    unfold b_3_addGlass_27
    simp only [nm_eq, c2]
    by_cases e : c.2.2.1 s ≤ q
    · right
      rw [if_pos (nI_le e (by omega))]
      exact ⟨_, rfl, q, rfl, h1, h2, h3, fun z => by omega⟩
    · rw [if_neg (nI_ge (by omega) (by omega)), gd_t (inb_nI hs (by decide)), gd_t (inb_nI (show q < 48 by omega) (by decide)), nI_clamp (by omega), nI_clamp (by omega), hT.1 s q hs (by omega), c0, nI_1]
      have := hb.1 s q
      by_cases e2 : T s q < c.1 s
      · right
        rw [if_pos (nI_lt e2 (by omega))]
        exact ⟨_, rfl, q, rfl, h1, h2, h3, fun _ => e2⟩
      · left
        rw [if_neg (nI_nlt (by omega) (by omega))]
        refine ⟨48 - (q + 1), _, by omega, rfl, q + 1, rfl, by omega, by omega, rfl, fun j h4 h5 => ?_⟩
        by_cases e3 : j = q
        · subst e3; exact e2
        · exact h3 j h4 (by omega)) n (48 - q0) (nI q0, σ) (by omega) ⟨q0, rfl, Nat.le_refl _, hq0, rfl, fun j h1 h2 => by omega⟩
  exact ⟨q, he, hX⟩
theorem max_nI {a b : Nat} (ha : a < 2 ^ 31) (hb : b < 2 ^ 31) : (if nI a < nI b then nI b else nI a) = nI (if a < b then b else a) := by
  by_cases e : a < b
  · rw [if_pos (nI_lt e hb), if_pos e]
  · rw [if_neg (nI_nlt (by omega) ha), if_neg e]
theorem addGlass_X (n : Nat) (hn : 1000 ≤ n) {g : Nat} (hg : g < 8) {σ : St} {x : Xs} {c : Cf} {bd i s : Nat} (hi : i < 30) (hs : s < 4) (hbd : bd ≤ 99) (hc : cfX σ c) (hcW : cfW c) (hW : xW bd i x) (h : rpX g σ x) : ∃ σ', f_3_addGlass n σ s g (nI bd) (nI s) = some σ' ∧ rpX g σ' (aGlass c bd s x) ∧ frX g σ σ' := by
  obtain ⟨now, str, len, ov, gl, lo, ac, T, B⟩ := x
  obtain ⟨w1, w2, w3, w4, w5, w6, w7⟩ := hW
  obtain ⟨c0, c1, c2, c3⟩ := hc.1 s hs
  obtain ⟨v0, v1, v2, v3⟩ := hcW s hs
  obtain ⟨⟨h0, h1, h2, h3, h4, h5, h6⟩, h7⟩ := id h
  have h7 : rsX σ T B := h7
  unfold f_3_addGlass aGlass
  simp only [nm_eq]
  rw [h1, c3, nI_add, h0, c1, max_nI (by omega) (by omega)]
  by_cases e : bd < str + c.2.2.2.1 s
  · rw [if_neg (nI_ge e (by omega)), if_pos e]
    exact ⟨_, rfl, h, frX_rf⟩
  · rw [if_pos (nI_le (by omega) (by omega)), if_neg e]
    obtain ⟨q, hq, q1, q2, q3, q4⟩ := glX n hn (g := g) (q0 := if now < c.2.1 s then c.2.1 s else now) hs (by split <;> omega) hc hcW h7 w7
    rw [hq, bd_eq]
    simp only
    have hnow : now ≤ q := by split at q1 <;> omega
    have hfr : c.2.1 s ≤ q := by split at q1 <;> omega
    by_cases e2 : q < c.2.2.1 s
    · have hg2 : glAt c T s now = some q := ffst_at hnow (by omega) (by simp only [glP, decide_eq_true_eq]; exact ⟨hfr, e2, q4 e2⟩) (fun j j1 j2 => by
        simp only [glP, decide_eq_false_iff_not]
        intro z
        exact q3 j (by split <;> omega) j2 z.2.2)
      rw [hg2, if_pos (by rw [c2]; exact nI_lt e2 (by omega)), gd_t (inb_nI hs (by decide)), gd_t (inb_nI (show q < 48 by omega) (by decide)), nI_clamp (by omega), nI_clamp (by omega), h7.1 s q hs (by omega), nI_1]
      rw [si_cell (show 76 + g ≠ 116 + s by omega), si_cell (show 22 + s ≠ 116 + s by omega), h1, c3, nI_add]
      rw [si_place (show 4 ≠ 1 by decide), si_cell (show 76 + g ≠ 116 + s by omega), h4, nI_1]
      have hl : (si (si (si σ (116 + s) q (nI (T s q + 1))) (76 + g) 1 (nI (str + c.2.2.2.1 s))) (76 + g) 4 (nI (gl + 1))).1 (76 + g) 2 = nI len := by
        rw [si_place (by decide), si_place (by decide), si_cell (by omega), h2]
      rw [note_X n _ g len _ _ _ _ hl (by omega), bd_eq]
      have hr : rwX g (si (si (si σ (116 + s) q (nI (T s q + 1))) (76 + g) 1 (nI (str + c.2.2.2.1 s))) (76 + g) 4 (nI (gl + 1))) (now, str + c.2.2.2.1 s, len, ov, gl + 1, lo, ac, T, B) := by
        refine ⟨?_, by simp [si_get], hl, ?_, by simp [si_get], ?_, fun i hi => ?_⟩
        · rw [si_place (by decide), si_place (by decide), si_cell (by omega), h0]
        · rw [si_place (by decide), si_place (by decide), si_cell (by omega), h3]
        · rw [si_place (by decide), si_place (by decide), si_cell (by omega), h5]
        · rw [si_cell (by omega), si_cell (by omega), si_cell (by omega), si_cell (by omega), si_cell (by omega), si_cell (by omega), si_cell (by omega), si_cell (by omega), si_cell (by omega), si_cell (by omega), si_cell (by omega), si_cell (by omega)]
          exact h6 i hi
      refine ⟨_, rfl, ⟨rwX_note (w := 0) (l := 1) hr rfl, ⟨fun s' q' hs' hq' => ?_, h7.2⟩⟩, fun k a b c d e f => ?_⟩
      · rw [σN_ne (by omega) (by omega) (by omega) (by omega) (by omega), si_cell (by omega), si_cell (by omega), si_get]
        show _ = nI (upT T s q s' q')
        unfold upT
        by_cases z : s' = s ∧ q' = q
        · rw [if_pos ⟨by omega, z.2⟩, if_pos z]
        · rw [if_neg (fun y => z ⟨by omega, y.2⟩), if_neg z]
          exact h7.1 s' q' hs' hq'
      · rw [σN_ne b c d e f, si_ne b, si_ne b, si_ne (by omega)]
    · have hg2 : glAt c T s now = none := ffst_no (fun j j1 j2 => by
        simp only [glP, decide_eq_false_iff_not]
        intro z
        exact q3 j (by split <;> omega) (by omega) z.2.2)
      rw [hg2, if_neg (by rw [c2]; exact nI_nlt (by omega) (by omega))]
      exact ⟨_, rfl, lose_X hg h⟩
/-! bits -/
def bitsV (q l : Nat) : Int64 := Int64.ofNat ((2 ^ l - 1) * 2 ^ q)
theorem bits_dec : ∀ q, q < 49 → ∀ l, l < 17 → ((((1 : Int64) <<< (Int32.toInt64 (nI l) &&& 63)) - 1) <<< (Int32.toInt64 (nI q) &&& 63)) = bitsV q l := by decide +kernel
theorem bits_X (n : Nat) (σ : St) {q l : Nat} (hl : l ≤ 16) (hq : q ≤ 48) : f_3_bits n σ (nI q) (nI l) = some (bitsV q l, σ) := by
  unfold f_3_bits
  simp only [nm_eq]
  rw [bits_dec q (by omega) l (by omega)]
theorem bitsV_get {q l : Nat} (h : q + l ≤ 48) (t : Nat) : (bitsV q l).toBitVec.getLsbD t = decide (q ≤ t ∧ t < q + l) := by
  show (BitVec.ofNat 64 ((2 ^ l - 1) * 2 ^ q)).getLsbD t = _
  rw [BitVec.getLsbD_ofNat, Nat.testBit_mul_two_pow, Nat.testBit_two_pow_sub_one]
  by_cases h1 : q ≤ t
  · by_cases h2 : t < q + l
    · simp [h1, h2, show t < 64 by omega, show t - q < l by omega]
    · simp [h1, h2, show ¬ t - q < l by omega]
  · simp [h1]
theorem and_zero {x v : Int64} {B : Nat → Bool} {q l : Nat} (hx : ∀ t, x.toBitVec.getLsbD t = B t) (hv : ∀ t, v.toBitVec.getLsbD t = decide (q ≤ t ∧ t < q + l)) : x &&& v = 0 ↔ ∀ t, t < l → B (q + t) = false := by
  constructor
  · intro h t ht
    have h1 := congrArg (fun z => z.toBitVec.getLsbD (q + t)) h
    simp only [Int64.toBitVec_and, BitVec.getLsbD_and, hx, hv] at h1
    rw [decide_eq_true (show q ≤ q + t ∧ q + t < q + l by omega), Bool.and_true] at h1
    rw [h1]
    show (0#64).getLsbD (q + t) = false
    simp
  · intro h
    apply Int64.toBitVec_inj.mp
    apply BitVec.eq_of_getLsbD_eq
    intro t ht
    rw [Int64.toBitVec_and, BitVec.getLsbD_and, hx, hv]
    show _ = (0#64).getLsbD t
    by_cases e : q ≤ t ∧ t < q + l
    · have := h (t - q) (by omega)
      rw [show q + (t - q) = t by omega] at this
      simp [this]
    · simp [e]
theorem findFree_X (n : Nat) (hn : 1000 ≤ n) {σ : St} {c : Cf} {T : Tk} {B : Bt} {a l q : Nat} {v : Int64} (ha : a < 3) (hv : ∀ t, v.toBitVec.getLsbD t = decide (q ≤ t ∧ t < q + l)) (hc : cfX σ c) (hT : rsX σ T B) : f_3_findFree n σ (nI a) v = some ((bkAt c B a l q).elim (-1) nI, σ) := by
  obtain ⟨e, he, hX⟩ := lq_for (b := b_3_findFree_3 n (nI a) v) (X := fun e => e = (bkAt c B a l q).elim (.inr (nI 6, σ)) (fun k => .inl (nI k, σ))) 6 (fun i s => s = (nI i, σ) ∧ ∀ j, j < i → bkP c B a l q j = false) (by
    rintro i s hi ⟨rfl, h1⟩
    unfold b_3_findFree_3
    simp only [nm_eq, lg_cmp_eq]
    rw [if_neg (show ¬ (6 : Int32) ≤ nI i from nI_ge hi (by decide)), gd_t (inb_nI hi (by decide)), nI_clamp (by omega), nI_1]
    have hk := hc.2 i a hi ha
    have hz := and_zero (B := B i) (fun t => hT.2 i t hi) hv
    have hno : bkP c B a l q i = false → ∀ j, j < i + 1 → bkP c B a l q j = false := fun z j hj => by
      by_cases e : j = i
      · subst e; exact z
      · exact h1 j (by omega)
    by_cases e1 : σ.1 (30 + i) 1 = 0
    · rw [if_pos e1]
      refine .inl ⟨_, rfl, rfl, hno ?_⟩
      have : c.2.2.2.2 i a = false := Bool.eq_false_iff.mpr (fun z => (hk.mp z).1 e1)
      simp [bkP, this]
    · rw [if_neg e1]
      by_cases e2 : σ.1 (30 + i) 0 = nI a
      · rw [if_pos e2]
        by_cases e3 : σ.2 14 i &&& v = 0
        · rw [if_pos e3]
          refine .inr ⟨_, rfl, ?_⟩
          have : bkAt c B a l q = some i := ffst_at (by omega) (by omega) (by simp only [bkP, Bool.and_eq_true, decide_eq_true_eq]; exact ⟨hk.mpr ⟨e1, e2⟩, hz.mp e3⟩) (fun j _ hj => h1 j hj)
          rw [this]; rfl
        · rw [if_neg e3]
          refine .inl ⟨_, rfl, rfl, hno ?_⟩
          have : ¬ ∀ t, t < l → B i (q + t) = false := fun z => e3 (hz.mpr z)
          simp only [bkP, Bool.and_eq_false_iff, decide_eq_false_iff_not]
          exact .inr this
      · rw [if_neg e2]
        refine .inl ⟨_, rfl, rfl, hno ?_⟩
        have : c.2.2.2.2 i a = false := Bool.eq_false_iff.mpr (fun z => e2 (hk.mp z).2)
        simp [bkP, this]) (by
    rintro s ⟨rfl, h1⟩
    unfold b_3_findFree_3
    simp only [nm_eq]
    rw [if_pos (show (6 : Int32) ≤ nI 6 from nI_le (Nat.le_refl 6) (by decide))]
    refine ⟨_, rfl, ?_⟩
    have : bkAt c B a l q = none := ffst_no (fun j _ hj => h1 j (by omega))
    rw [this]; rfl) (n := n) (by omega) (s := (0, σ)) ⟨rfl, fun j hj => by omega⟩
  unfold f_3_findFree
  rw [he, hX, bd_eq]
  cases bkAt c B a l q with
  | none => rfl
  | some k => rfl
theorem addBath_X (n : Nat) (hn : 1000 ≤ n) {g : Nat} (hg : g < 8) {σ : St} {x : Xs} {c : Cf} {bd i a l : Nat} (hi : i < 30) (ha : a < 3) (hl1 : 1 ≤ l) (hl : l ≤ 16) (hc : cfX σ c) (hW : xW bd i x) (h : rpX g σ x) : ∃ σ', f_3_addBath n σ g (nI a) (nI l) = some σ' ∧ rpX g σ' (aBath c a l x) ∧ frX g σ σ' := by
  obtain ⟨now, str, len, ov, gl, lo, ac, T, B⟩ := x
  obtain ⟨w1, w2, w3, w4, w5, w6, w7⟩ := hW
  obtain ⟨⟨h0, h1, h2, h3, h4, h5, h6⟩, h7⟩ := id h
  have h7 : rsX σ T B := h7
  unfold f_3_addBath aBath
  simp only [nm_eq]
  rw [h0]
  obtain ⟨e, he, hX⟩ := lq_ex (b := b_3_addBath_6 n g (nI a) (nI l)) (X := fun e => (btAt c B a l now = none ∧ ∃ z, e = .inr (z, σ)) ∨ ∃ q k, btAt c B a l now = some q ∧ bkAt c B a l q = some k ∧ q + l ≤ 48 ∧ e = .inl (σN (sl σ 14 k (σ.2 14 k ||| bitsV q l)) g len (nI 1) (nI q) (nI l) (nI k))) (fun k st => ∃ q, st = (nI q, σ) ∧ now ≤ q ∧ q ≤ 48 ∧ k = 48 - q ∧ ∀ j, now ≤ j → j < q → btP c B a l j = false) (by
    rintro k st ⟨q, rfl, q1, q2, rfl, q3⟩
    unfold b_3_addBath_6
    simp only [nm_eq]
    rw [nI_add]
    by_cases e : 48 < q + l
    · right
      rw [if_pos (show (48 : Int32) < nI (q + l) from nI_lt (a := 48) e (by omega))]
      exact ⟨_, rfl, .inl ⟨ffst_no (fun j j1 j2 => q3 j j1 (by omega)), _, rfl⟩⟩
    · rw [if_neg (show ¬ (48 : Int32) < nI (q + l) from nI_nlt (a := 48) (by omega) (by decide)), bits_X n σ hl (by omega), bd_eq]
      simp only
      rw [findFree_X n hn ha (bitsV_get (by omega)) hc h7, bd_eq]
      simp only
      cases hk : bkAt c B a l q with
      | none =>
        left
        rw [Option.elim_none, if_pos rfl, nI_1]
        refine ⟨48 - (q + 1), _, by omega, rfl, q + 1, rfl, by omega, by omega, rfl, fun j j1 j2 => ?_⟩
        by_cases z : j = q
        · subst z; unfold btP; rw [hk]; rfl
        · exact q3 j j1 (by omega)
      | some k =>
        right
        obtain ⟨k1, k2, k3⟩ := bkAt_lt hk
        rw [Option.elim_some, if_neg (nI_nm1 (by omega)), gd_t (inb_nI k1 (by decide)), bits_X n σ hl (by omega), bd_eq, nI_clamp (by omega), note_X n _ g len _ _ _ _ (by rw [sl_i]; exact h2) (by omega), bd_eq]
        exact ⟨_, rfl, .inr ⟨q, k, ffst_at q1 (by omega) (by unfold btP; rw [hk]; rfl) q3, hk, by omega, rfl⟩⟩) n (48 - now) (nI now, σ) (by omega) ⟨now, rfl, Nat.le_refl _, w1, rfl, fun j j1 j2 => by omega⟩
  rw [he, bd_eq]
  rcases hX with ⟨hb, z, rfl⟩ | ⟨q, k, hb, hk, hql, rfl⟩
  · rw [hb]
    exact ⟨_, rfl, lose_X hg h⟩
  · rw [hb]
    simp only [hk]
    obtain ⟨k1, k2, k3⟩ := bkAt_lt hk
    have hr : rwX g (sl σ 14 k (σ.2 14 k ||| bitsV q l)) (now, str, len, ov, gl, lo, ac, T, B) := ⟨h0, h1, h2, h3, h4, h5, h6⟩
    refine ⟨_, rfl, ⟨rwX_note (w := 1) hr rfl, ⟨fun s' q' hs' hq' => ?_, fun k' t hk' => ?_⟩⟩, fun k a b c d e f => by rw [σN_ne b c d e f]; rfl⟩
    · rw [σN_ne (by omega) (by omega) (by omega) (by omega) (by omega)]
      exact h7.1 s' q' hs' hq'
    · rw [σN_l, sl_get]
      show _ = upB B k q l k' t
      unfold upB
      by_cases z : k' = k
      · subst z
        rw [if_pos ⟨rfl, rfl⟩, Int64.toBitVec_or, BitVec.getLsbD_or, h7.2 k' t hk', bitsV_get hql]
        by_cases y : q ≤ t ∧ t < q + l
        · rw [if_pos ⟨rfl, y⟩, decide_eq_true y, Bool.or_true]
        · rw [if_neg (fun u => y u.2), decide_eq_false y, Bool.or_false]
      · rw [if_neg (fun u => z u.2), if_neg (fun u => z u.1)]
        exact h7.2 k' t hk'
