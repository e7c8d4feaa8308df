/-! the reference lays a guest's day out -/
def rsM (τ : St) (T : Tk) (B : Bt) : Prop := (∀ s q, s < 4 → q < 48 → τ.1 25 (48 * s + q) = nI (T s q)) ∧ ∀ k t, k < 6 → t < 48 → τ.1 31 (48 * k + t) = if B k t = true then 1 else 0
def rwM (g : Nat) (τ : St) : Xs → Prop
  | (_, _, len, ov, gl, lo, ac, _, _) => τ.1 27 g = nI len ∧ τ.1 28 g = nI ov ∧ τ.1 29 g = nI gl ∧ τ.1 30 g = (if lo = true then 1 else 0) ∧ ∀ i, i < len → τ.1 32 (30 * g + i) = nI (ac i).2.1 ∧ τ.1 33 (30 * g + i) = (if (ac i).1 = 1 then nI (ac i).2.2.2 else -1) ∧ τ.1 34 (30 * g + i) = nI (ac i).1
def rpM (g : Nat) (τ : St) (x : Xs) : Prop := τ.1 0 49 = nI x.1 ∧ rwM g τ x ∧ rsM τ (xT x) (xB x)
def frM (g : Nat) (τ τ' : St) : Prop := (∀ k, 1 ≤ k → (k < 25 ∨ k = 26 ∨ 35 ≤ k) → τ'.1 k = τ.1 k) ∧ (∀ j, j ≠ 49 → τ'.1 0 j = τ.1 0 j) ∧ τ'.2 = τ.2 ∧ (∀ k h, 27 ≤ k → k ≤ 30 → h ≠ g → τ'.1 k h = τ.1 k h) ∧ ∀ k j, 32 ≤ k → k ≤ 34 → ¬ (30 * g ≤ j ∧ j < 30 * g + 30) → τ'.1 k j = τ.1 k j
theorem frM_rf {g : Nat} {τ : St} : frM g τ τ := ⟨fun _ _ _ => rfl, fun _ _ => rfl, rfl, fun _ _ _ _ _ => rfl, fun _ _ _ _ _ => rfl⟩
theorem frM_tr {g : Nat} {τ τ' τ'' : St} (h1 : frM g τ τ') (h2 : frM g τ' τ'') : frM g τ τ'' := ⟨fun k a b => (h2.1 k a b).trans (h1.1 k a b), fun j a => (h2.2.1 j a).trans (h1.2.1 j a), h2.2.2.1.trans h1.2.2.1, fun k h a b c => (h2.2.2.2.1 k h a b c).trans (h1.2.2.2.1 k h a b c), fun k j a b c => (h2.2.2.2.2 k j a b c).trans (h1.2.2.2.2 k j a b c)⟩
def cfM (τ : St) (c : Cf) : Prop := (∀ s, s < 4 → τ.1 1 s = nI (c.1 s) ∧ τ.1 2 s = nI (c.2.1 s) ∧ τ.1 3 s = nI (c.2.2.1 s) ∧ τ.1 4 s = nI (c.2.2.2.1 s)) ∧ ∀ k a, k < 6 → a < 3 → (c.2.2.2.2 k a = true ↔ ¬ τ.1 7 k = 0 ∧ τ.1 5 k = nI a)
def guM (τ : St) (g r bd m : Nat) (A : Rg) : Prop := τ.1 17 g = nI r ∧ r < 8 ∧ τ.1 20 g = nI bd ∧ τ.1 10 r = nI m ∧ ∀ i, i < m → τ.1 11 (90 * r + 3 * i) = nI (A i).1 ∧ τ.1 11 (90 * r + 3 * i + 1) = nI (A i).2.1 ∧ ((A i).1 = 1 ∨ (A i).1 = 4 → τ.1 11 (90 * r + 3 * i + 2) = nI (A i).2.2)
theorem cfM_c {τ τ' : St} {c : Cf} (h : ∀ k, 1 ≤ k → k < 25 → τ'.1 k = τ.1 k) (hc : cfM τ c) : cfM τ' c := by
  unfold cfM
  rw [h 1 (by omega) (by omega), h 2 (by omega) (by omega), h 3 (by omega) (by omega), h 4 (by omega) (by omega), h 5 (by omega) (by omega), h 7 (by omega) (by omega)]
  exact hc
theorem guM_c {τ τ' : St} {g r bd m : Nat} {A : Rg} (h : ∀ k, 1 ≤ k → k < 25 → τ'.1 k = τ.1 k) (hc : guM τ g r bd m A) : guM τ' g r bd m A := by
  unfold guM
  rw [h 17 (by omega) (by omega), h 20 (by omega) (by omega), h 10 (by omega) (by omega), h 11 (by omega) (by omega)]
  exact hc
theorem frM_lt {g : Nat} {τ τ' : St} (h : frM g τ τ') : ∀ k, 1 ≤ k → k < 25 → τ'.1 k = τ.1 k := fun k h1 h2 => h.1 k h1 (by omega)
def τN (τ : St) (g len : Nat) (w q l p : Int32) : St := si (si (si (si (si (si τ 32 (30 * g + len) q) 33 (30 * g + len) p) 34 (30 * g + len) w) 27 g (nI (len + 1))) 0 49 (q + l)) 28 g (q + l)
theorem does_M (n : Nat) (τ : St) {g len : Nat} (w q l p : Int32) (hg : g < 8) (hl : τ.1 27 g = nI len) (hlen : len < 30) : f_11_does n τ (nI g) w q l p = some (τN τ g len w q l p) := by
  unfold f_11_does τN
  simp only [nm_eq]
  rw [gd_t (inb_nI hg (by decide)), nI_clamp (by omega), hl, show (30 : Int32) * nI g + nI len = nI (30 * g + len) from mul_nI 30 g len, gd_t (inb_nI (show 30 * g + len < 240 by omega) (by decide)), nI_clamp (by omega), si_cell (show (27 : Nat) ≠ 34 by decide), si_cell (show (27 : Nat) ≠ 33 by decide), si_cell (show (27 : Nat) ≠ 32 by decide), hl, nI_1, si_hit]
theorem rwM_does {τ : St} {g now now' str str' len ov gl w q l pl : Nat} {lo : Bool} {ac : Nat → Act4} {T T' : Tk} {B B' : Bt} {p : Int32} (h : rwM g τ (now, str, len, ov, gl, lo, ac, T, B)) (hp : p = if w = 1 then nI pl else -1) : rwM g (τN τ g len (nI w) (nI q) (nI l) p) (now', str', len + 1, q + l, gl, lo, upA ac len (w, q, l, pl), T', B') := by
  obtain ⟨h2, h3, h4, h5, h6⟩ := h
  refine ⟨by simp [τN, si_get], by simp [τN, si_get, nI_add], by simpa [τN, si_get] using h4, by simpa [τN, si_get] using h5, fun i hi => ?_⟩
  by_cases e : i = len
  · subst e
    rw [upA_at]
    simp [τN, si_get, hp]
  · rw [upA_ne e]
    simpa [τN, si_get, e] using h6 i (by omega)
theorem τN_now {τ : St} {g len q l : Nat} {w p : Int32} : (τN τ g len w (nI q) (nI l) p).1 0 49 = nI (q + l) := by simp [τN, si_get, nI_add]
theorem τN_fr {τ : St} {g len : Nat} {w q l p : Int32} (hlen : len < 30) : frM g τ (τN τ g len w q l p) := by
  unfold τN
  refine ⟨fun k a b => ?_, fun j a => ?_, rfl, fun k h a b c => ?_, fun k j a b c => ?_⟩
  · rw [si_ne (by omega), si_ne (by omega), si_ne (by omega), si_ne (by omega), si_ne (by omega), si_ne (by omega)]
  · rw [si_cell (by omega), si_place a, si_cell (by omega), si_cell (by omega), si_cell (by omega), si_cell (by omega)]
  · rw [si_place c, si_cell (by omega), si_place c, si_cell (by omega), si_cell (by omega), si_cell (by omega)]
  · rw [si_cell (by omega), si_cell (by omega), si_cell (by omega), si_place (by omega), si_place (by omega), si_place (by omega)]
theorem rsM_c {τ τ' : St} {T : Tk} {B : Bt} (h1 : τ'.1 25 = τ.1 25) (h2 : τ'.1 31 = τ.1 31) (h : rsM τ T B) : rsM τ' T B := by
  unfold rsM
  rw [h1, h2]; exact h
theorem τN_25 {τ : St} {g len k : Nat} {w q l p : Int32} (h : k = 25 ∨ k = 31 ∨ k = 29) : (τN τ g len w q l p).1 k = τ.1 k := by
  unfold τN
  rw [si_ne (by omega), si_ne (by omega), si_ne (by omega), si_ne (by omega), si_ne (by omega), si_ne (by omega)]
theorem hasGlass_M (n : Nat) {τ : St} {c : Cf} {T : Tk} {B : Bt} {s q : Nat} (hs : s < 4) (hq : q < 48) (hc : cfM τ c) (hcW : cfW c) (hT : rsM τ T B) (hb : rsW T B) : f_11_hasGlass n τ (nI s) (nI q) = some (if glP c T s q = true then 1 else 0, τ) := by
  obtain ⟨c0, c1, c2, c3⟩ := hc.1 s hs
  obtain ⟨w0, w1, w2, w3⟩ := hcW s hs
  have hb := hb.1 s q
  unfold f_11_hasGlass
  simp only [nm_eq, glP, decide_eq_true_eq]
  rw [gd_t (inb_nI hs (by decide)), nI_clamp (by omega), c1, c2, c0, show (48 : Int32) * nI s + nI q = nI (48 * s + q) from mul_nI 48 s q, gd_t (inb_nI (show 48 * s + q < 192 by omega) (by decide)), nI_clamp (by omega), hT.1 s q hs hq]
  by_cases e1 : q < c.2.1 s
  · rw [if_pos (nI_lt e1 (by omega)), if_neg (fun z => by omega)]
  rw [if_neg (nI_nlt (by omega) (by omega))]
  by_cases e2 : c.2.2.1 s ≤ q
  · rw [if_pos (nI_le e2 (by omega)), if_neg (fun z => by omega)]
  rw [if_neg (nI_ge (by omega) (by omega))]
  by_cases e3 : T s q < c.1 s
  · rw [if_neg (nI_ge e3 (by omega)), if_pos ⟨by omega, by omega, e3⟩]
  · rw [if_pos (nI_le (by omega) (by omega)), if_neg (fun z => e3 z.2.2)]
theorem glM (n : Nat) (hn : 1000 ≤ n) {τ : St} {c : Cf} {T : Tk} {B : Bt} {s now : Nat} {g : Int32} (hs : s < 4) (hnow : now ≤ 48) (hc : cfM τ c) (hcW : cfW c) (hT : rsM τ T B) (hb : rsW T B) : lq (b_11_drinks_5 n g (nI s)) n (nI now, τ) = some (nI ((glAt c T s now).getD 48), τ) := by
  obtain ⟨e, he, hX⟩ := lq_ex (b := b_11_drinks_5 n g (nI s)) (X := fun e => e = (nI ((glAt c T s now).getD 48), τ)) (fun k st => ∃ q, st = (nI q, τ) ∧ now ≤ q ∧ q ≤ 48 ∧ k = 48 - q ∧ ∀ j, now ≤ j → j < q → glP c T s j = false) (by
    rintro k st ⟨q, rfl, q1, q2, rfl, q3⟩
    unfold b_11_drinks_5
    simp only [nm_eq]
    by_cases e : 48 ≤ q
    · right
      rw [if_pos (show (48 : Int32) ≤ nI q from nI_le (a := 48) e (by omega))]
      refine ⟨_, rfl, ?_⟩
      have : glAt c T s now = none := ffst_no (fun j j1 j2 => q3 j j1 (by omega))
      rw [this, Option.getD_none, show q = 48 by omega]
    · rw [if_neg (show ¬ (48 : Int32) ≤ nI q from nI_ge (b := 48) (by omega) (by decide)), hasGlass_M n hs (by omega) hc hcW hT hb, bd_eq]
      simp only
      by_cases e2 : glP c T s q = true
      · right
        rw [if_pos e2, if_neg (by decide)]
        refine ⟨_, rfl, ?_⟩
        have : glAt c T s now = some q := ffst_at q1 (by omega) e2 q3
        rw [this, Option.getD_some]
      · left
        rw [if_neg e2, if_pos rfl, nI_1]
        refine ⟨48 - (q + 1), _, by omega, rfl, q + 1, rfl, by omega, by omega, rfl, fun j j1 j2 => ?_⟩
        by_cases z : j = q
        · subst z; exact Bool.eq_false_iff.mpr e2
        · exact q3 j j1 (by omega)) n (48 - now) (nI now, τ) (by omega) ⟨now, rfl, Nat.le_refl _, hnow, rfl, fun j j1 j2 => by omega⟩
  rw [he, hX]
/-- what a try to do an act gives: whether it could, and the state -/
def tryM (g : Nat) (τ : St) (x y : Xs) (f : Option (Int32 × St)) : Prop := ∃ r τ', f = some (r, τ') ∧ frM g τ τ' ∧ ((xLo y = true ∧ r = 0 ∧ τ' = τ) ∨ (xLo y = false ∧ r = 1 ∧ rpM g τ' y))
theorem drinks_M (n : Nat) (hn : 1000 ≤ n) {g : Nat} (hg : g < 8) {τ : St} {x : Xs} {c : Cf} {bd i s : Nat} (hi : i < 30) (hs : s < 4) (hc : cfM τ c) (hcW : cfW c) (hW : xW bd i x) (h : rpM g τ x) (hlo : xLo x = false) (hst : x.2.1 + c.2.2.2.1 s ≤ bd) : tryM g τ x (aGlass c bd s x) (f_11_drinks n τ (nI g) (nI s)) := by
  obtain ⟨now, str, len, ov, gl, lo, ac, T, B⟩ := x
  obtain ⟨w1, w2, w3, w4, w5, w6, w7⟩ := hW
  obtain ⟨h0, ⟨h2, h3, h4, h5, h6⟩, h7⟩ := id h
  have h7 : rsM τ T B := h7
  have h0 : τ.1 0 49 = nI now := h0
  unfold f_11_drinks aGlass
  simp only [nm_eq]
  have hst : str + c.2.2.2.1 s ≤ bd := hst
  rw [h0, glM n hn hs w1 hc hcW h7 w7, bd_eq, if_neg (show ¬ bd < str + c.2.2.2.1 s by omega)]
  cases hq : glAt c T s now with
  | none =>
    simp only [Option.getD_none]
    rw [if_pos (show nI 48 = 48 from rfl)]
    exact ⟨_, _, rfl, frM_rf, .inl ⟨rfl, rfl, rfl⟩⟩
  | some q =>
    obtain ⟨q1, q2, q3, q4⟩ := ffst_some hq
    simp only [Option.getD_some]
    rw [if_neg (show ¬ nI q = 48 from fun z => by have := (nI_eq (b := 48) (by omega) (by decide)).mp z; omega), show (48 : Int32) * nI s + nI q = nI (48 * s + q) from mul_nI 48 s q, gd_t (inb_nI (show 48 * s + q < 192 by omega) (by decide)), nI_clamp (by omega), gd_t (inb_nI hg (by decide)), nI_clamp (by omega), h7.1 s q hs (by omega), nI_1, si_cell (show (29 : Nat) ≠ 25 by decide), h4, nI_1]
    have hl : (si (si τ 25 (48 * s + q) (nI (T s q + 1))) 29 g (nI (gl + 1))).1 27 g = nI len := by
      rw [si_cell (by decide), si_cell (by decide), h2]
    rw [does_M n _ _ _ _ _ hg hl (by omega), bd_eq]
    have hr : rwM g (si (si τ 25 (48 * s + q) (nI (T s q + 1))) 29 g (nI (gl + 1))) (now, str, len, ov, gl + 1, lo, ac, T, B) := by
      refine ⟨hl, ?_, by simp [si_get], ?_, fun i hi => ?_⟩
      · rw [si_cell (by decide), si_cell (by decide), h3]
      · rw [si_cell (by decide), si_cell (by decide), h5]
      · rw [si_cell (by decide), si_cell (by decide), si_cell (by decide), si_cell (by decide), si_cell (by decide), si_cell (by decide)]
        exact h6 i hi
    refine ⟨_, _, rfl, frM_tr ?_ (τN_fr (by omega)), .inr ⟨hlo, rfl, τN_now, rwM_does (w := 0) (l := 1) hr rfl, fun s' q' hs' hq' => ?_, fun k t hk ht => ?_⟩⟩
    · refine ⟨fun k a b => ?_, fun j a => ?_, rfl, fun k h a b c => ?_, fun k j a b c => ?_⟩
      · rw [si_ne (by omega), si_ne (by omega)]
      · rw [si_cell (by decide), si_cell (by decide)]
      · rw [si_place c, si_cell (by omega)]
      · rw [si_cell (by omega), si_cell (by omega)]
    · rw [τN_25 (.inl rfl), si_cell (by decide), si_get]
      show _ = nI (upT T s q s' q')
      unfold upT
      by_cases z : s' = s ∧ q' = q
      · rw [if_pos ⟨rfl, by omega⟩, if_pos z]
      · rw [if_neg (fun y => z (by omega)), if_neg z]
        exact h7.1 s' q' hs' hq'
    · rw [τN_25 (.inr (.inl rfl)), si_cell (by decide), si_cell (by decide)]
      exact h7.2 k t hk ht
theorem isFree_M (n : Nat) (hn : 1000 ≤ n) {τ : St} {c : Cf} {T : Tk} {B : Bt} {a l q k : Nat} (ha : a < 3) (hk : k < 6) (hl1 : 1 ≤ l) (hl : q + l ≤ 48) (hc : cfM τ c) (hT : rsM τ T B) : f_11_isFree n τ (nI k) (nI a) (nI q) (nI l) = some (if bkP c B a l q k = true then 1 else 0, τ) := by
  have hno : j_11_isFree_24 n (nI k) (nI q) (nI l) 0 τ = some (0, τ) := by
    unfold j_11_isFree_24
    obtain ⟨n', rfl⟩ : ∃ n', n = n' + 1 := ⟨n - 1, by omega⟩
    have hb : b_11_isFree_29 (n' + 1) (nI k) (nI q) (nI l) (0, nI q, τ) = some (.inr (0, nI q, τ)) := by
      unfold b_11_isFree_29
      simp only [nm_eq]
      rw [nI_add, if_neg (nI_ge (by omega) (by omega)), if_pos trivial]
    rw [lq, hb]
    rfl
  have hyes : j_11_isFree_24 n (nI k) (nI q) (nI l) 1 τ = some (if ∀ t, t < l → B k (q + t) = false then 1 else 0, τ) := by
    obtain ⟨e, he, hX⟩ := lq_for (b := b_11_isFree_29 n (nI k) (nI q) (nI l)) (X := fun e => e.1 = (if ∀ t, t < l → B k (q + t) = false then 1 else 0) ∧ e.2.2 = τ) l (fun i s => (s = (1, nI (q + i), τ) ∧ ∀ t, t < i → B k (q + t) = false) ∨ (s = (0, nI (q + i), τ) ∧ ¬ ∀ t, t < l → B k (q + t) = false)) (by
      rintro i s hi (⟨rfl, h1⟩ | ⟨rfl, h1⟩)
      · left
        unfold b_11_isFree_29
        simp only [nm_eq]
        rw [nI_add, if_neg (nI_ge (by omega) (by omega)), if_neg (by decide), show (48 : Int32) * nI k + nI (q + i) = nI (48 * k + (q + i)) from mul_nI 48 k (q + i), gd_t (inb_nI (show 48 * k + (q + i) < 288 by omega) (by decide)), nI_clamp (by omega), hT.2 k (q + i) hk (by omega), nI_1]
        by_cases z : B k (q + i) = true
        · rw [if_pos z, if_neg (by decide)]
          refine ⟨_, rfl, .inr ⟨rfl, fun u => ?_⟩⟩
          rw [u i hi] at z; cases z
        · rw [if_neg z, if_pos rfl]
          refine ⟨_, rfl, .inl ⟨rfl, fun t ht => ?_⟩⟩
          by_cases y : t = i
          · subst y; exact Bool.eq_false_iff.mpr z
          · exact h1 t (by omega)
      · right
        unfold b_11_isFree_29
        simp only [nm_eq]
        rw [nI_add, if_neg (nI_ge (by omega) (by omega)), if_pos trivial]
        exact ⟨_, rfl, by rw [if_neg h1], rfl⟩) (by
      rintro s (⟨rfl, h1⟩ | ⟨rfl, h1⟩)
      · unfold b_11_isFree_29
        simp only [nm_eq]
        rw [nI_add, if_pos (nI_le (Nat.le_refl _) (by omega))]
        exact ⟨_, rfl, by rw [if_pos h1], rfl⟩
      · unfold b_11_isFree_29
        simp only [nm_eq]
        rw [nI_add, if_pos (nI_le (Nat.le_refl _) (by omega))]
        exact ⟨_, rfl, by rw [if_neg h1], rfl⟩) (n := n) (by omega) (s := (1, nI q, τ)) (.inl ⟨rfl, fun t ht => by omega⟩)
    unfold j_11_isFree_24
    obtain ⟨e1, e2, e3⟩ := e
    obtain ⟨x1, x2⟩ := hX
    simp only at x1 x2
    rw [he, bd_eq]
    simp only
    rw [x1, x2]
    split
    · exact gd_t (by decide)
    · exact gd_t (by decide)
  have hk2 := hc.2 k a hk ha
  unfold f_11_isFree
  rw [gd_t (inb_nI hk (by decide)), nI_clamp (by omega), hno, hyes]
  by_cases e1 : τ.1 7 k = 0
  · have : c.2.2.2.2 k a = false := Bool.eq_false_iff.mpr (fun z => (hk2.mp z).1 e1)
    rw [if_pos e1, if_neg (by simp [bkP, this])]
  rw [if_neg e1]
  by_cases e2 : τ.1 5 k = nI a
  · have : c.2.2.2.2 k a = true := hk2.mpr ⟨e1, e2⟩
    rw [if_pos e2]
    simp [bkP, this]
  · have : c.2.2.2.2 k a = false := Bool.eq_false_iff.mpr (fun z => e2 (hk2.mp z).2)
    rw [if_neg e2, if_neg (by simp [bkP, this])]
/-- a bath is let -/
theorem let_M (n : Nat) (hn : 1000 ≤ n) {τ : St} {k l q : Nat} {g : Int32} (hk : k < 6) (hl : q + l ≤ 48) : ∃ τ1, lq (b_11_bathes_45 n g (nI l) (nI q) (nI k)) n (nI q, τ) = some (nI (q + l), τ1) ∧ (∀ c, c ≠ 31 → τ1.1 c = τ.1 c) ∧ τ1.2 = τ.2 ∧ ∀ j, τ1.1 31 j = if 48 * k + q ≤ j ∧ j < 48 * k + q + l then 1 else τ.1 31 j := by
  obtain ⟨e, he, τ1, rfl, hX⟩ := lq_for (b := b_11_bathes_45 n g (nI l) (nI q) (nI k)) (X := fun e => ∃ τ1, e = (nI (q + l), τ1) ∧ (∀ c, c ≠ 31 → τ1.1 c = τ.1 c) ∧ τ1.2 = τ.2 ∧ ∀ j, τ1.1 31 j = if 48 * k + q ≤ j ∧ j < 48 * k + q + l then 1 else τ.1 31 j) l (fun i s => ∃ τ1, s = (nI (q + i), τ1) ∧ (∀ c, c ≠ 31 → τ1.1 c = τ.1 c) ∧ τ1.2 = τ.2 ∧ ∀ j, τ1.1 31 j = if 48 * k + q ≤ j ∧ j < 48 * k + q + i then 1 else τ.1 31 j) (by
    rintro i s hi ⟨τ1, rfl, h1, h2, h3⟩
    left
    unfold b_11_bathes_45
    simp only [nm_eq]
    rw [nI_add, if_neg (nI_ge (by omega) (by omega)), show (48 : Int32) * nI k + nI (q + i) = nI (48 * k + (q + i)) from mul_nI 48 k (q + i), gd_t (inb_nI (show 48 * k + (q + i) < 288 by omega) (by decide)), nI_clamp (by omega), nI_1]
    refine ⟨_, rfl, _, rfl, fun c hc => by rw [si_ne hc]; exact h1 c hc, h2, fun j => ?_⟩
    rw [si_get]
    by_cases z : j = 48 * k + (q + i)
    · rw [if_pos ⟨rfl, z⟩, if_pos (by omega)]
    · rw [if_neg (fun u => z u.2), h3 j]
      by_cases y : 48 * k + q ≤ j ∧ j < 48 * k + q + i
      · rw [if_pos y, if_pos (by omega)]
      · rw [if_neg y, if_neg (by omega)]) (by
    rintro s ⟨τ1, rfl, h1⟩
    unfold b_11_bathes_45
    simp only [nm_eq]
    rw [nI_add, if_pos (nI_le (Nat.le_refl _) (by omega))]
    exact ⟨_, rfl, τ1, rfl, h1⟩) (n := n) (by omega) (s := (nI q, τ)) ⟨τ, rfl, fun _ _ => rfl, rfl, fun j => by rw [if_neg (by omega)]⟩
  exact ⟨τ1, he, hX⟩
