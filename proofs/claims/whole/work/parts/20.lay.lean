/-! a day laid out, as a function of numbers -/
abbrev Act4 : Type := Nat × Nat × Nat × Nat
abbrev Tk : Type := Nat → Nat → Nat
abbrev Bt : Type := Nat → Nat → Bool
/-- now, strength, done, over, glasses, lost, acts, glasses taken, baths let -/
abbrev Xs : Type := Nat × Nat × Nat × Nat × Nat × Bool × (Nat → Act4) × Tk × Bt
/-- glasses a quarter, from, until, strength; whether a bath is open and of a kind -/
abbrev Cf : Type := (Nat → Nat) × (Nat → Nat) × (Nat → Nat) × (Nat → Nat) × (Nat → Nat → Bool)
def ffst (P : Nat → Bool) : Nat → Nat → Option Nat
  | 0, _ => none
  | m + 1, q => if P q = true then some q else ffst P m (q + 1)
theorem ffst_some {P : Nat → Bool} : ∀ {m q r : Nat}, ffst P m q = some r → q ≤ r ∧ r < q + m ∧ P r = true ∧ ∀ j, q ≤ j → j < r → P j = false := by
  intro m
  induction m with
  | zero => intro q r h; cases h
  | succ m ih =>
    intro q r h
    rw [ffst] at h
    by_cases c : P q = true
    · rw [if_pos c] at h
      cases h
      exact ⟨Nat.le_refl q, by omega, c, fun j h1 h2 => by omega⟩
    · rw [if_neg c] at h
      obtain ⟨h1, h2, h3, h4⟩ := ih h
      refine ⟨by omega, by omega, h3, fun j h5 h6 => ?_⟩
      by_cases e : j = q
      · subst e; exact Bool.eq_false_iff.mpr c
      · exact h4 j (by omega) h6
theorem ffst_none {P : Nat → Bool} : ∀ {m q : Nat}, ffst P m q = none → ∀ j, q ≤ j → j < q + m → P j = false := by
  intro m
  induction m with
  | zero => intro q h j h1 h2; omega
  | succ m ih =>
    intro q h j h1 h2
    rw [ffst] at h
    by_cases c : P q = true
    · rw [if_pos c] at h; cases h
    · rw [if_neg c] at h
      by_cases e : j = q
      · subst e; exact Bool.eq_false_iff.mpr c
      · exact ih h j (by omega) (by omega)
theorem ffst_at {P : Nat → Bool} {m q r : Nat} (h1 : q ≤ r) (h2 : r < q + m) (h3 : P r = true) (h4 : ∀ j, q ≤ j → j < r → P j = false) : ffst P m q = some r := by
  cases h : ffst P m q with
  | none => rw [ffst_none h r h1 h2] at h3; cases h3
  | some r' =>
    obtain ⟨q1, q2, q3, q4⟩ := ffst_some h
    rcases Nat.lt_trichotomy r r' with c | c | c
    · rw [q4 r h1 c] at h3; cases h3
    · rw [c]
    · rw [h4 r' q1 c] at q3; cases q3
theorem ffst_no {P : Nat → Bool} {m q : Nat} (h : ∀ j, q ≤ j → j < q + m → P j = false) : ffst P m q = none := by
  cases e : ffst P m q with
  | none => rfl
  | some r =>
    obtain ⟨q1, q2, q3, q4⟩ := ffst_some e
    rw [h r q1 q2] at q3; cases q3
def glP (c : Cf) (T : Tk) (s q : Nat) : Bool := decide (c.2.1 s ≤ q ∧ q < c.2.2.1 s ∧ T s q < c.1 s)
def glAt (c : Cf) (T : Tk) (s now : Nat) : Option Nat := ffst (glP c T s) (48 - now) now
def bkP (c : Cf) (B : Bt) (a n q k : Nat) : Bool := c.2.2.2.2 k a && decide (∀ t, t < n → B k (q + t) = false)
def bkAt (c : Cf) (B : Bt) (a n q : Nat) : Option Nat := ffst (bkP c B a n q) 6 0
def btP (c : Cf) (B : Bt) (a n q : Nat) : Bool := (bkAt c B a n q).isSome
def btAt (c : Cf) (B : Bt) (a n now : Nat) : Option Nat := ffst (btP c B a n) (49 - n - now) now
def upA (ac : Nat → Act4) (l : Nat) (v : Act4) : Nat → Act4 := fun i => if i = l then v else ac i
def upT (T : Tk) (s q : Nat) : Tk := fun s' q' => if s' = s ∧ q' = q then T s q + 1 else T s' q'
def upB (B : Bt) (k q n : Nat) : Bt := fun k' t => if k' = k ∧ q ≤ t ∧ t < q + n then true else B k' t
def aGlass (c : Cf) (bd a : Nat) : Xs → Xs
  | (now, str, len, ov, gl, lo, ac, T, B) => if bd < str + c.2.2.2.1 a then (now, str, len, ov, gl, lo, ac, T, B) else match glAt c T a now with
    | none => (now, str, len, ov, gl, true, ac, T, B)
    | some q => (q + 1, str + c.2.2.2.1 a, len + 1, q + 1, gl + 1, lo, upA ac len (0, q, 1, a), upT T a q, B)
def aBath (c : Cf) (a b : Nat) : Xs → Xs
  | (now, str, len, ov, gl, lo, ac, T, B) => match btAt c B a b now with
    | none => (now, str, len, ov, gl, true, ac, T, B)
    | some q => match bkAt c B a b q with
      | none => (now, str, len, ov, gl, true, ac, T, B)
      | some k => (q + b, str, len + 1, q + b, gl, lo, upA ac len (1, q, b, k), T, upB B k q b)
def aRest (a : Nat) : Xs → Xs
  | (now, str, len, ov, gl, lo, ac, T, B) => if 48 < now + a then (now, str, len, ov, gl, true, ac, T, B) else (now + a, str, len + 1, now + a, gl, lo, upA ac len (2, now, a, 0), T, B)
def aUntil (a : Nat) : Xs → Xs
  | (now, str, len, ov, gl, lo, ac, T, B) => (if now < a then a else now, str, len, ov, gl, lo, ac, T, B)
def aStep (c : Cf) (bd w a b : Nat) (x : Xs) : Xs := if w = 0 then aGlass c bd a x else if w = 1 then aBath c a b x else if w = 2 then aRest a x else aUntil a x
theorem aStep_0 {c : Cf} {bd a b : Nat} {x : Xs} : aStep c bd 0 a b x = aGlass c bd a x := if_pos rfl
theorem aStep_1 {c : Cf} {bd a b : Nat} {x : Xs} : aStep c bd 1 a b x = aBath c a b x := by rw [aStep, if_neg (by decide), if_pos rfl]
theorem aStep_2 {c : Cf} {bd a b : Nat} {x : Xs} : aStep c bd 2 a b x = aRest a x := by rw [aStep, if_neg (by decide), if_neg (by decide), if_pos rfl]
theorem aStep_3 {c : Cf} {bd a b : Nat} {x : Xs} : aStep c bd 3 a b x = aUntil a x := by rw [aStep, if_neg (by decide), if_neg (by decide), if_neg (by decide)]
/-- whether something is lost -/
def xLo (x : Xs) : Bool := x.2.2.2.2.2.1
abbrev Rg : Type := Nat → Nat × Nat × Nat
def gStep (c : Cf) (bd d : Nat) (A : Rg) (i : Nat) (s : Nat × Xs) : Nat × Xs := if xLo s.2 = true ∨ i < s.1 then s else if (A i).1 = 4 then (if d % (A i).2.1 = 0 then i + 1 else (A i).2.2, s.2) else (s.1, aStep c bd (A i).1 (A i).2.1 (A i).2.2 s.2)
def gR (c : Cf) (bd d : Nat) (A : Rg) (x : Xs) : Nat → Nat × Xs
  | 0 => (0, x)
  | i + 1 => gStep c bd d A i (gR c bd d A x i)
def x0 (T : Tk) (B : Bt) : Xs := (0, 0, 0, 0, 0, false, fun _ => (0, 0, 0, 0), T, B)
/-- bounds -/
def acW (v : Act4) : Prop := (v.1 = 0 ∧ v.2.1 < 48 ∧ v.2.2.2 < 4) ∨ (v.1 = 1 ∧ 1 ≤ v.2.2.1 ∧ v.2.2.1 ≤ 16 ∧ v.2.1 + v.2.2.1 ≤ 48 ∧ v.2.2.2 < 6) ∨ (v.1 = 2 ∧ v.2.1 + v.2.2.1 ≤ 48)
def rsW (T : Tk) (B : Bt) : Prop := (∀ s q, T s q ≤ 9) ∧ ∀ k t, 48 ≤ t → B k t = false
def xW (bd i : Nat) : Xs → Prop
  | (now, str, len, ov, gl, _, ac, T, B) => now ≤ 48 ∧ str ≤ bd ∧ len ≤ i ∧ ov ≤ 48 ∧ gl ≤ len ∧ (∀ j, j < len → acW (ac j)) ∧ rsW T B
def cfW (c : Cf) : Prop := ∀ s, s < 4 → c.1 s ≤ 9 ∧ c.2.1 s ≤ c.2.2.1 s ∧ c.2.2.1 s ≤ 48 ∧ c.2.2.2.1 s ≤ 9
theorem upA_at {ac : Nat → Act4} {l : Nat} {v : Act4} : upA ac l v l = v := if_pos rfl
theorem upA_ne {ac : Nat → Act4} {l j : Nat} {v : Act4} (h : j ≠ l) : upA ac l v j = ac j := if_neg h
theorem acW_up {ac : Nat → Act4} {l : Nat} {v : Act4} (h : ∀ j, j < l → acW (ac j)) (hv : acW v) : ∀ j, j < l + 1 → acW (upA ac l v j) := fun j hj => by
  by_cases e : j = l
  · subst e; rw [upA_at]; exact hv
  · rw [upA_ne e]; exact h j (by omega)
theorem bkAt_lt {c : Cf} {B : Bt} {a n q k : Nat} (h : bkAt c B a n q = some k) : k < 6 ∧ c.2.2.2.2 k a = true ∧ ∀ t, t < n → B k (q + t) = false := by
  obtain ⟨_, h2, h3, _⟩ := ffst_some h
  simp only [bkP, Bool.and_eq_true, decide_eq_true_eq] at h3
  exact ⟨by omega, h3.1, h3.2⟩
theorem aStep_W {c : Cf} {bd w a b i m : Nat} {x : Xs} (hc : cfW c) (hw : wfA w a b i m) (h4 : w ≠ 4) (h : xW bd i x) (hbd : bd ≤ 99) : xW bd (i + 1) (aStep c bd w a b x) := by
  obtain ⟨now, str, len, ov, gl, lo, ac, T, B⟩ := x
  obtain ⟨h1, h2, h3, h5, h6, h7, h8, h9⟩ := h
  have hlost : ∀ l, xW bd (i + 1) (now, str, len, ov, gl, l, ac, T, B) := fun l => ⟨h1, h2, by omega, h5, h6, h7, h8, h9⟩
  rcases hw with ⟨rfl, ha⟩ | ⟨rfl, ha, hb1, hb2⟩ | ⟨rfl, ha1, ha2⟩ | ⟨rfl, ha⟩ | ⟨rfl, _⟩
  · rw [aStep_0]
    unfold aGlass
    by_cases e : bd < str + c.2.2.2.1 a
    · simp only [if_pos e]; exact hlost lo
    · simp only [if_neg e]
      cases hq : glAt c T a now with
      | none => exact hlost true
      | some q =>
        obtain ⟨q1, q2, q3, q4⟩ := ffst_some hq
        simp only [glP, decide_eq_true_eq] at q3
        have hs := hc a (by omega)
        refine ⟨by omega, by omega, by omega, by omega, by omega, acW_up h7 (.inl ⟨rfl, by show q < 48; omega, by show a < 4; omega⟩), fun s' q' => ?_, h9⟩
        unfold upT
        split
        · omega
        · exact h8 s' q'
  · rw [aStep_1]
    unfold aBath
    simp only
    cases hq : btAt c B a b now with
    | none => exact hlost true
    | some q =>
      simp only
      cases hk : bkAt c B a b q with
      | none => exact hlost true
      | some k =>
        obtain ⟨q1, q2, q3, q4⟩ := ffst_some hq
        obtain ⟨k1, k2, k3⟩ := bkAt_lt hk
        refine ⟨by omega, by omega, by omega, by omega, by omega, acW_up h7 (.inr (.inl ⟨rfl, hb1, hb2, by show q + b ≤ 48; omega, k1⟩)), h8, fun k' t ht => ?_⟩
        unfold upB
        rw [if_neg (fun z => by omega)]
        exact h9 k' t ht
  · rw [aStep_2]
    unfold aRest
    by_cases e : 48 < now + a
    · simp only [if_pos e]; exact hlost true
    · simp only [if_neg e]
      exact ⟨by omega, by omega, by omega, by omega, by omega, acW_up h7 (.inr (.inr ⟨rfl, by show now + a ≤ 48; omega⟩)), h8, h9⟩
  · rw [aStep_3]
    unfold aUntil
    exact ⟨by split <;> omega, h2, by omega, h5, h6, h7, h8, h9⟩
  · exact absurd rfl h4
/-- a guest's regimen that can be -/
def rgW (A : Rg) (m : Nat) : Prop := m ≤ 30 ∧ ∀ i, i < m → wfA (A i).1 (A i).2.1 (A i).2.2 i m
theorem gR_W {c : Cf} {bd d m : Nat} {A : Rg} {T : Tk} {B : Bt} (hc : cfW c) (hA : rgW A m) (hbd : bd ≤ 99) (hT : rsW T B) : ∀ i, i ≤ m → xW bd i (gR c bd d A (x0 T B) i).2 ∧ (gR c bd d A (x0 T B) i).1 ≤ m := by
  intro i
  induction i with
  | zero => intro _; exact ⟨⟨Nat.zero_le _, Nat.zero_le _, Nat.le_refl _, Nat.zero_le _, Nat.le_refl _, fun j hj => absurd hj (Nat.not_lt_zero j), hT⟩, Nat.zero_le m⟩
  | succ i ih =>
    intro hi
    obtain ⟨h1, h2⟩ := ih (by omega)
    rw [gR]
    generalize gR c bd d A (x0 T B) i = s at h1 h2
    obtain ⟨sk, x⟩ := s
    have hs : xW bd (i + 1) x := by
      obtain ⟨now, str, len, ov, gl, lo, ac, T, B⟩ := x
      obtain ⟨h1, h2, h3, h5, h6, h7, h8⟩ := h1
      exact ⟨h1, h2, by omega, h5, h6, h7, h8⟩
    unfold gStep
    by_cases e : xLo x = true ∨ i < sk
    · rw [if_pos e]; exact ⟨hs, h2⟩
    · rw [if_neg e]
      have hw := hA.2 i (by omega)
      by_cases e4 : (A i).1 = 4
      · rw [if_pos e4]
        refine ⟨hs, ?_⟩
        simp only
        split
        · omega
        · rcases hw with ⟨q, _⟩ | ⟨q, _⟩ | ⟨q, _⟩ | ⟨q, _⟩ | ⟨_, _, _, _, q⟩
          · omega
          · omega
          · omega
          · omega
          · exact q
      · rw [if_neg e4]
        exact ⟨aStep_W hc hw e4 h1 hbd, h2⟩
/-- once lost, all is lost -/
theorem gR_lost {c : Cf} {bd d : Nat} {A : Rg} {x : Xs} {i : Nat} (h : xLo (gR c bd d A x i).2 = true) : ∀ j, i ≤ j → gR c bd d A x j = gR c bd d A x i := by
  intro j
  induction j with
  | zero => intro hj; rw [show i = 0 by omega]
  | succ j ih =>
    intro hj
    by_cases e : i = j + 1
    · rw [e]
    · rw [gR, ih (by omega), gStep, if_pos (.inl h)]
theorem gR_skip {c : Cf} {bd d : Nat} {A : Rg} {x : Xs} {i : Nat} : ∀ j, i ≤ j → j ≤ (gR c bd d A x i).1 → gR c bd d A x j = gR c bd d A x i := by
  intro j
  induction j with
  | zero => intro hj _; rw [show i = 0 by omega]
  | succ j ih =>
    intro hj hs
    by_cases e : i = j + 1
    · rw [e]
    · rw [gR, ih (by omega) (by omega), gStep, if_pos (.inr (by omega))]
