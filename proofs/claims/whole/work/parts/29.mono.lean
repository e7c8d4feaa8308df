/-! others can only make a guest later -/
def xLen (x : Xs) : Nat := x.2.2.1
def xOv (x : Xs) : Nat := x.2.2.2.1
/-- ahead: the one who is alone; behind: the one with others -/
def moA (x y : Xs) : Prop := xLo x = false ∧ x.2.1 = y.2.1 ∧ x.1 ≤ y.1 ∧ xOv x ≤ xOv y ∧ xLen x = xLen y ∧ (∀ s q, x.1 ≤ q → xT x s q ≤ xT y s q) ∧ ∀ k t, x.1 ≤ t → xB x k t = true → xB y k t = true
def moB (x y : Xs) : Prop := xLen y ≤ xLen x ∧ (xLen y = xLen x → xOv x ≤ xOv y)
def moI (x y : Xs) : Prop := (xLo y = false ∧ moA x y) ∨ (xLo y = true ∧ moB x y)
theorem upT_le {T : Tk} {s q s' q' : Nat} : T s' q' ≤ upT T s q s' q' := by
  unfold upT
  split
  · rename_i h; rw [h.1, h.2]; omega
  · exact Nat.le_refl _
theorem upT_ne {T : Tk} {s q s' q' : Nat} (h : q' ≠ q) : upT T s q s' q' = T s' q' := by
  unfold upT; rw [if_neg (fun z => h z.2)]
theorem upB_le {B : Bt} {k q n k' t : Nat} (h : B k' t = true) : upB B k q n k' t = true := by
  unfold upB
  split
  · rfl
  · exact h
theorem upB_ne {B : Bt} {k q n k' t : Nat} (h : q + n ≤ t) : upB B k q n k' t = B k' t := by
  unfold upB; rw [if_neg (fun z => by omega)]
theorem mo_glass {c : Cf} {bd a : Nat} {x y : Xs} (hy : xLo y = false) (h : moA x y) : moI (aGlass c bd a x) (aGlass c bd a y) := by
  obtain ⟨n1, s1, l1, o1, g1, f1, a1, T1, B1⟩ := x
  obtain ⟨n2, s2, l2, o2, g2, f2, a2, T2, B2⟩ := y
  obtain ⟨h1, h2, h3, h4, h5, h6, h7⟩ := id h
  have hy' : f2 = false := hy
  have h1' : f1 = false := h1
  replace h2 : s1 = s2 := h2
  replace h3 : n1 ≤ n2 := h3
  replace h4 : o1 ≤ o2 := h4
  replace h5 : l1 = l2 := h5
  replace h6 : ∀ s q, n1 ≤ q → T1 s q ≤ T2 s q := h6
  replace h7 : ∀ k t, n1 ≤ t → B1 k t = true → B2 k t = true := h7
  subst hy' h1' h2 h5
  unfold aGlass
  by_cases e : bd < s1 + c.2.2.2.1 a
  · simp only [if_pos e]; exact .inl ⟨hy, h⟩
  · simp only [if_neg e]
    cases hq2 : glAt c T2 a n2 with
    | none =>
      refine .inr ⟨rfl, ?_⟩
      cases hq1 : glAt c T1 a n1 with
      | none => exact ⟨Nat.le_refl _, fun _ => h4⟩
      | some q1 => exact ⟨Nat.le_succ _, fun z => by have z : l1 = l1 + 1 := z; omega⟩
    | some q2 =>
      obtain ⟨u1, u2, u3, u4⟩ := ffst_some hq2
      have hex : glP c T1 a q2 = true := by
        simp only [glP, decide_eq_true_eq] at u3 ⊢
        have := h6 a q2 (by omega)
        exact ⟨u3.1, u3.2.1, by omega⟩
      cases hq1 : glAt c T1 a n1 with
      | none =>
        have := ffst_none hq1 q2 (by omega) (by omega)
        rw [this] at hex; cases hex
      | some q1 =>
        obtain ⟨v1, v2, v3, v4⟩ := ffst_some hq1
        have hle : q1 ≤ q2 := by
          rcases Nat.lt_or_ge q2 q1 with z | z
          · rw [v4 q2 (by omega) z] at hex; cases hex
          · exact z
        refine .inl ⟨rfl, rfl, rfl, ?_, ?_, rfl, fun s q hq => ?_, fun k t ht => ?_⟩
        · show q1 + 1 ≤ q2 + 1; omega
        · show q1 + 1 ≤ q2 + 1; omega
        · have hq : q1 + 1 ≤ q := hq
          show upT T1 a q1 s q ≤ upT T2 a q2 s q
          rw [upT_ne (by omega)]
          exact Nat.le_trans (h6 s q (by omega)) upT_le
        · have ht : q1 + 1 ≤ t := ht
          exact h7 k t (by omega)
theorem mo_bath {c : Cf} {a b : Nat} {x y : Xs} (hy : xLo y = false) (h : moA x y) : moI (aBath c a b x) (aBath c a b y) := by
  obtain ⟨n1, s1, l1, o1, g1, f1, a1, T1, B1⟩ := x
  obtain ⟨n2, s2, l2, o2, g2, f2, a2, T2, B2⟩ := y
  obtain ⟨h1, h2, h3, h4, h5, h6, h7⟩ := id h
  have hy' : f2 = false := hy
  have h1' : f1 = false := h1
  replace h2 : s1 = s2 := h2
  replace h3 : n1 ≤ n2 := h3
  replace h4 : o1 ≤ o2 := h4
  replace h5 : l1 = l2 := h5
  replace h6 : ∀ s q, n1 ≤ q → T1 s q ≤ T2 s q := h6
  replace h7 : ∀ k t, n1 ≤ t → B1 k t = true → B2 k t = true := h7
  subst hy' h1' h2 h5
  have hB1 : moB (aBath c a b (n1, s1, l1, o1, g1, false, a1, T1, B1)) (n2, s1, l1, o2, g2, true, a2, T2, B2) := by
    unfold aBath
    simp only
    cases hq1 : btAt c B1 a b n1 with
    | none => exact ⟨Nat.le_refl _, fun _ => h4⟩
    | some q1 =>
      simp only
      cases hk1 : bkAt c B1 a b q1 with
      | none => exact ⟨Nat.le_refl _, fun _ => h4⟩
      | some k1 => exact ⟨Nat.le_succ _, fun z => by have z : l1 = l1 + 1 := z; omega⟩
  rw [show aBath c a b (n2, s1, l1, o2, g2, false, a2, T2, B2) = (match btAt c B2 a b n2 with
    | none => (n2, s1, l1, o2, g2, true, a2, T2, B2)
    | some q => match bkAt c B2 a b q with
      | none => (n2, s1, l1, o2, g2, true, a2, T2, B2)
      | some k => (q + b, s1, l1 + 1, q + b, g2, false, upA a2 l1 (1, q, b, k), T2, upB B2 k q b)) from rfl]
  cases hq2 : btAt c B2 a b n2 with
  | none => exact .inr ⟨rfl, hB1⟩
  | some q2 =>
    simp only
    cases hk2 : bkAt c B2 a b q2 with
    | none => exact .inr ⟨rfl, hB1⟩
    | some k2 =>
      obtain ⟨u1, u2, u3, u4⟩ := ffst_some hq2
      obtain ⟨k1', k2', k3'⟩ := bkAt_lt hk2
      have hP : bkP c B1 a b q2 k2 = true := by
        simp only [bkP, Bool.and_eq_true, decide_eq_true_eq]
        refine ⟨k2', fun t ht => ?_⟩
        cases z : B1 k2 (q2 + t) with
        | false => rfl
        | true => exact absurd (k3' t ht) (by rw [h7 k2 (q2 + t) (by omega) z]; decide)
      have hex : btP c B1 a b q2 = true := by
        unfold btP
        cases z : bkAt c B1 a b q2 with
        | none => rw [ffst_none z k2 (by omega) (by omega)] at hP; cases hP
        | some _ => rfl
      unfold aBath
      simp only
      cases hq1 : btAt c B1 a b n1 with
      | none =>
        have := ffst_none hq1 q2 (by omega) (by omega)
        rw [this] at hex; cases hex
      | some q1 =>
        obtain ⟨v1, v2, v3, v4⟩ := ffst_some hq1
        have hle : q1 ≤ q2 := by
          rcases Nat.lt_or_ge q2 q1 with z | z
          · rw [v4 q2 (by omega) z] at hex; cases hex
          · exact z
        simp only
        cases hk1 : bkAt c B1 a b q1 with
        | none => unfold btP at v3; rw [hk1] at v3; cases v3
        | some k1 =>
          refine .inl ⟨rfl, rfl, rfl, ?_, ?_, rfl, fun s q hq => ?_, fun k t ht z => ?_⟩
          · show q1 + b ≤ q2 + b; omega
          · show q1 + b ≤ q2 + b; omega
          · have hq : q1 + b ≤ q := hq
            exact h6 s q (by omega)
          · have ht : q1 + b ≤ t := ht
            have z : upB B1 k1 q1 b k t = true := z
            rw [upB_ne ht] at z
            exact upB_le (h7 k t (by omega) z)
theorem mo_rest {a : Nat} {x y : Xs} (hy : xLo y = false) (h : moA x y) : moI (aRest a x) (aRest a y) := by
  obtain ⟨n1, s1, l1, o1, g1, f1, a1, T1, B1⟩ := x
  obtain ⟨n2, s2, l2, o2, g2, f2, a2, T2, B2⟩ := y
  obtain ⟨h1, h2, h3, h4, h5, h6, h7⟩ := id h
  have hy' : f2 = false := hy
  have h1' : f1 = false := h1
  replace h2 : s1 = s2 := h2
  replace h3 : n1 ≤ n2 := h3
  replace h4 : o1 ≤ o2 := h4
  replace h5 : l1 = l2 := h5
  subst hy' h1' h2 h5
  unfold aRest
  by_cases e2 : 48 < n2 + a
  · simp only [if_pos e2]
    refine .inr ⟨rfl, ?_⟩
    by_cases e1 : 48 < n1 + a
    · simp only [if_pos e1]; exact ⟨Nat.le_refl _, fun _ => h4⟩
    · simp only [if_neg e1]; exact ⟨Nat.le_succ _, fun z => by have z : l1 = l1 + 1 := z; omega⟩
  · have e1 : ¬ 48 < n1 + a := by omega
    simp only [if_neg e2, if_neg e1]
    refine .inl ⟨rfl, rfl, rfl, ?_, ?_, rfl, fun s q hq => ?_, fun k t ht z => ?_⟩
    · show n1 + a ≤ n2 + a; omega
    · show n1 + a ≤ n2 + a; omega
    · have hq : n1 + a ≤ q := hq
      exact h6 s q (by show n1 ≤ q; omega)
    · have ht : n1 + a ≤ t := ht
      exact h7 k t (by show n1 ≤ t; omega) z
theorem mo_until {a : Nat} {x y : Xs} (hy : xLo y = false) (h : moA x y) : moI (aUntil a x) (aUntil a y) := by
  obtain ⟨n1, s1, l1, o1, g1, f1, a1, T1, B1⟩ := x
  obtain ⟨n2, s2, l2, o2, g2, f2, a2, T2, B2⟩ := y
  obtain ⟨h1, h2, h3, h4, h5, h6, h7⟩ := id h
  replace h3 : n1 ≤ n2 := h3
  refine .inl ⟨hy, h1, h2, ?_, h4, h5, fun s q hq => ?_, fun k t ht z => ?_⟩
  · show (if n1 < a then a else n1) ≤ (if n2 < a then a else n2)
    split <;> split <;> omega
  · have hq : (if n1 < a then a else n1) ≤ q := hq
    exact h6 s q (by show n1 ≤ q; split at hq <;> omega)
  · have ht : (if n1 < a then a else n1) ≤ t := ht
    exact h7 k t (by show n1 ≤ t; split at ht <;> omega) z
theorem mo_step {c : Cf} {bd w a b : Nat} {x y : Xs} (hy : xLo y = false) (h : moA x y) : moI (aStep c bd w a b x) (aStep c bd w a b y) := by
  unfold aStep
  by_cases h0 : w = 0
  · rw [if_pos h0, if_pos h0]; exact mo_glass hy h
  rw [if_neg h0, if_neg h0]
  by_cases h1 : w = 1
  · rw [if_pos h1, if_pos h1]; exact mo_bath hy h
  rw [if_neg h1, if_neg h1]
  by_cases h2 : w = 2
  · rw [if_pos h2, if_pos h2]; exact mo_rest hy h
  rw [if_neg h2, if_neg h2]; exact mo_until hy h
theorem aStep_len {c : Cf} {bd w a b : Nat} {x : Xs} : xLen x ≤ xLen (aStep c bd w a b x) ∧ (xLen x = xLen (aStep c bd w a b x) → xOv (aStep c bd w a b x) = xOv x) := by
  obtain ⟨n1, s1, l1, o1, g1, f1, a1, T1, B1⟩ := x
  have same : ∀ (n s g : Nat) (f : Bool) (ac : Nat → Act4) (T : Tk) (B : Bt), xLen (n1, s1, l1, o1, g1, f1, a1, T1, B1) ≤ xLen (n, s, l1, o1, g, f, ac, T, B) ∧ (xLen (n1, s1, l1, o1, g1, f1, a1, T1, B1) = xLen (n, s, l1, o1, g, f, ac, T, B) → xOv (n, s, l1, o1, g, f, ac, T, B) = xOv (n1, s1, l1, o1, g1, f1, a1, T1, B1)) := fun n s g f ac T B => ⟨Nat.le_refl _, fun _ => rfl⟩
  have more : ∀ (n s o g : Nat) (f : Bool) (ac : Nat → Act4) (T : Tk) (B : Bt), xLen (n1, s1, l1, o1, g1, f1, a1, T1, B1) ≤ xLen (n, s, l1 + 1, o, g, f, ac, T, B) ∧ (xLen (n1, s1, l1, o1, g1, f1, a1, T1, B1) = xLen (n, s, l1 + 1, o, g, f, ac, T, B) → xOv (n, s, l1 + 1, o, g, f, ac, T, B) = xOv (n1, s1, l1, o1, g1, f1, a1, T1, B1)) := fun n s o g f ac T B => ⟨Nat.le_succ _, fun z => by have z : l1 = l1 + 1 := z; omega⟩
  unfold aStep
  by_cases h0 : w = 0
  · rw [if_pos h0]
    unfold aGlass
    by_cases e : bd < s1 + c.2.2.2.1 a
    · simp only [if_pos e]; exact ⟨Nat.le_refl _, fun _ => trivial⟩
    · simp only [if_neg e]
      cases glAt c T1 a n1 with
      | none => exact same _ _ _ _ _ _ _
      | some q => exact more _ _ _ _ _ _ _ _
  rw [if_neg h0]
  by_cases h1 : w = 1
  · rw [if_pos h1]
    unfold aBath
    simp only
    cases btAt c B1 a b n1 with
    | none => exact same _ _ _ _ _ _ _
    | some q =>
      simp only
      cases bkAt c B1 a b q with
      | none => exact same _ _ _ _ _ _ _
      | some k => exact more _ _ _ _ _ _ _ _
  rw [if_neg h1]
  by_cases h2 : w = 2
  · rw [if_pos h2]
    unfold aRest
    by_cases e : 48 < n1 + a
    · simp only [if_pos e]; exact same _ _ _ _ _ _ _
    · simp only [if_neg e]; exact more _ _ _ _ _ _ _ _
  rw [if_neg h2]
  exact same _ _ _ _ _ _ _
theorem mo_gR {c : Cf} {bd d : Nat} {A : Rg} {T1 T2 : Tk} {B1 B2 : Bt} (hT : ∀ s q, T1 s q ≤ T2 s q) (hB : ∀ k t, B1 k t = true → B2 k t = true) : ∀ i, (xLo (gR c bd d A (x0 T2 B2) i).2 = false ∧ (gR c bd d A (x0 T1 B1) i).1 = (gR c bd d A (x0 T2 B2) i).1 ∧ moA (gR c bd d A (x0 T1 B1) i).2 (gR c bd d A (x0 T2 B2) i).2) ∨ (xLo (gR c bd d A (x0 T2 B2) i).2 = true ∧ moB (gR c bd d A (x0 T1 B1) i).2 (gR c bd d A (x0 T2 B2) i).2) := by
  intro i
  induction i with
  | zero => exact .inl ⟨rfl, rfl, rfl, rfl, Nat.le_refl _, Nat.le_refl _, rfl, fun s q _ => hT s q, fun k t _ => hB k t⟩
  | succ i ih =>
    rw [gR, gR]
    generalize gR c bd d A (x0 T1 B1) i = p at ih
    generalize gR c bd d A (x0 T2 B2) i = q at ih
    obtain ⟨k1, x⟩ := p
    obtain ⟨k2, y⟩ := q
    rcases ih with ⟨h1, h2, h3⟩ | ⟨h1, h2⟩
    · have h1 : xLo y = false := h1
      replace h2 : k1 = k2 := h2
      replace h3 : moA x y := h3
      subst h2
      have hx : xLo x = false := h3.1
      unfold gStep
      simp only [h1, hx]
      by_cases e : i < k1
      · rw [if_pos (.inr e), if_pos (.inr e)]
        exact .inl ⟨h1, rfl, h3⟩
      · have hno : ¬ (false = true ∨ i < k1) := fun z => z.elim (fun u => by cases u) e
        simp only [if_neg hno]
        by_cases e4 : (A i).1 = 4
        · rw [if_pos e4, if_pos e4]
          exact .inl ⟨h1, rfl, h3⟩
        · rw [if_neg e4, if_neg e4]
          rcases mo_step (c := c) (bd := bd) (w := (A i).1) (a := (A i).2.1) (b := (A i).2.2) h1 h3 with ⟨u1, u2⟩ | ⟨u1, u2⟩
          · exact .inl ⟨u1, rfl, u2⟩
          · exact .inr ⟨u1, u2⟩
    · have h1 : xLo y = true := h1
      replace h2 : moB x y := h2
      right
      have hy : gStep c bd d A i (k2, y) = (k2, y) := by unfold gStep; rw [if_pos (.inl h1)]
      rw [hy]
      refine ⟨h1, ?_⟩
      unfold gStep
      by_cases e : xLo x = true ∨ i < k1
      · rw [if_pos e]; exact h2
      · rw [if_neg e]
        by_cases e4 : (A i).1 = 4
        · rw [if_pos e4]; exact h2
        · rw [if_neg e4]
          obtain ⟨u1, u2⟩ := aStep_len (c := c) (bd := bd) (w := (A i).1) (a := (A i).2.1) (b := (A i).2.2) (x := x)
          obtain ⟨v1, v2⟩ := h2
          refine ⟨Nat.le_trans v1 u1, fun z => ?_⟩
          have z : xLen y = xLen (aStep c bd (A i).1 (A i).2.1 (A i).2.2 x) := z
          show xOv (aStep c bd (A i).1 (A i).2.1 (A i).2.2 x) ≤ xOv y
          rw [u2 (by omega)]
          exact v2 (by omega)
theorem mo_fin {c : Cf} {d : Nat} {p : Nat × Nat × Rg} {T1 T2 : Tk} {B1 B2 : Bt} (hT : ∀ s q, T1 s q ≤ T2 s q) (hB : ∀ k t, B1 k t = true → B2 k t = true) : moB (gFin c d p T1 B1) (gFin c d p T2 B2) := by
  rcases mo_gR (c := c) (bd := p.1) (d := d) (A := p.2.2) hT hB p.2.1 with ⟨_, _, h⟩ | ⟨_, h⟩
  · exact ⟨Nat.le_of_eq h.2.2.2.2.1.symm, fun _ => h.2.2.2.1⟩
  · exact h
