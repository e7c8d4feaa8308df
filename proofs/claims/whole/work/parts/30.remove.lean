/-! what a guest has taken is given back -/
def cntG (ac : Nat → Act4) (s q : Nat) : Nat → Nat
  | 0 => 0
  | i + 1 => cntG ac s q i + if (ac i).1 = 0 ∧ (ac i).2.2.2 = s ∧ (ac i).2.1 = q then 1 else 0
def covB (ac : Nat → Act4) (k t : Nat) : Nat → Bool
  | 0 => false
  | i + 1 => covB ac k t i || decide ((ac i).1 = 1 ∧ (ac i).2.2.2 = k ∧ (ac i).2.1 ≤ t ∧ t < (ac i).2.1 + (ac i).2.2.1)
theorem cntG_up {ac : Nat → Act4} {l s q : Nat} {v : Act4} : ∀ {i : Nat}, i ≤ l → cntG (upA ac l v) s q i = cntG ac s q i := by
  intro i
  induction i with
  | zero => intro _; rfl
  | succ i ih => intro h; rw [cntG, cntG, ih (by omega), upA_ne (by omega)]
theorem covB_up {ac : Nat → Act4} {l k t : Nat} {v : Act4} : ∀ {i : Nat}, i ≤ l → covB (upA ac l v) k t i = covB ac k t i := by
  intro i
  induction i with
  | zero => intro _; rfl
  | succ i ih => intro h; rw [covB, covB, ih (by omega), upA_ne (by omega)]
theorem cntG_mono {ac : Nat → Act4} {s q i : Nat} : ∀ {j : Nat}, i ≤ j → cntG ac s q i ≤ cntG ac s q j := by
  intro j
  induction j with
  | zero => intro h; rw [show i = 0 by omega]; exact Nat.le_refl _
  | succ j ih =>
    intro h
    by_cases e : i = j + 1
    · rw [e]; exact Nat.le_refl _
    · rw [cntG]; have := ih (by omega); omega
/-- how the state has come from the one at the start -/
def dJ (T0 : Tk) (B0 : Bt) : Xs → Prop
  | (_, _, len, _, _, _, ac, T, B) => (∀ s q, T s q = T0 s q + cntG ac s q len) ∧ (∀ k t, B k t = (B0 k t || covB ac k t len)) ∧ ∀ k t, covB ac k t len = true → B0 k t = false
theorem dJ_step {c : Cf} {bd w a b : Nat} {T0 : Tk} {B0 : Bt} {x : Xs} (h : dJ T0 B0 x) : dJ T0 B0 (aStep c bd w a b x) := by
  obtain ⟨n1, s1, l1, o1, g1, f1, ac, T, B⟩ := x
  obtain ⟨h1, h2, h3⟩ := id h
  unfold aStep
  by_cases w0 : w = 0
  · rw [if_pos w0]
    unfold aGlass
    by_cases e : bd < s1 + c.2.2.2.1 a
    · simp only [if_pos e]; exact h
    · simp only [if_neg e]
      cases glAt c T a n1 with
      | none => exact h
      | some q =>
        refine ⟨fun s' q' => ?_, fun k t => ?_, fun k t => ?_⟩
        · show upT T a q s' q' = _
          rw [cntG, cntG_up (Nat.le_refl _), upA_at]
          unfold upT
          by_cases z : s' = a ∧ q' = q
          · obtain ⟨z1, z2⟩ := z
            subst z1 z2
            rw [if_pos ⟨rfl, rfl⟩, if_pos ⟨rfl, rfl, rfl⟩, h1]; omega
          · rw [if_neg z, if_neg (fun y => z ⟨y.2.1.symm, y.2.2.symm⟩), h1]; omega
        · rw [covB, covB_up (Nat.le_refl _), upA_at]
          rw [decide_eq_false (fun y => by have y := y.1; cases y), Bool.or_false]
          exact h2 k t
        · rw [covB, covB_up (Nat.le_refl _), upA_at]
          rw [decide_eq_false (fun y => by have y := y.1; cases y), Bool.or_false]
          exact h3 k t
  rw [if_neg w0]
  by_cases w1 : w = 1
  · rw [if_pos w1]
    unfold aBath
    simp only
    cases btAt c B a b n1 with
    | none => exact h
    | some q =>
      simp only
      cases hk : bkAt c B a b q with
      | none => exact h
      | some k0 =>
        obtain ⟨k1, k2, k3⟩ := bkAt_lt hk
        refine ⟨fun s' q' => ?_, fun k t => ?_, fun k t => ?_⟩
        · show T s' q' = _
          rw [cntG, cntG_up (Nat.le_refl _), upA_at, if_neg (fun y => by have y := y.1; cases y)]
          exact h1 s' q'
        · show upB B k0 q b k t = _
          rw [covB, covB_up (Nat.le_refl _), upA_at]
          unfold upB
          by_cases z : k = k0 ∧ q ≤ t ∧ t < q + b
          · rw [if_pos z, decide_eq_true (show (1 : Nat) = 1 ∧ k0 = k ∧ q ≤ t ∧ t < q + b from ⟨rfl, z.1.symm, z.2⟩), Bool.or_true, Bool.or_true]
          · rw [if_neg z, decide_eq_false (show ¬ ((1 : Nat) = 1 ∧ k0 = k ∧ q ≤ t ∧ t < q + b) from fun y => z ⟨y.2.1.symm, y.2.2⟩), Bool.or_false]
            exact h2 k t
        · rw [covB, covB_up (Nat.le_refl _), upA_at]
          intro z
          rcases Bool.or_eq_true_iff.mp z with y | y
          · exact h3 k t y
          · have y : (1 : Nat) = 1 ∧ k0 = k ∧ q ≤ t ∧ t < q + b := of_decide_eq_true y
            have u := k3 (t - q) (by omega)
            rw [show q + (t - q) = t by omega, y.2.1, h2 k t] at u
            exact (Bool.or_eq_false_iff.mp u).1
  rw [if_neg w1]
  by_cases w2 : w = 2
  · rw [if_pos w2]
    unfold aRest
    by_cases e : 48 < n1 + a
    · simp only [if_pos e]; exact h
    · simp only [if_neg e]
      refine ⟨fun s' q' => ?_, fun k t => ?_, fun k t => ?_⟩
      · show T s' q' = _
        rw [cntG, cntG_up (Nat.le_refl _), upA_at, if_neg (fun y => by have y := y.1; cases y)]
        exact h1 s' q'
      · show B k t = _
        rw [covB, covB_up (Nat.le_refl _), upA_at, decide_eq_false (fun y => by have y := y.1; cases y), Bool.or_false]
        exact h2 k t
      · rw [covB, covB_up (Nat.le_refl _), upA_at, decide_eq_false (fun y => by have y := y.1; cases y), Bool.or_false]
        exact h3 k t
  rw [if_neg w2]
  exact h
theorem dJ_gR {c : Cf} {bd d : Nat} {A : Rg} {T0 : Tk} {B0 : Bt} : ∀ i, dJ T0 B0 (gR c bd d A (x0 T0 B0) i).2 := by
  intro i
  induction i with
  | zero => exact ⟨fun _ _ => rfl, fun k t => (Bool.or_false _).symm, fun _ _ z => by cases z⟩
  | succ i ih =>
    rw [gR]
    generalize gR c bd d A (x0 T0 B0) i = s at ih
    obtain ⟨sk, x⟩ := s
    unfold gStep
    by_cases e : xLo x = true ∨ i < sk
    · rw [if_pos e]; exact ih
    · rw [if_neg e]
      by_cases e4 : (A i).1 = 4
      · rw [if_pos e4]; exact ih
      · rw [if_neg e4]; exact dJ_step ih
theorem dJ_fin {c : Cf} {d : Nat} {p : Nat × Nat × Rg} {T0 : Tk} {B0 : Bt} : dJ T0 B0 (gFin c d p T0 B0) := dJ_gR p.2.1
/-- the state grows -/
theorem dJ_le {T0 : Tk} {B0 : Bt} {x : Xs} (h : dJ T0 B0 x) : (∀ s q, T0 s q ≤ xT x s q) ∧ ∀ k t, B0 k t = true → xB x k t = true := by
  obtain ⟨n1, s1, l1, o1, g1, f1, ac, T, B⟩ := x
  obtain ⟨h1, h2, h3⟩ := h
  refine ⟨fun s q => ?_, fun k t z => ?_⟩
  · show T0 s q ≤ T s q
    rw [h1]; omega
  · show B k t = true
    rw [h2, z, Bool.true_or]
theorem m1_get (t : Nat) : (-1 : Int64).toBitVec.getLsbD t = decide (t < 64) := by
  show (BitVec.allOnes 64).getLsbD t = _
  exact BitVec.getLsbD_allOnes
theorem remove_X (n : Nat) (hn : 1000 ≤ n) {g : Nat} (hg : g < 8) {σ : St} {x : Xs} {bd : Nat} {T0 : Tk} {B0 : Bt} (hW : xW bd 30 x) (hJ : dJ T0 B0 x) (h : rpX g σ x) (hr0 : rsW T0 B0) : ∃ σ', f_3_removeGuest n σ (nI g) = some σ' ∧ rsX σ' T0 B0 ∧ (∀ k, k < 116 → σ'.1 k = σ.1 k) := by
  obtain ⟨now, str, len, ov, gl, lo, ac, T, B⟩ := x
  obtain ⟨w1, w2, w3, w4, w5, w6, w7⟩ := hW
  obtain ⟨⟨h0, h1, h2, h3, h4, h5, h6⟩, h7⟩ := h
  have h7 : rsX σ T B := h7
  obtain ⟨j1, j2, j3⟩ := hJ
  obtain ⟨e, he, hX⟩ := lq_for (b := b_3_removeGuest_9 n g) (X := fun e => rsX e.2 T0 B0 ∧ ∀ k, k < 116 → e.2.1 k = σ.1 k) len (fun i s => ∃ σi, s = (nI i, σi) ∧ (∀ k, k < 116 → σi.1 k = σ.1 k) ∧ rsX σi (fun s q => T s q - cntG ac s q i) (fun k t => B k t && !covB ac k t i)) (by
    rintro i s hi ⟨σi, rfl, f1, f2⟩
    left
    have f21 : ∀ s q, s < 4 → q < 48 → σi.1 (116 + s) q = nI (T s q - cntG ac s q i) := f2.1
    have f22 : ∀ k t, k < 6 → (σi.2 14 k).toBitVec.getLsbD t = (B k t && !covB ac k t i) := f2.2
    have sT : ∀ s q, cntG ac s q (i + 1) = cntG ac s q i + if (ac i).1 = 0 ∧ (ac i).2.2.2 = s ∧ (ac i).2.1 = q then 1 else 0 := fun _ _ => rfl
    have sB : ∀ k t, covB ac k t (i + 1) = (covB ac k t i || decide ((ac i).1 = 1 ∧ (ac i).2.2.2 = k ∧ (ac i).2.1 ≤ t ∧ t < (ac i).2.1 + (ac i).2.2.1)) := fun _ _ => rfl
    obtain ⟨y1, y2, y3, y4⟩ := h6 i hi
    unfold b_3_removeGuest_9
    simp only [nm_eq]
    rw [f1 (76 + g) (by omega), f1 (84 + g) (by omega), f1 (92 + g) (by omega), f1 (100 + g) (by omega), f1 (108 + g) (by omega), h2, if_neg (nI_ge hi (by omega)), gd_t (inb_nI (show i < 30 by omega) (by decide)), nI_clamp (show i < 2 ^ 31 by omega), y1, y2, y3, y4, nI_1]
    rcases w6 i hi with ⟨a1, a2, a3⟩ | ⟨a1, a2, a3, a4, a5⟩ | ⟨a1, a2⟩
    · rw [a1, if_pos (show nI 0 = 0 from rfl), if_neg (show ¬ (0 = 2) by decide), gd_t (inb_nI a3 (by decide)), gd_t (inb_nI a2 (by decide)), nI_clamp (show (ac i).2.2.2 < 2 ^ 31 by omega), nI_clamp (show (ac i).2.1 < 2 ^ 31 by omega), f21 _ _ a3 a2]
      have hc : cntG ac (ac i).2.2.2 (ac i).2.1 (i + 1) = cntG ac (ac i).2.2.2 (ac i).2.1 i + 1 := by rw [cntG, if_pos ⟨a1, rfl, rfl⟩]
      have hm := cntG_mono (ac := ac) (s := (ac i).2.2.2) (q := (ac i).2.1) (show i + 1 ≤ len by omega)
      have hT := j1 (ac i).2.2.2 (ac i).2.1
      rw [show nI (T (ac i).2.2.2 (ac i).2.1 - cntG ac (ac i).2.2.2 (ac i).2.1 i) - 1 = nI (T (ac i).2.2.2 (ac i).2.1 - cntG ac (ac i).2.2.2 (ac i).2.1 (i + 1)) from by rw [show (1 : Int32) = nI 1 from rfl, pk_sub (by omega)]; congr 1; omega]
      refine ⟨_, rfl, _, rfl, fun k hk => by rw [si_ne (by omega)]; exact f1 k hk, fun s q hs hq => ?_, fun k t hk => ?_⟩
      · show _ = nI (T s q - cntG ac s q (i + 1))
        rw [si_get]
        by_cases z : s = (ac i).2.2.2 ∧ q = (ac i).2.1
        · rw [if_pos ⟨by omega, z.2⟩, z.1, z.2]
        · rw [if_neg (fun y => z ⟨by omega, y.2⟩), f21 s q hs hq, sT, if_neg (fun y => z ⟨y.2.1.symm, y.2.2.symm⟩), Nat.add_zero]
      · show _ = (B k t && !covB ac k t (i + 1))
        rw [sB, decide_eq_false (fun y => by rw [a1] at y; exact absurd y.1 (by decide)), Bool.or_false]
        exact f22 k t hk
    · rw [a1, if_neg (show ¬ nI 1 = 0 by decide), if_pos (show nI 1 = 1 from rfl), if_neg (show ¬ (1 = 2) by decide), gd_t (inb_nI a5 (by decide)), bits_X n σi a3 (by omega), bd_eq, nI_clamp (show (ac i).2.2.2 < 2 ^ 31 by omega)]
      refine ⟨_, rfl, _, rfl, f1, fun s q hs hq => ?_, fun k t hk => ?_⟩
      · show _ = nI (T s q - cntG ac s q (i + 1))
        rw [sT, if_neg (fun y => by rw [a1] at y; exact absurd y.1 (by decide)), Nat.add_zero]
        exact f21 s q hs hq
      · show _ = (B k t && !covB ac k t (i + 1))
        rw [sl_get, sB]
        by_cases z : k = (ac i).2.2.2
        · subst z
          rw [if_pos ⟨rfl, rfl⟩, Int64.toBitVec_and, BitVec.getLsbD_and, Int64.toBitVec_xor, BitVec.getLsbD_xor, f22 _ t hk, bitsV_get a4, m1_get]
          by_cases y : (ac i).2.1 ≤ t ∧ t < (ac i).2.1 + (ac i).2.2.1
          · rw [decide_eq_true y, decide_eq_true (show t < 64 by omega), decide_eq_true (show (ac i).1 = 1 ∧ (ac i).2.2.2 = (ac i).2.2.2 ∧ _ from ⟨a1, rfl, y⟩)]
            simp
          · rw [decide_eq_false y, decide_eq_false (show ¬ ((ac i).1 = 1 ∧ (ac i).2.2.2 = (ac i).2.2.2 ∧ _) from fun u => y u.2.2), Bool.or_false]
            by_cases v : t < 64
            · rw [decide_eq_true v]; simp
            · have hb : B (ac i).2.2.2 t = false := w7.2 _ _ (by omega)
              rw [hb]; simp
        · rw [if_neg (fun y => z y.2), decide_eq_false (fun u => z u.2.1.symm), Bool.or_false]
          exact f22 k t hk
    · rw [a1, if_neg (show ¬ nI 2 = 0 by decide), if_neg (show ¬ nI 2 = 1 by decide)]
      refine ⟨_, rfl, _, rfl, f1, fun s q hs hq => ?_, fun k t hk => ?_⟩
      · show _ = nI (T s q - cntG ac s q (i + 1))
        rw [sT, if_neg (fun y => by rw [a1] at y; exact absurd y.1 (by decide)), Nat.add_zero]
        exact f21 s q hs hq
      · show _ = (B k t && !covB ac k t (i + 1))
        rw [sB, decide_eq_false (fun y => by rw [a1] at y; exact absurd y.1 (by decide)), Bool.or_false]
        exact f22 k t hk) (by
    rintro s ⟨σi, rfl, f1, f2⟩
    have f21 : ∀ s q, s < 4 → q < 48 → σi.1 (116 + s) q = nI (T s q - cntG ac s q len) := f2.1
    have f22 : ∀ k t, k < 6 → (σi.2 14 k).toBitVec.getLsbD t = (B k t && !covB ac k t len) := f2.2
    unfold b_3_removeGuest_9
    simp only [nm_eq]
    rw [f1 (76 + g) (by omega), h2, if_pos (nI_le (Nat.le_refl len) (by omega))]
    refine ⟨_, rfl, ⟨fun s q hs hq => ?_, fun k t hk => ?_⟩, f1⟩
    · rw [f21 s q hs hq, j1 s q, Nat.add_sub_cancel]
    · rw [f22 k t hk, j2 k t]
      cases z : covB ac k t len with
      | false => simp
      | true => rw [j3 k t z]; rfl) (n := n) (by omega) (s := (0, σ)) ⟨σ, rfl, fun _ _ => rfl, h7.1, fun k t hk => by rw [h7.2 k t hk]; simp [covB]⟩
  unfold f_3_removeGuest
  rw [gd_t (inb_nI hg (by decide)), nI_clamp (by omega), he, bd_eq]
  exact ⟨_, rfl, hX⟩
