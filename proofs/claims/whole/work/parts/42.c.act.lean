/-! one act is told -/
def loF (t : Nat) : Nat := if t = 2 ∨ t = 4 then 1 else 0
def hiF (t : Nat) : Nat := if t = 0 then 3 else if t = 1 then 2 else if t = 2 then 16 else if t = 3 then 47 else 9
def wNx (t : Nat) : Nat := if t = 1 then 5 else if t = 4 then 6 else 3
theorem lo_dec : ∀ t, t < 5 → leastF t = nI (loF t) ∧ mostF t = nI (hiF t) ∧ loF t ≤ 99 ∧ hiF t ≤ 99 := by decide
section AC
variable {n : Nat} {σ0 τ0 : St} {K L : Nat}
theorem c173 {τ : St} {dp : Int32} {t F c : Nat} (ht : t ≤ 4) (h20 : τ.1 0 20 = nI (10 + t)) (hF : F < 8) (hc : c ≤ 30) (h12 : τ.1 12 F = nI c) : j_11_aCure_173 n (nI F) dp τ = if c = 30 then some (.inr (.inl (0, τBd τ (nI 4)))) else (f_11_next0 n (si τ 12 F (nI (c + 1)))).bind fun r36 => j_11_aCure_305 n (nI F) dp (nI c) (nI t) (nI (hiF t)) (nI (loF t)) r36 := by
  unfold j_11_aCure_173
  simp only [nm_eq]
  rw [h20, if_neg (show ¬ nI (10 + t) < (10 : Int32) from nI_nlt (b := 10) (by omega) (by omega)), if_pos (show nI (10 + t) ≤ (14 : Int32) from nI_le (b := 14) (by omega) (by decide)), gd_t (inb_nI hF (by decide)), nI_clamp (by omega), h12, nI_1, show nI (10 + t) - 10 = nI t from by rw [show (10 : Int32) = nI 10 from rfl, pk_sub (by omega), Nat.add_sub_cancel_left]]
  by_cases c30 : c = 30
  · rw [if_pos (show nI c = 30 by rw [c30]; rfl), if_pos c30, show (4 : Int32) = nI 4 from rfl, bad_M, bd_eq]
    exact gd_t (show isb 0 = true by decide)
  · rw [if_neg (show ¬ nI c = 30 from nI_ne (k := 30) (by omega) (by decide) c30), if_neg c30]
    congr 1
    funext r36
    unfold j_11_aCure_262
    have : t = 0 ∨ t = 1 ∨ t = 2 ∨ t = 3 ∨ t = 4 := by omega
    rcases this with rfl | rfl | rfl | rfl | rfl
    · rw [if_neg (by decide), if_neg (by decide), if_pos (by decide)]; rfl
    · rw [if_neg (by decide), if_neg (by decide), if_neg (by decide), if_pos (by decide)]; rfl
    · rw [if_pos (by decide), if_neg (by decide), if_neg (by decide), if_pos (by decide)]; rfl
    · rw [if_neg (by decide), if_neg (by decide), if_neg (by decide), if_neg (by decide), if_neg (by decide), if_pos (by decide)]; rfl
    · rw [if_neg (by decide), if_pos (by decide), if_neg (by decide), if_neg (by decide), if_neg (by decide), if_neg (by decide)]; rfl
theorem c384 {τ : St} {F c t deep t2 : Nat} (ht : t ≤ 4) (ht2 : t2 ≤ 13) (hd : deep ≤ 5) (h20 : τ.1 0 20 = nI (tM t2)) : j_11_aCure_384 n (nI F) (nI deep) (nI c) (nI t) τ = if t = 4 then (if t2 = 10 then (if deep = 5 then some (.inr (.inl (0, τBd τ (nI 4)))) else (f_11_next0 n (si τ 15 deep (nI c))).bind fun r => some (.inl (nI (deep + 1), r))) else some (.inr (.inl (0, τBd τ (nI 1))))) else some (.inl (nI deep, τ)) := by
  unfold j_11_aCure_384
  simp only [nm_eq]
  rw [h20, show (40 : Int32) = nI (tM 10) from rfl]
  have hlt := tM_le (t := t2)
  by_cases c4 : t = 4
  · rw [if_pos (show nI t = 4 by rw [c4]; rfl), if_pos c4]
    by_cases c10 : t2 = 10
    · rw [if_pos (by rw [c10]), if_pos c10]
      by_cases c5 : deep = 5
      · rw [if_pos (show nI deep = 5 by rw [c5]; rfl), if_pos c5, show (4 : Int32) = nI 4 from rfl, bad_M, bd_eq]
        exact gd_t (show isb 0 = true by decide)
      · rw [if_neg (show ¬ nI deep = 5 from nI_ne (k := 5) (by omega) (by decide) c5), if_neg c5, gd_t (inb_nI (show deep < 5 by omega) (by decide)), nI_clamp (by omega), nI_1]
    · rw [if_neg (fun z => c10 (tM_inj t2 ht2 10 (by decide) ((nI_eq (by omega) (by decide)).mp z))), if_neg c10, show (1 : Int32) = nI 1 from rfl, bad_M, bd_eq]
      exact gd_t (show isb 0 = true by decide)
  · rw [if_neg (show ¬ nI t = 4 from nI_ne (k := 4) (by omega) (by decide) c4), if_neg c4]
theorem c305 {τ : St} {F c t : Nat} {dp hi lo : Int32} (ht : t ≤ 4) (hF : F < 8) (hc : c < 30) : j_11_aCure_305 n (nI F) dp (nI c) (nI t) hi lo τ = (f_11_number n τ lo hi).bind fun r => if r.1 = 0 then some (.inr (.inl (0, r.2))) else if t = 1 then (f_11_number n (si (si r.2 13 (90 * F + 3 * c) (nI t)) 13 (90 * F + 3 * c + 1) (r.2.1 0 28)) 1 16).bind fun q => (if q.1 = 0 then some (.inr (.inl (0, q.2))) else j_11_aCure_384 n (nI F) dp (nI c) (nI t) (si q.2 13 (90 * F + 3 * c + 2) (q.2.1 0 28))) else j_11_aCure_384 n (nI F) dp (nI c) (nI t) (si (si r.2 13 (90 * F + 3 * c) (nI t)) 13 (90 * F + 3 * c + 1) (r.2.1 0 28)) := by
  unfold j_11_aCure_305
  simp only [nm_eq]
  have i0 : (90 : Int32) * nI F + 3 * nI c = nI (90 * F + 3 * c) := by
    rw [show (90 : Int32) = nI 90 from rfl, show (3 : Int32) = nI 3 from rfl, pk_mul, pk_mul, nI_add]
  have i2 : nI (90 * F + 3 * c) + 2 = nI (90 * F + 3 * c + 2) := nI_add _ 2
  congr 1
  funext r
  rw [i0, nI_1, i2, gd_t (inb_nI (show 90 * F + 3 * c < 720 by omega) (by decide)), gd_t (inb_nI (show 90 * F + 3 * c + 1 < 720 by omega) (by decide)), nI_clamp (show 90 * F + 3 * c < 2 ^ 31 by omega), nI_clamp (show 90 * F + 3 * c + 1 < 2 ^ 31 by omega), si_cell (show (0 : Nat) ≠ 13 by decide)]
  by_cases c0 : r.1 = 0
  · rw [if_pos c0, if_pos c0]
  · rw [if_neg c0, if_neg c0]
    by_cases c1 : t = 1
    · rw [if_pos (show nI t = 1 by rw [c1]; rfl), if_pos c1]
      congr 1
      funext q
      rw [gd_t (inb_nI (show 90 * F + 3 * c + 2 < 720 by omega) (by decide)), nI_clamp (show 90 * F + 3 * c + 2 < 2 ^ 31 by omega)]
    · rw [if_neg (show ¬ nI t = 1 from nI_ne (k := 1) (by omega) (by decide) c1), if_neg c1]
theorem begin_X {σ : St} {ρ c t : Nat} (ht : t ≤ 4) (hρ : ρ < 8) (hc : c ≤ 30) (h9 : σ.1 6 9 = nI ρ) (h1 : σ.1 (44 + ρ) 1 = nI c) : f_2_takeAct n σ (nI t) = if c = 30 then some (σFl σ (nI 4)) else some (si (si (si σ (52 + ρ) c (nI t)) (44 + ρ) 1 (nI (c + 1))) 6 6 (nI 4)) := by
  unfold f_2_takeAct f_2_beginAct f_6_add
  simp only [nm_eq, bsr]
  rw [if_neg (nI_pos (by omega)), if_neg (show ¬ (4 : Int32) < nI t from nI_nlt (a := 4) ht (by decide)), h9, gd_t (inb_nI hρ (by decide)), nI_clamp (by omega), h1, fail_X]
  by_cases c30 : c = 30
  · rw [if_neg (show ¬ nI c < (30 : Int32) from nI_nlt (b := 30) (by omega) (by omega)), if_pos c30]; rfl
  · rw [if_pos (show nI c < (30 : Int32) from nI_lt (b := 30) (by omega) (by decide)), if_neg c30, if_neg (show ¬ (30 : Int32) ≤ nI c from nI_ge (b := 30) (by omega) (by decide)), gd_t (inb_nI (show c < 30 by omega) (by decide)), nI_clamp (by omega), si_cell (show 44 + ρ ≠ 52 + ρ by omega), h1, nI_1, bd_eq]; rfl
theorem first_X {σ : St} {ρ c t t1 v : Nat} (ht : t ≤ 4) (ht1 : t1 ≤ 13) (hρ : ρ < 8) (hc : c < 30) (h9 : σ.1 6 9 = nI ρ) (h1 : σ.1 (44 + ρ) 1 = nI (c + 1)) (hk : σ.1 (52 + ρ) c = nI t) (h3 : σ.1 6 3 = 0) (hv : t1 = 7 → v ≤ 99 ∧ σ.1 7 5 = nI v) : f_2_takeFirst n σ (nI t1) = if t1 = 7 then (if loF t ≤ v ∧ v ≤ hiF t then some (si (si σ (60 + ρ) c (nI v)) 6 6 (nI (wNx t))) else some (σFl σ (nI 3))) else some (σFl σ (nI 1)) := by
  obtain ⟨d1, d2, d3, d4⟩ := lo_dec t (by omega)
  unfold f_2_takeFirst
  simp only [nm_eq]
  rw [h9, gd_t (inb_nI hρ (by decide)), nI_clamp (show ρ < 2 ^ 31 by omega), h1, nI_pred, gd_t (inb_nI hc (by decide)), nI_clamp (show c < 2 ^ 31 by omega), hk, gd_t (inb_nI (show t < 5 by omega) (by decide)), nI_clamp (show t < 2 ^ 31 by omega), d1, d2, canStand_X ht1 d3 d4 h3 hv]
  by_cases c7 : t1 = 7
  · rw [if_pos c7, if_pos c7]
    by_cases cv : loF t ≤ v ∧ v ≤ hiF t
    · rw [if_pos cv, if_pos cv, bd_eq]
      simp only
      rw [if_neg (show ¬ (1 : Int32) = 0 by decide), h9, gd_t (inb_nI hρ (by decide)), nI_clamp (show ρ < 2 ^ 31 by omega), (hv c7).2]
      unfold wNx
      by_cases c1 : t = 1
      · rw [if_pos (show nI t = 1 by rw [c1]; rfl), if_pos c1]; rfl
      · rw [if_neg (show ¬ nI t = 1 from nI_ne (k := 1) (by omega) (by decide) c1), if_neg c1]
        by_cases c4 : t = 4
        · rw [if_pos (show nI t = 4 by rw [c4]; rfl), if_pos c4]; rfl
        · rw [if_neg (show ¬ nI t = 4 from nI_ne (k := 4) (by omega) (by decide) c4), if_neg c4]; rfl
    · rw [if_neg cv, if_neg cv, bd_eq]
      simp only
      rw [if_pos trivial]
  · rw [if_neg c7, if_neg c7, bd_eq]
    simp only
    rw [if_pos trivial]
theorem second_X {σ : St} {ρ c t1 v : Nat} (ht1 : t1 ≤ 13) (hρ : ρ < 8) (hc : c < 30) (h9 : σ.1 6 9 = nI ρ) (h1 : σ.1 (44 + ρ) 1 = nI (c + 1)) (h3 : σ.1 6 3 = 0) (hv : t1 = 7 → v ≤ 99 ∧ σ.1 7 5 = nI v) : f_2_takeSecond n σ (nI t1) = if t1 = 7 then (if 1 ≤ v ∧ v ≤ 16 then some (si (si σ (68 + ρ) c (nI v)) 6 6 (nI 3)) else some (σFl σ (nI 3))) else some (σFl σ (nI 1)) := by
  unfold f_2_takeSecond
  simp only [nm_eq]
  rw [show f_2_canStand n σ (nI t1) 1 16 = _ from canStand_X (lo := 1) (hi := 16) ht1 (by decide) (by decide) h3 hv]
  by_cases c7 : t1 = 7
  · rw [if_pos c7, if_pos c7]
    by_cases cv : 1 ≤ v ∧ v ≤ 16
    · rw [if_pos cv, if_pos cv, bd_eq]
      simp only
      rw [if_neg (show ¬ (1 : Int32) = 0 by decide), h9, gd_t (inb_nI hρ (by decide)), nI_clamp (show ρ < 2 ^ 31 by omega), h1, nI_pred, gd_t (inb_nI hc (by decide)), nI_clamp (show c < 2 ^ 31 by omega), (hv c7).2]; rfl
    · rw [if_neg cv, if_neg cv, bd_eq]
      simp only
      rw [if_pos trivial]
  · rw [if_neg c7, if_neg c7, bd_eq]
    simp only
    rw [if_pos trivial]
theorem bracket_X {σ : St} {ρ c t1 deep : Nat} (ht1 : t1 ≤ 13) (hρ : ρ < 8) (hc : c < 30) (hd : deep ≤ 5) (h9 : σ.1 6 9 = nI ρ) (h1 : σ.1 (44 + ρ) 1 = nI (c + 1)) (h7 : σ.1 6 7 = nI deep) : f_2_takeBracket n σ (nI t1) = if t1 = 10 then (if deep = 5 then some (σFl σ (nI 4)) else some (si (si (si σ 10 deep (nI c)) 6 7 (nI (deep + 1))) 6 6 (nI 3))) else some (σFl σ (nI 1)) := by
  unfold f_2_takeBracket
  simp only [nm_eq, bsr]
  rw [fail_X, fail_X, h7, h9]
  by_cases c10 : t1 = 10
  · rw [if_pos (show nI t1 = 10 by rw [c10]; rfl), if_pos c10]
    by_cases c5 : deep = 5
    · rw [if_neg (show ¬ nI deep < (5 : Int32) from nI_nlt (b := 5) (by omega) (by omega)), if_pos c5]; rfl
    · rw [if_pos (show nI deep < (5 : Int32) from nI_lt (b := 5) (by omega) (by decide)), if_neg c5, gd_t (inb_nI hρ (by decide)), nI_clamp (show ρ < 2 ^ 31 by omega), h1, nI_pred, gd_t (inb_nI (show deep < 5 by omega) (by decide)), nI_clamp (show deep < 2 ^ 31 by omega), si_cell (show (6 : Nat) ≠ 10 by decide), h7, nI_1]; rfl
  · rw [if_neg (show ¬ nI t1 = 10 from nI_ne (k := 10) (by omega) (by decide) c10), if_neg c10]; rfl
end AC
