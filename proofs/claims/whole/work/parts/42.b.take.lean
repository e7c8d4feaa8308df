theorem bsr {α : Type} {o : Option α} : (o.bind fun r => some r) = o := by cases o <;> rfl
section TK
variable {n : Nat} {σ0 τ0 : St} {K L : Nat}
theorem take_0 {σ : St} {x : Int32} (h : σ.1 6 6 = nI 0) : f_2_take n σ x = f_2_takeCure n σ x := by
  unfold f_2_take; simp only [nm_eq, bsr]; rw [h, if_pos (by decide)]
theorem take_1 {σ : St} {x : Int32} (h : σ.1 6 6 = nI 1) : f_2_take n σ x = f_2_takeName n σ x := by
  unfold f_2_take; simp only [nm_eq, bsr]; rw [h, if_neg (by decide), if_pos (by decide)]
theorem take_2 {σ : St} {x : Int32} (h : σ.1 6 6 = nI 2) : f_2_take n σ x = f_2_takeColon n σ x := by
  unfold f_2_take; simp only [nm_eq, bsr]; rw [h, if_neg (by decide), if_neg (by decide), if_pos (by decide)]
theorem take_3 {σ : St} {x : Int32} (h : σ.1 6 6 = nI 3) : f_2_take n σ x = f_2_takeAct n σ x := by
  unfold f_2_take; simp only [nm_eq, bsr]; rw [h, if_neg (by decide), if_neg (by decide), if_neg (by decide), if_pos (by decide)]
theorem take_4 {σ : St} {x : Int32} (h : σ.1 6 6 = nI 4) : f_2_take n σ x = f_2_takeFirst n σ x := by
  unfold f_2_take; simp only [nm_eq, bsr]; rw [h, if_neg (by decide), if_neg (by decide), if_neg (by decide), if_neg (by decide), if_pos (by decide)]
theorem take_5 {σ : St} {x : Int32} (h : σ.1 6 6 = nI 5) : f_2_take n σ x = f_2_takeSecond n σ x := by
  unfold f_2_take; simp only [nm_eq, bsr]; rw [h, if_neg (by decide), if_neg (by decide), if_neg (by decide), if_neg (by decide), if_neg (by decide), if_pos (by decide)]
theorem take_6 {σ : St} {x : Int32} (h : σ.1 6 6 = nI 6) : f_2_take n σ x = f_2_takeBracket n σ x := by
  unfold f_2_take; simp only [nm_eq, bsr]; rw [h, if_neg (by decide), if_neg (by decide), if_neg (by decide), if_neg (by decide), if_neg (by decide), if_neg (by decide)]
theorem nI_ne {t k : Nat} (ht : t ≤ 99) (hk : k ≤ 999) (h : t ≠ k) : ¬ nI t = nI k := fun z => h ((nI_eq (by omega) (by omega)).mp z)
theorem σFl_3 {σ : St} {k : Nat} : (σFl σ (nI k)).1 6 3 = nI k := by unfold σFl; rw [si_place (by decide), si_hit]
theorem canStand_X {σ : St} {t v lo hi : Nat} (ht : t ≤ 13) (hlo : lo ≤ 99) (hhi : hi ≤ 99) (h3 : σ.1 6 3 = 0) (hv : t = 7 → v ≤ 99 ∧ σ.1 7 5 = nI v) : f_2_canStand n σ (nI t) (nI lo) (nI hi) = if t = 7 then (if lo ≤ v ∧ v ≤ hi then some (1, σ) else some (0, σFl σ (nI 3))) else some (0, σFl σ (nI 1)) := by
  unfold f_2_canStand
  rw [show (1 : Int32) = nI 1 from rfl, show (3 : Int32) = nI 3 from rfl, fail_X, fail_X]
  simp only [bd_eq]
  rw [σFl_3, σFl_3]
  by_cases c : t = 7
  · obtain ⟨v1, v2⟩ := hv c
    rw [if_pos (show nI t = 7 by rw [c]; rfl), if_pos c, v2]
    by_cases c1 : v < lo
    · rw [if_pos (nI_lt c1 (by omega)), if_neg (show ¬ nI 3 = 0 by decide), if_neg (by omega)]
    · rw [if_neg (nI_nlt (by omega) (by omega))]
      by_cases c2 : v ≤ hi
      · rw [if_pos (nI_le c2 (by omega)), if_pos h3, if_pos (by omega)]
      · rw [if_neg (nI_ge (by omega) (by omega)), if_neg (show ¬ nI 3 = 0 by decide), if_neg (by omega)]
  · rw [if_neg (show ¬ nI t = 7 from nI_ne (k := 7) (by omega) (by decide) c), if_neg (show ¬ nI 1 = 0 by decide), if_neg c]
theorem tM_le {t : Nat} : tM t ≤ 59 := by unfold tM; (repeat' split) <;> omega
theorem tM_inj : ∀ t, t ≤ 13 → ∀ t', t' ≤ 13 → tM t = tM t' → t = t' := by decide
theorem number_M {τ : St} {t v lo hi : Nat} (ht : t ≤ 13) (hlo : lo ≤ 99) (hhi : hi ≤ 99) (h20 : τ.1 0 20 = nI (tM t)) (hv : t = 7 → v ≤ 99 ∧ τ.1 0 22 = nI v) : f_11_number n τ (nI lo) (nI hi) = if t = 7 then (if lo ≤ v ∧ v ≤ hi then (f_11_next0 n (si τ 0 28 (nI v))).bind (fun r => some (1, r)) else some (0, τBd τ (nI 3))) else some (0, τBd τ (nI 1)) := by
  unfold f_11_number
  rw [show (3 : Int32) = nI (tM 7) from rfl, h20, bad_M]
  have hlt := tM_le (t := t)
  by_cases c : t = 7
  · obtain ⟨v1, v2⟩ := hv c
    rw [if_pos (by rw [c]), if_pos c, v2, isIn_eq, bd_eq]
    simp only [one_if, nm_eq]
    rw [show nI (tM 7) = nI 3 from rfl, bad_M]
    by_cases c1 : lo ≤ v ∧ v ≤ hi
    · rw [if_neg (fun z => z ⟨nI_le c1.1 (by omega), nI_le c1.2 (by omega)⟩), if_pos c1, v2]
    · rw [if_pos (fun z => c1 ⟨(nI_leI (by omega) (by omega)).mp z.1, (nI_leI (by omega) (by omega)).mp z.2⟩), if_neg c1, bd_eq]
      exact gd_t (show isb 0 = true by decide)
  · rw [if_neg (fun z => c (tM_inj t ht 7 (by decide) ((nI_eq (by omega) (by decide)).mp z))), if_neg c, bd_eq]
    exact gd_t (show isb 0 = true by decide)
theorem PT_13 {i a e t F w j : Nat} {σ σs τ : St} {v : Int32} (hj : 90 * F ≤ j) (h : PT n K L σ0 τ0 i σ σs τ a e t F w) : PT n K L σ0 τ0 i σ σs (si τ 13 j v) a e t F w := by
  obtain ⟨q1, q2, ⟨p, q3⟩, q4, q5⟩ := h
  refine ⟨q1, q2, ⟨p, ?_⟩, CM_c (fun _ _ _ _ _ => rfl) rfl rfl rfl rfl rfl (fun k _ _ k3 _ => si_ne k3) (fun j _ _ => si_cell (by decide)) (fun r _ => si_cell (by decide)) (fun j' hj' => si_place (by omega)) (fun _ => rfl) (fun _ _ => rfl) q4, q5⟩
  unfold tkR at q3 ⊢
  rw [si_cell (by decide), si_cell (by decide), si_cell (by decide), si_cell (by decide)]
  exact q3
/-- what the telling of an act leaves as it was -/
def gxA (c ρ : Nat) (σ σ' : St) : Prop := σ'.1 6 9 = σ.1 6 9 ∧ σ'.1 6 7 = σ.1 6 7 ∧ σ'.1 (44 + ρ) 0 = σ.1 (44 + ρ) 0 ∧ (∀ i, i < c → σ'.1 (52 + ρ) i = σ.1 (52 + ρ) i ∧ σ'.1 (60 + ρ) i = σ.1 (60 + ρ) i ∧ σ'.1 (68 + ρ) i = σ.1 (68 + ρ) i) ∧ σ'.1 10 = σ.1 10
def gmA (c F : Nat) (τ τ' : St) : Prop := τ'.1 0 16 = τ.1 0 16 ∧ τ'.2 9 F = τ.2 9 F ∧ (∀ j, j < 3 * c → τ'.1 13 (90 * F + j) = τ.1 13 (90 * F + j)) ∧ τ'.1 15 = τ.1 15
theorem gxA_fr {c ρ : Nat} {σ σ' σ'' : St} (hρ : ρ < 8) (h : gxA c ρ σ σ') (hf : frT σ' σ'') : gxA c ρ σ σ'' := by
  unfold gxA at h ⊢
  rw [hf.1 6 (by decide), hf.1 10 (by decide), hf.1 (44 + ρ) (by omega), hf.1 (52 + ρ) (by omega), hf.1 (60 + ρ) (by omega), hf.1 (68 + ρ) (by omega)]
  exact h
theorem gmA_fr {c F : Nat} {τ τ' τ'' : St} (h : gmA c F τ τ') (hf : frN τ' τ'') : gmA c F τ τ'' := by
  unfold gmA at h ⊢
  rw [hf.2.1 16 (by omega), hf.2.2 9 F (by decide), hf.1 13 (by decide), hf.1 15 (by decide)]
  exact h
theorem CU_up {σ τ σ' τ' : St} {F c deep deep' : Nat} (h : CU K σ τ F c c deep) (y1 : σ'.1 6 9 = σ.1 6 9) (y3 : σ'.1 (44 + (K + F)) 0 = σ.1 (44 + (K + F)) 0) (y4 : ∀ i, i < c → σ'.1 (52 + (K + F)) i = σ.1 (52 + (K + F)) i ∧ σ'.1 (60 + (K + F)) i = σ.1 (60 + (K + F)) i ∧ σ'.1 (68 + (K + F)) i = σ.1 (68 + (K + F)) i) (hm : τ'.1 0 16 = τ.1 0 16 ∧ τ'.2 9 F = τ.2 9 F ∧ ∀ j, j < 3 * c → τ'.1 13 (90 * F + j) = τ.1 13 (90 * F + j)) (hc : c + 1 ≤ 30) (h1 : σ'.1 (44 + (K + F)) 1 = nI (c + 1)) (h2 : τ'.1 12 F = nI (c + 1)) (hd : σ'.1 6 7 = nI deep') (hd5 : deep' ≤ 5) (hdd : deep ≤ deep') (ho : ∀ e, e < deep → σ'.1 10 e = σ.1 10 e ∧ τ'.1 15 e = τ.1 15 e) (hn : ∀ e, deep ≤ e → e < deep' → σ'.1 10 e = nI c ∧ τ'.1 15 e = nI c ∧ σ'.1 (52 + (K + F)) c = nI 4) (hq : actQ σ' (K + F) (fun j => τ'.1 13 (90 * F + j)) (c + 1) deep' c) : CU K σ' τ' F (c + 1) (c + 1) deep' := by
  obtain ⟨a1, a2, a3, a4, a5, a6, a7, a8, a9, a10, a11, a12⟩ := h
  obtain ⟨m1, m2, m3⟩ := hm
  refine ⟨y1.trans a1, m1.trans a2, a3, hd, hd5, by rw [y3, m2]; exact a6, h1, h2, hc, Nat.le_refl _, fun e he => ?_, fun i hi => ?_⟩
  · by_cases z : e < deep
    · obtain ⟨o, o1, o2, o3, o4⟩ := a11 e z
      obtain ⟨p1, p2⟩ := ho e z
      exact ⟨o, by omega, by rw [p1]; exact o2, by rw [p2]; exact o3, by rw [(y4 o o1).1]; exact o4⟩
    · obtain ⟨p1, p2, p3⟩ := hn e (by omega) he
      exact ⟨c, by omega, p1, p2, p3⟩
  · by_cases z : i = c
    · rw [z]; exact hq
    · have hic : i < c := by omega
      obtain ⟨w, a, q1, q2, q3, q4, q5⟩ := a12 i hic
      obtain ⟨s1, s2, s3⟩ := y4 i hic
      have t0 := m3 (3 * i) (by omega)
      have t1 := m3 (3 * i + 1) (by omega)
      have t2 := m3 (3 * i + 2) (by omega)
      refine ⟨w, a, by rw [s1]; exact q1, t0.trans q2, by rw [s2]; exact q3, t1.trans q4, ?_⟩
      rcases q5 with q | q | q | ⟨q, qa, bb, qb, qc, qd, qe⟩ | ⟨q, qa, qb, ⟨e, qe, qf⟩ | ⟨bb, qc, qd, qe, qf⟩⟩
      · exact .inl q
      · exact .inr (.inl q)
      · exact .inr (.inr (.inl q))
      · exact .inr (.inr (.inr (.inl ⟨q, qa, bb, qb, qc, by rw [s3]; exact qd, t2.trans qe⟩)))
      · exact .inr (.inr (.inr (.inr ⟨q, qa, qb, .inl ⟨e, by omega, by rw [(ho e qe).1]; exact qf⟩⟩)))
      · exact .inr (.inr (.inr (.inr ⟨q, qa, qb, .inr ⟨bb, qc, by omega, by rw [s3]; exact qe, t2.trans qf⟩⟩)))
end TK
