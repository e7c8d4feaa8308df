/-! one regimen is told -/
theorem nm_iff {a a' : Int32} {b b' : Int64} (h : nmR a b) (h' : nmR a' b') : a = a' ↔ b = b' := by
  obtain ⟨w, w1, w2, w3, w4⟩ := h
  obtain ⟨v, v1, v2, v3, v4⟩ := h'
  have c1 : cdB 27 0 w < 27 ^ 6 := cdB_lt (by decide) (fun x hx => by have := w2 x hx; omega) w1
  have c2 : cdB 27 0 v < 27 ^ 6 := cdB_lt (by decide) (fun x hx => by have := v2 x hx; omega) v1
  have d1 : cdB 256 96 w < 256 ^ 6 := cdB_lt (by decide) (fun x hx => by have := w2 x hx; omega) w1
  have d2 : cdB 256 96 v < 256 ^ 6 := cdB_lt (by decide) (fun x hx => by have := v2 x hx; omega) v1
  rw [w3, v3, w4, v4, nI_eq (Nat.lt_trans c1 (by decide)) (Nat.lt_trans c2 (by decide)), pk_lEQ (Nat.lt_trans d1 (by decide)) (Nat.lt_trans d2 (by decide))]
  constructor
  · intro e
    rw [cdB_inj (by decide) (fun x hx => by have := w2 x hx; omega) (fun x hx => by have := v2 x hx; omega) e]
  · intro e
    rw [cdB_inj (by decide) (fun x hx => by have := w2 x hx; omega) (fun x hx => by have := v2 x hx; omega) e]
section CU2
variable {n : Nat} {σ0 τ0 : St} {K L : Nat}
theorem isTold_X (hn : 1000 ≤ n) {σ : St} {T : Nat} {nm : Int32} (hT : T ≤ 8) (h5 : σ.1 6 5 = nI T) : ((∃ r, r < T ∧ σ.1 (44 + r) 0 = nm) ∧ f_2_isTold n σ nm = some (1, σ)) ∨ ((∀ r, r < T → ¬ σ.1 (44 + r) 0 = nm) ∧ f_2_isTold n σ nm = some (0, σ)) := by
  obtain ⟨e, he, hX⟩ := lq_for (b := b_2_isTold_2 n nm) (X := fun e => ((∃ r, r < T ∧ σ.1 (44 + r) 0 = nm) ∧ e = .inl (1, σ)) ∨ ((∀ r, r < T → ¬ σ.1 (44 + r) 0 = nm) ∧ ∃ z, e = .inr (z, σ))) T (fun i s => s = (nI i, σ) ∧ ∀ r, r < i → ¬ σ.1 (44 + r) 0 = nm) (by
    rintro i s hi ⟨rfl, h1⟩
    unfold b_2_isTold_2
    simp only [nm_eq]
    rw [h5, if_neg (nI_ge hi (by omega)), if_neg (show ¬ (8 : Int32) ≤ nI i from nI_ge (b := 8) (by omega) (by decide)), gd_t (inb_nI (show i < 8 by omega) (by decide)), nI_clamp (by omega), nI_1]
    by_cases c : σ.1 (44 + i) 0 = nm
    · right
      rw [if_pos c]
      exact ⟨_, rfl, .inl ⟨⟨i, hi, c⟩, rfl⟩⟩
    · left
      rw [if_neg c]
      refine ⟨_, rfl, rfl, fun r hr => ?_⟩
      by_cases z : r = i
      · rw [z]; exact c
      · exact h1 r (by omega)) (by
    rintro s ⟨rfl, h1⟩
    unfold b_2_isTold_2
    simp only [nm_eq]
    rw [h5, if_pos (nI_le (Nat.le_refl T) (by omega))]
    exact ⟨_, rfl, .inr ⟨h1, _, rfl⟩⟩) (n := n) (by omega) (s := (0, σ)) ⟨rfl, fun r hr => absurd hr (Nat.not_lt_zero r)⟩
  unfold f_2_isTold
  rw [he, bd_eq]
  rcases hX with ⟨h1, rfl⟩ | ⟨h1, z, rfl⟩
  · exact .inl ⟨h1, rfl⟩
  · exact .inr ⟨h1, rfl⟩
theorem isThere_M9 (hn : 1000 ≤ n) {τ : St} {F : Nat} (hK : K ≤ 8) (hF : F ≤ 8) (h2 : τ.1 0 2 = nI K) (h16 : τ.1 0 16 = nI F) : (((∃ r, r < K ∧ τ.2 8 r = τ.2 0 27) ∨ ∃ r, r < F ∧ τ.2 9 r = τ.2 0 27) ∧ f_11_isThere n τ = some (1, τ)) ∨ (((∀ r, r < K → ¬ τ.2 8 r = τ.2 0 27) ∧ ∀ r, r < F → ¬ τ.2 9 r = τ.2 0 27) ∧ f_11_isThere n τ = some (0, τ)) := by
  obtain ⟨e, he, hX⟩ := lq_for (b := b_11_isThere_4 n) (X := fun e => e.2.2 = τ ∧ ((e.1 = 1 ∧ ∃ r, r < K ∧ τ.2 8 r = τ.2 0 27) ∨ (e.1 = 0 ∧ ∀ r, r < K → ¬ τ.2 8 r = τ.2 0 27))) K (fun i s => ∃ fl, s = (fl, nI i, τ) ∧ ((fl = 1 ∧ ∃ r, r < i ∧ τ.2 8 r = τ.2 0 27) ∨ (fl = 0 ∧ ∀ r, r < i → ¬ τ.2 8 r = τ.2 0 27))) (by
    rintro i s hi ⟨fl, rfl, h1⟩
    left
    unfold b_11_isThere_4
    simp only [nm_eq, lg_cmp_eq]
    rw [h2, if_neg (nI_ge hi (by omega)), gd_t (inb_nI (show i < 8 by omega) (by decide)), nI_clamp (by omega), nI_1]
    rcases h1 with ⟨rfl, r, r1, r2⟩ | ⟨rfl, h1⟩
    · rw [if_neg (by decide)]
      exact ⟨_, rfl, 1, rfl, .inl ⟨rfl, r, by omega, r2⟩⟩
    · rw [if_pos rfl]
      by_cases c : τ.2 8 i = τ.2 0 27
      · rw [if_pos c]
        exact ⟨_, rfl, 1, rfl, .inl ⟨rfl, i, by omega, c⟩⟩
      · rw [if_neg c]
        refine ⟨_, rfl, 0, rfl, .inr ⟨rfl, fun r hr => ?_⟩⟩
        by_cases z : r = i
        · rw [z]; exact c
        · exact h1 r (by omega)) (by
    rintro s ⟨fl, rfl, h1⟩
    unfold b_11_isThere_4
    simp only [nm_eq]
    rw [h2, if_pos (nI_le (Nat.le_refl K) (by omega))]
    exact ⟨_, rfl, rfl, h1⟩) (n := n) (by omega) (s := (0, 0, τ)) ⟨0, rfl, .inr ⟨rfl, fun r hr => absurd hr (Nat.not_lt_zero r)⟩⟩
  obtain ⟨f1, z1, τ1⟩ := e
  obtain ⟨x1, x2⟩ := hX
  simp only at x1 x2
  subst x1
  obtain ⟨e2, he2, hY⟩ := lq_for (b := b_11_isThere_44 n) (X := fun e => e.2.2 = τ1 ∧ ((e.1 = 1 ∧ ((∃ r, r < K ∧ τ1.2 8 r = τ1.2 0 27) ∨ ∃ r, r < F ∧ τ1.2 9 r = τ1.2 0 27)) ∨ (e.1 = 0 ∧ (∀ r, r < K → ¬ τ1.2 8 r = τ1.2 0 27) ∧ ∀ r, r < F → ¬ τ1.2 9 r = τ1.2 0 27))) F (fun i s => ∃ fl, s = (fl, nI i, τ1) ∧ ((fl = 1 ∧ ((∃ r, r < K ∧ τ1.2 8 r = τ1.2 0 27) ∨ ∃ r, r < i ∧ τ1.2 9 r = τ1.2 0 27)) ∨ (fl = 0 ∧ (∀ r, r < K → ¬ τ1.2 8 r = τ1.2 0 27) ∧ ∀ r, r < i → ¬ τ1.2 9 r = τ1.2 0 27))) (by
    rintro i s hi ⟨fl, rfl, h1⟩
    left
    unfold b_11_isThere_44
    simp only [nm_eq, lg_cmp_eq]
    rw [h16, if_neg (nI_ge hi (by omega)), gd_t (inb_nI (show i < 8 by omega) (by decide)), nI_clamp (by omega), nI_1]
    rcases h1 with ⟨rfl, q | ⟨r, r1, r2⟩⟩ | ⟨rfl, h1, h2⟩
    · rw [if_neg (by decide)]
      exact ⟨_, rfl, 1, rfl, .inl ⟨rfl, .inl q⟩⟩
    · rw [if_neg (by decide)]
      exact ⟨_, rfl, 1, rfl, .inl ⟨rfl, .inr ⟨r, by omega, r2⟩⟩⟩
    · rw [if_pos rfl]
      by_cases c : τ1.2 9 i = τ1.2 0 27
      · rw [if_pos c]
        exact ⟨_, rfl, 1, rfl, .inl ⟨rfl, .inr ⟨i, by omega, c⟩⟩⟩
      · rw [if_neg c]
        refine ⟨_, rfl, 0, rfl, .inr ⟨rfl, h1, fun r hr => ?_⟩⟩
        by_cases z : r = i
        · rw [z]; exact c
        · exact h2 r (by omega)) (by
    rintro s ⟨fl, rfl, h1⟩
    unfold b_11_isThere_44
    simp only [nm_eq]
    rw [h16, if_pos (nI_le (Nat.le_refl F) (by omega))]
    exact ⟨_, rfl, rfl, h1⟩) (n := n) (by omega) (s := (f1, 0, τ1)) ⟨f1, rfl, by
      rcases x2 with ⟨q1, q2⟩ | ⟨q1, q2⟩
      · exact .inl ⟨q1, .inl q2⟩
      · exact .inr ⟨q1, q2, fun r hr => absurd hr (Nat.not_lt_zero r)⟩⟩
  obtain ⟨f2, z2, τ2⟩ := e2
  obtain ⟨y1, y2⟩ := hY
  simp only at y1 y2
  subst y1
  unfold f_11_isThere
  rw [he, bd_eq]
  simp only
  rw [he2, bd_eq]
  simp only
  rcases y2 with ⟨rfl, q⟩ | ⟨rfl, q⟩
  · exact .inl ⟨q, gd_t (by decide)⟩
  · exact .inr ⟨q, gd_t (by decide)⟩
/-- where a regimen may end -/
def cuE (n K L : Nat) (σ0 τ0 : St) (i : Nat) (σ : St) (a F : Nat) (r : Int32) (τ' : St) : Prop := (r = 0 ∧ ∃ σf, XF n i σ σf ∧ BAD K σ0 τ0 σf τ') ∨ (r = 1 ∧ ∃ i' σ' σs' a' e' t', XT n i σ i' σ' ∧ PT n K L σ0 τ0 i' σ' σs' τ' a' e' t' (F + 1) 0 ∧ τ'.1 0 16 = nI (F + 1) ∧ a < a')
theorem cuE_bad {i a F a1 e1 t1 w k i1 : Nat} {σ σ1 σs1 τ1 : St} (hL : L ≤ 600) (hk : 1 ≤ k) (hk4 : k ≤ 4) (hT : XT n i σ i1 σ1) (h : PT n K L σ0 τ0 i1 σ1 σs1 τ1 a1 e1 t1 F w) (h2 : f_2_take n σs1 (σs1.1 7 2) = some (σFl σs1 (nI k))) : cuE n K L σ0 τ0 i σ a F 0 (τBd τ1 (nI k)) := by
  obtain ⟨σf, x1, x2⟩ := stopB hL hk hk4 h h2
  exact .inl ⟨rfl, σf, hT σf x1, x2⟩
theorem cure_X {σ : St} {t T : Nat} (ht : t ≤ 13) (ht12 : t ≠ 12) (hT : T ≤ 8) (h5 : σ.1 6 5 = nI T) : f_2_takeCure n σ (nI t) = if t = 5 then (if T < 8 then some (si (si σ 6 9 (nI T)) 6 6 (nI 1)) else some (σFl σ (nI 4))) else some (σFl σ (nI 1)) := by
  unfold f_2_takeCure
  simp only [nm_eq, bsr]
  rw [if_neg (show ¬ nI t = 12 from nI_ne (k := 12) (by omega) (by decide) ht12), show f_2_fail n σ 4 = some (σFl σ (nI 4)) from fail_X σ _, show f_2_fail n σ 1 = some (σFl σ (nI 1)) from fail_X σ _, h5]
  by_cases c : t = 5
  · rw [if_pos (show nI t = 5 by rw [c]; rfl), if_pos c]
    by_cases c8 : T < 8
    · rw [if_pos (show nI T < (8 : Int32) from nI_lt (b := 8) c8 (by decide)), if_pos c8, gd_t (inb_nI c8 (by decide))]; rfl
    · rw [if_neg (show ¬ nI T < (8 : Int32) from nI_nlt (b := 8) (by omega) (by omega)), if_neg c8]
  · rw [if_neg (show ¬ nI t = 5 from nI_ne (k := 5) (by omega) (by decide) c), if_neg c]
/-- behind a name that is new: the colon, the acts, the semicolon -/
theorem nameOK (hn : 1000 ≤ n) {b : Nat → Nat} (h0 : tpR σ0 τ0 L b) (hK8 : K ≤ 8) {i i1 a a1 e1 t1 F : Nat} {σ σ1 σs1 τ1 : St} (hKF : K + F < 8) (hT1 : XT n i σ i1 σ1) (hP : PT n K L σ0 τ0 i1 σ1 σs1 τ1 a1 e1 t1 F 1) (h16 : τ1.1 0 16 = nI F) (h9 : σs1.1 6 9 = nI (K + F)) (ha : a < a1) (hnm : nmR (σs1.1 7 6) (τ1.2 0 27)) (htk : f_2_take n σs1 (σs1.1 7 2) = some (si (si (si σs1 (44 + (K + F)) 0 (σs1.1 7 6)) (44 + (K + F)) 1 0) 6 6 2)) (c6 : t1 = 6) : ∃ r τ', ((f_11_next0 n (si (si (sl τ1 9 F (τ1.2 0 27)) 12 F 0) 0 16 (nI (F + 1)))).bind fun r16 => (f_11_need n r16 58).bind fun r18 => if r18.1 = 0 then some (0, r18.2) else (lq (b_11_aCure_111 n (nI F)) n (0, r18.2)).bind <| Sum.elim (fun rr => some rr) fun t2042 => (f_11_next0 n t2042.2).bind fun r2045 => some (1, r2045)) = some (r, τ') ∧ cuE n K L σ0 τ0 i σ a F r τ' := by
  have hL := h0.1
  obtain ⟨p1, p2, ⟨p, p3⟩, p4, p5⟩ := id hP
  obtain ⟨k1, k2, k3, k4, k5, k6, k7, k8, k9, k10, k11, k12, k13⟩ := id p3
  have z3 : σs1.1 6 3 = 0 := p4.2.2.1
  have hae := k11 (by omega)
  have x3 : (si (si (si σs1 (44 + (K + F)) 0 (σs1.1 7 6)) (44 + (K + F)) 1 0) 6 6 2).1 6 3 = 0 := by rw [si_place (by decide), si_cell (by omega), si_cell (by omega)]; exact z3
  have x7 : ∀ j, (si (si (si σs1 (44 + (K + F)) 0 (σs1.1 7 6)) (44 + (K + F)) 1 0) 6 6 2).1 7 j = σs1.1 7 j := fun j => by rw [si_cell (by decide), si_cell (by omega), si_cell (by omega)]
  have hT2 := XT_tr hT1 (XT_step (i := i1) (by omega) p1 htk x3 (by rw [x7, k8]; exact nI_ne (k := 12) (by omega) (by decide) (by omega)))
  have hC2 : CM K σ0 τ0 (si (si (si σs1 (44 + (K + F)) 0 (σs1.1 7 6)) (44 + (K + F)) 1 0) 6 6 2) (si (si (sl τ1 9 F (τ1.2 0 27)) 12 F 0) 0 16 (nI (F + 1))) F := CM_c (fun k k1 k2 k3 k4 => by rw [si_ne k1, si_ne (by omega), si_ne (by omega)]) (by rw [si_place (by decide), si_cell (by omega), si_cell (by omega)]) (by rw [si_place (by decide), si_cell (by omega), si_cell (by omega)]) (by rw [si_place (by decide), si_cell (by omega), si_cell (by omega)]) (by rw [si_place (by decide), si_cell (by omega), si_cell (by omega)]) (x7 1) (fun k k1 k2 _ _ => by rw [si_ne k1, si_ne k2, sl_i]) (fun j j1 _ => by rw [si_place (by omega), si_cell (by decide), sl_i]) (fun r hr => by rw [si_cell (by decide), si_place (by omega), sl_i]) (fun j _ => by rw [si_cell (by decide), si_cell (by decide), sl_i]) (fun j => by rw [si_l, si_l, sl_get, if_neg (fun z => by omega)]) (fun r hr => by rw [si_l, si_l, sl_get, if_neg (fun z => by omega)]) p4
  obtain ⟨σs2, τ2, a2, e2, t2, n1, n2, n3, n4, n5⟩ := adv hn h0 (i := i1 + 1) (e := e1) (w := 2) (by omega) k7 (by rw [x7]; exact k3) (by rw [si_place (by decide), si_cell (by decide), sl_i]; exact k4) hC2 si_hit
  rw [n1, bd_eq]
  -- the colon
  obtain ⟨r1, r2, ⟨p', r3⟩, r4, r5⟩ := id n2
  obtain ⟨s1, s2, s3, s4, s5, s6, s7, s8, s9, s10, s11, s12, s13⟩ := id r3
  have hlt2 := tM_le (t := t2)
  have htk2 : f_2_take n σs2 (σs2.1 7 2) = f_2_takeColon n σs2 (nI t2) := by rw [s8]; exact take_2 r5
  have hX2 : f_2_takeColon n σs2 (nI t2) = if t2 = 8 then some (si (si σs2 6 7 0) 6 6 3) else some (σFl σs2 (nI 1)) := by
    unfold f_2_takeColon
    simp only [nm_eq, bsr]
    by_cases c : t2 = 8
    · rw [if_pos (show nI t2 = 8 by rw [c]; rfl), if_pos c]
    · rw [if_neg (show ¬ nI t2 = 8 from nI_ne (k := 8) (by omega) (by decide) c), if_neg c]; exact fail_X _ _
  have y3 : σs2.1 6 3 = 0 := r4.2.2.1
  unfold f_11_need
  rw [s9]
  by_cases c8 : t2 = 8
  · rw [if_pos c8] at hX2
    rw [if_pos (show nI (tM t2) = 58 by rw [c8]; rfl)]
    have hae2 := s11 (by omega)
    have w3 : (si (si σs2 6 7 0) 6 6 3).1 6 3 = 0 := by rw [si_place (by decide), si_place (by decide)]; exact y3
    have w7 : ∀ j, (si (si σs2 6 7 0) 6 6 3).1 7 j = σs2.1 7 j := fun j => by rw [si_cell (by decide), si_cell (by decide)]
    have hT3 := XT_tr hT2 (XT_step (i := i1 + 1) (by omega) r1 (htk2.trans hX2) w3 (by rw [w7, s8]; exact nI_ne (k := 12) (by omega) (by decide) (by omega)))
    have hC3 : CM K σ0 τ0 (si (si σs2 6 7 0) 6 6 3) τ2 F := CM_c (fun k k1 k2 k3 k4 => by rw [si_ne k1, si_ne k1]) (by rw [si_place (by decide), si_place (by decide)]) (by rw [si_place (by decide), si_place (by decide)]) (by rw [si_place (by decide), si_place (by decide)]) (by rw [si_place (by decide), si_place (by decide)]) (w7 1) (fun k _ _ _ _ => rfl) (fun j _ _ => rfl) (fun r _ => rfl) (fun j _ => rfl) (fun _ => rfl) (fun _ _ => rfl) r4
    obtain ⟨σs3, τ3, a3, e3, t3, o1, o2, o3, o4, o5⟩ := adv hn h0 (i := i1 + 1 + 1) (e := e2) (w := 3) (by omega) s7 (by rw [w7]; exact s3) s4 hC3 si_hit
    rw [o1]
    simp only [bd_eq]
    rw [if_neg (show ¬ (1 : Int32) = 0 by decide)]
    have hU : CU K σs3 τ3 F 0 0 0 := by
      refine ⟨?_, ?_, hKF, ?_, by decide, ?_, ?_, ?_, by decide, Nat.le_refl _, fun e he => absurd he (Nat.not_lt_zero e), fun e he => absurd he (Nat.not_lt_zero e)⟩
      · rw [o3.1 6 (by decide), si_place (by decide), si_place (by decide), n3.1 6 (by decide), si_place (by decide), si_cell (by omega), si_cell (by omega)]; exact h9
      · rw [o4.2.1 16 (by omega), n4.2.1 16 (by omega), si_hit]
      · rw [o3.1 6 (by decide), si_place (by decide), si_hit]; rfl
      · rw [o3.1 _ (by omega), si_cell (by omega), si_cell (by omega), n3.1 _ (by omega), si_cell (by omega), si_place (by decide), si_hit, o4.2.2 9 F (by decide), n4.2.2 9 F (by decide), si_l, si_l, sl_get, if_pos ⟨rfl, rfl⟩]; exact hnm
      · rw [o3.1 _ (by omega), si_cell (by omega), si_cell (by omega), n3.1 _ (by omega), si_cell (by omega), si_hit]; rfl
      · rw [o4.1 12 (by decide), n4.1 12 (by decide), si_cell (by decide), si_hit]; rfl
    obtain ⟨r, l1, l2⟩ := acts_loop hn h0 o2 hU
    rw [show (lq (b_11_aCure_111 n (nI F)) n (0, τ3)) = some r from l1, bd_eq]
    rcases l2 with ⟨σf, τf, rfl, q1, q2⟩ | ⟨i4, σ4, σs4, τ4, a4, e4, c4, z, rfl, q1, q2, q3, q4⟩
    · exact ⟨0, τf, rfl, .inl ⟨rfl, σf, hT3 σf q1, q2⟩⟩
    · -- the semicolon
      simp only [Sum.elim_inr]
      obtain ⟨m1, m2, ⟨p'', m3⟩, m4, m5⟩ := id q2
      obtain ⟨v1, v2, v3, v4, v5, v6, v7, v8, v9, v10, v11, v12, v13⟩ := id m3
      have hT54 : σs4.1 6 5 = nI (K + F) := m4.2.2.2.2.2.1
      have u3 : σs4.1 6 3 = 0 := m4.2.2.1
      have hae4 := v11 (by decide)
      have hX4 := semi_X (n := n) q3.2.2.2.1 hT54
      have htk4 : f_2_take n σs4 (σs4.1 7 2) = f_2_takeAct n σs4 (nI 9) := by rw [v8]; exact take_3 m5
      have g3 : (si (si σs4 6 5 (nI (K + F + 1))) 6 6 (nI 0)).1 6 3 = 0 := by rw [si_place (by decide), si_place (by decide)]; exact u3
      have g7 : ∀ j, (si (si σs4 6 5 (nI (K + F + 1))) 6 6 (nI 0)).1 7 j = σs4.1 7 j := fun j => by rw [si_cell (by decide), si_cell (by decide)]
      have hT5 := XT_tr (XT_tr hT3 q1) (XT_step (i := i4) (by omega) m1 (htk4.trans hX4) g3 (by rw [g7, v8]; decide))
      have hC5 : CM K σ0 τ0 (si (si σs4 6 5 (nI (K + F + 1))) 6 6 (nI 0)) τ4 (F + 1) := by
        obtain ⟨⟨d1, d2, d3, d4⟩, dd, e1, e2, e3, e4, e5, e6⟩ := m4
        have ne6 : ∀ k, k ≠ 6 → (si (si σs4 6 5 (nI (K + F + 1))) 6 6 (nI 0)).1 k = σs4.1 k := fun k hk => by rw [si_ne hk, si_ne hk]
        refine ⟨⟨fun k k1 k2 k3 k4 => by rw [ne6 k k1]; exact d1 k k1 k2 k3 k4, by rw [si_place (by decide), si_place (by decide)]; exact d2, by rw [g7]; exact d3, fun r hr => ?_⟩, dd, g3, by rw [si_place (by decide), si_place (by decide)]; exact e2, e3, by rw [si_place (by decide), si_hit, Nat.add_assoc], by omega, fun r hr => ?_⟩
        · obtain ⟨q1, q2, q3, q4⟩ := d4 r hr
          exact ⟨by rw [ne6 _ (by omega)]; exact q1, by rw [ne6 _ (by omega)]; exact q2, by rw [ne6 _ (by omega)]; exact q3, by rw [ne6 _ (by omega)]; exact q4⟩
        · have hold : rgR σs4 (K + r) (τ4.2 9 r) (τ4.1 12 r) (fun j => τ4.1 13 (90 * r + j)) := by
            by_cases zr : r = F
            · rw [zr]; exact CU_done q3
            · exact e6 r (by omega)
          exact rgR_c (ne6 _ (by omega)) (ne6 _ (by omega)) (ne6 _ (by omega)) (ne6 _ (by omega)) (fun j _ => rfl) hold
      obtain ⟨σs5, τ5, a5, e5, t5, j1, j2, j3, j4, j5⟩ := adv hn h0 (i := i4 + 1) (e := e4) (w := 0) (by omega) v7 (by rw [g7]; exact v3) v4 hC5 si_hit
      rw [j1, bd_eq]
      exact ⟨1, τ5, rfl, .inr ⟨rfl, i4 + 1, _, σs5, a5, e5, t5, hT5, j2, by rw [j4.2.1 16 (by omega)]; exact q3.2.1, by omega⟩⟩
  · rw [if_neg c8] at hX2
    rw [if_neg (show ¬ nI (tM t2) = 58 from nI_ne (k := 58) (by omega) (by decide) (fun z => c8 (tM_inj t2 s10 8 (by decide) z))), show (1 : Int32) = nI 1 from rfl, bad_M]
    simp only [bd_eq]
    rw [gd_t (show isb 0 = true by decide), bd_eq]
    simp only
    rw [if_pos trivial]
    exact ⟨_, _, rfl, cuE_bad hL (by decide) (by decide) hT2 n2 (htk2.trans hX2)⟩
theorem cure_two (hn : 1000 ≤ n) {b : Nat → Nat} (h0 : tpR σ0 τ0 L b) (hK8 : K ≤ 8) (hnm : ∀ r, r < K → nmR (σ0.1 (44 + r) 0) (τ0.2 8 r)) (hK2 : τ0.1 0 2 = nI K) {i a e t F : Nat} {σ σs τ : St} (hP : PT n K L σ0 τ0 i σ σs τ a e t F 0) (h16 : τ.1 0 16 = nI F) (ht12 : t ≠ 12) : ∃ r τ', f_11_aCure n τ = some (r, τ') ∧ cuE n K L σ0 τ0 i σ a F r τ' := by
  have hL := h0.1
  obtain ⟨p1, p2, ⟨p, p3⟩, p4, p5⟩ := id hP
  obtain ⟨k1, k2, k3, k4, k5, k6, k7, k8, k9, k10, k11, k12, k13⟩ := id p3
  have hT5 : σs.1 6 5 = nI (K + F) := p4.2.2.2.2.2.1
  have hKF : K + F ≤ 8 := p4.2.2.2.2.2.2.1
  have z3 : σs.1 6 3 = 0 := p4.2.2.1
  have hlt := tM_le (t := t)
  have h02 : τ.1 0 2 = nI K := by rw [p4.2.1.2.1 2 (by omega) (by decide)]; exact hK2
  have hae := k11 ht12
  have htk : f_2_take n σs (σs.1 7 2) = f_2_takeCure n σs (nI t) := by rw [k8]; exact take_0 p5
  have hX := cure_X (n := n) k10 ht12 hKF hT5
  have bad : ∀ (τx : St) (k : Nat), ((f_11_bad n τx (nI k)).bind fun r => gd (isb r.1) <| some (r.1, r.2)) = some (0, τBd τx (nI k)) := fun τx k => by
    rw [bad_M, bd_eq]; exact gd_t (show isb 0 = true by decide)
  unfold f_11_aCure
  simp only [nm_eq]
  rw [k9]
  by_cases c5 : t = 5
  · rw [if_pos c5] at hX
    rw [if_pos (show nI (tM t) = 4 by rw [c5]; rfl), h16, h02, nI_add]
    by_cases c8 : K + F < 8
    · rw [if_pos c8] at hX
      rw [if_neg (show ¬ nI (K + F) = 8 from nI_ne (k := 8) (by omega) (by decide) (by omega))]
      have x3 : (si (si σs 6 9 (nI (K + F))) 6 6 (nI 1)).1 6 3 = 0 := by rw [si_place (by decide), si_place (by decide)]; exact z3
      have x7 : ∀ j, (si (si σs 6 9 (nI (K + F))) 6 6 (nI 1)).1 7 j = σs.1 7 j := fun j => by rw [si_cell (by decide), si_cell (by decide)]
      have hT1 := XT_step (i := i) (by omega) p1 (htk.trans hX) x3 (by rw [x7, k8]; exact nI_ne (k := 12) (by omega) (by decide) ht12)
      have hC1 : CM K σ0 τ0 (si (si σs 6 9 (nI (K + F))) 6 6 (nI 1)) τ F := CM_c (fun k k1 k2 k3 k4 => by rw [si_ne k1, si_ne k1]) (by rw [si_place (by decide), si_place (by decide)]) (by rw [si_place (by decide), si_place (by decide)]) (by rw [si_place (by decide), si_place (by decide)]) (by rw [si_place (by decide), si_place (by decide)]) (x7 1) (fun k _ _ _ _ => rfl) (fun j _ _ => rfl) (fun r _ => rfl) (fun j _ => rfl) (fun _ => rfl) (fun _ _ => rfl) p4
      obtain ⟨σs1, τ1, a1, e1, t1, n1, n2, n3, n4, n5⟩ := adv hn h0 (i := i + 1) (e := e) (w := 1) (by omega) k7 (by rw [x7]; exact k3) k4 hC1 si_hit
      rw [n1, bd_eq]
      -- the name
      obtain ⟨r1, r2, ⟨p', r3⟩, r4, r5⟩ := id n2
      obtain ⟨s1, s2, s3, s4, s5, s6, s7, s8, s9, s10, s11, s12, s13⟩ := id r3
      have hlt1 := tM_le (t := t1)
      have g16 : τ1.1 0 16 = nI F := by rw [n4.2.1 16 (by omega)]; exact h16
      have g02 : τ1.1 0 2 = nI K := by rw [n4.2.1 2 (by omega)]; exact h02
      have h9 : σs1.1 6 9 = nI (K + F) := by rw [n3.1 6 (by decide), si_place (by decide), si_hit]
      have hT51 : σs1.1 6 5 = nI (K + F) := r4.2.2.2.2.2.1
      have y3 : σs1.1 6 3 = 0 := r4.2.2.1
      have htk1 : f_2_take n σs1 (σs1.1 7 2) = f_2_takeName n σs1 (nI t1) := by rw [s8]; exact take_1 r5
      rw [s9]
      by_cases c6 : t1 = 6
      · rw [if_pos (show nI (tM t1) = 2 by rw [c6]; rfl)]
        have hnmw := s13 c6
        have hnx : f_2_takeName n σs1 (nI t1) = (f_2_isTold n σs1 (σs1.1 7 6)).bind fun r2 => if r2.1 = 0 then gd (inb (r2.2.1 6 9) 8) <| (f_6_begin n r2.2 ((r2.2.1 6 9).toNatClampNeg) (r2.2.1 7 6)).bind fun r6 => some (si r6 6 6 2) else some (σFl r2.2 (nI 2)) := by
          unfold f_2_takeName
          simp only [nm_eq, bsr]
          rw [if_pos (show nI t1 = 6 by rw [c6]; rfl)]
          congr 1
        -- the same names on both sides
        have hnmK : ∀ r, r < K → (σs1.1 (44 + r) 0 = σs1.1 7 6 ↔ τ1.2 8 r = τ1.2 0 27) := fun r hr => by
          rw [(r4.1.2.2.2 r hr).1, r4.2.1.2.2 r]
          exact nm_iff (hnm r hr) hnmw
        have hnmF : ∀ r, r < F → (σs1.1 (44 + (K + r)) 0 = σs1.1 7 6 ↔ τ1.2 9 r = τ1.2 0 27) := fun r hr => nm_iff (r4.2.2.2.2.2.2.2 r hr).1 hnmw
        rcases isTold_X hn (nm := σs1.1 7 6) hKF hT51 with ⟨⟨r, hr, hr2⟩, q1⟩ | ⟨hall, q1⟩
        · -- it is there
          rw [q1, bd_eq] at hnx
          simp only at hnx
          rw [if_neg (show ¬ (1 : Int32) = 0 by decide)] at hnx
          rcases isThere_M9 hn hK8 (show F ≤ 8 by omega) g02 g16 with ⟨hex, q2⟩ | ⟨⟨ha1, ha2⟩, q2⟩
          · rw [q2, bd_eq]
            simp only
            rw [if_neg (show ¬ (1 : Int32) = 0 by decide), show f_11_bad n τ1 2 = f_11_bad n τ1 (nI 2) from rfl, bad]
            exact ⟨_, _, rfl, cuE_bad hL (by decide) (by decide) hT1 n2 (htk1.trans hnx)⟩
          · exfalso
            by_cases hrK : r < K
            · exact ha1 r hrK ((hnmK r hrK).mp hr2)
            · obtain ⟨r', rfl⟩ : ∃ r', r = K + r' := ⟨r - K, by omega⟩
              exact ha2 r' (by omega) ((hnmF r' (by omega)).mp hr2)
        · rw [q1, bd_eq] at hnx
          simp only at hnx
          rcases isThere_M9 hn hK8 (show F ≤ 8 by omega) g02 g16 with ⟨hex, q2⟩ | ⟨⟨ha1, ha2⟩, q2⟩
          · exfalso
            rcases hex with ⟨r, hr, hr2⟩ | ⟨r, hr, hr2⟩
            · exact hall r (by omega) ((hnmK r hr).mpr hr2)
            · exact hall (K + r) (by omega) ((hnmF r hr).mpr hr2)
          · rw [if_pos trivial, h9, gd_t (inb_nI c8 (by decide)), nI_clamp (by omega)] at hnx
            unfold f_6_begin at hnx
            simp only [nm_eq, bd_eq] at hnx
            rw [q2, bd_eq]
            simp only
            rw [if_pos trivial, gd_t (inb_nI (show F < 8 by omega) (by decide)), nI_clamp (show F < 2 ^ 31 by omega), si_cell (show (0 : Nat) ≠ 12 by decide), sl_i, g16, nI_1]
            exact nameOK hn h0 hK8 c8 hT1 n2 g16 h9 (by omega) hnmw (htk1.trans hnx) c6
      · rw [if_neg (show ¬ nI (tM t1) = 2 from nI_ne (k := 2) (by omega) (by decide) (fun z => c6 (tM_inj t1 s10 6 (by decide) z))), show f_11_bad n τ1 1 = f_11_bad n τ1 (nI 1) from rfl, bad]
        have hnx : f_2_takeName n σs1 (nI t1) = some (σFl σs1 (nI 1)) := by
          unfold f_2_takeName
          simp only [nm_eq, bsr]
          rw [if_neg (show ¬ nI t1 = 6 from nI_ne (k := 6) (by omega) (by decide) c6)]
          exact fail_X _ _
        exact ⟨_, _, rfl, cuE_bad hL (by decide) (by decide) hT1 n2 (htk1.trans hnx)⟩
    · rw [if_neg c8] at hX
      rw [if_pos (show nI (K + F) = 8 by rw [show K + F = 8 by omega]; rfl), show f_11_bad n τ 4 = f_11_bad n τ (nI 4) from rfl, bad]
      exact ⟨_, _, rfl, cuE_bad hL (by decide) (by decide) XT_rf hP (htk.trans hX)⟩
  · rw [if_neg c5] at hX
    rw [if_neg (show ¬ nI (tM t) = 4 from nI_ne (k := 4) (by omega) (by decide) (fun z => c5 (tM_inj t k10 5 (by decide) z))), show f_11_bad n τ 1 = f_11_bad n τ (nI 1) from rfl, bad]
    exact ⟨_, _, rfl, cuE_bad hL (by decide) (by decide) XT_rf hP (htk.trans hX)⟩
end CU2
