theorem nI_gt0 {d : Nat} (h : 0 < d) (hd : d < 2 ^ 31) : 0 < nI d := by
  rw [Int32.lt_iff_toInt_lt, nI_toInt hd]
  have : (0 : Int32).toInt = 0 := by decide
  omega
section AL
variable {n : Nat} {σ0 τ0 : St} {K L : Nat}
theorem other_X {σ : St} {t deep : Nat} (ht5 : 5 ≤ t) (ht : t ≤ 13) (hd : deep ≤ 5) (h7 : σ.1 6 7 = nI deep) (h1 : ¬ (t = 11 ∧ 0 < deep)) (h2 : ¬ (t = 9 ∧ deep = 0)) : f_2_takeAct n σ (nI t) = some (σFl σ (nI 1)) := by
  unfold f_2_takeAct
  simp only [nm_eq, bsr]
  rw [if_neg (nI_pos (by omega)), if_pos (show (4 : Int32) < nI t from nI_lt (a := 4) (by omega) (by omega)), show (1 : Int32) = nI 1 from rfl, fail_X, h7]
  by_cases c11 : t = 11
  · rw [if_pos (show nI t = 11 by rw [c11]; rfl), show deep = 0 by omega, if_pos (by decide), if_neg (show ¬ nI t = 9 from nI_ne (k := 9) (by omega) (by decide) (by omega))]
  · rw [if_neg (show ¬ nI t = 11 from nI_ne (k := 11) (by omega) (by decide) c11)]
    by_cases c9 : t = 9
    · rw [if_pos (show nI t = 9 by rw [c9]; rfl), if_neg (show ¬ nI deep = 0 from nI_ne (k := 0) (by omega) (by decide) (fun z => h2 ⟨c9, z⟩))]
    · rw [if_neg (show ¬ nI t = 9 from nI_ne (k := 9) (by omega) (by decide) c9)]
theorem close_X {σ : St} {ρ c o deep : Nat} (hρ : ρ < 8) (hd : deep < 5) (ho : o < 30) (h9 : σ.1 6 9 = nI ρ) (h7 : σ.1 6 7 = nI (deep + 1)) (h10 : σ.1 10 deep = nI o) (h1 : σ.1 (44 + ρ) 1 = nI c) : f_2_takeAct n σ (nI 11) = some (si (si σ 6 7 (nI deep)) (68 + ρ) o (nI c)) := by
  unfold f_2_takeAct
  simp only [nm_eq, bsr]
  rw [if_neg (by decide), if_pos (by decide), if_pos (by decide), h7, if_neg (nI_nle (by omega) (by omega)), nI_pred, si_place (show (9 : Nat) ≠ 7 by decide), h9, gd_t (inb_nI hρ (by decide)), si_hit, gd_t (inb_nI hd (by decide)), nI_clamp (show deep < 2 ^ 31 by omega), si_cell (show (10 : Nat) ≠ 6 by decide), h10, gd_t (inb_nI ho (by decide)), nI_clamp (show ρ < 2 ^ 31 by omega), nI_clamp (show o < 2 ^ 31 by omega), si_cell (show 44 + ρ ≠ 6 by omega), h1]
theorem semi_X {σ : St} {T : Nat} (h7 : σ.1 6 7 = nI 0) (h5 : σ.1 6 5 = nI T) : f_2_takeAct n σ (nI 9) = some (si (si σ 6 5 (nI (T + 1))) 6 6 (nI 0)) := by
  unfold f_2_takeAct
  simp only [nm_eq, bsr]
  rw [if_neg (by decide), if_pos (by decide), if_neg (by decide), if_pos (by decide), h7, if_pos (by decide), h5, nI_1]
  rfl
theorem tM_out {t : Nat} (h5 : 5 ≤ t) (ht : t ≤ 13) : tM t < 10 ∨ 14 < tM t := by
  have : ∀ t, t ≤ 13 → 5 ≤ t → tM t < 10 ∨ 14 < tM t := by decide
  exact this t ht h5
theorem j173_bad {τ : St} {t : Nat} {F dp : Int32} (h5 : 5 ≤ t) (ht : t ≤ 13) (h20 : τ.1 0 20 = nI (tM t)) : j_11_aCure_173 n F dp τ = some (.inr (.inl (0, τBd τ (nI 1)))) := by
  unfold j_11_aCure_173
  simp only [nm_eq]
  have hlt := tM_le (t := t)
  rw [h20, show (1 : Int32) = nI 1 from rfl, bad_M]
  simp only [bd_eq]
  rcases tM_out h5 ht with z | z
  · rw [if_pos (show nI (tM t) < (10 : Int32) from nI_lt (b := 10) z (by decide))]
    exact gd_t (show isb 0 = true by decide)
  · rw [if_neg (show ¬ nI (tM t) < (10 : Int32) from nI_nlt (b := 10) (by omega) (by omega)), if_neg (show ¬ nI (tM t) ≤ (14 : Int32) from nI_ge (a := 14) z (by omega))]
    exact gd_t (show isb 0 = true by decide)
theorem tM_sg : ∀ t, t ≤ 13 → (t ≠ 9 → tM t ≠ 59) ∧ (t ≠ 11 → tM t ≠ 41) := by decide
theorem j124_173 {τ : St} {t deep : Nat} {F : Int32} (ht : t ≤ 13) (hd : deep ≤ 5) (h20 : τ.1 0 20 = nI (tM t)) (h1 : ¬ (t = 11 ∧ 0 < deep)) : j_11_aCure_124 n F (nI deep) τ = j_11_aCure_173 n F (nI deep) τ := by
  unfold j_11_aCure_124
  by_cases d0 : deep = 0
  · subst d0
    exact if_pos (by decide)
  · rw [if_neg (nI_nle (show 0 < deep by omega) (by omega)), h20]
    have hlt := tM_le (t := t)
    exact if_neg (nI_ne (k := 41) (by omega) (by decide) ((tM_sg t ht).2 (fun z => h1 ⟨z, by omega⟩)))
theorem body111 {τ : St} {t deep : Nat} {F : Int32} (ht : t ≤ 13) (hd : deep ≤ 5) (h20 : τ.1 0 20 = nI (tM t)) (h1 : ¬ (t = 11 ∧ 0 < deep)) (h2 : ¬ (t = 9 ∧ deep = 0)) : b_11_aCure_111 n F (nI deep, τ) = j_11_aCure_173 n F (nI deep) τ := by
  have hlt := tM_le (t := t)
  rw [← j124_173 ht hd h20 h1]
  unfold b_11_aCure_111
  by_cases d0 : deep = 0
  · have h59 : ¬ (nI deep, τ).2.1 0 20 = 59 := by
      show ¬ τ.1 0 20 = 59
      rw [h20]
      exact nI_ne (k := 59) (by omega) (by decide) ((tM_sg t ht).1 (fun z => h2 ⟨z, d0⟩))
    have h00 : ¬ 0 < (nI deep, τ).1 := by
      show ¬ 0 < nI deep
      rw [d0]; decide
    rw [if_neg h00, if_neg h59]
  · have h00 : 0 < (nI deep, τ).1 := nI_gt0 (show 0 < deep by omega) (by omega)
    rw [if_pos h00]
theorem b111_pos {τ : St} {F dd : Int32} (h : 0 < dd) : b_11_aCure_111 n F (dd, τ) = j_11_aCure_124 n F dd τ := by
  unfold b_11_aCure_111
  exact if_pos h
theorem j124_close {τ : St} {a1 a2 : Int32} (h1 : ¬ a2 ≤ 0) (h2 : τ.1 0 20 = 41) : j_11_aCure_124 n a1 a2 τ = nm (a2 + (-1)) fun v521 =>
      nm (90 * a1) fun v522 =>
      gd (inb v521 5) <| nm (3 * (τ.1 15 v521.toNatClampNeg)) fun v524 =>
      nm (v522 + v524) fun v525 =>
      nm (v525 + 2) fun v526 =>
      gd (inb a1 8) <| gd (inb v526 720) <| nm (si τ 13 (v526.toNatClampNeg) (τ.1 12 a1.toNatClampNeg)) fun σ529 =>
      (f_11_next0 n σ529 ).bind fun r530 =>
      some (.inl (v521, r530)) := by
  unfold j_11_aCure_124
  rw [if_neg h1]
  exact if_pos h2
theorem body_close {τ : St} {deep F c o : Nat} (hd : deep < 5) (hF : F < 8) (ho : o < 30) (h20 : τ.1 0 20 = nI (tM 11)) (h15 : τ.1 15 deep = nI o) (h12 : τ.1 12 F = nI c) : b_11_aCure_111 n (nI F) (nI (deep + 1), τ) = (f_11_next0 n (si τ 13 (90 * F + 3 * o + 2) (nI c))).bind fun r => some (.inl (nI deep, r)) := by
  have hix : (90 : Int32) * nI F + 3 * nI o + 2 = nI (90 * F + 3 * o + 2) := by
    rw [show (90 : Int32) = nI 90 from rfl, show (3 : Int32) = nI 3 from rfl, pk_mul, pk_mul, nI_add]
    exact nI_add _ 2
  have h41 : τ.1 0 20 = 41 := h20.trans (by decide)
  rw [b111_pos (nI_gt0 (show 0 < deep + 1 by omega) (by omega)), j124_close (nI_nle (show 0 < deep + 1 by omega) (by omega)) h41, pk_m1, nm_eq, nm_eq, gd_t (inb_nI hd (by decide)), nI_clamp (show deep < 2 ^ 31 by omega), h15, nm_eq, nm_eq, nm_eq, hix, gd_t (inb_nI hF (by decide)), gd_t (inb_nI (show 90 * F + 3 * o + 2 < 720 by omega) (by decide)), nI_clamp (show 90 * F + 3 * o + 2 < 2 ^ 31 by omega), nI_clamp (show F < 2 ^ 31 by omega), h12, nm_eq]
theorem acts_loop (hn : 1000 ≤ n) {b : Nat → Nat} (h0 : tpR σ0 τ0 L b) {i a e t F c deep : Nat} {σ σs τ : St} (hP : PT n K L σ0 τ0 i σ σs τ a e t F 3) (hU : CU K σs τ F c c deep) : ∃ r, lq (b_11_aCure_111 n (nI F)) n (nI deep, τ) = some r ∧ ((∃ σf τf, r = .inl (0, τf) ∧ XF n i σ σf ∧ BAD K σ0 τ0 σf τf) ∨ ∃ i' σ' σs' τ' a' e' c' z, r = .inr (z, τ') ∧ XT n i σ i' σ' ∧ PT n K L σ0 τ0 i' σ' σs' τ' a' e' 9 F 3 ∧ CU K σs' τ' F c' c' 0 ∧ a ≤ a') := by
  have hL := h0.1
  have haL : a ≤ L := by obtain ⟨-, -, ⟨p, p3⟩, -⟩ := hP; exact p3.2.2.2.2.2.1
  refine lq_ex (b := b_11_aCure_111 n (nI F)) (X := fun r => (∃ σf τf, r = .inl (0, τf) ∧ XF n i σ σf ∧ BAD K σ0 τ0 σf τf) ∨ ∃ i' σ' σs' τ' a' e' c' z, r = .inr (z, τ') ∧ XT n i σ i' σ' ∧ PT n K L σ0 τ0 i' σ' σs' τ' a' e' 9 F 3 ∧ CU K σs' τ' F c' c' 0 ∧ a ≤ a') (fun k s => ∃ i' σ' σs' τ' a' e' t' c' deep', k = L - a' ∧ s = (nI deep', τ') ∧ XT n i σ i' σ' ∧ PT n K L σ0 τ0 i' σ' σs' τ' a' e' t' F 3 ∧ CU K σs' τ' F c' c' deep' ∧ a ≤ a') ?_ n (L - a) (nI deep, τ) (by omega) ⟨i, σ, σs, τ, a, e, t, c, deep, rfl, rfl, XT_rf, hP, hU, Nat.le_refl _⟩
  clear hP hU
  rintro k s ⟨i1, σ1, σs1, τ1, a1, e1, t1, c1, d1, rfl, rfl, hT, hP, hU, ha⟩
  obtain ⟨p1, p2, ⟨p, p3⟩, p4, p5⟩ := id hP
  obtain ⟨k1, k2, k3, k4, k5, k6, k7, k8, k9, k10, k11, k12, k13⟩ := id p3
  obtain ⟨u9, u16, uK, u7, u5, unm, u1, u12, uc, um, uo, uq⟩ := id hU
  have hF : F < 8 := by omega
  have z3 : σs1.1 6 3 = 0 := p4.2.2.1
  by_cases t4 : t1 ≤ 4
  · -- an act
    rw [body111 (by omega) u5 k9 (by omega) (by omega)]
    obtain ⟨r, r1, r2⟩ := act_two hn h0 hP hU t4
    rw [r1]
    rcases r2 with ⟨σf, τf, rfl, x1, x2⟩ | ⟨i', σ', σs', τ', a', e', t', deep', rfl, y1, y2, y3, y4⟩
    · exact .inr ⟨_, rfl, .inl ⟨σf, τf, rfl, hT σf x1, x2⟩⟩
    · have : a' ≤ L := by obtain ⟨-, -, ⟨p, q3⟩, -⟩ := y2; exact q3.2.2.2.2.2.1
      exact .inl ⟨L - a', _, by omega, rfl, i', σ', σs', τ', a', e', t', c1 + 1, deep', rfl, rfl, XT_tr hT y1, y2, y3, by omega⟩
  · by_cases hcl : t1 = 11 ∧ 0 < d1
    · -- a bracket is closed
      obtain ⟨rfl, hd0⟩ := hcl
      obtain ⟨dd, rfl⟩ : ∃ dd, d1 = dd + 1 := ⟨d1 - 1, by omega⟩
      obtain ⟨o, o1, o2, o3, o4⟩ := uo dd (by omega)
      left
      rw [body_close (o := o) (c := c1) (by omega) hF (by omega) k9 o3 u12]
      have hX := close_X (n := n) (o := o) (c := c1) uK (show dd < 5 by omega) (by omega) u9 u7 o2 u1
      have htk : f_2_take n σs1 (σs1.1 7 2) = f_2_takeAct n σs1 (nI 11) := by rw [k8]; exact take_3 p5
      have hae := k11 (by decide)
      have x3 : (si (si σs1 6 7 (nI dd)) (68 + (K + F)) o (nI c1)).1 6 3 = 0 := by rw [si_cell (by omega), si_place (by decide)]; exact z3
      have x7 : ∀ j, (si (si σs1 6 7 (nI dd)) (68 + (K + F)) o (nI c1)).1 7 j = σs1.1 7 j := fun j => by rw [si_cell (by omega), si_cell (by decide)]
      have hT1 := XT_tr hT (XT_step (by omega) p1 (htk.trans hX) x3 (by rw [x7, k8]; decide))
      have hC1 : CM K σ0 τ0 (si (si σs1 6 7 (nI dd)) (68 + (K + F)) o (nI c1)) (si τ1 13 (90 * F + 3 * o + 2) (nI c1)) F := CM_c (fun k k1 k2 k3 k4 => by rw [si_ne (by omega), si_ne k1]) (by rw [si_cell (by omega), si_place (by decide)]) (by rw [si_cell (by omega), si_place (by decide)]) (by rw [si_cell (by omega), si_place (by decide)]) (by rw [si_cell (by omega), si_place (by decide)]) (x7 1) (fun k _ _ k3 _ => si_ne k3) (fun j _ _ => si_cell (by decide)) (fun r hr => si_cell (by decide)) (fun j hj => si_place (by omega)) (fun _ => rfl) (fun _ _ => rfl) p4
      obtain ⟨σs2, τ2, a2, e2, t2, n1, n2, n3, n4, n5⟩ := adv hn h0 (i := i1 + 1) (e := e1) (w := 3) (by omega) k7 (by rw [x7]; exact k3) (by rw [si_cell (by decide)]; exact k4) hC1 (by rw [si_cell (by omega), si_place (by decide)]; exact p5)
      rw [n1, bd_eq]
      have : a2 ≤ L := by obtain ⟨-, -, ⟨p, q3⟩, -⟩ := n2; exact q3.2.2.2.2.2.1
      refine ⟨L - a2, _, by omega, rfl, i1 + 1, _, σs2, τ2, a2, e2, t2, c1, dd, rfl, rfl, hT1, n2, ?_, by omega⟩
      have fx : ∀ k, k ≠ 7 → k ≠ 6 → k ≠ 68 + (K + F) → σs2.1 k = σs1.1 k := fun k k1 k2 k3 => by rw [n3.1 k k1, si_ne k3, si_ne k2]
      have fx6 : ∀ j, j ≠ 7 → σs2.1 6 j = σs1.1 6 j := fun j hj => by rw [n3.1 6 (by decide), si_cell (by omega), si_place hj]
      have fx68 : ∀ j, σs2.1 (68 + (K + F)) j = if j = o then nI c1 else σs1.1 (68 + (K + F)) j := fun j => by
        rw [n3.1 _ (by omega), si_get]
        by_cases z : j = o
        · rw [if_pos ⟨rfl, z⟩, if_pos z]
        · rw [if_neg (fun y => z y.2), if_neg z, si_cell (by omega)]
      have fm13 : ∀ j, τ2.1 13 j = if j = 90 * F + 3 * o + 2 then nI c1 else τ1.1 13 j := fun j => by
        rw [n4.1 13 (by decide), si_get]
        by_cases z : j = 90 * F + 3 * o + 2
        · rw [if_pos ⟨rfl, z⟩, if_pos z]
        · rw [if_neg (fun y => z y.2), if_neg z]
      refine ⟨(fx6 9 (by decide)).trans u9, by rw [n4.2.1 16 (by omega), si_cell (by decide)]; exact u16, uK, by rw [n3.1 6 (by decide), si_cell (by omega), si_hit], by omega, by rw [fx _ (by omega) (by omega) (by omega), n4.2.2 9 F (by decide), si_l]; exact unm, by rw [fx _ (by omega) (by omega) (by omega)]; exact u1, by rw [n4.1 12 (by decide), si_cell (by decide)]; exact u12, uc, Nat.le_refl _, fun j hj => ?_, fun j hj => ?_⟩
      · obtain ⟨x, q1, q2, q3, q4⟩ := uo j (by omega)
        exact ⟨x, q1, by rw [fx 10 (by decide) (by decide) (by omega)]; exact q2, by rw [n4.1 15 (by decide), si_cell (by decide)]; exact q3, by rw [fx _ (by omega) (by omega) (by omega)]; exact q4⟩
      · obtain ⟨w, x, q1, q2, q3, q4, q5⟩ := uq j hj
        have g0 : τ2.1 13 (90 * F + 3 * j) = nI w := by rw [fm13, if_neg (by omega)]; exact q2
        have g1 : τ2.1 13 (90 * F + (3 * j + 1)) = nI x := by rw [fm13, if_neg (by omega)]; exact q4
        refine ⟨w, x, by rw [fx _ (by omega) (by omega) (by omega)]; exact q1, g0, by rw [fx _ (by omega) (by omega) (by omega)]; exact q3, g1, ?_⟩
        by_cases zo : j = o
        · -- the one that is closed
          have hw4 : w = 4 := by
            rw [zo, o4] at q1
            have hwle : w ≤ 4 := by rcases q5 with q | q | q | q | q <;> omega
            exact ((nI_eq (by decide) (by omega)).mp q1).symm
          rcases q5 with q | q | q | q | ⟨q, qa, qb, -⟩
          · omega
          · omega
          · omega
          · omega
          · refine .inr (.inr (.inr (.inr ⟨q, qa, qb, .inr ⟨c1, hj, Nat.le_refl _, by rw [fx68, if_pos zo], ?_⟩⟩)))
            show τ2.1 13 (90 * F + (3 * j + 2)) = _
            rw [fm13, if_pos (by omega)]
        · have g2 : ∀ v : Nat, τ1.1 13 (90 * F + (3 * j + 2)) = nI v → τ2.1 13 (90 * F + (3 * j + 2)) = nI v := fun v hv => by rw [fm13, if_neg (by omega)]; exact hv
          have g68 : ∀ v : Nat, σs1.1 (68 + (K + F)) j = nI v → σs2.1 (68 + (K + F)) j = nI v := fun v hv => by rw [fx68, if_neg zo]; exact hv
          rcases q5 with q | q | q | ⟨q, qa, bb, qb, qc, qd, qe⟩ | ⟨q, qa, qb, ⟨x2, qe, qf⟩ | ⟨bb, qc, qd, qe, qf⟩⟩
          · exact .inl q
          · exact .inr (.inl q)
          · exact .inr (.inr (.inl q))
          · exact .inr (.inr (.inr (.inl ⟨q, qa, bb, qb, qc, g68 bb qd, g2 bb qe⟩)))
          · refine .inr (.inr (.inr (.inr ⟨q, qa, qb, .inl ⟨x2, ?_, by rw [fx 10 (by decide) (by decide) (by omega)]; exact qf⟩⟩)))
            by_cases y : x2 = dd
            · rw [y, o2] at qf
              exact absurd ((nI_eq (by omega) (by omega)).mp qf).symm zo
            · omega
          · exact .inr (.inr (.inr (.inr ⟨q, qa, qb, .inr ⟨bb, qc, qd, g68 bb qe, g2 bb qf⟩⟩)))
    · by_cases hse : t1 = 9 ∧ d1 = 0
      · -- the end of the regimen
        obtain ⟨rfl, rfl⟩ := hse
        right
        have hb : b_11_aCure_111 n (nI F) (nI 0, τ1) = some (.inr (.inr (nI 0, τ1))) := by
          unfold b_11_aCure_111
          simp only
          rw [if_neg (by decide), if_pos (by rw [k9]; rfl)]
        rw [hb]
        exact ⟨_, rfl, .inr ⟨i1, σ1, σs1, τ1, a1, e1, c1, nI 0, rfl, hT, hP, hU, ha⟩⟩
      · -- what can't stand there
        right
        rw [body111 k10 u5 k9 hcl hse, j173_bad (by omega) k10 k9]
        have htk : f_2_take n σs1 (σs1.1 7 2) = f_2_takeAct n σs1 (nI t1) := by rw [k8]; exact take_3 p5
        obtain ⟨σf, x1, x2⟩ := stopB (k := 1) hL (by decide) (by decide) hP (htk.trans (other_X (by omega) k10 u5 u7 hcl hse))
        exact ⟨_, rfl, .inl ⟨σf, _, rfl, hT σf x1, x2⟩⟩
/-- a regimen that is closed is whole -/
theorem CU_done {σ τ : St} {F c : Nat} (h : CU K σ τ F c c 0) : rgR σ (K + F) (τ.2 9 F) (τ.1 12 F) (fun j => τ.1 13 (90 * F + j)) := by
  obtain ⟨u9, u16, uK, u7, u5, unm, u1, u12, uc, um, uo, uq⟩ := h
  refine ⟨unm, c, uc, u1, u12, fun i hi => ?_⟩
  obtain ⟨w, a, q1, q2, q3, q4, q5⟩ := uq i hi
  rcases q5 with ⟨q, qa⟩ | ⟨q, qa⟩ | ⟨q, qa⟩ | ⟨q, qa, bb, qb, qc, qd, qe⟩ | ⟨q, qa, qb, ⟨x2, qe, qf⟩ | ⟨bb, qc, qd, qe, qf⟩⟩
  · exact ⟨w, a, 0, .inl ⟨q, qa⟩, q1, q2, q3, q4, fun z => by omega⟩
  · exact ⟨w, a, 0, .inr (.inr (.inl ⟨q, qa⟩)), q1, q2, q3, q4, fun z => by omega⟩
  · exact ⟨w, a, 0, .inr (.inr (.inr (.inl ⟨q, qa⟩))), q1, q2, q3, q4, fun z => by omega⟩
  · exact ⟨w, a, bb, .inr (.inl ⟨q, qa, qb, qc⟩), q1, q2, q3, q4, fun _ => ⟨qd, qe⟩⟩
  · exact absurd qe (Nat.not_lt_zero x2)
  · exact ⟨w, a, bb, .inr (.inr (.inr (.inr ⟨q, qa, qb, qc, qd⟩))), q1, q2, q3, q4, fun _ => ⟨qe, qf⟩⟩
end AL
