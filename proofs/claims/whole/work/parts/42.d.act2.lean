section A2
variable {n : Nat} {σ0 τ0 : St} {K L : Nat}
/-- where an act may end: a fault, or one act more -/
def actE (n K L : Nat) (σ0 τ0 : St) (i : Nat) (σ : St) (a F c : Nat) (r : (Int32 × St) ⊕ ((Int32 × St) ⊕ (Int32 × St))) : Prop := (∃ σf τf, r = .inr (.inl (0, τf)) ∧ XF n i σ σf ∧ BAD K σ0 τ0 σf τf) ∨ ∃ i' σ' σs' τ' a' e' t' deep', r = .inl (nI deep', τ') ∧ XT n i σ i' σ' ∧ PT n K L σ0 τ0 i' σ' σs' τ' a' e' t' F 3 ∧ CU K σs' τ' F (c + 1) (c + 1) deep' ∧ a < a'
theorem actE_bad {i a F c a1 e1 t1 w k i1 : Nat} {σ σ1 σs1 τ1 : St} (hL : L ≤ 600) (hk : 1 ≤ k) (hk4 : k ≤ 4) (hT : XT n i σ i1 σ1) (h : PT n K L σ0 τ0 i1 σ1 σs1 τ1 a1 e1 t1 F w) (h2 : f_2_take n σs1 (σs1.1 7 2) = some (σFl σs1 (nI k))) : actE n K L σ0 τ0 i σ a F c (.inr (.inl (0, τBd τ1 (nI k)))) := by
  obtain ⟨σf, x1, x2⟩ := stopB hL hk hk4 h h2
  exact .inl ⟨σf, _, rfl, hT σf x1, x2⟩
/-- what holds once kind and first number of the act are told -/
def hal (K F c deep t v : Nat) (σ τ σ' τ' : St) : Prop := gxA c (K + F) σ σ' ∧ gmA c F τ τ' ∧ σ'.1 (44 + (K + F)) 1 = nI (c + 1) ∧ τ'.1 12 F = nI (c + 1) ∧ σ'.1 (52 + (K + F)) c = nI t ∧ σ'.1 (60 + (K + F)) c = nI v ∧ τ'.1 13 (90 * F + 3 * c) = nI t ∧ τ'.1 13 (90 * F + 3 * c + 1) = nI v
theorem act3 (hn : 1000 ≤ n) {b : Nat → Nat} (h0 : tpR σ0 τ0 L b) {i i2 a a2 e2 t2 F c deep t v : Nat} {σ σs τ σ2 σs2 τ5 : St} (hU : CU K σs τ F c c deep) (hc : c < 30) (ht : t ≤ 4) (hv : loF t ≤ v ∧ v ≤ hiF t) (hT : XT n i σ i2 σ2) (hP : PT n K L σ0 τ0 i2 σ2 σs2 τ5 a2 e2 t2 F (wNx t)) (hal1 : hal K F c deep t v σs τ σs2 τ5) (ha : a < a2) : ∃ r, (if t = 1 then (f_11_number n τ5 1 16).bind fun q => (if q.1 = 0 then some (.inr (.inl (0, q.2))) else j_11_aCure_384 n (nI F) (nI deep) (nI c) (nI t) (si q.2 13 (90 * F + 3 * c + 2) (q.2.1 0 28))) else j_11_aCure_384 n (nI F) (nI deep) (nI c) (nI t) τ5) = some r ∧ actE n K L σ0 τ0 i σ a F c r := by
  have hL := h0.1
  obtain ⟨p1, p2, ⟨p, p3⟩, p4, p5⟩ := id hP
  obtain ⟨k1, k2, k3, k4, k5, k6, k7, k8, k9, k10, k11, k12, k13⟩ := id p3
  obtain ⟨u9, u16, uK, u7, u5, unm, u1, u12, uc, um, uo, uq⟩ := id hU
  obtain ⟨⟨g1, g2, g3, g4, g5⟩, ⟨m1, m2, m3, m4⟩, f1, f2, f3, f4, f5, f6⟩ := id hal1
  have h9 : σs2.1 6 9 = nI (K + F) := g1.trans u9
  have h7 : σs2.1 6 7 = nI deep := g2.trans u7
  have z3 : σs2.1 6 3 = 0 := p4.2.2.1
  have hi2 : i2 ≤ 600 := by omega
  by_cases c1 : t = 1
  · -- a bath: its quarters
    subst c1
    rw [if_pos rfl]
    have hw : σs2.1 6 6 = nI 5 := p5
    obtain ⟨v2, hv2⟩ : ∃ v2, t2 = 7 → v2 ≤ 99 ∧ σs2.1 7 5 = nI v2 ∧ τ5.1 0 22 = nI v2 := by
      by_cases z : t2 = 7
      · obtain ⟨v2, q⟩ := k12 z; exact ⟨v2, fun _ => q⟩
      · exact ⟨0, fun y => absurd y z⟩
    have hX := second_X (n := n) (v := v2) k10 uK hc h9 f1 z3 (fun z => ⟨(hv2 z).1, (hv2 z).2.1⟩)
    have hM := number_M (n := n) (τ := τ5) (lo := 1) (hi := 16) (v := v2) k10 (by decide) (by decide) k9 (fun z => ⟨(hv2 z).1, (hv2 z).2.2⟩)
    have htk : f_2_take n σs2 (σs2.1 7 2) = f_2_takeSecond n σs2 (nI t2) := by rw [k8]; exact take_5 hw
    rw [show f_11_number n τ5 1 16 = _ from hM]
    by_cases c7 : t2 = 7
    · rw [if_pos c7] at hX ⊢
      obtain ⟨vv1, vv2, vv3⟩ := hv2 c7
      by_cases cv : 1 ≤ v2 ∧ v2 ≤ 16
      · rw [if_pos cv] at hX ⊢
        have hae := k11 (by omega)
        -- the class goes on
        have x3 : (si (si σs2 (68 + (K + F)) c (nI v2)) 6 6 (nI 3)).1 6 3 = 0 := by rw [si_place (by decide), si_cell (by omega)]; exact z3
        have x7 : ∀ j, (si (si σs2 (68 + (K + F)) c (nI v2)) 6 6 (nI 3)).1 7 j = σs2.1 7 j := fun j => by rw [si_cell (by decide), si_cell (by omega)]
        have hT3 := XT_tr hT (XT_step hi2 p1 (htk.trans hX) x3 (by rw [x7, k8]; exact nI_ne (k := 12) (by omega) (by decide) (by omega)))
        have hC3 : CM K σ0 τ0 (si (si σs2 (68 + (K + F)) c (nI v2)) 6 6 (nI 3)) (si τ5 0 28 (nI v2)) F := CM_c (fun k k1 k2 k3 k4 => by rw [si_ne k1, si_ne (by omega)]) (by rw [si_place (by decide), si_cell (by omega)]) (by rw [si_place (by decide), si_cell (by omega)]) (by rw [si_place (by decide), si_cell (by omega)]) (by rw [si_place (by decide), si_cell (by omega)]) (x7 1) (fun k k1 _ _ _ => si_ne k1) (fun j _ j2 => si_place j2) (fun r _ => si_cell (by decide)) (fun j _ => si_cell (by decide)) (fun _ => rfl) (fun _ _ => rfl) p4
        obtain ⟨σs3, τ7, a3, e3, t3, n1, n2, n3, n4, n5⟩ := adv hn h0 (i := i2 + 1) (e := e2) (w := 3) (by omega) k7 (by rw [x7]; exact k3) (by rw [si_place (by decide)]; exact k4) hC3 si_hit
        rw [n1, bd_eq, bd_eq]
        simp only
        rw [if_neg (show ¬ (1 : Int32) = 0 by decide), show τ7.1 0 28 = nI v2 from by rw [n4.2.1 28 (by omega), si_hit]]
        have hP3 := PT_13 (j := 90 * F + 3 * c + 2) (v := nI v2) (by omega) n2
        obtain ⟨-, -, ⟨p', q3⟩, -, -⟩ := id hP3
        rw [c384 (t2 := t3) (by decide) q3.2.2.2.2.2.2.2.2.2.1 u5 q3.2.2.2.2.2.2.2.2.1, if_neg (by decide)]
        refine ⟨_, rfl, .inr ⟨i2 + 1, _, σs3, _, a3, e3, t3, deep, rfl, hT3, hP3, ?_, by omega⟩⟩
        have fx : ∀ k, k ≠ 7 → k ≠ 6 → k ≠ 68 + (K + F) → σs3.1 k = σs2.1 k := fun k k1 k2 k3 => by rw [n3.1 k k1, si_ne k2, si_ne k3]
        have fx6 : ∀ j, j ≠ 6 → σs3.1 6 j = σs2.1 6 j := fun j hj => by rw [n3.1 6 (by decide), si_place hj, si_cell (by omega)]
        have fx68 : ∀ j, σs3.1 (68 + (K + F)) j = if j = c then nI v2 else σs2.1 (68 + (K + F)) j := fun j => by
          rw [n3.1 _ (by omega), si_cell (by omega), si_get]
          by_cases z : j = c
          · rw [if_pos ⟨rfl, z⟩, if_pos z]
          · rw [if_neg (fun y => z y.2), if_neg z]
        have fm : ∀ k, k ≠ 0 → τ7.1 k = τ5.1 k := fun k hk => by rw [n4.1 k hk, si_ne hk]
        refine CU_up hU ((fx6 9 (by decide)).trans g1) (by rw [fx _ (by omega) (by omega) (by omega)]; exact g3) (fun j hj => ?_) ⟨?_, ?_, fun j hj => ?_⟩ (by omega) (by rw [fx _ (by omega) (by omega) (by omega)]; exact f1) (by rw [si_cell (by decide), fm 12 (by decide)]; exact f2) (by rw [fx6 7 (by decide)]; exact h7) u5 (Nat.le_refl _) (fun j hj => ⟨?_, ?_⟩) (fun j j1 j2 => by omega) ?_
        · obtain ⟨s1, s2, s3⟩ := g4 j hj
          refine ⟨?_, ?_, ?_⟩
          · rw [fx _ (by omega) (by omega) (by omega)]; exact s1
          · rw [fx _ (by omega) (by omega) (by omega)]; exact s2
          · rw [fx68, if_neg (by omega)]; exact s3
        · rw [si_cell (by decide), n4.2.1 16 (by omega), si_place (by decide)]; exact m1
        · rw [si_l, n4.2.2 9 F (by decide), si_l]; exact m2
        · rw [si_place (by omega), fm 13 (by decide)]; exact m3 j hj
        · rw [fx 10 (by decide) (by decide) (by omega), g5]
        · rw [si_cell (by decide), fm 15 (by decide), m4]
        · refine ⟨1, v, by rw [fx _ (by omega) (by omega) (by omega)]; exact f3, ?_, by rw [fx _ (by omega) (by omega) (by omega)]; exact f4, ?_, .inr (.inr (.inr (.inl ⟨rfl, hv.2, v2, cv.1, cv.2, ?_, ?_⟩)))⟩
          · show (si τ7 13 _ _).1 13 (90 * F + 3 * c) = _; rw [si_place (by omega), fm 13 (by decide)]; exact f5
          · show (si τ7 13 _ _).1 13 (90 * F + (3 * c + 1)) = _; rw [si_place (by omega), fm 13 (by decide)]; exact f6
          · rw [fx68, if_pos rfl]
          · show (si τ7 13 (90 * F + 3 * c + 2) _).1 13 (90 * F + 3 * c + 2) = _; exact si_hit
      · rw [if_neg cv] at hX ⊢
        rw [bd_eq]
        simp only
        rw [if_pos trivial]
        exact ⟨_, rfl, actE_bad hL (by decide) (by decide) hT hP (htk.trans hX)⟩
    · rw [if_neg c7] at hX ⊢
      rw [bd_eq]
      simp only
      rw [if_pos trivial]
      exact ⟨_, rfl, actE_bad hL (by decide) (by decide) hT hP (htk.trans hX)⟩
  · rw [if_neg c1, c384 (t2 := t2) ht k10 u5 k9]
    by_cases c4 : t = 4
    · -- an each: its bracket
      subst c4
      rw [if_pos rfl]
      have hw : σs2.1 6 6 = nI 6 := p5
      have hX := bracket_X (n := n) (t1 := t2) (deep := deep) k10 uK hc u5 h9 f1 h7
      have htk : f_2_take n σs2 (σs2.1 7 2) = f_2_takeBracket n σs2 (nI t2) := by rw [k8]; exact take_6 hw
      by_cases c10 : t2 = 10
      · rw [if_pos c10] at hX ⊢
        by_cases c5 : deep = 5
        · rw [if_pos c5] at hX ⊢
          exact ⟨_, rfl, actE_bad hL (by decide) (by decide) hT hP (htk.trans hX)⟩
        · rw [if_neg c5] at hX ⊢
          have hae := k11 (by omega)
          have x3 : (si (si (si σs2 10 deep (nI c)) 6 7 (nI (deep + 1))) 6 6 (nI 3)).1 6 3 = 0 := by rw [si_place (by decide), si_place (by decide), si_cell (by decide)]; exact z3
          have x7 : ∀ j, (si (si (si σs2 10 deep (nI c)) 6 7 (nI (deep + 1))) 6 6 (nI 3)).1 7 j = σs2.1 7 j := fun j => by rw [si_cell (by decide), si_cell (by decide), si_cell (by decide)]
          have hT3 := XT_tr hT (XT_step hi2 p1 (htk.trans hX) x3 (by rw [x7, k8]; exact nI_ne (k := 12) (by omega) (by decide) (by omega)))
          have hC3 : CM K σ0 τ0 (si (si (si σs2 10 deep (nI c)) 6 7 (nI (deep + 1))) 6 6 (nI 3)) (si τ5 15 deep (nI c)) F := CM_c (fun k k1 k2 k3 k4 => by rw [si_ne k1, si_ne k1, si_ne k3]) (by rw [si_place (by decide), si_place (by decide), si_cell (by decide)]) (by rw [si_place (by decide), si_place (by decide), si_cell (by decide)]) (by rw [si_place (by decide), si_place (by decide), si_cell (by decide)]) (by rw [si_place (by decide), si_place (by decide), si_cell (by decide)]) (x7 1) (fun k _ _ _ k4 => si_ne k4) (fun j _ _ => si_cell (by decide)) (fun r _ => si_cell (by decide)) (fun j _ => si_cell (by decide)) (fun _ => rfl) (fun _ _ => rfl) p4
          obtain ⟨σs3, τ7, a3, e3, t3, n1, n2, n3, n4, n5⟩ := adv hn h0 (i := i2 + 1) (e := e2) (w := 3) (by omega) k7 (by rw [x7]; exact k3) (by rw [si_cell (by decide)]; exact k4) hC3 si_hit
          rw [n1, bd_eq]
          refine ⟨_, rfl, .inr ⟨i2 + 1, _, σs3, _, a3, e3, t3, deep + 1, rfl, hT3, n2, ?_, by omega⟩⟩
          have fx : ∀ k, k ≠ 7 → k ≠ 6 → k ≠ 10 → σs3.1 k = σs2.1 k := fun k k1 k2 k3 => by rw [n3.1 k k1, si_ne k2, si_ne k2, si_ne k3]
          have fx6 : ∀ j, j ≠ 6 → j ≠ 7 → σs3.1 6 j = σs2.1 6 j := fun j hj hj2 => by rw [n3.1 6 (by decide), si_place hj, si_place hj2, si_cell (by decide)]
          have fx10 : ∀ j, σs3.1 10 j = if j = deep then nI c else σs2.1 10 j := fun j => by
            rw [n3.1 _ (by decide), si_cell (by decide), si_cell (by decide), si_get]
            by_cases z : j = deep
            · rw [if_pos ⟨rfl, z⟩, if_pos z]
            · rw [if_neg (fun y => z y.2), if_neg z]
          have fm : ∀ k, k ≠ 0 → k ≠ 15 → τ7.1 k = τ5.1 k := fun k hk hk2 => by rw [n4.1 k hk, si_ne hk2]
          have fm15 : ∀ j, τ7.1 15 j = if j = deep then nI c else τ5.1 15 j := fun j => by
            rw [n4.1 _ (by decide), si_get]
            by_cases z : j = deep
            · rw [if_pos ⟨rfl, z⟩, if_pos z]
            · rw [if_neg (fun y => z y.2), if_neg z]
          have hk4 : σs3.1 (52 + (K + F)) c = nI 4 := by rw [fx _ (by omega) (by omega) (by omega)]; exact f3
          refine CU_up hU ((fx6 9 (by decide) (by decide)).trans g1) (by rw [fx _ (by omega) (by omega) (by omega)]; exact g3) (fun j hj => ?_) ⟨?_, ?_, fun j hj => ?_⟩ (by omega) (by rw [fx _ (by omega) (by omega) (by omega)]; exact f1) (by rw [fm 12 (by decide) (by decide)]; exact f2) (by rw [n3.1 6 (by decide), si_place (by decide), si_hit]) (by omega) (by omega) (fun j hj => ⟨?_, ?_⟩) (fun j j1 j2 => ⟨?_, ?_, hk4⟩) ?_
          · obtain ⟨s1, s2, s3⟩ := g4 j hj
            exact ⟨by rw [fx _ (by omega) (by omega) (by omega)]; exact s1, by rw [fx _ (by omega) (by omega) (by omega)]; exact s2, by rw [fx _ (by omega) (by omega) (by omega)]; exact s3⟩
          · rw [n4.2.1 16 (by omega), si_cell (by decide)]; exact m1
          · rw [n4.2.2 9 F (by decide), si_l]; exact m2
          · rw [fm 13 (by decide) (by decide)]; exact m3 j hj
          · rw [fx10, if_neg (by omega), g5]
          · rw [fm15, if_neg (by omega), m4]
          · rw [fx10, if_pos (by omega)]
          · rw [fm15, if_pos (by omega)]
          · refine ⟨4, v, hk4, ?_, by rw [fx _ (by omega) (by omega) (by omega)]; exact f4, ?_, .inr (.inr (.inr (.inr ⟨rfl, hv.1, hv.2, .inl ⟨deep, by omega, by rw [fx10, if_pos rfl]⟩⟩)))⟩
            · show τ7.1 13 (90 * F + 3 * c) = _; rw [fm 13 (by decide) (by decide)]; exact f5
            · show τ7.1 13 (90 * F + (3 * c + 1)) = _; rw [fm 13 (by decide) (by decide)]; exact f6
      · rw [if_neg c10] at hX ⊢
        exact ⟨_, rfl, actE_bad hL (by decide) (by decide) hT hP (htk.trans hX)⟩
    · -- glass, rest, until
      rw [if_neg c4]
      have hw3 : wNx t = 3 := by unfold wNx; rw [if_neg c1, if_neg c4]
      rw [hw3] at hP
      refine ⟨_, rfl, .inr ⟨i2, σ2, σs2, τ5, a2, e2, t2, deep, rfl, hT, hP, ?_, ha⟩⟩
      refine CU_up hU g1 g3 g4 ⟨m1, m2, m3⟩ (by omega) f1 f2 h7 u5 (Nat.le_refl _) (fun j hj => ⟨by rw [g5], by rw [m4]⟩) (fun j j1 j2 => by omega) ⟨t, v, f3, f5, f4, f6, ?_⟩
      have : t = 0 ∨ t = 2 ∨ t = 3 := by omega
      rcases this with rfl | rfl | rfl
      · exact .inl ⟨rfl, hv.2⟩
      · exact .inr (.inl ⟨rfl, hv.1, hv.2⟩)
      · exact .inr (.inr (.inl ⟨rfl, hv.2⟩))
theorem act_two (hn : 1000 ≤ n) {b : Nat → Nat} (h0 : tpR σ0 τ0 L b) {i a e t F c deep : Nat} {σ σs τ : St} (hP : PT n K L σ0 τ0 i σ σs τ a e t F 3) (hU : CU K σs τ F c c deep) (ht : t ≤ 4) : ∃ r, j_11_aCure_173 n (nI F) (nI deep) τ = some r ∧ actE n K L σ0 τ0 i σ a F c r := by
  have hL := h0.1
  obtain ⟨p1, p2, ⟨p, p3⟩, p4, p5⟩ := id hP
  obtain ⟨k1, k2, k3, k4, k5, k6, k7, k8, k9, k10, k11, k12, k13⟩ := id p3
  obtain ⟨u9, u16, uK, u7, u5, unm, u1, u12, uc, um, uo, uq⟩ := id hU
  have htm : tM t = 10 + t := by unfold tM; rw [if_pos ht]
  have hF : F < 8 := by omega
  rw [c173 ht (by rw [k9, htm]) hF uc u12]
  have hX := begin_X (n := n) ht uK uc u9 u1
  have htk : f_2_take n σs (σs.1 7 2) = f_2_takeAct n σs (nI t) := by rw [k8]; exact take_3 p5
  have hi : i ≤ 600 := by omega
  have hae := k11 (by omega)
  have z3 : σs.1 6 3 = 0 := p4.2.2.1
  by_cases c30 : c = 30
  · rw [if_pos c30] at hX ⊢
    exact ⟨_, rfl, actE_bad hL (by decide) (by decide) XT_rf hP (htk.trans hX)⟩
  rw [if_neg c30] at hX ⊢
  have hc : c < 30 := by omega
  have x3 : (si (si (si σs (52 + (K + F)) c (nI t)) (44 + (K + F)) 1 (nI (c + 1))) 6 6 (nI 4)).1 6 3 = 0 := by rw [si_place (by decide), si_cell (by omega), si_cell (by omega)]; exact z3
  have x7 : ∀ j, (si (si (si σs (52 + (K + F)) c (nI t)) (44 + (K + F)) 1 (nI (c + 1))) 6 6 (nI 4)).1 7 j = σs.1 7 j := fun j => by rw [si_cell (by decide), si_cell (by omega), si_cell (by omega)]
  have hT1 := XT_step hi p1 (htk.trans hX) x3 (by rw [x7, k8]; exact nI_ne (k := 12) (by omega) (by decide) (by omega))
  have hC1 : CM K σ0 τ0 (si (si (si σs (52 + (K + F)) c (nI t)) (44 + (K + F)) 1 (nI (c + 1))) 6 6 (nI 4)) (si τ 12 F (nI (c + 1))) F := CM_c (fun k k1 k2 k3 k4 => by rw [si_ne k1, si_ne (by omega), si_ne (by omega)]) (by rw [si_place (by decide), si_cell (by omega), si_cell (by omega)]) (by rw [si_place (by decide), si_cell (by omega), si_cell (by omega)]) (by rw [si_place (by decide), si_cell (by omega), si_cell (by omega)]) (by rw [si_place (by decide), si_cell (by omega), si_cell (by omega)]) (x7 1) (fun k _ k2 _ _ => si_ne k2) (fun j _ _ => si_cell (by decide)) (fun r hr => si_place (by omega)) (fun j _ => si_cell (by decide)) (fun _ => rfl) (fun _ _ => rfl) p4
  obtain ⟨σs1, τ2, a1, e1, t1, n1, n2, n3, n4, n5⟩ := adv hn h0 (i := i + 1) (e := e) (w := 4) (by omega) k7 (by rw [x7]; exact k3) (by rw [si_cell (by decide)]; exact k4) hC1 si_hit
  rw [n1, bd_eq, c305 ht hF hc]
  -- the first number
  obtain ⟨r1, r2, ⟨p', r3⟩, r4, r5⟩ := id n2
  obtain ⟨s1, s2, s3, s4, s5, s6, s7, s8, s9, s10, s11, s12, s13⟩ := id r3
  obtain ⟨v, hv⟩ : ∃ v, t1 = 7 → v ≤ 99 ∧ σs1.1 7 5 = nI v ∧ τ2.1 0 22 = nI v := by
    by_cases z : t1 = 7
    · obtain ⟨v, q⟩ := s12 z; exact ⟨v, fun _ => q⟩
    · exact ⟨0, fun y => absurd y z⟩
  have fx : ∀ k, k ≠ 7 → k ≠ 6 → k ≠ 44 + (K + F) → k ≠ 52 + (K + F) → σs1.1 k = σs.1 k := fun k k1 k2 k3 k4 => by rw [n3.1 k k1, si_ne k2, si_ne k3, si_ne k4]
  have fx6 : ∀ j, j ≠ 6 → σs1.1 6 j = σs.1 6 j := fun j hj => by rw [n3.1 6 (by decide), si_place hj, si_cell (by omega), si_cell (by omega)]
  have h44 : σs1.1 (44 + (K + F)) 1 = nI (c + 1) := by rw [n3.1 _ (by omega), si_cell (by omega), si_hit]
  have h440 : σs1.1 (44 + (K + F)) 0 = σs.1 (44 + (K + F)) 0 := by rw [n3.1 _ (by omega), si_cell (by omega), si_place (by decide), si_cell (by omega)]
  have h52 : ∀ j, σs1.1 (52 + (K + F)) j = if j = c then nI t else σs.1 (52 + (K + F)) j := fun j => by
    rw [n3.1 _ (by omega), si_cell (by omega), si_cell (by omega), si_get]
    by_cases z : j = c
    · rw [if_pos ⟨rfl, z⟩, if_pos z]
    · rw [if_neg (fun y => z y.2), if_neg z]
  have h9 : σs1.1 6 9 = nI (K + F) := (fx6 9 (by decide)).trans u9
  have y3 : σs1.1 6 3 = 0 := r4.2.2.1
  have hX1 := first_X (n := n) (t := t) (t1 := t1) (v := v) ht s10 uK hc h9 h44 (by rw [h52, if_pos rfl]) y3 (fun z => ⟨(hv z).1, (hv z).2.1⟩)
  obtain ⟨d1, d2, d3, d4⟩ := lo_dec t (by omega)
  have hM1 := number_M (n := n) (τ := τ2) (v := v) s10 d3 d4 s9 (fun z => ⟨(hv z).1, (hv z).2.2⟩)
  have htk1 : f_2_take n σs1 (σs1.1 7 2) = f_2_takeFirst n σs1 (nI t1) := by rw [s8]; exact take_4 r5
  rw [hM1]
  by_cases c7 : t1 = 7
  · rw [if_pos c7] at hX1 ⊢
    by_cases cv : loF t ≤ v ∧ v ≤ hiF t
    · rw [if_pos cv] at hX1 ⊢
      have hae1 := s11 (by omega)
      have w3 : (si (si σs1 (60 + (K + F)) c (nI v)) 6 6 (nI (wNx t))).1 6 3 = 0 := by rw [si_place (by decide), si_cell (by omega)]; exact y3
      have w7 : ∀ j, (si (si σs1 (60 + (K + F)) c (nI v)) 6 6 (nI (wNx t))).1 7 j = σs1.1 7 j := fun j => by rw [si_cell (by decide), si_cell (by omega)]
      have hT2 := XT_tr hT1 (XT_step (show i + 1 ≤ 600 by omega) r1 (htk1.trans hX1) w3 (by rw [w7, s8]; exact nI_ne (k := 12) (by omega) (by decide) (by omega)))
      have hC2 : CM K σ0 τ0 (si (si σs1 (60 + (K + F)) c (nI v)) 6 6 (nI (wNx t))) (si τ2 0 28 (nI v)) F := CM_c (fun k k1 k2 k3 k4 => by rw [si_ne k1, si_ne (by omega)]) (by rw [si_place (by decide), si_cell (by omega)]) (by rw [si_place (by decide), si_cell (by omega)]) (by rw [si_place (by decide), si_cell (by omega)]) (by rw [si_place (by decide), si_cell (by omega)]) (w7 1) (fun k k1 _ _ _ => si_ne k1) (fun j _ j2 => si_place j2) (fun r _ => si_cell (by decide)) (fun j _ => si_cell (by decide)) (fun _ => rfl) (fun _ _ => rfl) r4
      obtain ⟨σs2, τ4, a2, e2, t2, o1, o2, o3, o4, o5⟩ := adv hn h0 (i := i + 1 + 1) (e := e1) (w := wNx t) (by omega) s7 (by rw [w7]; exact s3) (by rw [si_place (by decide)]; exact s4) hC2 si_hit
      rw [o1, bd_eq, bd_eq]
      simp only
      have h28 : τ4.1 0 28 = nI v := by rw [o4.2.1 28 (by omega), si_hit]
      rw [if_neg (show ¬ (1 : Int32) = 0 by decide), h28]
      refine act3 hn h0 hU hc ht cv hT2 (PT_13 (by omega) (PT_13 (by omega) o2)) ⟨⟨?_, ?_, ?_, fun j hj => ⟨?_, ?_, ?_⟩, ?_⟩, ⟨?_, ?_, fun j hj => ?_, ?_⟩, ?_, ?_, ?_, ?_, ?_, ?_⟩ (by omega)
      · rw [o3.1 6 (by decide), si_place (by decide), si_cell (by omega)]; exact fx6 9 (by decide)
      · rw [o3.1 6 (by decide), si_place (by decide), si_cell (by omega)]; exact fx6 7 (by decide)
      · rw [o3.1 _ (by omega), si_cell (by omega), si_cell (by omega)]; exact h440
      · rw [o3.1 _ (by omega), si_cell (by omega), si_cell (by omega), h52, if_neg (by omega)]
      · rw [o3.1 _ (by omega), si_cell (by omega), si_place (by omega), fx _ (by omega) (by omega) (by omega) (by omega)]
      · rw [o3.1 _ (by omega), si_cell (by omega), si_cell (by omega), fx _ (by omega) (by omega) (by omega) (by omega)]
      · rw [o3.1 10 (by decide), si_ne (by decide), si_ne (by omega), fx 10 (by decide) (by decide) (by omega) (by omega)]
      · rw [si_cell (by decide), si_cell (by decide), o4.2.1 16 (by omega), si_place (by decide), n4.2.1 16 (by omega), si_cell (by decide)]
      · rw [si_l, si_l, o4.2.2 9 F (by decide), si_l, n4.2.2 9 F (by decide), si_l]
      · rw [si_place (by omega), si_place (by omega), o4.1 13 (by decide), si_cell (by decide), n4.1 13 (by decide), si_cell (by decide)]
      · rw [si_ne (by decide), si_ne (by decide), o4.1 15 (by decide), si_ne (by decide), n4.1 15 (by decide), si_ne (by decide)]
      · rw [o3.1 _ (by omega), si_cell (by omega), si_cell (by omega)]; exact h44
      · rw [si_cell (by decide), si_cell (by decide), o4.1 12 (by decide), si_cell (by decide), n4.1 12 (by decide), si_hit]
      · rw [o3.1 _ (by omega), si_cell (by omega), si_cell (by omega), h52, if_pos rfl]
      · rw [o3.1 _ (by omega), si_cell (by omega), si_hit]
      · rw [si_place (by omega), si_hit]
      · rw [si_hit]
    · rw [if_neg cv] at hX1 ⊢
      rw [bd_eq]
      simp only
      rw [if_pos trivial]
      exact ⟨_, rfl, actE_bad hL (by decide) (by decide) hT1 n2 (htk1.trans hX1)⟩
  · rw [if_neg c7] at hX1 ⊢
    rw [bd_eq]
    simp only
    rw [if_pos trivial]
    exact ⟨_, rfl, actE_bad hL (by decide) (by decide) hT1 n2 (htk1.trans hX1)⟩
end A2
