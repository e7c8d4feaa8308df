/-! the reading of a text: the class token by token, the reference by descent -/
section PA
variable {n : Nat} {σ0 τ0 : St} {K L : Nat}
/-- the class's loop from its i-th token on ends at a state -/
def XF (n i : Nat) (σ σf : St) : Prop := ∀ m, 602 ≤ m + i → ∃ z1 z2, lq (b_2_readTape_34 n) m (1, nI i, σ) = some (z1, z2, σf)
def XT (n i : Nat) (σ : St) (i' : Nat) (σ' : St) : Prop := ∀ σf, XF n i' σ' σf → XF n i σ σf
theorem XT_rf {i : Nat} {σ : St} : XT n i σ i σ := fun _ h => h
theorem XT_tr {i i' i'' : Nat} {σ σ' σ'' : St} (h1 : XT n i σ i' σ') (h2 : XT n i' σ' i'' σ'') : XT n i σ i'' σ'' := fun σf h => h1 σf (h2 σf h)
theorem XT_step {i : Nat} {σ σs σ' : St} (hi : i ≤ 600) (h1 : f_8_readToken n σ = some σs) (h2 : f_2_take n σs (σs.1 7 2) = some σ') (h3 : σ'.1 6 3 = 0) (h4 : ¬ σ'.1 7 2 = 12) : XT n i σ (i + 1) σ' := fun σf h m hm => by
  obtain ⟨m, rfl⟩ : ∃ m', m = m' + 1 := ⟨m - 1, by omega⟩
  have hb : b_2_readTape_34 n (1, nI i, σ) = some (.inl (1, nI (i + 1), σ')) := by
    unfold b_2_readTape_34
    simp only [nm_eq]
    rw [if_neg (show ¬ (600 : Int32) < nI i from nI_nlt (a := 600) hi (by decide)), if_neg (by decide), h1, bd_eq, h2, bd_eq, if_pos h3, if_neg h4, nI_1]
  rw [lq, hb]
  exact h m (by omega)
theorem XF_stop {i : Nat} {σ σs σ' : St} (hi : i ≤ 600) (h1 : f_8_readToken n σ = some σs) (h2 : f_2_take n σs (σs.1 7 2) = some σ') (h3 : ¬ σ'.1 6 3 = 0 ∨ σ'.1 7 2 = 12) : XF n i σ σ' := fun m hm => by
  obtain ⟨m, rfl⟩ : ∃ m', m = m' + 2 := ⟨m - 2, by omega⟩
  have hb : b_2_readTape_34 n (1, nI i, σ) = some (.inl (0, nI (i + 1), σ')) := by
    unfold b_2_readTape_34
    simp only [nm_eq]
    rw [if_neg (show ¬ (600 : Int32) < nI i from nI_nlt (a := 600) hi (by decide)), if_neg (by decide), h1, bd_eq, h2, bd_eq, nI_1]
    by_cases c : σ'.1 6 3 = 0
    · rw [if_pos c, if_pos (h3.resolve_left (fun z => z c))]
    · rw [if_neg c]
  have hb2 : b_2_readTape_34 n (0, nI (i + 1), σ') = some (.inr (0, nI (i + 1), σ')) := by
    unfold b_2_readTape_34
    simp only [nm_eq]
    by_cases c : (600 : Int32) < nI (i + 1)
    · rw [if_pos c]
    · rw [if_neg c, if_pos trivial]
  rw [lq, hb]
  show ∃ z1 z2, lq (b_2_readTape_34 n) (m + 1) (0, nI (i + 1), σ') = some (z1, z2, σ')
  rw [lq, hb2]
  exact ⟨_, _, rfl⟩
def lfX (K : Nat) (σ0 σ : St) : Prop := (∀ k, k ≠ 6 → k ≠ 7 → k ≠ 10 → (k < 44 ∨ 76 ≤ k) → σ.1 k = σ0.1 k) ∧ σ.1 6 2 = σ0.1 6 2 ∧ σ.1 7 1 = σ0.1 7 1 ∧ ∀ r, r < K → σ.1 (44 + r) = σ0.1 (44 + r) ∧ σ.1 (52 + r) = σ0.1 (52 + r) ∧ σ.1 (60 + r) = σ0.1 (60 + r) ∧ σ.1 (68 + r) = σ0.1 (68 + r)
def lfM (τ0 τ : St) : Prop := (∀ k, k ≠ 0 → k ≠ 12 → k ≠ 13 → k ≠ 15 → τ.1 k = τ0.1 k) ∧ (∀ j, (j < 16 ∨ j = 17 ∨ j = 18 ∨ 24 < j) → j ≠ 28 → τ.1 0 j = τ0.1 0 j) ∧ ∀ j, τ.2 8 j = τ0.2 8 j
/-- common to every point of the reading -/
def CM (K : Nat) (σ0 τ0 σ τ : St) (F : Nat) : Prop := lfX K σ0 σ ∧ lfM τ0 τ ∧ σ.1 6 3 = 0 ∧ σ.1 6 4 = -1 ∧ τ.1 0 23 = 0 ∧ σ.1 6 5 = nI (K + F) ∧ K + F ≤ 8 ∧ ∀ r, r < F → rgR σ (K + r) (τ.2 9 r) (τ.1 12 r) (fun j => τ.1 13 (90 * r + j))
/-- an act that has been told, perhaps an each whose bracket is open -/
def actQ (σ : St) (ρ : Nat) (stp : Nat → Int32) (c deep i : Nat) : Prop := ∃ w a : Nat, σ.1 (52 + ρ) i = nI w ∧ stp (3 * i) = nI w ∧ σ.1 (60 + ρ) i = nI a ∧ stp (3 * i + 1) = nI a ∧ ((w = 0 ∧ a ≤ 3) ∨ (w = 2 ∧ 1 ≤ a ∧ a ≤ 16) ∨ (w = 3 ∧ a ≤ 47) ∨ (w = 1 ∧ a ≤ 2 ∧ ∃ b, 1 ≤ b ∧ b ≤ 16 ∧ σ.1 (68 + ρ) i = nI b ∧ stp (3 * i + 2) = nI b) ∨ (w = 4 ∧ 1 ≤ a ∧ a ≤ 9 ∧ ((∃ e, e < deep ∧ σ.1 10 e = nI i) ∨ ∃ b, i < b ∧ b ≤ c ∧ σ.1 (68 + ρ) i = nI b ∧ stp (3 * i + 2) = nI b)))
/-- the regimen that is being told: m acts are whole, it has c -/
def CU (K : Nat) (σ τ : St) (F m c deep : Nat) : Prop := σ.1 6 9 = nI (K + F) ∧ τ.1 0 16 = nI (F + 1) ∧ K + F < 8 ∧ σ.1 6 7 = nI deep ∧ deep ≤ 5 ∧ nmR (σ.1 (44 + (K + F)) 0) (τ.2 9 F) ∧ σ.1 (44 + (K + F)) 1 = nI c ∧ τ.1 12 F = nI c ∧ c ≤ 30 ∧ m ≤ c ∧ (∀ e, e < deep → ∃ o, o < m ∧ σ.1 10 e = nI o ∧ τ.1 15 e = nI o ∧ σ.1 (52 + (K + F)) o = nI 4) ∧ ∀ i, i < m → actQ σ (K + F) (fun j => τ.1 13 (90 * F + j)) c deep i
theorem rgR_c {σ σ' : St} {ρ : Nat} {nm : Int64} {ct : Int32} {stp stp' : Nat → Int32} (h1 : σ'.1 (44 + ρ) = σ.1 (44 + ρ)) (h2 : σ'.1 (52 + ρ) = σ.1 (52 + ρ)) (h3 : σ'.1 (60 + ρ) = σ.1 (60 + ρ)) (h4 : σ'.1 (68 + ρ) = σ.1 (68 + ρ)) (h5 : ∀ j, j < 90 → stp' j = stp j) (h : rgR σ ρ nm ct stp) : rgR σ' ρ nm ct stp' := by
  obtain ⟨q1, c, q2, q3, q4, q5⟩ := h
  refine ⟨by rw [h1]; exact q1, c, q2, by rw [h1]; exact q3, q4, fun i hi => ?_⟩
  obtain ⟨w, a, b, e1, e2, e3, e4, e5, e6⟩ := q5 i hi
  refine ⟨w, a, b, e1, by rw [h2]; exact e2, by rw [h5 _ (by omega)]; exact e3, by rw [h3]; exact e4, by rw [h5 _ (by omega)]; exact e5, fun z => ⟨by rw [h4]; exact (e6 z).1, by rw [h5 _ (by omega)]; exact (e6 z).2⟩⟩
theorem CM_c {σ τ σ' τ' : St} {F : Nat} (hx : ∀ k, k ≠ 6 → k ≠ 7 → k ≠ 10 → (k < 44 + (K + F) ∨ (52 ≤ k ∧ k < 52 + (K + F)) ∨ (60 ≤ k ∧ k < 60 + (K + F)) ∨ (68 ≤ k ∧ k < 68 + (K + F)) ∨ 76 ≤ k) → σ'.1 k = σ.1 k) (hx2 : σ'.1 6 2 = σ.1 6 2) (hx3 : σ'.1 6 3 = σ.1 6 3) (hx4 : σ'.1 6 4 = σ.1 6 4) (hx5 : σ'.1 6 5 = σ.1 6 5) (hx7 : σ'.1 7 1 = σ.1 7 1) (hm : ∀ k, k ≠ 0 → k ≠ 12 → k ≠ 13 → k ≠ 15 → τ'.1 k = τ.1 k) (hm0 : ∀ j, (j < 16 ∨ j = 17 ∨ j = 18 ∨ 22 < j) → j ≠ 28 → τ'.1 0 j = τ.1 0 j) (hm12 : ∀ r, r < F → τ'.1 12 r = τ.1 12 r) (hm13 : ∀ j, j < 90 * F → τ'.1 13 j = τ.1 13 j) (hl8 : ∀ j, τ'.2 8 j = τ.2 8 j) (hl9 : ∀ r, r < F → τ'.2 9 r = τ.2 9 r) (h : CM K σ0 τ0 σ τ F) : CM K σ0 τ0 σ' τ' F := by
  obtain ⟨⟨a1, a2, a3, a4⟩, ⟨b1, b2, b3⟩, c1, c2, c3, c4, c5, c6⟩ := h
  refine ⟨⟨fun k k1 k2 k3 k4 => by rw [hx k k1 k2 k3 (by omega)]; exact a1 k k1 k2 k3 k4, hx2.trans a2, hx7.trans a3, fun r hr => ?_⟩, ⟨fun k k1 k2 k3 k4 => by rw [hm k k1 k2 k3 k4]; exact b1 k k1 k2 k3 k4, fun j j1 j2 => by rw [hm0 j (by omega) j2]; exact b2 j j1 j2, fun j => by rw [hl8]; exact b3 j⟩, hx3.trans c1, hx4.trans c2, by rw [hm0 23 (by omega) (by decide)]; exact c3, hx5.trans c4, c5, fun r hr => ?_⟩
  · obtain ⟨q1, q2, q3, q4⟩ := a4 r hr
    exact ⟨by rw [hx _ (by omega) (by omega) (by omega) (by omega)]; exact q1, by rw [hx _ (by omega) (by omega) (by omega) (by omega)]; exact q2, by rw [hx _ (by omega) (by omega) (by omega) (by omega)]; exact q3, by rw [hx _ (by omega) (by omega) (by omega) (by omega)]; exact q4⟩
  · rw [hl9 r hr, hm12 r hr]
    exact rgR_c (hx _ (by omega) (by omega) (by omega) (by omega)) (hx _ (by omega) (by omega) (by omega) (by omega)) (hx _ (by omega) (by omega) (by omega) (by omega)) (hx _ (by omega) (by omega) (by omega) (by omega)) (fun j hj => hm13 _ (by omega)) (c6 r hr)
theorem CM_fr {σ τ σ' τ' : St} {F : Nat} (hx : frT σ σ') (hm : frN τ τ') (h : CM K σ0 τ0 σ τ F) : CM K σ0 τ0 σ' τ' F :=
  CM_c (fun k _ k2 _ _ => hx.1 k k2) (by rw [hx.1 6 (by decide)]) (by rw [hx.1 6 (by decide)]) (by rw [hx.1 6 (by decide)]) (by rw [hx.1 6 (by decide)]) hx.2 (fun k k1 _ _ _ => hm.1 k k1) (fun j j1 _ => hm.2.1 j (by omega)) (fun r _ => by rw [hm.1 12 (by decide)]) (fun j _ => by rw [hm.1 13 (by decide)]) (fun j => hm.2.2 8 j (by decide)) (fun r _ => hm.2.2 9 r (by decide)) h
theorem CU_fr {σ τ σ' τ' : St} {F m c deep : Nat} (hx : frT σ σ') (hm : frN τ τ') (h : CU K σ τ F m c deep) : CU K σ' τ' F m c deep := by
  have hk : K + F < 8 := h.2.2.1
  unfold CU actQ at h ⊢
  rw [hx.1 6 (by decide), hx.1 10 (by decide), hx.1 (44 + (K + F)) (by omega), hx.1 (52 + (K + F)) (by omega), hx.1 (60 + (K + F)) (by omega), hx.1 (68 + (K + F)) (by omega), hm.2.1 16 (by omega), hm.1 12 (by decide), hm.1 13 (by decide), hm.1 15 (by decide), hm.2.2 9 F (by decide)]
  exact h
def σFl (σ : St) (k : Int32) : St := si (si σ 6 3 k) 6 4 (σ.1 7 3)
def τBd (τ : St) (k : Int32) : St := si (si τ 0 23 k) 0 24 (τ.1 0 21)
theorem fail_X (σ : St) (k : Int32) : f_2_fail n σ k = some (σFl σ k) := by
  unfold f_2_fail σFl
  simp only [nm_eq]
  rw [si_cell (show (7 : Nat) ≠ 6 by decide)]
theorem bad_M (τ : St) (k : Int32) : f_11_bad n τ k = some (0, τBd τ k) := by
  unfold f_11_bad τBd
  simp only [nm_eq]
  rw [si_place (show (21 : Nat) ≠ 23 by decide)]
/-- a fault was found, the same on both sides -/
def BAD (K : Nat) (σ0 τ0 σ τ : St) : Prop := ∃ k a : Nat, 1 ≤ k ∧ k ≤ 4 ∧ σ.1 6 3 = nI k ∧ τ.1 0 23 = nI k ∧ σ.1 6 4 = nI a ∧ τ.1 0 24 = nI a ∧ lfX K σ0 σ ∧ lfM τ0 τ
theorem BAD_of {σ τ : St} {F p a e t k : Nat} (hk : 1 ≤ k) (hk4 : k ≤ 4) (hc : CM K σ0 τ0 σ τ F) (ht : tkR σ τ L p a e t) : BAD K σ0 τ0 (σFl σ (nI k)) (τBd τ (nI k)) ∧ ¬ (σFl σ (nI k)).1 6 3 = 0 := by
  obtain ⟨⟨a1, a2, a3, a4⟩, ⟨b1, b2, b3⟩, -⟩ := hc
  have h3 : (σFl σ (nI k)).1 6 3 = nI k := by unfold σFl; rw [si_place (by decide), si_hit]
  refine ⟨⟨k, a, hk, hk4, h3, by unfold τBd; rw [si_place (by decide), si_hit], by unfold σFl; rw [si_hit]; exact ht.1, by unfold τBd; rw [si_hit]; exact ht.2.1, ⟨fun k k1 k2 k3 k4 => by unfold σFl; rw [si_ne k1, si_ne k1]; exact a1 k k1 k2 k3 k4, by unfold σFl; rw [si_place (by decide), si_place (by decide)]; exact a2, by unfold σFl; rw [si_cell (by decide), si_cell (by decide)]; exact a3, fun r hr => ?_⟩, ⟨fun k k1 k2 k3 k4 => by unfold τBd; rw [si_ne k1, si_ne k1]; exact b1 k k1 k2 k3 k4, fun j j1 j2 => by unfold τBd; rw [si_place (by omega), si_place (by omega)]; exact b2 j j1 j2, b3⟩⟩, by rw [h3]; exact nI_ne0 (by omega) (by omega)⟩
  obtain ⟨q1, q2, q3, q4⟩ := a4 r hr
  unfold σFl
  exact ⟨by rw [si_ne (by omega), si_ne (by omega)]; exact q1, by rw [si_ne (by omega), si_ne (by omega)]; exact q2, by rw [si_ne (by omega), si_ne (by omega)]; exact q3, by rw [si_ne (by omega), si_ne (by omega)]; exact q4⟩
/-- a point behind a token that both have read -/
def PT (n K L : Nat) (σ0 τ0 : St) (i : Nat) (σ σs τ : St) (a e t F w : Nat) : Prop := f_8_readToken n σ = some σs ∧ i ≤ a ∧ (∃ p, tkR σs τ L p a e t) ∧ CM K σ0 τ0 σs τ F ∧ σs.1 6 6 = nI w
/-- on to the next token -/
theorem adv (hn : 1000 ≤ n) {b : Nat → Nat} (h0 : tpR σ0 τ0 L b) {i e F w : Nat} {σ τ : St} (hie : i ≤ e) (heL : e ≤ L) (hx : σ.1 7 4 = nI e) (hm : τ.1 0 19 = nI e) (hc : CM K σ0 τ0 σ τ F) (hw : σ.1 6 6 = nI w) : ∃ σs τ' a' e' t', f_11_next0 n τ = some τ' ∧ PT n K L σ0 τ0 i σ σs τ' a' e' t' F w ∧ frT σ σs ∧ frN τ τ' ∧ e ≤ a' := by
  have ht : tpR σ τ L b := tp_c hc.1.2.2.1 (hc.1.1 8 (by decide) (by decide) (by decide) (by omega)) (hc.2.1.2.1 18 (by omega) (by decide)) (hc.2.1.1 14 (by decide) (by decide) (by decide) (by decide)) h0
  obtain ⟨σs, τ', a', e', t', q1, q2, q3, q4, q5⟩ := tok_two n hn ht heL hx hm
  have hp : e ≤ a' := q3.2.2.2.2.1
  exact ⟨σs, τ', a', e', t', q2, ⟨q1, by omega, ⟨e, q3⟩, CM_fr q4 q5 hc, by rw [q4.1 6 (by decide)]; exact hw⟩, q4, q5, hp⟩
/-- a fault stops both -/
theorem stopB {i a e t F w k : Nat} {σ σs τ : St} (hL : L ≤ 600) (hk : 1 ≤ k) (hk4 : k ≤ 4) (h : PT n K L σ0 τ0 i σ σs τ a e t F w) (h2 : f_2_take n σs (σs.1 7 2) = some (σFl σs (nI k))) : ∃ σf, XF n i σ σf ∧ BAD K σ0 τ0 σf (τBd τ (nI k)) := by
  obtain ⟨q1, q2, ⟨p, q3⟩, q4, q5⟩ := h
  obtain ⟨b1, b2⟩ := BAD_of hk hk4 q4 q3
  have : a ≤ L := q3.2.2.2.2.2.1
  exact ⟨_, XF_stop (by omega) q1 h2 (.inl b2), b1⟩
end PA
