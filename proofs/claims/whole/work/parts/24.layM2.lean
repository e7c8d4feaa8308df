theorem rwM_c {g : Nat} {τ τ' : St} {x : Xs} (h : ∀ k, (27 ≤ k ∧ k ≤ 30) ∨ (32 ≤ k ∧ k ≤ 34) → τ'.1 k = τ.1 k) (hx : rwM g τ x) : rwM g τ' x := by
  obtain ⟨now, str, len, ov, gl, lo, ac, T, B⟩ := x
  unfold rwM at hx ⊢
  simp only at hx ⊢
  rw [h 27 (by omega), h 28 (by omega), h 29 (by omega), h 30 (by omega), h 32 (by omega), h 33 (by omega), h 34 (by omega)]
  exact hx
theorem bathes_M (n : Nat) (hn : 1000 ≤ n) {g : Nat} (hg : g < 8) {τ : St} {x : Xs} {c : Cf} {bd i a l : Nat} (hi : i < 30) (ha : a < 3) (hl1 : 1 ≤ l) (hl : l ≤ 16) (hc : cfM τ c) (hW : xW bd i x) (h : rpM g τ x) (hlo : xLo x = false) : tryM g τ x (aBath c a l x) (f_11_bathes n τ (nI g) (nI a) (nI l)) := by
  obtain ⟨now, str, len, ov, gl, lo, ac, T, B⟩ := x
  obtain ⟨w1, w2, w3, w4, w5, w6, w7⟩ := hW
  obtain ⟨h0, hrw, h7⟩ := id h
  obtain ⟨h2, h3, h4, h5, h6⟩ := id hrw
  have h7 : rsM τ T B := h7
  have h0 : τ.1 0 49 = nI now := h0
  -- one quarter
  have hin : ∀ q, q + l ≤ 48 → ∃ e, lq (b_11_bathes_18 n (nI g) (nI a) (nI l) (nI q)) n (0, τ) = some e ∧ ((bkAt c B a l q = none ∧ ∃ z, e = .inr (z, τ)) ∨ ∃ k τ1, bkAt c B a l q = some k ∧ (∀ c, c ≠ 31 → τ1.1 c = τ.1 c) ∧ τ1.2 = τ.2 ∧ (∀ j, τ1.1 31 j = if 48 * k + q ≤ j ∧ j < 48 * k + q + l then 1 else τ.1 31 j) ∧ e = .inl (1, τN τ1 g len (nI 1) (nI q) (nI l) (nI k))) := by
    intro q hq
    refine lq_for (b := b_11_bathes_18 n (nI g) (nI a) (nI l) (nI q)) (X := fun e => (bkAt c B a l q = none ∧ ∃ z, e = .inr (z, τ)) ∨ ∃ k τ1, bkAt c B a l q = some k ∧ (∀ c, c ≠ 31 → τ1.1 c = τ.1 c) ∧ τ1.2 = τ.2 ∧ (∀ j, τ1.1 31 j = if 48 * k + q ≤ j ∧ j < 48 * k + q + l then 1 else τ.1 31 j) ∧ e = .inl (1, τN τ1 g len (nI 1) (nI q) (nI l) (nI k))) 6 (fun i s => s = (nI i, τ) ∧ ∀ j, j < i → bkP c B a l q j = false) ?_ ?_ (n := n) (by omega) ⟨rfl, fun j hj => by omega⟩
    · rintro i s hi ⟨rfl, p1⟩
      unfold b_11_bathes_18
      simp only [nm_eq]
      rw [if_neg (show ¬ (6 : Int32) ≤ nI i from nI_ge (b := 6) hi (by decide)), isFree_M n hn ha hi hl1 hq hc h7, bd_eq]
      simp only
      by_cases z : bkP c B a l q i = true
      · right
        rw [if_pos z, if_neg (by decide)]
        obtain ⟨τ1, e1, e2, e3, e4⟩ := let_M n hn (g := nI g) (τ := τ) hi hq
        rw [e1, bd_eq]
        simp only
        rw [does_M n τ1 _ _ _ _ hg (by rw [e2 27 (by decide)]; exact h2) (by omega), bd_eq]
        exact ⟨_, rfl, .inr ⟨i, τ1, ffst_at (by omega) (by omega) z (fun j _ hj => p1 j hj), e2, e3, e4, rfl⟩⟩
      · left
        rw [if_neg z, if_pos rfl, nI_1]
        refine ⟨_, rfl, rfl, fun j hj => ?_⟩
        by_cases y : j = i
        · subst y; exact Bool.eq_false_iff.mpr z
        · exact p1 j (by omega)
    · rintro s ⟨rfl, p1⟩
      unfold b_11_bathes_18
      simp only [nm_eq]
      rw [if_pos (show (6 : Int32) ≤ nI 6 from nI_le (a := 6) (Nat.le_refl 6) (by decide))]
      exact ⟨_, rfl, .inl ⟨ffst_no (fun j _ hj => p1 j (by omega)), _, rfl⟩⟩
  unfold f_11_bathes aBath
  simp only [nm_eq]
  rw [h0]
  obtain ⟨e, he, hX⟩ := lq_ex (b := b_11_bathes_6 n (nI g) (nI a) (nI l)) (X := fun e => (btAt c B a l now = none ∧ ∃ z, e = .inr (z, τ)) ∨ ∃ q k τ1, btAt c B a l now = some q ∧ q + l ≤ 48 ∧ bkAt c B a l q = some k ∧ (∀ c, c ≠ 31 → τ1.1 c = τ.1 c) ∧ τ1.2 = τ.2 ∧ (∀ j, τ1.1 31 j = if 48 * k + q ≤ j ∧ j < 48 * k + q + l then 1 else τ.1 31 j) ∧ e = .inl (1, τN τ1 g len (nI 1) (nI q) (nI l) (nI k))) (fun k st => ∃ q, st = (nI q, τ) ∧ now ≤ q ∧ q ≤ 48 ∧ k = 48 - q ∧ ∀ j, now ≤ j → j < q → btP c B a l j = false) (by
    rintro k st ⟨q, rfl, q1, q2, rfl, q3⟩
    unfold b_11_bathes_6
    simp only [nm_eq]
    rw [nI_add]
    by_cases e : 48 < q + l
    · right
      rw [if_pos (show (48 : Int32) < nI (q + l) from nI_lt (a := 48) e (by omega))]
      exact ⟨_, rfl, .inl ⟨ffst_no (fun j j1 j2 => q3 j j1 (by omega)), _, rfl⟩⟩
    · rw [if_neg (show ¬ (48 : Int32) < nI (q + l) from nI_nlt (a := 48) (by omega) (by decide))]
      obtain ⟨e1, he1, ⟨hk, z, rfl⟩ | ⟨k, τ1, hk, t1, t2, t3, rfl⟩⟩ := hin q (by omega)
      · left
        rw [he1, bd_eq]
        simp only [Sum.elim_inr]
        rw [nI_1]
        refine ⟨48 - (q + 1), _, by omega, rfl, q + 1, rfl, by omega, by omega, rfl, fun j j1 j2 => ?_⟩
        by_cases z : j = q
        · subst z; unfold btP; rw [hk]; rfl
        · exact q3 j j1 (by omega)
      · right
        rw [he1, bd_eq]
        simp only [Sum.elim_inl]
        exact ⟨_, rfl, .inr ⟨q, k, τ1, ffst_at q1 (by omega) (by unfold btP; rw [hk]; rfl) q3, by omega, hk, t1, t2, t3, rfl⟩⟩) n (48 - now) (nI now, τ) (by omega) ⟨now, rfl, Nat.le_refl _, w1, rfl, fun j j1 j2 => by omega⟩
  rw [he, bd_eq]
  rcases hX with ⟨hb, z, rfl⟩ | ⟨q, k, τ1, hb, hq, hk, t1, t2, t3, rfl⟩
  · rw [hb]
    exact ⟨_, _, rfl, frM_rf, .inl ⟨rfl, rfl, rfl⟩⟩
  · rw [hb]
    simp only [hk, Sum.elim_inl]
    obtain ⟨k1, k2, k3⟩ := bkAt_lt hk
    have hr : rwM g τ1 (now, str, len, ov, gl, lo, ac, T, B) := rwM_c (fun k hk => t1 k (by omega)) hrw
    refine ⟨_, _, rfl, frM_tr ?_ (τN_fr (by omega)), .inr ⟨hlo, rfl, τN_now, rwM_does (w := 1) hr rfl, fun s' q' hs' hq' => ?_, fun k' t hk' ht => ?_⟩⟩
    · exact ⟨fun k a b => t1 k (by omega), fun j a => by rw [t1 0 (by decide)], t2, fun k h a b c => by rw [t1 k (by omega)], fun k j a b c => by rw [t1 k (by omega)]⟩
    · rw [τN_25 (.inl rfl), t1 25 (by decide)]
      exact h7.1 s' q' hs' hq'
    · rw [τN_25 (.inr (.inl rfl)), t3]
      show _ = if upB B k q l k' t = true then (1 : Int32) else 0
      unfold upB
      by_cases z : k' = k ∧ q ≤ t ∧ t < q + l
      · rw [if_pos (by omega), if_pos z, if_pos rfl]
      · rw [if_neg (by omega), if_neg z]
        exact h7.2 k' t hk' ht
/-- the end of an act -/
theorem fin_M {n : Nat} {g : Nat} (hg : g < 8) {τ : St} {x : Xs} {d s k : Int32} (hlo : xLo x = false) (h : rpM g τ x) : ∃ τ', j_11_goes_277 n (nI g) d s k 1 τ = some (.inl (s, k, τ')) ∧ rpM g τ' x ∧ frM g τ τ' := by
  unfold j_11_goes_277
  rw [if_neg (by decide), gd_t (inb_nI hg (by decide)), nI_clamp (by omega)]
  simp only [nm_eq]
  obtain ⟨now, str, len, ov, gl, lo, ac, T, B⟩ := x
  obtain ⟨h0, ⟨h2, h3, h4, h5, h6⟩, h7⟩ := h
  have hlo : lo = false := hlo
  subst hlo
  refine ⟨_, rfl, ⟨by rw [si_cell (by decide)]; exact h0, ⟨by rw [si_cell (by decide)]; exact h2, by rw [si_cell (by decide)]; exact h3, by rw [si_cell (by decide)]; exact h4, by simp [si_get], fun i hi => by rw [si_cell (by decide), si_cell (by decide), si_cell (by decide)]; exact h6 i hi⟩, rsM_c (by rw [si_ne (by decide)]) (by rw [si_ne (by decide)]) h7⟩, fun k a b => by rw [si_ne (by omega)], fun j a => by rw [si_cell (by decide)], rfl, fun k h a b c => by rw [si_place c], fun k j a b c => by rw [si_cell (by omega)]⟩
theorem lose_M {n : Nat} {g : Nat} (hg : g < 8) {τ : St} {now str len ov gl : Nat} {lo : Bool} {ac : Nat → Act4} {T : Tk} {B : Bt} {d s k : Int32} (h : rpM g τ (now, str, len, ov, gl, lo, ac, T, B)) : ∃ τ', j_11_goes_277 n (nI g) d s k 0 τ = some (.inl (s, k, τ')) ∧ rpM g τ' (now, str, len, ov, gl, true, ac, T, B) ∧ frM g τ τ' := by
  unfold j_11_goes_277
  rw [if_pos rfl, gd_t (inb_nI hg (by decide)), nI_clamp (by omega)]
  simp only [nm_eq]
  obtain ⟨h0, ⟨h2, h3, h4, h5, h6⟩, h7⟩ := h
  refine ⟨_, rfl, ⟨by rw [si_cell (by decide)]; exact h0, ⟨by rw [si_cell (by decide)]; exact h2, by rw [si_cell (by decide)]; exact h3, by rw [si_cell (by decide)]; exact h4, by simp [si_get], fun i hi => by rw [si_cell (by decide), si_cell (by decide), si_cell (by decide)]; exact h6 i hi⟩, rsM_c (by rw [si_ne (by decide)]) (by rw [si_ne (by decide)]) h7⟩, fun k a b => by rw [si_ne (by omega)], fun j a => by rw [si_cell (by decide)], rfl, fun k h a b c => by rw [si_place c], fun k j a b c => by rw [si_cell (by omega)]⟩
/-- a lost act changes nothing but the mark -/
theorem aGlass_lo {c : Cf} {bd a : Nat} {x : Xs} (h : xLo x = false) (hl : xLo (aGlass c bd a x) = true) : aGlass c bd a x = (x.1, x.2.1, x.2.2.1, x.2.2.2.1, x.2.2.2.2.1, true, x.2.2.2.2.2.2) := by
  obtain ⟨now, str, len, ov, gl, lo, ac, T, B⟩ := x
  have h : lo = false := h
  subst h
  unfold aGlass at hl ⊢
  by_cases e : bd < str + c.2.2.2.1 a
  · simp only [if_pos e] at hl; cases hl
  · simp only [if_neg e] at hl ⊢
    cases hq : glAt c T a now with
    | none => rfl
    | some q => rw [hq] at hl; cases hl
theorem aBath_lo {c : Cf} {a b : Nat} {x : Xs} (h : xLo x = false) (hl : xLo (aBath c a b x) = true) : aBath c a b x = (x.1, x.2.1, x.2.2.1, x.2.2.2.1, x.2.2.2.2.1, true, x.2.2.2.2.2.2) := by
  obtain ⟨now, str, len, ov, gl, lo, ac, T, B⟩ := x
  have h : lo = false := h
  subst h
  unfold aBath at hl ⊢
  simp only at hl ⊢
  cases hq : btAt c B a b now with
  | none => rfl
  | some q =>
    rw [hq] at hl
    simp only at hl ⊢
    cases hk : bkAt c B a b q with
    | none => rfl
    | some k => rw [hk] at hl; cases hl
/-- the machine's step of an act that is no each -/
theorem act_M (n : Nat) (hn : 1000 ≤ n) {g : Nat} (hg : g < 8) {τ : St} {x : Xs} {c : Cf} {bd i m w a b : Nat} {d : Int32} (hi : i < 30) (hbd : bd ≤ 99) (hw : wfA w a b i m) (h4 : w ≠ 4) (hc : cfM τ c) (hcW : cfW c) (hW : xW bd i x) (h : rpM g τ x) (hlo : xLo x = false) {kk : Int32} (hbnd : τ.1 20 g = nI bd) (hs : w = 0 → a < 4) {bb : Int32} (hbb : w = 1 → bb = nI b) {Z : Option ((Int32 × Int32 × St) ⊕ (Int32 × Int32 × St))} : ∃ (str' : Int32) (τ' : St), (if nI w = 0 then gd (inb (nI a) 4) (if nI x.2.1 + τ.1 4 (nI a).toNatClampNeg ≤ τ.1 20 g then (f_11_drinks n τ (nI g) (nI a)).bind fun r43 => j_11_goes_277 n (nI g) d (nI x.2.1 + r43.2.1 4 (nI a).toNatClampNeg) kk r43.1 r43.2 else j_11_goes_277 n (nI g) d (nI x.2.1) kk 1 τ)
    else if nI w = 1 then (f_11_bathes n τ (nI g) (nI a) bb).bind fun r47 => j_11_goes_277 n (nI g) d (nI x.2.1) kk r47.1 r47.2
    else if nI w = 2 then (if 48 < τ.1 0 49 + nI a then j_11_goes_218 n (nI g) d (nI x.2.1) kk (nI a) 0 τ else j_11_goes_218 n (nI g) d (nI x.2.1) kk (nI a) 1 τ)
    else if nI w = 3 then (if nI a ≤ τ.1 0 49 then j_11_goes_277 n (nI g) d (nI x.2.1) kk 1 (si τ 0 49 (τ.1 0 49)) else j_11_goes_277 n (nI g) d (nI x.2.1) kk 1 (si τ 0 49 (nI a))) else Z) = some (.inl (str', kk, τ')) ∧ rpM g τ' (aStep c bd w a b x) ∧ frM g τ τ' ∧ (xLo (aStep c bd w a b x) = true ∨ str' = nI (aStep c bd w a b x).2.1) := by
  rcases hw with ⟨rfl, ha⟩ | ⟨rfl, ha, hb1, hb2⟩ | ⟨rfl, ha1, ha2⟩ | ⟨rfl, ha⟩ | ⟨rfl, _⟩
  · have ha4 : a < 4 := hs rfl
    obtain ⟨c0, c1, c2, c3⟩ := hc.1 a ha4
    obtain ⟨v0, v1, v2, v3⟩ := hcW a ha4
    have hstr : x.2.1 ≤ bd := by obtain ⟨now, str, len, ov, gl, lo, ac, T, B⟩ := x; exact hW.2.1
    rw [if_pos (show nI 0 = 0 from rfl), gd_t (inb_nI ha4 (by decide)), nI_clamp (by omega), c3, nI_add, hbnd]
    by_cases e : bd < x.2.1 + c.2.2.2.1 a
    · rw [if_neg (nI_ge e (by omega))]
      have hx : aStep c bd 0 a b x = x := by
        rw [aStep_0]
        obtain ⟨now, str, len, ov, gl, lo, ac, T, B⟩ := x
        exact if_pos e
      obtain ⟨τ', t1, t2, t3⟩ := fin_M (n := n) hg (d := d) (s := nI x.2.1) (k := kk) hlo h
      rw [t1, hx]
      exact ⟨_, τ', rfl, t2, t3, .inr rfl⟩
    · rw [if_pos (nI_le (by omega) (by omega))]
      obtain ⟨r, τ', t1, t2, t3⟩ := drinks_M n hn hg hi ha4 hc hcW hW h hlo (show x.2.1 + c.2.2.2.1 a ≤ bd by omega)
      rw [t1, bd_eq]
      simp only
      rw [aStep_0]
      rcases t3 with ⟨l1, rfl, rfl⟩ | ⟨l1, rfl, l3⟩
      · have hx := aGlass_lo hlo l1
        obtain ⟨now, str, len, ov, gl, lo, ac, T, B⟩ := x
        obtain ⟨τ2, u1, u2, u3⟩ := lose_M (n := n) hg (d := d) (s := nI str + τ'.1 4 a) (k := kk) h
        rw [u1]
        exact ⟨_, τ2, rfl, by rw [hx]; exact u2, u3, .inl l1⟩
      · obtain ⟨τ2, u1, u2, u3⟩ := fin_M (n := n) hg (d := d) (s := nI x.2.1 + τ'.1 4 a) (k := kk) l1 l3
        rw [u1]
        refine ⟨_, τ2, rfl, u2, frM_tr t2 u3, .inr ?_⟩
        rw [t2.1 4 (by omega) (by omega), c3, nI_add]
        obtain ⟨now, str, len, ov, gl, lo, ac, T, B⟩ := x
        unfold aGlass at l1 ⊢
        have e : ¬ bd < str + c.2.2.2.1 a := e
        simp only [if_neg e] at l1 ⊢
        cases hq : glAt c T a now with
        | none => rw [hq] at l1; cases l1
        | some q => rfl
  · rw [if_neg (show ¬ nI 1 = 0 by decide), if_pos (show nI 1 = 1 from rfl), hbb rfl]
    obtain ⟨r, τ', t1, t2, t3⟩ := bathes_M n hn hg hi (show a < 3 by omega) hb1 hb2 hc hW h hlo
    rw [t1, bd_eq]
    simp only
    rw [aStep_1]
    rcases t3 with ⟨l1, rfl, rfl⟩ | ⟨l1, rfl, l3⟩
    · have hx := aBath_lo hlo l1
      obtain ⟨now, str, len, ov, gl, lo, ac, T, B⟩ := x
      obtain ⟨τ2, u1, u2, u3⟩ := lose_M (n := n) hg (d := d) (s := nI str) (k := kk) h
      rw [u1]
      exact ⟨_, τ2, rfl, by rw [hx]; exact u2, u3, .inl l1⟩
    · obtain ⟨τ2, u1, u2, u3⟩ := fin_M (n := n) hg (d := d) (s := nI x.2.1) (k := kk) l1 l3
      rw [u1]
      refine ⟨_, τ2, rfl, u2, frM_tr t2 u3, .inr ?_⟩
      obtain ⟨now, str, len, ov, gl, lo, ac, T, B⟩ := x
      unfold aBath at l1 ⊢
      simp only at l1 ⊢
      cases hq : btAt c B a b now with
      | none => rfl
      | some q =>
        simp only
        cases hk : bkAt c B a b q with
        | none => rfl
        | some k => rfl
  · rw [if_neg (show ¬ nI 2 = 0 by decide), if_neg (show ¬ nI 2 = 1 by decide), if_pos (show nI 2 = 2 from rfl)]
    rw [aStep_2]
    obtain ⟨now, str, len, ov, gl, lo, ac, T, B⟩ := x
    obtain ⟨w1, w2, w3, w4, w5, w6, w7⟩ := hW
    have h0 : τ.1 0 49 = nI now := h.1
    rw [h0, nI_add]
    unfold j_11_goes_218 aRest
    by_cases e : 48 < now + a
    · rw [if_pos (show (48 : Int32) < nI (now + a) from nI_lt (a := 48) e (by omega)), if_pos rfl]
      simp only [if_pos e]
      obtain ⟨τ2, u1, u2, u3⟩ := lose_M (n := n) hg (d := d) (s := nI str) (k := kk) h
      exact ⟨_, τ2, u1, u2, u3, .inl rfl⟩
    · rw [if_neg (show ¬ (48 : Int32) < nI (now + a) from nI_nlt (a := 48) (by omega) (by decide)), if_neg (by decide)]
      simp only [if_neg e]
      rw [h0, does_M n τ _ _ _ _ hg h.2.1.1 (by omega), bd_eq]
      have hp : rpM g (τN τ g len (nI 2) (nI now) (nI a) (-1)) (now + a, str, len + 1, now + a, gl, lo, upA ac len (2, now, a, 0), T, B) := ⟨τN_now, rwM_does (w := 2) h.2.1 rfl, rsM_c (τN_25 (.inl rfl)) (τN_25 (.inr (.inl rfl))) h.2.2⟩
      obtain ⟨τ2, u1, u2, u3⟩ := fin_M (n := n) hg (d := d) (s := nI str) (k := kk) (by exact hlo) hp
      exact ⟨_, τ2, u1, u2, frM_tr (τN_fr (by omega)) u3, .inr rfl⟩
  · rw [if_neg (show ¬ nI 3 = 0 by decide), if_neg (show ¬ nI 3 = 1 by decide), if_neg (show ¬ nI 3 = 2 by decide), if_pos (show nI 3 = 3 from rfl)]
    rw [aStep_3]
    obtain ⟨now, str, len, ov, gl, lo, ac, T, B⟩ := x
    obtain ⟨w1, w2, w3, w4, w5, w6, w7⟩ := hW
    have h0 : τ.1 0 49 = nI now := h.1
    have key : ∀ v : Nat, rpM g (si τ 0 49 (nI v)) (v, str, len, ov, gl, lo, ac, T, B) ∧ frM g τ (si τ 0 49 (nI v)) := fun v => by
      refine ⟨⟨si_hit, rwM_c (fun k hk => si_ne (by omega)) h.2.1, rsM_c (si_ne (by decide)) (si_ne (by decide)) h.2.2⟩, fun k a b => si_ne (by omega), fun j a => si_place a, rfl, fun k h a b c => by rw [si_cell (by omega)], fun k j a b c => by rw [si_cell (by omega)]⟩
    rw [h0]
    unfold aUntil
    by_cases e : now < a
    · rw [if_neg (nI_ge e (by omega))]
      simp only [if_pos e]
      obtain ⟨τ2, u1, u2, u3⟩ := fin_M (n := n) hg (d := d) (s := nI str) (k := kk) (by exact hlo) (key a).1
      exact ⟨_, τ2, u1, u2, frM_tr (key a).2 u3, .inr rfl⟩
    · rw [if_pos (nI_le (by omega) (by omega))]
      simp only [if_neg e]
      obtain ⟨τ2, u1, u2, u3⟩ := fin_M (n := n) hg (d := d) (s := nI str) (k := kk) (by exact hlo) (key now).1
      exact ⟨_, τ2, u1, u2, frM_tr (key now).2 u3, .inr rfl⟩
  · exact absurd rfl h4
