theorem rwX_lo {g : Nat} {σ : St} {x : Xs} (h : rwX g σ x) : σ.1 (76 + g) 5 = if xLo x = true then 1 else 0 := by
  obtain ⟨now, str, len, ov, gl, lo, ac, T, B⟩ := x
  exact h.2.2.2.2.2.1
theorem addAct_X (n : Nat) (hn : 1000 ≤ n) {g r : Nat} (hg : g < 8) {σ : St} {x : Xs} {c : Cf} {bd i m w a b : Nat} (hi : i < 30) (hbd : bd ≤ 99) (hw : wfA w a b i m) (h4 : w ≠ 4) (hk : σ.1 (52 + r) i = nI w) (hf : σ.1 (60 + r) i = nI a) (hb : w = 1 ∨ w = 4 → σ.1 (68 + r) i = nI b) (hc : cfX σ c) (hcW : cfW c) (hW : xW bd i x) (h : rpX g σ x) : ∃ σ', f_3_addAct n σ g (nI bd) r (nI i) = some σ' ∧ rpX g σ' (aStep c bd w a b x) ∧ frX g σ σ' := by
  unfold f_3_addAct
  simp only [nm_eq]
  rw [gd_t (inb_nI hi (by decide)), nI_clamp (by omega), hk, hf]
  rcases hw with ⟨rfl, ha⟩ | ⟨rfl, ha, hb1, hb2⟩ | ⟨rfl, ha1, ha2⟩ | ⟨rfl, ha⟩ | ⟨rfl, _⟩
  · rw [if_pos (show nI 0 = 0 from rfl), gd_t (inb_nI (show a < 4 by omega) (by decide)), nI_clamp (by omega)]
    obtain ⟨σ', e1, e2, e3⟩ := addGlass_X n hn hg hi (show a < 4 by omega) hbd hc hcW hW h
    rw [e1, bd_eq, aStep_0]
    exact ⟨_, rfl, e2, e3⟩
  · rw [if_neg (show ¬ nI 1 = 0 by decide), if_pos (show nI 1 = 1 from rfl), hb (.inl rfl)]
    obtain ⟨σ', e1, e2, e3⟩ := addBath_X n hn hg hi (show a < 3 by omega) hb1 hb2 hc hW h
    rw [e1, bd_eq, aStep_1]
    exact ⟨_, rfl, e2, e3⟩
  · rw [if_neg (show ¬ nI 2 = 0 by decide), if_neg (show ¬ nI 2 = 1 by decide), if_pos (show nI 2 = 2 from rfl)]
    obtain ⟨σ', e1, e2, e3⟩ := addRest_X n hg hi ha2 hW h
    rw [e1, bd_eq, aStep_2]
    exact ⟨_, rfl, e2, e3⟩
  · rw [if_neg (show ¬ nI 3 = 0 by decide), if_neg (show ¬ nI 3 = 1 by decide), if_neg (show ¬ nI 3 = 2 by decide)]
    obtain ⟨now, str, len, ov, gl, lo, ac, T, B⟩ := x
    obtain ⟨w1, w2, w3, w4, w5, w6, w7⟩ := hW
    obtain ⟨⟨h0, h1, h2, h3, h4, h5, h6⟩, h7⟩ := h
    rw [h0, max_nI (by omega) (by omega), aStep_3]
    refine ⟨_, rfl, ⟨⟨by simp [si_get], by simpa [si_get] using h1, by simpa [si_get] using h2, by simpa [si_get] using h3, by simpa [si_get] using h4, by simpa [si_get] using h5, fun i hi => by simpa [si_get] using h6 i hi⟩, rsX_c (fun k hk => si_ne (by omega)) rfl h7⟩, fun k a b c d e f => si_ne b⟩
  · exact absurd rfl h4
theorem clear5_X (n : Nat) {g : Nat} (hg : g < 8) {σ : St} {T : Tk} {B : Bt} (h : rsX σ T B) : ∃ σ', f_5_clear n σ g = some σ' ∧ rpX g σ' (x0 T B) ∧ frX g σ σ' := by
  unfold f_5_clear
  simp only [nm_eq]
  refine ⟨_, rfl, ⟨⟨by simp [si_get]; rfl, by simp [si_get]; rfl, by simp [si_get]; rfl, by simp [si_get]; rfl, by simp [si_get]; rfl, by simp [si_get], fun i hi => absurd hi (Nat.not_lt_zero i)⟩, rsX_c (σ := σ) (fun k hk => ?_) rfl h⟩, fun k a b c d e f => ?_⟩
  · rw [si_ne (by omega), si_ne (by omega), si_ne (by omega), si_ne (by omega), si_ne (by omega), si_ne (by omega)]
  · rw [si_ne b, si_ne b, si_ne b, si_ne b, si_ne b, si_ne b]
theorem frX_lt {g : Nat} {σ σ' : St} (h : frX g σ σ') : ∀ k, k < 76 → σ'.1 k = σ.1 k := fun k hk => h k (by omega) (by omega) (by omega) (by omega) (by omega) (by omega)
theorem addGuest_X (n : Nat) (hn : 1000 ≤ n) {g r : Nat} (hg : g < 8) {σ : St} {c : Cf} {bd d m : Nat} {A : Rg} {T : Tk} {B : Bt} (hgu : guX σ g r bd m A) (hA : rgW A m) (hbd : bd ≤ 99) (hd : d ≤ 99) (hc : cfX σ c) (hcW : cfW c) (hT : rsX σ T B) (hTW : rsW T B) : ∃ σ', f_3_addGuest n σ (nI g) (nI d) = some σ' ∧ rpX g σ' (gR c bd d A (x0 T B) m).2 ∧ frX g σ σ' := by
  unfold f_3_addGuest
  rw [gd_t (inb_nI hg (by decide)), nI_clamp (by omega), hgu.1, gd_t (inb_nI hgu.2.1 (by decide)), nI_clamp (show r < 2 ^ 31 by have := hgu.2.1; omega)]
  obtain ⟨σ0, e0, p0, f0⟩ := clear5_X n hg hT
  rw [e0, bd_eq]
  obtain ⟨e, he, hX⟩ := lq_for (b := b_3_addGuest_42 n (nI d) g r g) (X := fun e => rpX g e.2.2 (gR c bd d A (x0 T B) m).2 ∧ frX g σ e.2.2) m (fun i s => ∃ σi, s = (nI (gR c bd d A (x0 T B) i).1, nI i, σi) ∧ rpX g σi (gR c bd d A (x0 T B) i).2 ∧ frX g σ σi) (by
    rintro i s hi ⟨σi, rfl, hp, hf⟩
    obtain ⟨hW, hsk⟩ := gR_W (d := d) hcW hA hbd hTW i (by omega)
    have hm := hA.1
    have hcs : gR c bd d A (x0 T B) (i + 1) = gStep c bd d A i (gR c bd d A (x0 T B) i) := rfl
    have hls := gR_lost (c := c) (bd := bd) (d := d) (A := A) (x := x0 T B) (i := i)
    rcases hgr : gR c bd d A (x0 T B) i with ⟨sk, x⟩
    rw [hgr] at hp hW hsk hcs hls
    simp only at hp hW hsk hls
    obtain ⟨u1, u2, u3, u4, u5⟩ := guX_c hg (frX_lt hf) hgu
    obtain ⟨u6, u7, u8⟩ := u5 i hi
    have hlo := rwX_lo hp.1
    unfold b_3_addGuest_42
    simp only [nm_eq]
    rw [u4, if_neg (nI_ge hi (by omega)), hlo]
    by_cases elo : xLo x = true
    · right
      rw [if_pos elo, if_neg (by decide)]
      refine ⟨_, rfl, ?_⟩
      rw [hls elo m (by omega)]
      exact ⟨hp, hf⟩
    · rw [if_neg elo, if_pos rfl]
      by_cases esk : i < sk
      · left
        rw [if_neg (nI_ge esk (by omega)), nI_1]
        refine ⟨_, rfl, σi, ?_, ?_, hf⟩
        · rw [hcs, gStep, if_pos (.inr esk)]
        · rw [hcs, gStep, if_pos (.inr esk)]; exact hp
      · left
        rw [if_pos (nI_le (by omega) (by omega)), gd_t (inb_nI (show i < 30 by omega) (by decide)), nI_clamp (by omega), u6, u7]
        have hno : ¬ (xLo x = true ∨ i < sk) := fun z => z.elim elo esk
        have hwf := hA.2 i hi
        by_cases e4 : (A i).1 = 4
        · rw [e4, if_pos (show nI 4 = 4 from rfl)]
          have ha : 1 ≤ (A i).2.1 ∧ (A i).2.1 ≤ 9 := by
            rcases hwf with ⟨q, _⟩ | ⟨q, _⟩ | ⟨q, _⟩ | ⟨q, _⟩ | ⟨_, q1, q2, _⟩
            · omega
            · omega
            · omega
            · omega
            · exact ⟨q1, q2⟩
          have hmul : f_3_isMultiple n σi (nI d) (nI (A i).2.1) = some (if d % (A i).2.1 = 0 then 1 else 0, σi) := by
            unfold f_3_isMultiple
            simp only [nm_eq]
            rw [if_neg (nI_nle (by omega) (by omega)), gd_t (show nzb (nI (A i).2.1) = true by simp only [nzb, decide_eq_true_eq]; exact nI_ne0 (by omega) (by omega)), pk_rem (by omega) (by omega) (by omega)]
            have hlt := Nat.mod_lt d (show (A i).2.1 > 0 by omega)
            by_cases z : d % (A i).2.1 = 0
            · rw [z, if_pos (show nI 0 = 0 from rfl), if_pos rfl]
            · rw [if_neg (nI_ne0 (by omega) (by omega)), if_neg z]
          rw [hmul, bd_eq]
          simp only
          have hst : gR c bd d A (x0 T B) (i + 1) = (if d % (A i).2.1 = 0 then i + 1 else (A i).2.2, x) := by
            rw [hcs, gStep, if_neg hno, if_pos e4]
          by_cases z : d % (A i).2.1 = 0
          · rw [if_pos z, if_neg (by decide), nI_1]
            rw [if_pos z] at hst
            exact ⟨_, rfl, σi, by rw [hst], by rw [hst]; exact hp, hf⟩
          · rw [if_neg z, if_pos rfl, nI_1, u8 (.inr e4)]
            rw [if_neg z] at hst
            exact ⟨_, rfl, σi, by rw [hst], by rw [hst]; exact hp, hf⟩
        · have hst : gR c bd d A (x0 T B) (i + 1) = (sk, aStep c bd (A i).1 (A i).2.1 (A i).2.2 x) := by
            rw [hcs, gStep, if_neg hno, if_neg e4]
          have hwl : (A i).1 < 5 := by
            rcases hwf with ⟨q, _⟩ | ⟨q, _⟩ | ⟨q, _⟩ | ⟨q, _⟩ | ⟨q, _⟩ <;> omega
          rw [if_neg (show ¬ nI (A i).1 = 4 from fun z => e4 ((nI_eq (b := 4) (by omega) (by decide)).mp z)), u3]
          obtain ⟨σ', a1, a2, a3⟩ := addAct_X n hn hg (show i < 30 by omega) hbd hwf e4 u6 u7 u8 (cfX_c (frX_lt hf) hc) hcW hW hp
          rw [a1, bd_eq, nI_1]
          exact ⟨_, rfl, σ', by rw [hst], by rw [hst]; exact a2, frX_tr hf a3⟩) (by
    rintro s ⟨σi, rfl, hp, hf⟩
    obtain ⟨u1, u2, u3, u4, u5⟩ := guX_c hg (frX_lt hf) hgu
    unfold b_3_addGuest_42
    simp only
    rw [u4, if_pos (nI_le (Nat.le_refl m) (by have := hA.1; omega))]
    exact ⟨_, rfl, hp, hf⟩) (n := n) (by have := hA.1; omega) (s := (0, 0, σ0)) ⟨σ0, rfl, p0, f0⟩
  rw [he, bd_eq]
  exact ⟨_, rfl, hX⟩
