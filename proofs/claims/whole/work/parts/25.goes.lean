theorem rwM_lo {g : Nat} {τ : St} {x : Xs} (h : rwM g τ x) : τ.1 30 g = if xLo x = true then 1 else 0 := by
  obtain ⟨now, str, len, ov, gl, lo, ac, T, B⟩ := x
  exact h.2.2.2.1
theorem goes_M (n : Nat) (hn : 1000 ≤ n) {g r : Nat} (hg : g < 8) {τ : St} {c : Cf} {bd d m : Nat} {A : Rg} {T : Tk} {B : Bt} (hgu : guM τ g r bd m A) (hA : rgW A m) (hbd : bd ≤ 99) (hd : d ≤ 99) (hc : cfM τ c) (hcW : cfW c) (hT : rsM τ T B) (hTW : rsW T B) : ∃ τ', f_11_goes n τ (nI g) (nI d) = some τ' ∧ rpM g τ' (gR c bd d A (x0 T B) m).2 ∧ frM g τ τ' := by
  unfold f_11_goes
  rw [gd_t (inb_nI hg (by decide)), nI_clamp (by omega)]
  simp only [nm_eq]
  have p0 : rpM g (si (si (si (si (si τ 27 g 0) 28 g 0) 29 g 0) 30 g 0) 0 49 0) (x0 T B) := by
    refine ⟨by simp [si_get, x0]; rfl, ⟨by simp [si_get]; rfl, by simp [si_get]; rfl, by simp [si_get]; rfl, by simp [si_get], fun i hi => by omega⟩, rsM_c ?_ ?_ hT⟩
    · rw [si_ne (by decide), si_ne (by decide), si_ne (by decide), si_ne (by decide), si_ne (by decide)]
    · rw [si_ne (by decide), si_ne (by decide), si_ne (by decide), si_ne (by decide), si_ne (by decide)]
  have f0 : frM g τ (si (si (si (si (si τ 27 g 0) 28 g 0) 29 g 0) 30 g 0) 0 49 0) := by
    refine ⟨fun k a b => ?_, fun j a => ?_, rfl, fun k h a b c => ?_, fun k j a b c => ?_⟩
    · rw [si_ne (by omega), si_ne (by omega), si_ne (by omega), si_ne (by omega), si_ne (by omega)]
    · rw [si_place a, si_cell (by decide), si_cell (by decide), si_cell (by decide), si_cell (by decide)]
    · rw [si_cell (by omega), si_place c, si_place c, si_place c, si_place c]
    · rw [si_cell (by omega), si_cell (by omega), si_cell (by omega), si_cell (by omega), si_cell (by omega)]
  obtain ⟨e, he, hX⟩ := lq_ex (b := b_11_goes_38 n (nI g) (nI d)) (X := fun e => rpM g e.2.2 (gR c bd d A (x0 T B) m).2 ∧ frM g τ e.2.2) (fun kk s => ∃ k sk str τk x, kk = m - k ∧ k ≤ m ∧ gR c bd d A (x0 T B) k = (sk, x) ∧ sk ≤ k ∧ s = (str, nI k, τk) ∧ rpM g τk x ∧ frM g τ τk ∧ (xLo x = true ∨ str = nI x.2.1)) (by
    rintro kk s ⟨k, sk, str, τk, x, rfl, hkm, hgr, hsk, rfl, hp, hf, hstr⟩
    have hm := hA.1
    obtain ⟨hW, hskm⟩ := gR_W (d := d) hcW hA hbd hTW k hkm
    have hls := gR_lost (c := c) (bd := bd) (d := d) (A := A) (x := x0 T B) (i := k)
    have hcs : gR c bd d A (x0 T B) (k + 1) = gStep c bd d A k (gR c bd d A (x0 T B) k) := rfl
    rw [hgr] at hW hskm hls hcs
    simp only at hW hskm hls
    obtain ⟨u1, u2, u3, u4, u5⟩ := guM_c (frM_lt hf) hgu
    have hlo := rwM_lo hp.2.1
    unfold b_11_goes_38
    simp only [nm_eq]
    rw [gd_t (inb_nI hg (by decide)), nI_clamp (show g < 2 ^ 31 by omega), u1, gd_t (inb_nI u2 (by decide)), nI_clamp (show r < 2 ^ 31 by omega), u4]
    by_cases ek : m ≤ k
    · right
      obtain rfl : k = m := by omega
      rw [if_pos (nI_le ek (by omega))]
      refine ⟨_, rfl, ?_, hf⟩
      rw [hgr]; exact hp
    · rw [if_neg (nI_ge (by omega) (by omega)), hlo]
      by_cases elo : xLo x = true
      · right
        rw [if_pos elo, if_neg (by decide)]
        refine ⟨_, rfl, ?_, hf⟩
        rw [hls elo m (by omega)]; exact hp
      · left
        have hlof : xLo x = false := Bool.eq_false_iff.mpr elo
        have hs' : str = nI x.2.1 := hstr.resolve_left elo
        subst hs'
        have hno : ¬ (xLo x = true ∨ k < sk) := fun z => z.elim elo (by omega)
        obtain ⟨u6, u7, u8⟩ := u5 k (by omega)
        have hwf := hA.2 k (by omega)
        have i0 : (90 : Int32) * nI r + 3 * nI k = nI (90 * r + 3 * k) := by
          rw [show (90 : Int32) = nI 90 from rfl, show (3 : Int32) = nI 3 from rfl, pk_mul, pk_mul, nI_add]
        rw [if_neg elo, if_pos rfl, i0, nI_1, show nI (90 * r + 3 * k) + 2 = nI (90 * r + 3 * k + 2) from nI_add _ 2, gd_t (inb_nI (show 90 * r + 3 * k + 1 < 720 by omega) (by decide)), gd_t (inb_nI (show 90 * r + 3 * k + 2 < 720 by omega) (by decide)), gd_t (inb_nI (show 90 * r + 3 * k < 720 by omega) (by decide)), nI_clamp (show 90 * r + 3 * k + 1 < 2 ^ 31 by omega), nI_clamp (show 90 * r + 3 * k + 2 < 2 ^ 31 by omega), nI_clamp (show 90 * r + 3 * k < 2 ^ 31 by omega), u6, u7, nI_1]
        by_cases e4 : (A k).1 = 4
        · have hst : gR c bd d A (x0 T B) (k + 1) = (if d % (A k).2.1 = 0 then k + 1 else (A k).2.2, x) := by
            rw [hcs, gStep, if_neg hno, if_pos e4]
          have ha : 1 ≤ (A k).2.1 ∧ (A k).2.1 ≤ 9 ∧ k < (A k).2.2 ∧ (A k).2.2 ≤ m := by
            rcases hwf with ⟨q, _⟩ | ⟨q, _⟩ | ⟨q, _⟩ | ⟨q, _⟩ | ⟨_, q1, q2, q3, q4⟩
            · omega
            · omega
            · omega
            · omega
            · exact ⟨q1, q2, q3, q4⟩
          have hlt := Nat.mod_lt d (show (A k).2.1 > 0 by omega)
          rw [e4, if_neg (show ¬ nI 4 = 0 by decide), if_neg (show ¬ nI 4 = 1 by decide), if_neg (show ¬ nI 4 = 2 by decide), if_neg (show ¬ nI 4 = 3 by decide), gd_t (show nzb (nI (A k).2.1) = true by simp only [nzb, decide_eq_true_eq]; exact nI_ne0 (by omega) (by omega)), pk_rem (by omega) (by omega) (by omega), u8 (.inr e4)]
          by_cases z : d % (A k).2.1 = 0
          · rw [z, if_pos (show nI 0 = 0 from rfl)]
            rw [if_pos z] at hst
            obtain ⟨τ2, t1, t2, t3⟩ := fin_M (n := n) hg (d := nI d) (s := nI x.2.1) (k := nI (k + 1)) hlof hp
            exact ⟨m - (k + 1), _, by omega, t1, k + 1, k + 1, _, τ2, x, rfl, by omega, hst, Nat.le_refl _, rfl, t2, frM_tr hf t3, .inr rfl⟩
          · rw [if_neg (nI_ne0 (by omega) (by omega))]
            rw [if_neg z] at hst
            obtain ⟨τ2, t1, t2, t3⟩ := fin_M (n := n) hg (d := nI d) (s := nI x.2.1) (k := nI (A k).2.2) hlof hp
            have hj := gR_skip (c := c) (bd := bd) (d := d) (A := A) (x := x0 T B) (i := k + 1) (A k).2.2 (by omega) (by rw [hst]; exact Nat.le_refl _)
            rw [hst] at hj
            exact ⟨m - (A k).2.2, _, by omega, t1, (A k).2.2, (A k).2.2, _, τ2, x, rfl, by omega, hj, Nat.le_refl _, rfl, t2, frM_tr hf t3, .inr rfl⟩
        · have hst : gR c bd d A (x0 T B) (k + 1) = (sk, aStep c bd (A k).1 (A k).2.1 (A k).2.2 x) := by
            rw [hcs, gStep, if_neg hno, if_neg e4]
          obtain ⟨str', τ', t1, t2, t3, t4⟩ := act_M n hn hg (d := nI d) (kk := nI (k + 1)) (show k < 30 by omega) hbd hwf e4 (cfM_c (frM_lt hf) hc) hcW hW hp hlof u3 (fun z => by
            rcases hwf with ⟨_, q⟩ | ⟨q, _⟩ | ⟨q, _⟩ | ⟨q, _⟩ | ⟨q, _⟩ <;> omega) (bb := τk.1 11 (90 * r + 3 * k + 2)) (fun z => u8 (.inl z))
          exact ⟨m - (k + 1), _, by omega, t1, k + 1, sk, str', τ', _, rfl, by omega, hst, by omega, rfl, t2, frM_tr hf t3, t4⟩) n m (0, 0, _) (by have := hA.1; omega) ⟨0, 0, 0, _, x0 T B, rfl, Nat.zero_le m, rfl, Nat.le_refl 0, rfl, p0, f0, .inr rfl⟩
  rw [he, bd_eq]
  exact ⟨_, rfl, hX⟩
