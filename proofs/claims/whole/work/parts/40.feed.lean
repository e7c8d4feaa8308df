/-! feed -/
def byN (w : Int32) (i : Nat) : Nat := w.toBitVec.toNat / 2 ^ (24 - 8 * i) % 256
theorem byN_lt {w : Int32} {i : Nat} : byN w i < 256 := Nat.mod_lt _ (by decide)
theorem toInt8_mod {x y : Int32} (h : x.toBitVec.toNat % 256 = y.toBitVec.toNat % 256) : x.toInt8 = y.toInt8 := by
  apply Int8.toBitVec_inj.mp
  rw [Int32.toBitVec_toInt8, Int32.toBitVec_toInt8, BitVec.signExtend_eq_setWidth_of_le _ (by decide), BitVec.signExtend_eq_setWidth_of_le _ (by decide)]
  apply BitVec.eq_of_toNat_eq
  rw [BitVec.toNat_setWidth, BitVec.toNat_setWidth]
  exact h
theorem byte_X (a : Int32) {i : Nat} (hi : i < 4) : (Int32.toInt8 ((Int32.toInt8 ((Int32.toUInt32 a >>> (Int32.toUInt32 (nI (24 - 8 * i)) &&& Int32.toUInt32 31)).toInt32)).toInt32)).toInt32 = (Int32.toInt8 (nI (byN a i))).toInt32 := by
  have h1 : ∀ z : Int8, z.toInt32.toInt8 = z := fun z => by simp
  rw [h1]
  congr 1
  apply toInt8_mod
  have hk : ((Int32.toUInt32 (nI (24 - 8 * i)) &&& Int32.toUInt32 31).toBitVec % 32).toNat = 24 - 8 * i := by
    have : i = 0 ∨ i = 1 ∨ i = 2 ∨ i = 3 := by omega
    rcases this with rfl | rfl | rfl | rfl <;> decide
  rw [pk_ushr a _ _ hk, pk_tn (by have := byN_lt (w := a) (i := i); omega)]
  unfold byN
  rw [Nat.mod_mod]
theorem toInt_two (x : Int32) : (x.toInt = (x.toBitVec.toNat : Int) ∨ x.toInt = (x.toBitVec.toNat : Int) - 4294967296) ∧ x.toBitVec.toNat < 4294967296 := by
  refine ⟨?_, x.toBitVec.isLt⟩
  show x.toBitVec.toInt = _ ∨ x.toBitVec.toInt = _
  rw [BitVec.toInt_eq_toNat_cond]
  split
  · exact .inl rfl
  · exact .inr rfl
theorem byte_M (w : Int32) {i : Nat} (hi : i < 4) : (w >>> (nI (24 - 8 * i) &&& 31)) &&& 255 = nI (byN w i) := by
  rw [pk_and _ (m := 255) 8 (by decide)]
  congr 1
  have hk : ((nI (24 - 8 * i) &&& 31).toBitVec.smod 32).toNat = 24 - 8 * i := by
    have : i = 0 ∨ i = 1 ∨ i = 2 ∨ i = 3 := by omega
    rcases this with rfl | rfl | rfl | rfl <;> decide
  have h := pk_shr w _ _ hk
  rw [Int.shiftRight_eq_div_pow] at h
  obtain ⟨a1, a2⟩ := toInt_two w
  obtain ⟨b1, b2⟩ := toInt_two (w >>> (nI (24 - 8 * i) &&& 31))
  unfold byN
  generalize w >>> (nI (24 - 8 * i) &&& 31) = y at h b1 b2 ⊢
  generalize y.toInt = yi at h b1
  generalize y.toBitVec.toNat = yn at b1 b2 ⊢
  generalize w.toInt = wi at h a1
  generalize w.toBitVec.toNat = wn at a1 a2 ⊢
  clear hk
  have : 24 - 8 * i = 24 ∨ 24 - 8 * i = 16 ∨ 24 - 8 * i = 8 ∨ 24 - 8 * i = 0 := by omega
  generalize 24 - 8 * i = k at h this ⊢
  rcases this with rfl | rfl | rfl | rfl
  · omega
  · omega
  · omega
  · omega
def shI (i : Nat) : Int32 := if i = 4 then -8 else nI (24 - 8 * i)
theorem shI_s : ∀ i, i < 4 → shI i + (-8) = shI (i + 1) ∧ ¬ shI i < 0 ∧ shI i = nI (24 - 8 * i) := by decide
theorem feed1_X (n : Nat) (hn : 1000 ≤ n) {σ : St} {v : Int32} {l : Nat} (hl : l + 4 ≤ 600) (h : σ.1 7 1 = nI l) : ∃ σ', f_8_add n σ v = some σ' ∧ σ'.1 7 1 = nI (l + 4) ∧ (∀ i, (i < l ∨ l + 4 ≤ i) → σ'.1 8 i = σ.1 8 i) ∧ (∀ i, i < 4 → σ'.1 8 (l + i) = (Int32.toInt8 (nI (byN v i))).toInt32) ∧ (∀ k, k ≠ 7 → k ≠ 8 → σ'.1 k = σ.1 k) ∧ (∀ j, j ≠ 1 → σ'.1 7 j = σ.1 7 j) := by
  obtain ⟨e, he, hX⟩ := lq_for (b := b_8_add_3 n v) (X := fun e => e.2.1 7 1 = nI (l + 4) ∧ (∀ i, (i < l ∨ l + 4 ≤ i) → e.2.1 8 i = σ.1 8 i) ∧ (∀ i, i < 4 → e.2.1 8 (l + i) = (Int32.toInt8 (nI (byN v i))).toInt32) ∧ (∀ k, k ≠ 7 → k ≠ 8 → e.2.1 k = σ.1 k) ∧ (∀ j, j ≠ 1 → e.2.1 7 j = σ.1 7 j)) 4 (fun m s => ∃ σi, s = (shI m, σi) ∧ σi.1 7 1 = nI (l + m) ∧ (∀ i, (i < l ∨ l + m ≤ i) → σi.1 8 i = σ.1 8 i) ∧ (∀ i, i < m → σi.1 8 (l + i) = (Int32.toInt8 (nI (byN v i))).toInt32) ∧ (∀ k, k ≠ 7 → k ≠ 8 → σi.1 k = σ.1 k) ∧ (∀ j, j ≠ 1 → σi.1 7 j = σ.1 7 j)) (by
    rintro m s hm ⟨σi, rfl, i1, i2, i3, i4, i5⟩
    left
    obtain ⟨s1, s2, s3⟩ := shI_s m hm
    unfold b_8_add_3
    simp only [nm_eq]
    rw [if_neg s2, i1, if_neg (show ¬ (600 : Int32) ≤ nI (l + m) from nI_ge (b := 600) (by omega) (by decide)), gd_t (inb_nI (show l + m < 600 by omega) (by decide)), nI_clamp (by omega), s1, s3, byte_X v hm, si_cell (show (7 : Nat) ≠ 8 by decide), i1, nI_1]
    refine ⟨_, rfl, _, rfl, by rw [si_hit, Nat.add_assoc], fun i hi => ?_, fun i hi => ?_, fun k k1 k2 => ?_, fun j hj => ?_⟩
    · rw [si_cell (by decide), si_place (by omega)]; exact i2 i (by omega)
    · rw [si_cell (by decide), si_get]
      by_cases z : i = m
      · subst z; rw [if_pos ⟨rfl, rfl⟩]
      · rw [if_neg (fun y => z (by omega))]; exact i3 i (by omega)
    · rw [si_ne k1, si_ne k2]; exact i4 k k1 k2
    · rw [si_place hj, si_cell (by decide)]; exact i5 j hj) (by
    rintro s ⟨σi, rfl, i1⟩
    unfold b_8_add_3
    simp only [nm_eq]
    rw [if_pos (show shI 4 < 0 by decide)]
    exact ⟨_, rfl, i1⟩) (n := n) (by omega) (s := (24, σ)) ⟨σ, rfl, h, fun _ _ => rfl, fun i hi => absurd hi (Nat.not_lt_zero i), fun _ _ _ => rfl, fun _ _ => rfl⟩
  unfold f_8_add
  rw [he, bd_eq]
  exact ⟨_, rfl, hX⟩
def wdF (a b c d e : Int32) (k : Nat) : Int32 := if k < 4 then a else if k < 8 then b else if k < 12 then c else if k < 16 then d else e
theorem feedw_M (n : Nat) {a b c d e w : Int32} {τ : St} {k l : Nat} (hk : k < 20) (hl : l < 600) (h : τ.1 0 18 = nI l) : j_11_feed_71 n a b c d e (nI k) w τ = some (.inl (nI (k + 1), si (si τ 14 l (nI (byN w (k % 4)))) 0 18 (nI (l + 1)))) := by
  unfold j_11_feed_71
  simp only [nm_eq]
  have hm := Nat.mod_lt k (show 4 > 0 by decide)
  rw [show (4 : Int32) = nI 4 from rfl, pk_rem (by omega) (by decide) (by decide), show (8 : Int32) * nI (k % 4) = nI (8 * (k % 4)) from pk_mul 8 _, show (24 : Int32) - nI (8 * (k % 4)) = nI (24 - 8 * (k % 4)) from pk_sub (a := 24) (by omega), byte_M w hm, h, gd_t (inb_nI hl (by decide)), nI_clamp (by omega), si_cell (show (0 : Nat) ≠ 14 by decide), h, nI_1, nI_1]
theorem feed_M (n : Nat) (hn : 1000 ≤ n) {a b c d e : Int32} {τ : St} {l : Nat} (hl : l + 20 ≤ 600) (h : τ.1 0 18 = nI l) : ∃ (z : Int32) (τ' : St), lq (b_11_feed_18 n a b c d e) n (0, τ) = some (z, τ') ∧ τ'.1 0 18 = nI (l + 20) ∧ (∀ i, i < l → τ'.1 14 i = τ.1 14 i) ∧ (∀ k, k < 20 → τ'.1 14 (l + k) = nI (byN (wdF a b c d e k) (k % 4))) ∧ (∀ k, k ≠ 0 → k ≠ 14 → τ'.1 k = τ.1 k) ∧ (∀ j, j ≠ 18 → τ'.1 0 j = τ.1 0 j) ∧ τ'.2 = τ.2 := by
  obtain ⟨e1, he, hX⟩ := lq_for (b := b_11_feed_18 n a b c d e) (X := fun e1 => e1.2.1 0 18 = nI (l + 20) ∧ (∀ i, i < l → e1.2.1 14 i = τ.1 14 i) ∧ (∀ k, k < 20 → e1.2.1 14 (l + k) = nI (byN (wdF a b c d e k) (k % 4))) ∧ (∀ k, k ≠ 0 → k ≠ 14 → e1.2.1 k = τ.1 k) ∧ (∀ j, j ≠ 18 → e1.2.1 0 j = τ.1 0 j) ∧ e1.2.2 = τ.2) 20 (fun m s => ∃ τi, s = (nI m, τi) ∧ τi.1 0 18 = nI (l + m) ∧ (∀ i, i < l → τi.1 14 i = τ.1 14 i) ∧ (∀ k, k < m → τi.1 14 (l + k) = nI (byN (wdF a b c d e k) (k % 4))) ∧ (∀ k, k ≠ 0 → k ≠ 14 → τi.1 k = τ.1 k) ∧ (∀ j, j ≠ 18 → τi.1 0 j = τ.1 0 j) ∧ τi.2 = τ.2) (by
    rintro m s hm ⟨τi, rfl, i1, i2, i3, i4, i5, i6⟩
    left
    have hb : b_11_feed_18 n a b c d e (nI m, τi) = some (.inl (nI (m + 1), si (si τi 14 (l + m) (nI (byN (wdF a b c d e m) (m % 4)))) 0 18 (nI (l + m + 1)))) := by
      unfold b_11_feed_18 wdF
      simp only
      rw [if_neg (show ¬ (20 : Int32) ≤ nI m from nI_ge (b := 20) hm (by decide)), feedw_M n hm (by omega) i1, feedw_M n hm (by omega) i1, feedw_M n hm (by omega) i1, feedw_M n hm (by omega) i1, feedw_M n hm (by omega) i1]
      by_cases c4 : m < 4
      · rw [if_neg (show ¬ (4 : Int32) ≤ nI m from nI_ge (b := 4) c4 (by decide)), if_pos c4]
      rw [if_pos (show (4 : Int32) ≤ nI m from nI_le (a := 4) (by omega) (by omega)), if_neg c4]
      by_cases c8 : m < 8
      · rw [if_neg (show ¬ (8 : Int32) ≤ nI m from nI_ge (b := 8) c8 (by decide)), if_pos c8]
      rw [if_pos (show (8 : Int32) ≤ nI m from nI_le (a := 8) (by omega) (by omega)), if_neg c8]
      by_cases c12 : m < 12
      · rw [if_neg (show ¬ (12 : Int32) ≤ nI m from nI_ge (b := 12) c12 (by decide)), if_pos c12]
      rw [if_pos (show (12 : Int32) ≤ nI m from nI_le (a := 12) (by omega) (by omega)), if_neg c12]
      by_cases c16 : m < 16
      · rw [if_neg (show ¬ (16 : Int32) ≤ nI m from nI_ge (b := 16) c16 (by decide)), if_pos c16]
      rw [if_pos (show (16 : Int32) ≤ nI m from nI_le (a := 16) (by omega) (by omega)), if_neg c16]
    rw [hb]
    refine ⟨_, rfl, _, rfl, by rw [si_hit, Nat.add_assoc], fun i hi => ?_, fun k hk => ?_, fun k k1 k2 => ?_, fun j hj => ?_, i6⟩
    · rw [si_cell (by decide), si_place (by omega)]; exact i2 i hi
    · rw [si_cell (by decide), si_get]
      by_cases z : k = m
      · subst z; rw [if_pos ⟨rfl, rfl⟩]
      · rw [if_neg (fun y => z (by omega))]; exact i3 k (by omega)
    · rw [si_ne k1, si_ne k2]; exact i4 k k1 k2
    · rw [si_place hj, si_cell (by decide)]; exact i5 j hj) (by
    rintro s ⟨τi, rfl, i1⟩
    unfold b_11_feed_18
    simp only
    rw [if_pos (show (20 : Int32) ≤ nI 20 from nI_le (Nat.le_refl 20) (by decide))]
    exact ⟨_, rfl, i1⟩) (n := n) (by omega) (s := (0, τ)) ⟨τ, rfl, h, fun _ _ => rfl, fun i hi => absurd hi (Nat.not_lt_zero i), fun _ _ _ => rfl, fun _ _ => rfl, rfl⟩
  exact ⟨e1.1, e1.2, by rw [he], hX⟩
theorem sim_feed (n : Nat) (hn : 1000 ≤ n) (a b c d e : Int32) : Sim Rel (fun σ => f_10_feed n σ a b c d e) (fun τ => f_11_feed n τ a b c d e) := by
  intro σ τ hR
  have hR' := hR
  obtain ⟨D, G, K, L, hD, hG, hK, hL, h0, hS, hC, hO, hB, hV, hg, hRr, hT⟩ := hR
  obtain ⟨z1, z2, z3, z4, z5, z6, z7, z8, z9, z10, z11, z12, z13⟩ := id h0
  show ∃ r σ' τ', f_10_feed n σ a b c d e = some (r, σ') ∧ f_11_feed n τ a b c d e = some (r, τ') ∧ Rel σ' τ'
  unfold f_10_feed f_11_feed
  simp only [nm_eq]
  rw [z12, z13, show nI L + 20 = nI (L + 20) from nI_add L 20]
  by_cases hc : L + 20 ≤ 600
  · rw [if_pos (show nI (L + 20) ≤ (600 : Int32) from nI_le (b := 600) hc (by decide)), if_pos (show nI (L + 20) ≤ (600 : Int32) from nI_le (b := 600) hc (by decide))]
    obtain ⟨σ1, a1, a2, a3, a4, a5, a6⟩ := feed1_X n hn (v := a) (l := L) (by omega) z12
    obtain ⟨σ2, b1, b2, b3, b4, b5, b6⟩ := feed1_X n hn (v := b) (l := L + 4) (by omega) a2
    obtain ⟨σ3, c1, c2, c3, c4, c5, c6⟩ := feed1_X n hn (v := c) (l := L + 4 + 4) (by omega) b2
    obtain ⟨σ4, d1, d2, d3, d4, d5, d6⟩ := feed1_X n hn (v := d) (l := L + 4 + 4 + 4) (by omega) c2
    obtain ⟨σ5, e1, e2, e3, e4, e5, e6⟩ := feed1_X n hn (v := e) (l := L + 4 + 4 + 4 + 4) (by omega) d2
    obtain ⟨z, τ', f1, f2, f3, f4, f5, f6, f7⟩ := feed_M n hn (a := a) (b := b) (c := c) (d := d) (e := e) hc z13
    rw [a1, bd_eq, b1, bd_eq, c1, bd_eq, d1, bd_eq, e1, bd_eq, f1, bd_eq]
    simp only
    rw [e2, f2]
    refine ⟨nI (L + 20), σ5, τ', rfl, rfl, ?_⟩
    have hx : ∀ k, k ≠ 7 → k ≠ 8 → σ5.1 k = σ.1 k := fun k k1 k2 => by rw [e5 k k1 k2, d5 k k1 k2, c5 k k1 k2, b5 k k1 k2, a5 k k1 k2]
    have hm : ∀ k, k ≠ 0 → k ≠ 14 → τ'.1 k = τ.1 k := f5
    refine ⟨D, G, K, L + 20, hD, hG, hK, hc, ?_, rS_c (fun s' j hs' h1 => by rw [hx _ (by omega) (by omega)]) (fun k s' h1 h2 _ => by rw [hm k (by omega) (by omega)]) hS, rC_c (fun s' j hs' h1 h2 => by rw [hx _ (by omega) (by omega)]) (fun k s' h1 h2 _ => by rw [hm k (by omega) (by omega)]) hC, rO_c (fun k h1 h2 => hx k (by omega) (by omega)) (hm _ (by omega) (by omega)) hO, rB_c (fun k h1 h2 => hx k (by omega) (by omega)) (hm _ (by omega) (by omega)) (hm _ (by omega) (by omega)) hB, rV_c (hx _ (by omega) (by omega)) (hm _ (by omega) (by omega)) hV, rG_c (fun k h1 h2 => hx k (by omega) (by omega)) (fun k h1 h2 => hm k (by omega) (by omega)) hg, rR_c hK (fun k h1 h2 => hx k (by omega) (by omega)) (by rw [f7]) (hm _ (by omega) (by omega)) (hm _ (by omega) (by omega)) hRr, fun i hi => ?_⟩
    · unfold r0
      rw [hx 0 (by decide) (by decide), hx 1 (by decide) (by decide), hx 6 (by decide) (by decide), f6 0 (by decide), f6 53 (by decide), f6 59 (by decide), f6 60 (by decide), f6 1 (by decide), f6 2 (by decide), f6 25 (by decide), f6 26 (by decide)]
      exact ⟨z1, z2, z3, z4, z5, z6, z7, z8, z9, z10, z11, e2, f2⟩
    · by_cases hiL : i < L
      · obtain ⟨bb, q1, q2, q3⟩ := hT i hiL
        refine ⟨bb, q1, by rw [f3 i hiL]; exact q2, ?_⟩
        rw [e3 i (by omega), d3 i (by omega), c3 i (by omega), b3 i (by omega), a3 i (by omega)]; exact q3
      · obtain ⟨k, rfl⟩ : ∃ k, i = L + k := ⟨i - L, by omega⟩
        have hk : k < 20 := by omega
        refine ⟨byN (wdF a b c d e k) (k % 4), byN_lt, f4 k hk, ?_⟩
        unfold wdF
        by_cases k4 : k < 4
        · rw [if_pos k4, e3 _ (by omega), d3 _ (by omega), c3 _ (by omega), b3 _ (by omega), a4 k k4, Nat.mod_eq_of_lt k4]
        rw [if_neg k4]
        by_cases k8 : k < 8
        · rw [if_pos k8, e3 _ (by omega), d3 _ (by omega), c3 _ (by omega), show L + k = L + 4 + (k - 4) by omega, b4 (k - 4) (by omega), show k % 4 = k - 4 by omega]
        rw [if_neg k8]
        by_cases k12 : k < 12
        · rw [if_pos k12, e3 _ (by omega), d3 _ (by omega), show L + k = L + 4 + 4 + (k - 8) by omega, c4 (k - 8) (by omega), show k % 4 = k - 8 by omega]
        rw [if_neg k12]
        by_cases k16 : k < 16
        · rw [if_pos k16, e3 _ (by omega), show L + k = L + 4 + 4 + 4 + (k - 12) by omega, d4 (k - 12) (by omega), show k % 4 = k - 12 by omega]
        rw [if_neg k16, show L + k = L + 4 + 4 + 4 + 4 + (k - 16) by omega, e4 (k - 16) (by omega), show k % 4 = k - 16 by omega]
  · rw [if_neg (show ¬ nI (L + 20) ≤ (600 : Int32) from nI_ge (a := 600) (by omega) (by omega)), if_neg (show ¬ nI (L + 20) ≤ (600 : Int32) from nI_ge (a := 600) (by omega) (by omega))]
    exact ⟨_, σ, τ, rfl, rfl, hR'⟩
