section TX
variable {c : Cf} {d G : Nat} {P : Pg} {th : Nat → Bool} {rk : Nat → Nat} {gs : Nat → Nat} {N : Nat}
theorem kpX_lt {σ σ' : St} (h : kpX σ σ') : ∀ k, k < 15 ∨ (22 ≤ k ∧ k < 76) → σ'.1 k = σ.1 k := h
theorem enX_kp {σ σ' : St} (hG : G ≤ 8) (h : kpX σ σ') (he : enX σ c d G P th rk) : enX σ' c d G P th rk := by
  obtain ⟨⟨c1, c2⟩, h2, h3⟩ := he
  refine ⟨⟨fun s hs => ?_, fun k a hk ha => ?_⟩, by rw [h 1 (by omega)]; exact h2, fun g hg => ?_⟩
  · rw [h _ (by omega)]; exact c1 s hs
  · rw [h _ (by omega)]; exact c2 k a hk ha
  · obtain ⟨⟨r, q1⟩, q2, q3⟩ := h3 g hg
    rw [h (36 + g) (by omega)]
    refine ⟨⟨r, ?_⟩, q2, q3⟩
    obtain ⟨h1, h2, h3, h4, h5⟩ := q1
    unfold guX
    rw [h (36 + g) (by omega), h (44 + r) (by omega), h (52 + r) (by omega), h (60 + r) (by omega), h (68 + r) (by omega)]
    exact ⟨h1, h2, h3, h4, h5⟩
theorem try_X (n : Nat) (hn : 1000 ≤ n) {σ0 : St} (hE : enX σ0 c d G P th rk) (hW : enW c d G P rk) (hN : N ≤ 6) (hgs : ∀ i, i < N → gs i < G) (hinj : ∀ i j, i < N → j < N → gs i = gs j → i = j) : ∀ (f k : Nat) (p : List Nat) (b : Bs) (σ : St), f + 1 ≤ k → rD (fun _ => 1) p N = f → p.length + f = N → (∀ i, i ∈ p → i < N) → SX c d P gs N σ0 σ p b → ∃ σ', f_1_tryOrders n k σ (nI d) (nI p.length) = some σ' ∧ SX c d P gs N σ0 σ' p ((comps N f p).foldl (bF c d P gs) b) := by
  have hG8 := hW.2.2.1
  intro f
  induction f with
  | zero =>
    intro k p b σ hk hf hl hp hS
    obtain ⟨k, rfl⟩ : ∃ k', k = k' + 1 := ⟨k - 1, by omega⟩
    obtain ⟨l1, l2⟩ := h_le hW hgs hN hp (by omega)
    rw [f_1_tryOrders]
    unfold F_1_tryOrders
    rw [if_neg (show ¬ (6 : Int32) < nI p.length from nI_nlt (a := 6) (by omega) (by decide))]
    have h6 : σ.1 15 6 = nI N := hS.1.2.1
    rcases hopeless_X n hS.2.1 hS.2.2.1 l1 l2 hS.2.2.2.2.2.1 with ⟨z1, z2⟩ | ⟨z1, z2⟩
    · rw [z2, bd_eq]
      simp only
      rw [if_neg (by decide), hop_fold c d P gs N hf z1]
      exact ⟨σ, rfl, hS⟩
    · rw [z2, bd_eq]
      simp only
      rw [if_pos trivial, h6, if_pos (by rw [show p.length = N by omega])]
      obtain ⟨σ', t1, t2⟩ := keep_X n hN (by omega) l1 l2 hS
      rw [t1, bd_eq]
      refine ⟨σ', rfl, ?_⟩
      show SX c d P gs N σ0 σ' p (bF c d P gs b p)
      rw [bF_not hf z1]; exact t2
  | succ f ih =>
    intro k p b σ hk hf hl hp hS
    obtain ⟨k, rfl⟩ : ∃ k', k = k' + 1 := ⟨k - 1, by omega⟩
    obtain ⟨l1, l2⟩ := h_le hW hgs hN hp (by omega)
    rw [f_1_tryOrders]
    unfold F_1_tryOrders
    rw [if_neg (show ¬ (6 : Int32) < nI p.length from nI_nlt (a := 6) (by omega) (by decide))]
    have h6 : σ.1 15 6 = nI N := hS.1.2.1
    rcases hopeless_X n hS.2.1 hS.2.2.1 l1 l2 hS.2.2.2.2.2.1 with ⟨z1, z2⟩ | ⟨z1, z2⟩
    · rw [z2, bd_eq]
      simp only
      rw [if_neg (by decide), hop_fold c d P gs N hf z1]
      exact ⟨σ, rfl, hS⟩
    · rw [z2, bd_eq]
      simp only
      rw [if_pos trivial, h6, if_neg (fun u => by have := (nI_eq (a := p.length) (b := N) (by omega) (by omega)).mp u; omega)]
      obtain ⟨e, he, hX⟩ := lq_for (b := b_1_tryOrders_32 n (f_1_tryOrders n k) (nI d) (nI p.length)) (X := fun e => SX c d P gs N σ0 e.2 p ((comps N (f + 1) p).foldl (bF c d P gs) b)) N (fun i s => ∃ σi, s = (nI i, σi) ∧ SX c d P gs N σ0 σi p (((List.range i).flatMap (fun i => if i ∈ p then [] else comps N f (p ++ [i]))).foldl (bF c d P gs) b)) (by
        rintro i s hi ⟨σi, rfl, hSi⟩
        left
        have g6 : σi.1 15 6 = nI N := hSi.1.2.1
        have g19 := hSi.2.2.2.1 i hi
        have g16 := (hSi.1.2.2 i hi).1
        unfold b_1_tryOrders_32
        simp only [nm_eq]
        rw [g6, if_neg (nI_ge hi (by omega)), gd_t (inb_nI (show i < 6 by omega) (by decide)), nI_clamp (show i < 2 ^ 31 by omega), g19, g16]
        rw [List.range_succ, List.flatMap_append, List.foldl_append, show List.flatMap (fun i => if i ∈ p then [] else comps N f (p ++ [i])) [i] = (if i ∈ p then [] else comps N f (p ++ [i])) from List.flatMap_singleton _ _]
        by_cases hip : i ∈ p
        · rw [if_pos hip, if_neg (by decide), if_pos hip, nI_1]
          exact ⟨_, rfl, σi, rfl, hSi⟩
        · rw [if_neg hip, if_pos rfl, if_neg hip]
          have hEi := enX_kp hG8 hSi.1.1 hE
          have hpG : ∀ g, g ∈ p.map gs → g < G := fun g hg => by obtain ⟨j, hj, rfl⟩ := List.mem_map.mp hg; exact hgs j (hp j hj)
          have hni : gs i ∉ p.map gs := fun z => by
            obtain ⟨j, hj, e⟩ := List.mem_map.mp z
            have := hinj j i (hp j hj) hi e
            rw [this] at hj; exact hip hj
          have hgi := hgs i hi
          obtain ⟨σ1, t1, t2, t3⟩ := add_X n hn hEi hW hgi hSi.2.2.2.2.2.2 (dLay_W hW _ _ hpG S0_W)
          rw [t1, bd_eq]
          obtain ⟨σ2, u1, u2⟩ := place_X n hN hi (by omega) hip (by omega) hSi t3 t2
          rw [u1, bd_eq, nI_1]
          have hf' := rD_snoc (la := fun _ => 1) hip hi
          obtain ⟨σ3, v1, v2⟩ := ih k (p ++ [i]) _ σ2 (by omega) (by omega) (by rw [List.length_append]; show p.length + 1 + f = N; omega) (fun j hj => by
            rcases List.mem_append.mp hj with z | z
            · exact hp j z
            · rw [List.mem_singleton.mp z]; exact hi) u2
          rw [List.length_append, show [i].length = 1 from rfl] at v1
          rw [v1, bd_eq]
          obtain ⟨σ4, σ5, w1, w2, w3, w4⟩ := unplace_X n hn hW hN hi hgi hip hni hpG v2
          rw [w1, bd_eq, w2, w3, bd_eq, nI_1]
          exact ⟨_, rfl, σ5, rfl, w4⟩) (by
        rintro s ⟨σi, rfl, hSi⟩
        have g6 : σi.1 15 6 = nI N := hSi.1.2.1
        unfold b_1_tryOrders_32
        simp only [nm_eq]
        rw [g6, if_pos (nI_le (Nat.le_refl N) (by omega))]
        exact ⟨_, rfl, hSi⟩) (n := n) (by omega) (s := (0, σ)) ⟨σ, rfl, hS⟩
      rw [he, bd_eq]
      exact ⟨_, rfl, hX⟩
/-- the guests who are there, by number -/
def gsO (th : Nat → Bool) (G : Nat) : Nat → Nat := fun i => (thL th G).getD i 0
theorem thL_pre {i : Nat} : ∀ {g G : Nat}, g ≤ G → i < (thL th g).length → (thL th G).getD i 0 = (thL th g).getD i 0 := by
  intro g G
  induction G with
  | zero => intro h _; rw [show g = 0 by omega]
  | succ G ih =>
    intro h hi
    by_cases e : g = G + 1
    · rw [e]
    · have h1 := ih (by omega) hi
      have h2 : (thL th g).length ≤ (thL th G).length := by
        have hgG' : g ≤ G := by omega
        clear ih h1 hi h
        have : ∀ k, (thL th g).length ≤ (thL th (g + k)).length := by
          intro k
          induction k with
          | zero => exact Nat.le_refl _
          | succ k ih =>
            refine Nat.le_trans ih ?_
            rw [← Nat.add_assoc, thL]
            split
            · rw [List.length_append]; omega
            · exact Nat.le_refl _
        have := this (G - g)
        rwa [show g + (G - g) = G by omega] at this
      rw [thL]
      split
      · rw [getD_app (by omega)]; exact h1
      · exact h1
theorem thC_mono : ∀ {g G : Nat}, g ≤ G → thC th g ≤ thC th G := by
  intro g G
  induction G with
  | zero => intro h; rw [show g = 0 by omega]; exact Nat.le_refl _
  | succ G ih =>
    intro h
    by_cases e : g = G + 1
    · rw [e]; exact Nat.le_refl _
    · have := ih (by omega)
      rw [thC]; omega
theorem gsO_lt {i : Nat} (hi : i < thC th G) : gsO th G i < G := (thL_mem.mp (getD_mem (by rw [thL_len]; exact hi))).1
theorem gsO_mono {i j : Nat} (hij : i < j) (hj : j < thC th G) : gsO th G i < gsO th G j := thL_mono hij (by rw [thL_len]; exact hj)
theorem gsO_inj : ∀ i j, i < thC th G → j < thC th G → gsO th G i = gsO th G j → i = j := fun i j hi hj e => by
  rcases Nat.lt_trichotomy i j with z | z | z
  · have := gsO_mono z hj; omega
  · exact z
  · have := gsO_mono z hi; omega
theorem gsO_at {g : Nat} (hg : g < G) (h : th g = true) : gsO th G (thC th g) = g := by
  unfold gsO
  rw [thL_pre (g := g + 1) (by omega) (by rw [thL_len, thC, if_pos h]; omega), thL, if_pos h]
  rw [← thL_len]
  simp
theorem list_X (n : Nat) (hn : 1000 ≤ n) {σ0 σ : St} (hE : enX σ0 c d G P th rk) (hW : enW c d G P rk) (hN : thC th G ≤ 6) (hk : kpX σ0 σ) (h7 : σ.1 15 7 = -1) (h9 : σ.1 15 9 = 0) (h10 : σ.1 15 10 = 0) (hd : dyX σ [] S0) : ∃ σ', f_1_listGuests n σ (nI d) = some σ' ∧ SX c d P (gsO th G) (thC th G) σ0 σ' [] none := by
  have hG8 := hW.2.2.1
  unfold f_1_listGuests
  simp only [nm_eq]
  obtain ⟨e, he, hX⟩ := lq_for (b := b_1_listGuests_8 n (nI d)) (X := fun e => SX c d P (gsO th G) (thC th G) σ0 e.2 [] none) G (fun g s => ∃ σg, s = (nI g, σg) ∧ kpX σ0 σg ∧ σg.1 15 6 = nI (thC th g) ∧ σg.1 15 7 = -1 ∧ σg.1 15 9 = nI (rD (laD c d P (gsO th G)) [] (thC th g)) ∧ σg.1 15 10 = nI (rD (laO c d P (gsO th G)) [] (thC th g)) ∧ (∀ i, i < thC th g → σg.1 16 i = nI (gsO th G i) ∧ σg.1 17 i = nI (laD c d P (gsO th G) i) ∧ σg.1 18 i = nI (laO c d P (gsO th G) i) ∧ σg.1 19 i = 0) ∧ dyX σg [] S0) (by
    rintro g s hg ⟨σg, rfl, i1, i2, i3, i4, i5, i6, i7⟩
    have hEg := enX_kp hG8 i1 hE
    have hmono := thC_mono (th := th) (show g + 1 ≤ G by omega)
    have hmono' := thC_mono (th := th) (show g ≤ G by omega)
    unfold b_1_listGuests_8
    simp only [nm_eq]
    rw [hEg.2.1, if_neg (nI_ge hg (by omega)), i2]
    by_cases e6 : 6 ≤ thC th g
    · right
      rw [if_pos (show (6 : Int32) ≤ nI (thC th g) from nI_le (a := 6) e6 (by omega))]
      have hNg : thC th G = thC th g := by omega
      refine ⟨_, rfl, ⟨i1, by rw [hNg]; exact i2, fun i hi => ?_⟩, ?_, ?_, fun i hi => ?_, fun j hj => by simp at hj, i3, i7⟩
      · rw [hNg] at hi
        obtain ⟨a1, a2, a3, a4⟩ := i6 i hi
        exact ⟨a1, a2, a3⟩
      · show σg.1 15 9 = nI (0 + rD _ [] (thC th G)); rw [Nat.zero_add, hNg]; exact i4
      · show σg.1 15 10 = nI (0 + rD _ [] (thC th G)); rw [Nat.zero_add, hNg]; exact i5
      · rw [hNg] at hi
        rw [(i6 i hi).2.2.2, if_neg (by simp)]
    · left
      rw [if_neg (show ¬ (6 : Int32) ≤ nI (thC th g) from nI_ge (b := 6) (by omega) (by decide)), there_X n hEg hG8 hg, bd_eq]
      simp only
      by_cases y : th g = true
      · rw [if_pos y, if_neg (by decide)]
        obtain ⟨σ1, t1, t2, t3⟩ := add_X n hn hEg hW hg i7 S0_W
        rw [t1, bd_eq]
        have hk1 : ∀ k, k < 76 → σ1.1 k = σg.1 k := frX_lt t3
        have hrow := (t2.1 g (List.mem_append_right _ (List.mem_singleton.mpr rfl))).2
        have hrow : rwX g σ1 (gFin c d (P g) S0.2.1 S0.2.2) := by
          have e : (dAdd c d P S0 g).1 g = gFin c d (P g) S0.2.1 S0.2.2 := if_pos rfl
          rw [← e]; exact hrow
        have hgs : gsO th G (thC th g) = g := gsO_at hg y
        have hr2 : σ1.1 (76 + g) 2 = nI (laD c d P (gsO th G) (thC th g)) := by
          unfold laD; rw [hgs]
          generalize gFin c d (P g) S0.2.1 S0.2.2 = x at hrow
          obtain ⟨now, str, len, ov, gl, lo, ac, T, B⟩ := x
          exact hrow.2.2.1
        have hr3 : σ1.1 (76 + g) 3 = nI (laO c d P (gsO th G) (thC th g)) := by
          unfold laO; rw [hgs]
          generalize gFin c d (P g) S0.2.1 S0.2.2 = x at hrow
          obtain ⟨now, str, len, ov, gl, lo, ac, T, B⟩ := x
          exact hrow.2.2.2.1
        have u6 : σ1.1 15 6 = nI (thC th g) := by rw [hk1 15 (by omega)]; exact i2
        have u9 := (congrFun (hk1 15 (by omega)) 9).trans i4
        have u10 := (congrFun (hk1 15 (by omega)) 10).trans i5
        have hb6 : inb (nI (thC th g)) 6 = true := inb_nI (by omega) (by decide)
        have hcl : (nI (thC th g)).toNatClampNeg = thC th g := nI_clamp (by omega)
        have hcg : (nI g).toNatClampNeg = g := nI_clamp (by omega)
        simp only [si_cell (show (15 : Nat) ≠ 16 by decide), si_cell (show (15 : Nat) ≠ 17 by decide), si_cell (show (15 : Nat) ≠ 18 by decide), si_cell (show (15 : Nat) ≠ 19 by decide), si_place (show (6 : Nat) ≠ 9 by decide), si_place (show (6 : Nat) ≠ 10 by decide), si_place (show (10 : Nat) ≠ 9 by decide), u6, hcl, hcg, gd_t hb6, gd_t (inb_nI (show g < 8 by omega) (show 8 < 2 ^ 31 by decide)), si_cell (show 76 + g ≠ 16 by omega), si_cell (show 76 + g ≠ 17 by omega), hr2, hr3, si_cell (show (17 : Nat) ≠ 19 by decide), si_cell (show (17 : Nat) ≠ 18 by decide), si_hit, si_cell (show (18 : Nat) ≠ 15 by decide), si_cell (show (18 : Nat) ≠ 19 by decide), u9, u10, nI_add, nI_1]
        have hne : ∀ k, k ≠ 15 → k ≠ 16 → k ≠ 17 → k ≠ 18 → k ≠ 19 → ∀ v1 v2 v3 : Int32, (si (si (si (si (si (si (si σ1 16 (thC th g) (nI g)) 17 (thC th g) (nI (laD c d P (gsO th G) (thC th g)))) 18 (thC th g) (nI (laO c d P (gsO th G) (thC th g)))) 19 (thC th g) 0) 15 9 v1) 15 10 v2) 15 6 v3).1 k = σ1.1 k := fun k a b c d e v1 v2 v3 => by rw [si_ne a, si_ne a, si_ne a, si_ne e, si_ne d, si_ne c, si_ne b]
        have hrp : ∀ v1 v2 v3 : Int32, rpX g (si (si (si (si (si (si (si σ1 16 (thC th g) (nI g)) 17 (thC th g) (nI (laD c d P (gsO th G) (thC th g)))) 18 (thC th g) (nI (laO c d P (gsO th G) (thC th g)))) 19 (thC th g) 0) 15 9 v1) 15 10 v2) 15 6 v3) (gFin c d (P g) S0.2.1 S0.2.2) := fun v1 v2 v3 => ⟨rwX_c (σ := σ1) (fun k k1 k2 => hne k (by omega) (by omega) (by omega) (by omega) (by omega) v1 v2 v3) (by omega) hrow, rsX_c (σ := σ1) (fun k hk => hne k (by omega) (by omega) (by omega) (by omega) (by omega) v1 v2 v3) rfl t2.2⟩
        have hx30 := xW_30 (hW.2.2.2 g hg).2.1.1 (gFin_W hW hg S0_W)
        obtain ⟨σ3, r1, r2, r3⟩ := remove_X n hn (show g < 8 by omega) hx30 dJ_fin (hrp _ _ _) S0_W
        rw [r1, bd_eq]
        have hth : thC th (g + 1) = thC th g + 1 := by rw [thC, if_pos y]
        refine ⟨_, rfl, σ3, rfl, fun k hk => ?_, ?_, ?_, ?_, ?_, fun i hi => ?_, fun h hh => by simp at hh, r2⟩
        · rw [r3 k (by omega), hne k (by omega) (by omega) (by omega) (by omega) (by omega), hk1 k (by omega)]; exact i1 k hk
        · rw [r3 15 (by omega), si_hit, hth]
        · rw [r3 15 (by omega), si_place (by decide), si_place (by decide), si_place (by decide), si_cell (by decide), si_cell (by decide), si_cell (by decide), si_cell (by decide), hk1 15 (by omega)]; exact i3
        · rw [r3 15 (by omega), si_place (by decide), si_place (by decide), si_hit, hth, rD, if_neg (by simp)]
        · rw [r3 15 (by omega), si_place (by decide), si_hit, hth, rD, if_neg (by simp)]
        · rw [hth] at hi
          rw [r3 16 (by omega), r3 17 (by omega), r3 18 (by omega), r3 19 (by omega)]
          simp only [si_get, show ¬ (16 : Nat) = 15 by decide, show ¬ (16 : Nat) = 17 by decide, show ¬ (16 : Nat) = 18 by decide, show ¬ (16 : Nat) = 19 by decide, show ¬ (17 : Nat) = 15 by decide, show ¬ (17 : Nat) = 16 by decide, show ¬ (17 : Nat) = 18 by decide, show ¬ (17 : Nat) = 19 by decide, show ¬ (18 : Nat) = 15 by decide, show ¬ (18 : Nat) = 16 by decide, show ¬ (18 : Nat) = 17 by decide, show ¬ (18 : Nat) = 19 by decide, show ¬ (19 : Nat) = 15 by decide, show ¬ (19 : Nat) = 16 by decide, show ¬ (19 : Nat) = 17 by decide, show ¬ (19 : Nat) = 18 by decide, false_and, if_false, true_and]
          by_cases z : i = thC th g
          · subst z
            simp only [if_true]
            rw [hgs]
            exact ⟨rfl, trivial, trivial, trivial⟩
          · simp only [z, if_false]
            rw [hk1 16 (by omega), hk1 17 (by omega), hk1 18 (by omega), hk1 19 (by omega)]
            exact i6 i (by omega)
      · have hth : thC th (g + 1) = thC th g := by rw [thC, if_neg y]; rfl
        rw [if_neg y, if_pos rfl, nI_1]
        exact ⟨_, rfl, σg, rfl, i1, by rw [hth]; exact i2, i3, by rw [hth]; exact i4, by rw [hth]; exact i5, by rw [hth]; exact i6, i7⟩) (by
    rintro s ⟨σg, rfl, i1, i2, i3, i4, i5, i6, i7⟩
    have hEg := enX_kp hG8 i1 hE
    unfold b_1_listGuests_8
    simp only [nm_eq]
    rw [hEg.2.1, if_pos (nI_le (Nat.le_refl G) (by omega))]
    refine ⟨_, rfl, ⟨i1, i2, fun i hi => ?_⟩, ?_, ?_, fun i hi => ?_, fun j hj => by simp at hj, i3, i7⟩
    · obtain ⟨a1, a2, a3, a4⟩ := i6 i hi
      exact ⟨a1, a2, a3⟩
    · show σg.1 15 9 = nI (0 + rD _ [] (thC th G)); rw [Nat.zero_add]; exact i4
    · show σg.1 15 10 = nI (0 + rD _ [] (thC th G)); rw [Nat.zero_add]; exact i5
    · rw [(i6 i hi).2.2.2, if_neg (by simp)]) (n := n) (by omega) (s := (0, si σ 15 6 0)) ⟨si σ 15 6 0, rfl, fun k hk' => by rw [si_ne (by omega)]; exact hk k hk', by rw [si_hit]; rfl, by rw [si_place (by decide)]; exact h7, by rw [si_place (by decide)]; exact h9, by rw [si_place (by decide)]; exact h10, fun i hi => absurd hi (Nat.not_lt_zero i), fun h hh => by simp at hh, rsX_c (σ := σ) (fun k hk => si_ne (by omega)) rfl hd.2⟩
  rw [he, bd_eq]
  exact ⟨_, rfl, hX⟩
theorem run_X (n : Nat) (hn : 1000 ≤ n) {σ : St} (hE : enX σ c d G P th rk) (hW : enW c d G P rk) (hN : thC th G ≤ 6) : ∃ σ', f_1_run n σ (nI d) = some σ' ∧ kpX σ σ' ∧ σ'.1 15 6 = nI (thC th G) ∧ bsX (thC th G) (gsO th G) σ' ((comps (thC th G) (thC th G) []).foldl (bF c d P (gsO th G)) none) := by
  unfold f_1_run
  simp only [nm_eq]
  obtain ⟨σ1, t1, t2, t3⟩ := clear_X n hn (σ := si (si (si (si σ 15 7 (-1)) 15 8 0) 15 9 0) 15 10 0)
  rw [t1, bd_eq]
  obtain ⟨σ2, u1, u2⟩ := list_X n hn (σ := σ1) hE hW hN (fun k hk => by rw [t2 k (by omega), si_ne (by omega), si_ne (by omega), si_ne (by omega), si_ne (by omega)]) (by rw [t2 15 (by omega), si_place (by decide), si_place (by decide), si_place (by decide), si_hit]) (by rw [t2 15 (by omega), si_place (by decide), si_hit]) (by rw [t2 15 (by omega), si_hit]) t3
  rw [u1, bd_eq]
  obtain ⟨σ3, v1, v2⟩ := try_X n hn hE hW hN (fun i hi => gsO_lt hi) gsO_inj (thC th G) 8 [] none σ2 (by omega) rD_nil (by show 0 + thC th G = thC th G; omega) (fun i hi => by simp at hi) u2
  rw [show (0 : Int32) = nI ([] : List Nat).length from rfl, v1, bd_eq]
  exact ⟨_, rfl, v2.1.1, v2.1.2.1, v2.2.2.2.2.2.1⟩
end TX
