/-! next, whole -/
section NX
variable {c : Cf} {d G : Nat} {P : Pg} {th : Nat → Bool} {rk : Nat → Nat}
theorem layBest_X (n : Nat) (hn : 1000 ≤ n) {σ0 σ : St} {N D O : Nat} {gs : Nat → Nat} {q : List Nat} (hE : enX σ0 c d G P th rk) (hW : enW c d G P rk) (hk : kpX σ0 σ) (hN : N ≤ 6) (h6 : σ.1 15 6 = nI N) (hb : bsX N gs σ (some (D, O, q))) (hgs : ∀ i, i < N → gs i < G) (hok : okL N q = true) : ∃ σ', f_1_layOutBest n σ (nI d) = some σ' ∧ kpX σ0 σ' ∧ dyX σ' (q.map gs) (dLay c d P (q.map gs) S0) := by
  have hG := hW.2.2.1
  obtain ⟨o1, o2, o3⟩ := okL_of hok
  obtain ⟨b1, b2, b3, b4, b5⟩ := hb
  have hml : (q.map gs).length = N := by rw [List.length_map]; exact o1
  have hlG : ∀ g, g ∈ q.map gs → g < G := fun g hg => by obtain ⟨j, hj, rfl⟩ := List.mem_map.mp hg; exact hgs j (o2 j hj)
  unfold f_1_layOutBest
  obtain ⟨σ1, t1, t2, t3⟩ := clear_X n hn (σ := σ)
  rw [t1, bd_eq]
  obtain ⟨e, he, hX⟩ := lq_for (b := b_1_layOutBest_7 n (nI d)) (X := fun e => kpX σ0 e.2 ∧ dyX e.2 (q.map gs) (dLay c d P (q.map gs) S0)) N (fun i s => ∃ σi, s = (nI i, σi) ∧ (∀ k, k < 76 → σi.1 k = σ.1 k) ∧ dyX σi ((q.map gs).take i) (dLay c d P ((q.map gs).take i) S0)) (by
    rintro i s hi ⟨σi, rfl, h1, h2⟩
    left
    have hki : kpX σ0 σi := fun k hk' => by rw [h1 k (by omega)]; exact hk k hk'
    have hEi := enX_kp hG hki hE
    unfold b_1_layOutBest_7
    simp only [nm_eq]
    have hi' : i < (q.map gs).length := by omega
    have hget : gs (q.getD i 0) = (q.map gs)[i] := by
      rw [← getD_map (gs := gs) (l := q) (j := i) (by omega), List.getD_eq_getElem?_getD, List.getElem?_eq_getElem hi']; rfl
    have hgG : (q.map gs)[i] < G := hlG _ (List.getElem_mem hi')
    have hmem : ∀ g, g ∈ (q.map gs).take i → g < G := fun g hg => hlG g (List.mem_of_mem_take hg)
    rw [h1 15 (by omega), h6, if_neg (nI_ge hi (by omega)), gd_t (inb_nI (show i < 6 by omega) (by decide)), nI_clamp (by omega), h1 21 (by omega), b5 i hi, hget]
    obtain ⟨σ', u1, u2, u3⟩ := add_X n hn hEi hW hgG h2 (dLay_W hW _ _ hmem S0_W)
    rw [u1, bd_eq, nI_1]
    have htk : (q.map gs).take (i + 1) = (q.map gs).take i ++ [(q.map gs)[i]] := List.take_succ_eq_append_getElem hi'
    refine ⟨_, rfl, σ', rfl, fun k hk' => by rw [frX_lt u3 k hk']; exact h1 k hk', ?_⟩
    rw [htk, dLay_snoc]; exact u2) (by
    rintro s ⟨σi, rfl, h1, h2⟩
    unfold b_1_layOutBest_7
    simp only [nm_eq]
    rw [h1 15 (by omega), h6, if_pos (nI_le (Nat.le_refl N) (by omega))]
    have hfull : (q.map gs).take N = q.map gs := by rw [← hml, List.take_length]
    rw [hfull] at h2
    exact ⟨_, rfl, fun k hk' => by rw [h1 k (by omega)]; exact hk k hk', h2⟩) (n := n) (by omega) (s := (0, σ1)) ⟨σ1, rfl, fun k hk' => t2 k (by omega), t3⟩
  rw [he, bd_eq]
  exact ⟨_, rfl, hX⟩
theorem order_M (n : Nat) (hn : 1000 ≤ n) {τ : St} (hE : enM τ c d G P th rk) (hG : G ≤ 8) (hd : τ.1 0 0 = nI d) : ∃ (z : Int32) (τ' : St), lq (b_11_next_49 n) n (0, τ) = some (z, τ') ∧ k26 τ τ' ∧ ∀ j, j < thC th G → τ'.1 26 j = τ.1 35 j := by
  have hle := thC_le (th := th) (G := G)
  obtain ⟨e, he, hX⟩ := lq_for (b := b_11_next_49 n) (X := fun e => k26 τ e.2 ∧ ∀ j, j < thC th G → e.2.1 26 j = τ.1 35 j) (thC th G) (fun i s => ∃ τi, s = (nI i, τi) ∧ k26 τ τi ∧ ∀ j, j < i → τi.1 26 j = τ.1 35 j) (by
    rintro i s hi ⟨τi, rfl, h1, h2⟩
    left
    have hEi := k26_en h1 hE
    unfold b_11_next_49
    simp only [nm_eq]
    rw [h1.1 0 (by decide), hd, cnt_M n hn hEi hG, bd_eq]
    simp only
    rw [if_neg (nI_ge hi (by omega)), gd_t (inb_nI (show i < 8 by omega) (by decide)), nI_clamp (by omega), nI_1]
    refine ⟨_, rfl, _, rfl, ⟨fun k hk => by rw [si_ne hk]; exact h1.1 k hk, h1.2⟩, fun j hj => ?_⟩
    rw [si_get]
    by_cases z : j = i
    · rw [if_pos ⟨rfl, z⟩, h1.1 35 (by decide), z]
    · rw [if_neg (fun y => z y.2)]; exact h2 j (by omega)) (by
    rintro s ⟨τi, rfl, h1, h2⟩
    have hEi := k26_en h1 hE
    unfold b_11_next_49
    simp only [nm_eq]
    rw [h1.1 0 (by decide), hd, cnt_M n hn hEi hG, bd_eq]
    simp only
    rw [if_pos (nI_le (Nat.le_refl _) (by omega))]
    exact ⟨_, rfl, h1, h2⟩) (n := n) (by omega) (s := (0, τ)) ⟨τ, rfl, ⟨fun _ _ => rfl, rfl⟩, fun j hj => absurd hj (Nat.not_lt_zero j)⟩
  exact ⟨e.1, e.2, by rw [he], hX⟩
end NX
theorem kpM_th {τ τ' : St} {D : Nat} (h : kpM τ τ') : thO τ' D = thO τ D := by
  unfold thO
  rw [h.1 18 (by omega) (by omega), h.1 19 (by omega) (by omega)]
/-- the relation's own numbers after what a layout leaves -/
theorem Rel_same {σ τ σ' τ' : St} {D G K L : Nat} (hG : G ≤ 8) (hK : K ≤ 8) (h0 : r0 σ τ D G K L) (hS : rS σ τ) (hC : rC σ τ) (hO : rO σ τ) (hB : rB σ τ) (hV : rV σ τ) (hg : rG σ τ G K) (hR : rR σ τ K) (hT : rT σ τ L) (hX : kpX σ σ') (hM : kpM τ τ') : r0 σ' τ' D G K L ∧ rS σ' τ' ∧ rC σ' τ' ∧ rO σ' τ' ∧ rB σ' τ' ∧ rV σ' τ' ∧ rG σ' τ' G K ∧ rR σ' τ' K ∧ rT σ' τ' L := by
  obtain ⟨m1, m2, m3⟩ := hM
  refine ⟨?_, rS_c (fun s j hs hj => by rw [hX _ (by omega)]) (fun k s h1 h2 hs => by rw [m1 k h1 (by omega)]) hS, rC_c (fun s j hs _ hj => by rw [hX _ (by omega)]) (fun k s h1 h2 hs => by rw [m1 k (by omega) (by omega)]) hC, rO_c (fun k h1 h2 => hX k (by omega)) (m1 _ (by omega) (by omega)) hO, rB_c (fun k h1 h2 => hX k (by omega)) (m1 _ (by omega) (by omega)) (m1 _ (by omega) (by omega)) hB, rV_c (hX _ (by omega)) (m1 _ (by omega) (by omega)) hV, rG_c (fun k h1 h2 => hX k (by omega)) (fun k h1 h2 => m1 k (by omega) (by omega)) hg, rR_c hK (fun k h1 h2 => hX k (by omega)) (by rw [m3]) (m1 _ (by omega) (by omega)) (m1 _ (by omega) (by omega)) hR, rT_c (hX _ (by omega)) (m1 _ (by omega) (by omega)) hT⟩
  unfold r0 at h0 ⊢
  rw [hX 0 (by omega), hX 1 (by omega), hX 6 (by omega), hX 7 (by omega), m2 0 (by decide) (by decide) (by decide), m2 53 (by decide) (by decide) (by decide), m2 59 (by decide) (by decide) (by decide), m2 60 (by decide) (by decide) (by decide), m2 1 (by decide) (by decide) (by decide), m2 2 (by decide) (by decide) (by decide), m2 25 (by decide) (by decide) (by decide), m2 26 (by decide) (by decide) (by decide), m2 18 (by decide) (by decide) (by decide)]
  exact h0
theorem sim_next (n : Nat) (hn : 1000 ≤ n) : Sim Rel (fun σ => f_10_next n σ) (fun τ => f_11_next n τ) := by
  intro σ τ hR
  have hR' := hR
  obtain ⟨D, G, K, L, hD, hG, hK, hL, h0, hS, hC, hO, hB, hV, hg, hRr, hT⟩ := hR
  obtain ⟨hEX, hEM, hEW⟩ := env_Rel hD hG hK h0 hS hB hg hRr
  show ∃ r σ' τ', f_10_next n σ = some (r, σ') ∧ f_11_next n τ = some (r, τ') ∧ Rel σ' τ'
  unfold f_10_next f_11_next
  rw [h0.1, h0.2.1]
  by_cases h99 : D = 99
  · rw [if_neg (show ¬ nI D < (99 : Int32) from nI_nlt (b := 99) (by omega) (by omega)), if_pos (show nI D = 99 by rw [h99]; rfl)]
    exact ⟨_, σ, τ, rfl, rfl, hR'⟩
  have hD99 : D < 99 := by omega
  rw [if_pos (show nI D < (99 : Int32) from nI_lt (b := 99) hD99 (by decide)), if_neg (show ¬ nI D = 99 from fun z => h99 ((nI_eq (b := 99) (by omega) (by decide)).mp z))]
  obtain ⟨τ1, m1, m2, m3⟩ := ranks_M n hn hEM hEW
  have hkp1 := k26_kp m2
  have hEM1 := k26_en m2 hEM
  have hd1 : τ1.1 0 0 = nI D := by rw [m2.1 0 (by decide)]; exact h0.2.1
  have h53 : τ1.1 0 53 = σ.1 0 4 := by rw [m2.1 0 (by decide)]; exact h0.2.2.1.symm
  rw [m1, bd_eq, h53]
  -- by rank
  have byRank : ∃ r σ' τ', ((f_3_layOutByRank n σ (nI D)).bind fun r => j_10_next_90 n r) = some (r, σ') ∧ j_11_next_79 n τ1 = some (r, τ') ∧ Rel σ' τ' := by
    obtain ⟨σ2, x1, x2, x3⟩ := rank_X n hn hEX hEW
    obtain ⟨τ2, l1, l2, l3, l4⟩ := lays_M n hn hEM1 hEW (fun g hg => (rkA_mem.mp hg).1) (rkA_len (fun g hg => (hEW.2.2.2 g hg).2.2)) m3
    have hkX := dyX_kp x2
    have hkM := kpM_tr hkp1 (kL_kp l2)
    obtain ⟨s0, s1, s2, s3, s4, s5, s6, s7, s8⟩ := Rel_same hG hK h0 hS hC hO hB hV hg hRr hT hkX hkM
    unfold j_11_next_79
    rw [x1, bd_eq, hd1, l1, bd_eq]
    simp only [nm_eq]
    exact close_sim n hn hD99 hG hK hL s0 s1 s2 s3 s4 s5 s6 s7 s8 x3 l3 (fun g hgG hth => by
      rw [kpM_th hkM] at hth
      exact rkA_mem.mpr ⟨hgG, hth, (hEW.2.2.2 g hgG).2.2⟩)
  by_cases hb : σ.1 0 4 = 0
  · rw [if_pos hb, if_pos hb]
    exact byRank
  · rw [if_neg hb, if_neg hb, cnt_X n hn hEX hG, hd1, cnt_M n hn hEM1 hG]
    simp only [bd_eq]
    rw [h0.1, hd1]
    have hle := thC_le (th := thO τ D) (G := G)
    by_cases h6 : 6 < thC (thO τ D) G
    · rw [if_pos (show (6 : Int32) < nI (thC (thO τ D) G) from nI_lt (a := 6) h6 (by omega)), if_pos (show (6 : Int32) < nI (thC (thO τ D) G) from nI_lt (a := 6) h6 (by omega))]
      exact byRank
    · have h6' : thC (thO τ D) G ≤ 6 := by omega
      rw [if_neg (show ¬ (6 : Int32) < nI (thC (thO τ D) G) from nI_nlt (a := 6) h6' (by decide)), if_neg (show ¬ (6 : Int32) < nI (thC (thO τ D) G) from nI_nlt (a := 6) h6' (by decide))]
      obtain ⟨σ2, x1, x2, x3, x4⟩ := run_X n hn hEX hEW h6'
      obtain ⟨τ2, f1, f2, f3⟩ := finds_M n hn hEM1 hEW h6'
      obtain ⟨Db, Ob, q, hq, hok⟩ := fin_some (c := cfO τ) (d := D) (P := pgO τ) (gs := gsO (thO τ D) G) (N := thC (thO τ D) G) h6'
      rw [hq] at x4 f3
      have hqm : q ∈ comps (thC (thO τ D) G) (thC (thO τ D) G) [] := by
        rcases fold_mem hq with z | z
        · exact z
        · cases z
      obtain ⟨o1, o2, o3⟩ := okL_of hok
      obtain ⟨σ3, y1, y2, y3⟩ := layBest_X n hn hEX hEW x2 h6' x3 x4 (fun i hi => gsO_lt hi) hok
      have hEM2 := kpM_en f2 hEM1
      have hd2 : τ2.1 0 0 = nI D := by rw [f2.2.1 0 (by decide) (by decide) (by decide)]; exact hd1
      obtain ⟨z, τ3, p1, p2, p3⟩ := order_M n hn hEM2 hG hd2
      have hEM3 := k26_en p2 hEM2
      have hd3 : τ3.1 0 0 = nI D := by rw [p2.1 0 (by decide)]; exact hd2
      have hml : (q.map (gsO (thO τ D) G)).length = thC (thO τ D) G := by rw [List.length_map]; exact o1
      have har : arM τ3 (q.map (gsO (thO τ D) G)) := fun j hj => by
        rw [hml] at hj
        rw [p3 j hj, f3.2.2.2.2 j hj, getD_map (by omega)]
      have hlG : ∀ g, g ∈ q.map (gsO (thO τ D) G) → g < G := fun g hg => by obtain ⟨j, hj, rfl⟩ := List.mem_map.mp hg; exact gsO_lt (o2 j hj)
      obtain ⟨τ4, l1, l2, l3, l4⟩ := lays_M n hn hEM3 hEW hlG hml har
      have hkM := kpM_tr (kpM_tr hkp1 f2) (kpM_tr (k26_kp p2) (kL_kp l2))
      obtain ⟨s0, s1, s2, s3, s4, s5, s6, s7, s8⟩ := Rel_same hG hK h0 hS hC hO hB hV hg hRr hT y2 hkM
      have hd2x : σ2.1 0 3 = nI D := by rw [x2 0 (by omega)]; exact h0.1
      rw [x1, bd_eq, hd2x, y1, bd_eq, f1, bd_eq, p1, bd_eq]
      simp only
      unfold j_11_next_79
      rw [hd3, l1, bd_eq]
      simp only [nm_eq]
      exact close_sim n hn hD99 hG hK hL s0 s1 s2 s3 s4 s5 s6 s7 s8 y3 l3 (fun g hgG hth => by
        rw [kpM_th hkM] at hth
        have h1 : thC (thO τ D) g < thC (thO τ D) G := by
          have := thC_mono (th := thO τ D) (show g + 1 ≤ G by omega)
          rw [thC, if_pos hth] at this
          omega
        refine List.mem_map.mpr ⟨thC (thO τ D) g, comps_has (by omega) hqm h1, gsO_at hgG hth⟩)
