/-! plan, taken -/
def cfO (τ : St) : Cf := (fun s => (τ.1 1 s).toNatClampNeg, fun s => (τ.1 2 s).toNatClampNeg, fun s => (τ.1 3 s).toNatClampNeg, fun s => (τ.1 4 s).toNatClampNeg, fun k a => decide (¬ τ.1 7 k = 0 ∧ τ.1 5 k = nI a))
def pgO (τ : St) : Pg := fun g => ((τ.1 20 g).toNatClampNeg, (τ.1 10 (τ.1 17 g).toNatClampNeg).toNatClampNeg, fun i => ((τ.1 11 (90 * (τ.1 17 g).toNatClampNeg + 3 * i)).toNatClampNeg, (τ.1 11 (90 * (τ.1 17 g).toNatClampNeg + 3 * i + 1)).toNatClampNeg, (τ.1 11 (90 * (τ.1 17 g).toNatClampNeg + 3 * i + 2)).toNatClampNeg))
def thO (τ : St) (d : Nat) : Nat → Bool := fun g => decide (τ.1 18 g ≤ nI d ∧ nI d < τ.1 19 g)
def rkO (τ : St) : Nat → Nat := fun g => (τ.1 16 g).toNatClampNeg
theorem wfA_le {w a b i c : Nat} (h : wfA w a b i c) : w ≤ 4 ∧ a ≤ 47 ∧ ((w = 1 ∨ w = 4) → b ≤ 16 ∨ b ≤ c) := by
  rcases h with ⟨rfl, h⟩ | ⟨rfl, h1, h2, h3⟩ | ⟨rfl, h1, h2⟩ | ⟨rfl, h⟩ | ⟨rfl, h1, h2, h3, h4⟩
  · exact ⟨by omega, by omega, fun z => by omega⟩
  · exact ⟨by omega, by omega, fun z => by omega⟩
  · exact ⟨by omega, by omega, fun z => by omega⟩
  · exact ⟨by omega, by omega, fun z => by omega⟩
  · exact ⟨by omega, by omega, fun z => by omega⟩
theorem wfA_b {w a b b' i c : Nat} (h : wfA w a b i c) (hb : (w = 1 ∨ w = 4) → b' = b) : wfA w a b' i c := by
  rcases h with ⟨rfl, h⟩ | ⟨rfl, h1, h2, h3⟩ | ⟨rfl, h1, h2⟩ | ⟨rfl, h⟩ | ⟨rfl, h1, h2, h3, h4⟩
  · exact .inl ⟨rfl, h⟩
  · rw [hb (.inl rfl)]; exact .inr (.inl ⟨rfl, h1, h2, h3⟩)
  · exact .inr (.inr (.inl ⟨rfl, h1, h2⟩))
  · exact .inr (.inr (.inr (.inl ⟨rfl, h⟩)))
  · rw [hb (.inr rfl)]; exact .inr (.inr (.inr (.inr ⟨rfl, h1, h2, h3, h4⟩)))
theorem env_Rel {σ τ : St} {D G K L d : Nat} (hd : d ≤ 99) (hG : G ≤ 8) (hK : K ≤ 8) (h0 : r0 σ τ D G K L) (hS : rS σ τ) (hB : rB σ τ) (hg : rG σ τ G K) (hR : rR σ τ K) : enX σ (cfO τ) d G (pgO τ) (thO τ d) (rkO τ) ∧ enM τ (cfO τ) d G (pgO τ) (thO τ d) (rkO τ) ∧ enW (cfO τ) d G (pgO τ) (rkO τ) := by
  have h6 : σ.1 1 5 = nI G := h0.2.2.2.2.2.1
  have h7 : τ.1 0 1 = nI G := h0.2.2.2.2.2.2.1
  -- springs
  have hs : ∀ s, s < 4 → (σ.1 (22 + s) 0 = nI ((cfO τ).1 s) ∧ σ.1 (22 + s) 1 = nI ((cfO τ).2.1 s) ∧ σ.1 (22 + s) 2 = nI ((cfO τ).2.2.1 s) ∧ σ.1 (22 + s) 3 = nI ((cfO τ).2.2.2.1 s)) ∧ (τ.1 1 s = nI ((cfO τ).1 s) ∧ τ.1 2 s = nI ((cfO τ).2.1 s) ∧ τ.1 3 s = nI ((cfO τ).2.2.1 s) ∧ τ.1 4 s = nI ((cfO τ).2.2.2.1 s)) ∧ (cfO τ).1 s ≤ 9 ∧ (cfO τ).2.1 s ≤ (cfO τ).2.2.1 s ∧ (cfO τ).2.2.1 s ≤ 48 ∧ (cfO τ).2.2.2.1 s ≤ 9 := fun s hs => by
    obtain ⟨a, b, c, d, q1, q2, q3, q4, ⟨x0, y0⟩, ⟨x1, y1⟩, ⟨x2, y2⟩, x3, y3⟩ := hS s hs
    have e0 : (cfO τ).1 s = a := by show (τ.1 1 s).toNatClampNeg = a; rw [y0, nI_clamp (by omega)]
    have e1 : (cfO τ).2.1 s = b := by show (τ.1 2 s).toNatClampNeg = b; rw [y1, nI_clamp (by omega)]
    have e2 : (cfO τ).2.2.1 s = c := by show (τ.1 3 s).toNatClampNeg = c; rw [y2, nI_clamp (by omega)]
    have e3 : (cfO τ).2.2.2.1 s = d := by show (τ.1 4 s).toNatClampNeg = d; rw [y3, nI_clamp (by omega)]
    rw [e0, e1, e2, e3]
    exact ⟨⟨x0, x1, x2, x3⟩, ⟨y0, y1, y2, y3⟩, q1, q2, q3, q4⟩
  -- guests
  have hgu : ∀ g, g < G → ∃ r q b, r < 4 ∧ q < K ∧ b ≤ 99 ∧ guX σ g q b ((pgO τ g).2.1) ((pgO τ g).2.2) ∧ guM τ g q b ((pgO τ g).2.1) ((pgO τ g).2.2) ∧ rgW ((pgO τ g).2.2) ((pgO τ g).2.1) ∧ (pgO τ g).1 = b ∧ rkO τ g = r ∧ τ.1 16 g = nI r := fun g hgG => by
    obtain ⟨r, q, b, hr, hq, hb, z1, z2, z3⟩ := hg.2 g hgG
    obtain ⟨hnm, c, hc, c1, c2, hact⟩ := hR q hq
    have eq : (τ.1 17 g).toNatClampNeg = q := by rw [z2, nI_clamp (by omega)]
    have em : (pgO τ g).2.1 = c := by show (τ.1 10 (τ.1 17 g).toNatClampNeg).toNatClampNeg = c; rw [eq, c2, nI_clamp (by omega)]
    have hA : ∀ i, i < c → wfA ((pgO τ g).2.2 i).1 ((pgO τ g).2.2 i).2.1 ((pgO τ g).2.2 i).2.2 i c ∧ (σ.1 (52 + q) i = nI ((pgO τ g).2.2 i).1 ∧ σ.1 (60 + q) i = nI ((pgO τ g).2.2 i).2.1 ∧ (((pgO τ g).2.2 i).1 = 1 ∨ ((pgO τ g).2.2 i).1 = 4 → σ.1 (68 + q) i = nI ((pgO τ g).2.2 i).2.2)) ∧ (τ.1 11 (90 * q + 3 * i) = nI ((pgO τ g).2.2 i).1 ∧ τ.1 11 (90 * q + 3 * i + 1) = nI ((pgO τ g).2.2 i).2.1 ∧ (((pgO τ g).2.2 i).1 = 1 ∨ ((pgO τ g).2.2 i).1 = 4 → τ.1 11 (90 * q + 3 * i + 2) = nI ((pgO τ g).2.2 i).2.2)) := fun i hi => by
      obtain ⟨w, a, b', hwf, y1, y2, y3, y4, y5⟩ := hact i hi
      obtain ⟨l1, l2, l3⟩ := wfA_le hwf
      have y2 : τ.1 11 (90 * q + 3 * i) = nI w := y2
      have y4 : τ.1 11 (90 * q + 3 * i + 1) = nI a := y4
      have ew : ((pgO τ g).2.2 i).1 = w := by show (τ.1 11 (90 * (τ.1 17 g).toNatClampNeg + 3 * i)).toNatClampNeg = w; rw [eq, y2, nI_clamp (by omega)]
      have ea : ((pgO τ g).2.2 i).2.1 = a := by show (τ.1 11 (90 * (τ.1 17 g).toNatClampNeg + 3 * i + 1)).toNatClampNeg = a; rw [eq, y4, nI_clamp (by omega)]
      have eb : (w = 1 ∨ w = 4) → ((pgO τ g).2.2 i).2.2 = b' := fun z => by
        have y6 : τ.1 11 (90 * q + 3 * i + 2) = nI b' := (y5 z).2
        have := l3 z
        show (τ.1 11 (90 * (τ.1 17 g).toNatClampNeg + 3 * i + 2)).toNatClampNeg = b'
        rw [eq, y6, nI_clamp (by omega)]
      rw [ew, ea]
      refine ⟨wfA_b hwf eb, ⟨y1, y3, fun z => ?_⟩, y2, y4, fun z => ?_⟩
      · rw [eb z]; exact (y5 z).1
      · rw [eb z]; exact (y5 z).2
    have hX1 : σ.1 (36 + g) 1 = nI q := by rw [hg.1 g 1 (by omega) (by omega)]; exact z2
    have hX4 : σ.1 (36 + g) 4 = nI b := by rw [hg.1 g 4 (by omega) (by omega)]; exact z3
    refine ⟨r, q, b, hr, hq, hb, ?_, ?_, ?_, by show (τ.1 20 g).toNatClampNeg = b; rw [z3, nI_clamp (by omega)], by show (τ.1 16 g).toNatClampNeg = r; rw [z1, nI_clamp (by omega)], z1⟩
    · rw [em]; exact ⟨hX1, by omega, hX4, c1, fun i hi => (hA i hi).2.1⟩
    · rw [em]; exact ⟨z2, by omega, z3, c2, fun i hi => (hA i hi).2.2⟩
    · rw [em]; exact ⟨hc, fun i hi => (hA i hi).1⟩
  refine ⟨⟨⟨fun s h => (hs s h).1, fun k a hk ha => ?_⟩, h6, fun g h => ?_⟩, ⟨⟨fun s h => (hs s h).2.1, fun k a hk ha => ?_⟩, h7, fun g h => ?_⟩, fun s h => (hs s h).2.2, hd, hG, fun g h => ?_⟩
  · show decide (¬ τ.1 7 k = 0 ∧ τ.1 5 k = nI a) = true ↔ _
    rw [decide_eq_true_eq, (hB k hk).1, (hB k hk).2]
  · obtain ⟨r, q, b, hr, hq, hb, g1, g2, g3, g4, g5, g6⟩ := hgu g h
    refine ⟨⟨q, by rw [g4]; exact g1⟩, by rw [hg.1 g 0 (by omega) (by omega), g5]; exact g6, ?_⟩
    show decide (τ.1 18 g ≤ nI d ∧ nI d < τ.1 19 g) = true ↔ _
    rw [decide_eq_true_eq, hg.1 g 2 (by omega) (by omega), hg.1 g 3 (by omega) (by omega)]
  · show decide (¬ τ.1 7 k = 0 ∧ τ.1 5 k = nI a) = true ↔ _
    rw [decide_eq_true_eq]
  · obtain ⟨r, q, b, hr, hq, hb, g1, g2, g3, g4, g5, g6⟩ := hgu g h
    refine ⟨⟨q, by rw [g4]; exact g2⟩, by rw [g5]; exact g6, ?_⟩
    show decide (τ.1 18 g ≤ nI d ∧ nI d < τ.1 19 g) = true ↔ _
    rw [decide_eq_true_eq]
  · obtain ⟨r, q, b, hr, hq, hb, g1, g2, g3, g4, g5, g6⟩ := hgu g h
    exact ⟨by rw [g4]; exact hb, g3, by rw [g5]; exact hr⟩
theorem sub_nI {w k : Nat} (h : k ≤ w) : nI w - nI k = nI (w - k) := pk_sub h
theorem j71_X (n : Nat) {σ : St} {g len w : Nat} (hl : σ.1 (76 + g) 2 = nI len) (hlen : len ≤ 30) (hw : w < 2 ^ 31) : j_5_tellAct_71 n g (nI w) σ = some (if 10 ≤ w ∧ w - 10 < len then σ.1 (84 + g) (w - 10) else -1, σ) := by
  unfold j_5_tellAct_71
  simp only [nm_eq]
  by_cases e : w < 10
  · rw [if_pos (show nI w < (10 : Int32) from nI_lt (b := 10) e (by decide)), if_neg (fun z => by omega)]
  · rw [if_neg (show ¬ nI w < (10 : Int32) from nI_nlt (b := 10) (by omega) (by omega)), show nI w - 10 = nI (w - 10) from sub_nI (k := 10) (by omega), hl]
    by_cases e2 : len ≤ w - 10
    · rw [if_pos (nI_le e2 (by omega)), if_neg (fun z => by omega)]
    · rw [if_neg (nI_ge (by omega) (by omega)), gd_t (inb_nI (by omega) (by decide)), nI_clamp (by omega), if_pos (by omega)]
theorem j125_M (n : Nat) {τ : St} {g len i : Nat} {a3 : Int32} (hg : g < 8) (hl : τ.1 27 g = nI len) (hlen : len ≤ 30) (hi : i < 2 ^ 31) : j_11_plan_125 n (nI g) a3 (nI i) τ = some (if i < len then (if 50 ≤ a3 then (if 90 ≤ a3 then τ.1 34 (30 * g + i) else τ.1 33 (30 * g + i)) else τ.1 32 (30 * g + i)) else -1, τ) := by
  unfold j_11_plan_125
  simp only [nm_eq]
  rw [gd_t (inb_nI hg (by decide)), nI_clamp (by omega), hl, isIn_eq, bd_eq]
  simp only [one_if, i_pred (show len < 2 ^ 20 by omega)]
  by_cases e : i < len
  · rw [if_neg (fun z => z ⟨nI_pos' hi, nI_lt e (by omega)⟩), if_pos e, show (30 : Int32) * nI g + nI i = nI (30 * g + i) from mul_nI 30 g i, gd_t (inb_nI (show 30 * g + i < 240 by omega) (by decide)), gd_t (inb_nI (show 30 * g + i < 240 by omega) (by decide)), gd_t (inb_nI (show 30 * g + i < 240 by omega) (by decide)), nI_clamp (by omega)]
    split
    · split <;> rfl
    · rfl
  · rw [if_pos (fun z => nI_nlt (show len ≤ i by omega) hi z.2), if_neg e]
theorem tell_eq (n : Nat) {σ τ : St} {g bd : Nat} {x : Xs} {a3 : Int32} (hg : g < 8) (hX : rwX g σ x) (hM : rwM g τ x) (hW : xW bd 30 x) : ∃ v, f_5_tell n σ g a3 = some (v, σ) ∧ (if 10 ≤ a3 then
        if 50 ≤ a3 then
          if 90 ≤ a3 then
            j_11_plan_125 n (nI g) a3 (a3 - 90) τ
          else
            j_11_plan_125 n (nI g) a3 (a3 - 50) τ
        else
          j_11_plan_125 n (nI g) a3 (a3 - 10) τ
      else
        if a3 = 0 then
          gd (inb (nI g) 8) <| some ((τ.1 27 (nI g).toNatClampNeg), τ)
        else
          if a3 = 1 then
            gd (inb (nI g) 8) <| some ((τ.1 28 (nI g).toNatClampNeg), τ)
          else
            if a3 = 2 then
              gd (inb (nI g) 8) <| some ((τ.1 29 (nI g).toNatClampNeg), τ)
            else
              if a3 = 3 then
                gd (inb (nI g) 8) <| some ((τ.1 30 (nI g).toNatClampNeg), τ)
              else
                some ((-1), τ)) = some (v, τ) := by
  obtain ⟨now, str, len, ov, gl, lo, ac, T, B⟩ := x
  obtain ⟨w1, w2, w3, w4, w5, w6, w7⟩ := hW
  obtain ⟨x0, x1, x2, x3, x4, x5, x6⟩ := hX
  obtain ⟨m2, m3, m4, m5, m6⟩ := hM
  rw [gd_t (inb_nI hg (by decide)), gd_t (inb_nI hg (by decide)), gd_t (inb_nI hg (by decide)), gd_t (inb_nI hg (by decide)), nI_clamp (by omega), m2, m3, m4, m5]
  unfold f_5_tell
  rw [x2, x3, x4, x5]
  by_cases c0 : a3 = 0
  · subst c0
    rw [if_pos rfl, if_neg (by decide), if_pos rfl]; exact ⟨_, rfl, rfl⟩
  by_cases c1 : a3 = 1
  · subst c1
    rw [if_neg c0, if_pos rfl, if_neg (by decide), if_neg c0, if_pos rfl]; exact ⟨_, rfl, rfl⟩
  by_cases c2 : a3 = 2
  · subst c2
    rw [if_neg c0, if_neg c1, if_pos rfl, if_neg (by decide), if_neg c0, if_neg c1, if_pos rfl]; exact ⟨_, rfl, rfl⟩
  by_cases c3 : a3 = 3
  · subst c3
    cases lo
    · refine ⟨0, ?_, ?_⟩
      · rw [if_neg c0, if_neg c1, if_neg c2, if_pos rfl, if_pos (by decide)]
      · rw [if_neg (by decide), if_neg c0, if_neg c1, if_neg c2, if_pos rfl, if_neg (by decide)]
    · refine ⟨1, ?_, ?_⟩
      · rw [if_neg c0, if_neg c1, if_neg c2, if_pos rfl, if_neg (by decide)]
      · rw [if_neg (by decide), if_neg c0, if_neg c1, if_neg c2, if_pos rfl, if_pos rfl]
  rw [if_neg c0, if_neg c1, if_neg c2, if_neg c3, if_neg c0, if_neg c1, if_neg c2, if_neg c3]
  by_cases h10 : 10 ≤ a3
  · obtain ⟨w, hw, rfl⟩ := nI_of (Int32.not_lt.mpr (i_tr (show (0 : Int32) ≤ 10 by decide) h10))
    have hw10 : 10 ≤ w := (nI_leI (show 10 < 2 ^ 31 by decide) hw).mp h10
    rw [if_pos h10]
    unfold f_5_tellAct j_5_tellAct_27
    simp only [nm_eq]
    rw [j71_X n x2 (by omega) hw, x2]
    by_cases h50 : 50 ≤ w
    · rw [if_pos (show (50 : Int32) ≤ nI w from nI_le (a := 50) h50 hw), if_neg (show ¬ nI w < (50 : Int32) from nI_nlt (b := 50) h50 hw), show nI w - 50 = nI (w - 50) from sub_nI (k := 50) h50]
      by_cases h90 : 90 ≤ w
      · rw [if_pos (show (90 : Int32) ≤ nI w from nI_le (a := 90) h90 hw), if_neg (show ¬ nI w < (90 : Int32) from nI_nlt (b := 90) h90 hw), show nI w - 90 = nI (w - 90) from sub_nI (k := 90) h90, j125_M n hg m2 (by omega) (by omega), if_pos (show (50 : Int32) ≤ nI w from nI_le (a := 50) h50 hw), if_pos (show (90 : Int32) ≤ nI w from nI_le (a := 90) h90 hw)]
        by_cases e : w - 90 < len
        · rw [if_neg (nI_ge e (by omega)), if_pos e, gd_t (inb_nI (by omega) (by decide)), nI_clamp (by omega), bd_eq, (x6 _ e).1, (m6 _ e).2.2]
          exact ⟨_, rfl, rfl⟩
        · rw [if_pos (nI_le (by omega) (by omega)), if_neg e, if_pos (nI_le (by omega) (by omega)), if_neg (fun z => by omega), bd_eq]
          exact ⟨_, rfl, rfl⟩
      · rw [if_neg (show ¬ (90 : Int32) ≤ nI w from nI_ge (b := 90) (by omega) (by decide)), if_pos (show nI w < (90 : Int32) from nI_lt (b := 90) (by omega) (by decide)), j125_M n hg m2 (by omega) (by omega), if_pos (show (50 : Int32) ≤ nI w from nI_le (a := 50) h50 hw), if_neg (show ¬ (90 : Int32) ≤ nI w from nI_ge (b := 90) (by omega) (by decide))]
        by_cases e : w - 50 < len
        · rw [if_neg (nI_ge e (by omega)), if_pos e, gd_t (inb_nI (by omega) (by decide)), gd_t (inb_nI (by omega) (by decide)), nI_clamp (by omega), (x6 _ e).1, (x6 _ e).2.2.2, (m6 _ e).2.1]
          have hac := w6 _ e
          have h2 : (ac (w - 50)).1 ≤ 2 := by rcases hac with ⟨q, _⟩ | ⟨q, _⟩ | ⟨q, _⟩ <;> omega
          by_cases z : (ac (w - 50)).1 = 1
          · rw [if_pos (by rw [z]; rfl), if_neg (by omega), if_pos z, bd_eq]
            exact ⟨_, rfl, rfl⟩
          · rw [if_neg (show ¬ nI (ac (w - 50)).1 = 1 from fun y => z ((nI_eq (b := 1) (by omega) (by decide)).mp y)), if_neg z, bd_eq]
            exact ⟨_, rfl, rfl⟩
        · rw [if_pos (nI_le (by omega) (by omega)), if_neg e, if_neg (fun z => by omega), bd_eq]
          exact ⟨_, rfl, rfl⟩
    · rw [if_neg (show ¬ (50 : Int32) ≤ nI w from nI_ge (b := 50) (by omega) (by decide)), if_pos (show nI w < (90 : Int32) from nI_lt (b := 90) (by omega) (by decide)), if_pos (show nI w < (50 : Int32) from nI_lt (b := 50) (by omega) (by decide)), show nI w - 10 = nI (w - 10) from sub_nI (k := 10) hw10, j125_M n hg m2 (by omega) (by omega), if_neg (show ¬ (50 : Int32) ≤ nI w from nI_ge (b := 50) (by omega) (by decide)), bd_eq]
      by_cases e : w - 10 < len
      · rw [if_pos ⟨hw10, e⟩, if_pos e, (x6 _ e).2.1, (m6 _ e).1]
        exact ⟨_, rfl, rfl⟩
      · rw [if_neg (fun z => e z.2), if_neg e]
        exact ⟨_, rfl, rfl⟩
  · rw [if_neg h10]
    have hlt : a3 < 10 := Int32.not_le.mp h10
    unfold f_5_tellAct j_5_tellAct_27 j_5_tellAct_71
    have t1 : a3 < 90 := by rw [Int32.lt_iff_toInt_lt] at *; have : (10 : Int32).toInt = 10 := by decide
                            have : (90 : Int32).toInt = 90 := by decide
                            omega
    have t2 : a3 < 50 := by rw [Int32.lt_iff_toInt_lt] at *; have : (10 : Int32).toInt = 10 := by decide
                            have : (50 : Int32).toInt = 50 := by decide
                            omega
    rw [if_pos t1, if_pos t2, if_pos hlt, bd_eq]
    exact ⟨_, rfl, rfl⟩
theorem isToCome_eq (n : Nat) (σ : St) (a1 : Int32) {D : Nat} (h : σ.1 0 3 = nI D) : f_10_isToCome n σ a1 = some (if nI D ≤ a1 ∧ a1 < 100 then 1 else 0, σ) := by
  unfold f_10_isToCome
  rw [h]
  by_cases h1 : a1 < nI D
  · rw [if_pos h1, if_neg (fun q => Int32.not_lt.mpr q.1 h1)]
  · rw [if_neg h1]
    by_cases h2 : 100 ≤ a1
    · rw [if_pos h2, if_neg (fun q => Int32.not_lt.mpr h2 q.2)]
    · rw [if_neg h2, if_pos ⟨Int32.not_lt.mp h1, Int32.not_le.mp h2⟩]
theorem day_of {a1 : Int32} {D : Nat} (hD : D ≤ 99) (h : nI D ≤ a1 ∧ a1 < 100) : ∃ d, d ≤ 99 ∧ a1 = nI d := by
  obtain ⟨d, hd, e⟩ := rg_le (n := 100) rfl (by decide) ⟨i_tr (nI_pos' (by omega)) h.1, h.2⟩
  exact ⟨d, by omega, e⟩
theorem dyX_kp {σ σ' : St} (h : ∀ k, k < 76 → σ'.1 k = σ.1 k) : kpX σ σ' := fun k hk => h k (by omega)
theorem k26_kp {τ τ' : St} (h : k26 τ τ') : kpM τ τ' := ⟨fun k h1 h2 => h.1 k (by omega), fun j _ _ _ => by rw [h.1 0 (by decide)], h.2⟩
theorem kL_kp {τ τ' : St} (h : kL τ τ') : kpM τ τ' := ⟨fun k h1 h2 => h.1 k h1 (by omega), fun j a _ _ => h.2.1 j a, h.2.2⟩
theorem sim_plan (n : Nat) (hn : 1000 ≤ n) (a1 a2 a3 : Int32) : Sim Rel (fun σ => f_10_plan n σ a1 a2 a3) (fun τ => f_11_plan n τ a1 a2 a3) := by
  intro σ τ hR
  have hR' := hR
  obtain ⟨D, G, K, L, hD, hG, hK, hL, h0, hS, hC, hO, hB, hV, hg, hRr, hT⟩ := hR
  show ∃ r σ' τ', f_10_plan n σ a1 a2 a3 = some (r, σ') ∧ f_11_plan n τ a1 a2 a3 = some (r, τ') ∧ Rel σ' τ'
  unfold f_10_plan f_11_plan
  rw [isToCome_eq n σ a1 h0.1, isDay_eq, h0.2.1]
  simp only [bd_eq, one_if, i_le99]
  by_cases hc : nI D ≤ a1 ∧ a1 < 100
  · rw [if_neg (fun z => z hc), if_neg (fun z => z hc)]
    obtain ⟨d, hd, rfl⟩ := day_of hD hc
    obtain ⟨hEX, hEM, hEW⟩ := env_Rel hd hG hK h0 hS hB hg hRr
    by_cases h2 : 0 ≤ a2 ∧ a2 < nI G
    · obtain ⟨g, hgG, rfl⟩ := rg_in hG h2
      rw [there_X n hEX hG hgG, here_M n hEM hG hgG]
      simp only [bd_eq]
      by_cases y : thO τ d g = true
      · rw [if_pos y, if_neg (by decide), if_neg (by decide)]
        obtain ⟨σ', x1, x2, x3⟩ := rank_X n hn hEX hEW
        obtain ⟨τ1, m1, m2, m3⟩ := ranks_M n hn hEM hEW
        obtain ⟨τ', l1, l2, l3, l4⟩ := lays_M n hn (k26_en m2 hEM) hEW (fun g hg => (rkA_mem.mp hg).1) (rkA_len (fun g hg => (hEW.2.2.2 g hg).2.2)) m3
        rw [x1, m1]
        simp only [bd_eq]
        rw [l1]
        simp only [bd_eq, nm_eq]
        rw [gd_t (inb_nI (show g < 8 by omega) (by decide)), nI_clamp (show g < 2 ^ 31 by omega)]
        have hmem : g ∈ rkA (thO τ d) (rkO τ) G 4 := rkA_mem.mpr ⟨hgG, y, (hEW.2.2.2 g hgG).2.2⟩
        obtain ⟨bd, hb⟩ := l4 g hmem
        obtain ⟨v, v1, v2⟩ := tell_eq n (a3 := a3) (show g < 8 by omega) (x3.1 g hmem).2 (l3.1 g hmem).2 hb
        rw [v1, bd_eq]
        rw [nI_clamp (show g < 2 ^ 31 by omega)] at v2
        exact ⟨v, σ', τ', rfl, v2, Rel_kp hR' (dyX_kp x2) (kpM_tr (k26_kp m2) (kL_kp l2))⟩
      · rw [if_neg y, if_pos rfl, if_pos rfl]
        exact ⟨_, σ, τ, rfl, rfl, hR'⟩
    · rw [isThere_X n σ _ _ hEX.2.1 hG, isHere_M n τ _ _ hEM.2.1 hG, if_neg (fun z => h2 z.1), if_neg (fun z => h2 z.1)]
      simp only [bd_eq]
      rw [if_pos trivial, if_pos trivial]
      exact ⟨_, σ, τ, rfl, rfl, hR'⟩
  · rw [if_pos hc, if_pos hc]
    exact ⟨_, σ, τ, rfl, rfl, hR'⟩
theorem sim_taken (n : Nat) (hn : 1000 ≤ n) (a1 a2 a3 : Int32) : Sim Rel (fun σ => f_10_taken n σ a1 a2 a3) (fun τ => f_11_taken n τ a1 a2 a3) := by
  intro σ τ hR
  have hR' := hR
  obtain ⟨D, G, K, L, hD, hG, hK, hL, h0, hS, hC, hO, hB, hV, hg, hRr, hT⟩ := hR
  show ∃ r σ' τ', f_10_taken n σ a1 a2 a3 = some (r, σ') ∧ f_11_taken n τ a1 a2 a3 = some (r, τ') ∧ Rel σ' τ'
  unfold f_10_taken f_11_taken
  rw [isToCome_eq n σ a1 h0.1, isDay_eq, h0.2.1]
  simp only [bd_eq, one_if, i_le99, isBelow_eq, isSpring_eq, isIn_eq, i_le3, i_le47]
  by_cases hc : nI D ≤ a1 ∧ a1 < 100
  · rw [if_neg (show ¬ ¬ (nI D ≤ a1 ∧ a1 < 100) from fun z => z hc), if_neg (show ¬ ¬ (nI D ≤ a1 ∧ a1 < 100) from fun z => z hc)]
    obtain ⟨d, hd, rfl⟩ := day_of hD hc
    obtain ⟨hEX, hEM, hEW⟩ := env_Rel hd hG hK h0 hS hB hg hRr
    by_cases h2 : 0 ≤ a2 ∧ a2 < 4
    · rw [if_neg (show ¬ ¬ (0 ≤ a2 ∧ a2 < 4) from fun z => z h2), if_neg (show ¬ ¬ (0 ≤ a2 ∧ a2 < 4) from fun z => z h2)]
      obtain ⟨s, hs, rfl⟩ := rg_le (n := 4) rfl (by decide) h2
      by_cases h3 : 0 ≤ a3 ∧ a3 < 48
      · rw [if_neg (show ¬ ¬ (0 ≤ a3 ∧ a3 < 48) from fun z => z h3), if_neg (show ¬ ¬ (0 ≤ a3 ∧ a3 < 48) from fun z => z h3)]
        obtain ⟨q, hq, rfl⟩ := rg_le (n := 48) rfl (by decide) h3
        obtain ⟨σ', x1, x2, x3⟩ := rank_X n hn hEX hEW
        obtain ⟨τ1, m1, m2, m3⟩ := ranks_M n hn hEM hEW
        obtain ⟨τ', l1, l2, l3, l4⟩ := lays_M n hn (k26_en m2 hEM) hEW (fun g hg => (rkA_mem.mp hg).1) (rkA_len (fun g hg => (hEW.2.2.2 g hg).2.2)) m3
        rw [x1, m1]
        simp only [bd_eq]
        rw [l1]
        simp only [bd_eq, nm_eq]
        rw [gd_t (inb_nI hs (by decide)), gd_t (inb_nI hq (by decide)), show (48 : Int32) * nI s + nI q = nI (48 * s + q) from mul_nI 48 s q, gd_t (inb_nI (show 48 * s + q < 192 by omega) (by decide)), nI_clamp (by omega), nI_clamp (by omega), nI_clamp (by omega), x3.2.1 s q hs hq, l3.2.1 s q hs hq]
        exact ⟨_, σ', τ', rfl, rfl, Rel_kp hR' (dyX_kp x2) (kpM_tr (k26_kp m2) (kL_kp l2))⟩
      · rw [if_pos h3, if_pos h3]
        exact ⟨_, σ, τ, rfl, rfl, hR'⟩
    · rw [if_pos h2, if_pos h2]
      exact ⟨_, σ, τ, rfl, rfl, hR'⟩
  · rw [if_pos hc, if_pos hc]
    exact ⟨_, σ, τ, rfl, rfl, hR'⟩
