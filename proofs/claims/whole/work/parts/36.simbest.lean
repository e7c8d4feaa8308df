/-! best -/
section SB
variable {c : Cf} {d : Nat} {P : Pg} {gs : Nat → Nat} {N : Nat}
theorem fold_mem : ∀ {l : List (List Nat)} {b : Bs} {D O : Nat} {q : List Nat}, l.foldl (bF c d P gs) b = some (D, O, q) → q ∈ l ∨ b = some (D, O, q) := by
  intro l
  induction l with
  | nil => intro b D O q h; exact .inr h
  | cons a l ih =>
    intro b D O q h
    rw [List.foldl_cons] at h
    rcases ih h with z | z
    · exact .inl (List.mem_cons_of_mem _ z)
    · unfold bF at z
      match b, z with
      | none, z =>
        left
        have z : some (scD c d P (a.map gs) S0, scO c d P (a.map gs) S0, a) = some (D, O, q) := z
        cases z
        exact List.mem_cons_self
      | some (D0, O0, q0), z =>
        have z : (if D0 < scD c d P (a.map gs) S0 ∨ (scD c d P (a.map gs) S0 = D0 ∧ scO c d P (a.map gs) S0 < O0) then some (scD c d P (a.map gs) S0, scO c d P (a.map gs) S0, a) else some (D0, O0, q0)) = some (D, O, q) := z
        split at z
        · cases z; exact .inl List.mem_cons_self
        · exact .inr z
theorem fold_some : ∀ {l : List (List Nat)} {D0 O0 : Nat} {q0 : List Nat}, ∃ D O q, l.foldl (bF c d P gs) (some (D0, O0, q0)) = some (D, O, q) := by
  intro l
  induction l with
  | nil => intro D0 O0 q0; exact ⟨D0, O0, q0, rfl⟩
  | cons a l ih =>
    intro D0 O0 q0
    rw [List.foldl_cons]
    have : bF c d P gs (some (D0, O0, q0)) a = (if D0 < scD c d P (a.map gs) S0 ∨ (scD c d P (a.map gs) S0 = D0 ∧ scO c d P (a.map gs) S0 < O0) then some (scD c d P (a.map gs) S0, scO c d P (a.map gs) S0, a) else some (D0, O0, q0)) := rfl
    rw [this]
    split
    · exact ih
    · exact ih
theorem fin_some (hN : N ≤ 6) : ∃ D O q, (comps N N []).foldl (bF c d P gs) none = some (D, O, q) ∧ okL N q = true := by
  have hch := chain_eq N (by omega)
  have hall := comps_ok N (by omega)
  obtain ⟨a, l, hal⟩ : ∃ a l, comps N N [] = a :: l := by rw [← hch, show (721 : Nat) = 720 + 1 from rfl, chain]; exact ⟨_, _, rfl⟩
  rw [hal, List.foldl_cons, show bF c d P gs none a = some (scD c d P (a.map gs) S0, scO c d P (a.map gs) S0, a) from rfl]
  obtain ⟨D, O, q, h⟩ := fold_some (c := c) (d := d) (P := P) (gs := gs) (l := l) (D0 := scD c d P (a.map gs) S0) (O0 := scO c d P (a.map gs) S0) (q0 := a)
  refine ⟨D, O, q, h, ?_⟩
  have hm : q ∈ comps N N [] := by
    rw [hal]
    rcases fold_mem h with z | z
    · exact List.mem_cons_of_mem _ z
    · cases z; exact List.mem_cons_self
  exact List.all_eq_true.mp hall q hm
end SB
theorem sim_best (n : Nat) (hn : 1000 ≤ n) (a1 a2 : Int32) : Sim Rel (fun σ => f_10_best n σ a1 a2) (fun τ => f_11_best n τ a1 a2) := by
  intro σ τ hR
  have hR' := hR
  obtain ⟨D, G, K, L, hD, hG, hK, hL, h0, hS, hC, hO, hB, hV, hg, hRr, hT⟩ := hR
  show ∃ r σ' τ', f_10_best n σ a1 a2 = some (r, σ') ∧ f_11_best n τ a1 a2 = some (r, τ') ∧ Rel σ' τ'
  unfold f_10_best f_11_best
  rw [isToCome_eq n σ a1 h0.1, isDay_eq, h0.2.1]
  simp only [bd_eq, one_if, i_le99]
  by_cases hc : nI D ≤ a1 ∧ a1 < 100
  · rw [if_neg (show ¬ ¬ (nI D ≤ a1 ∧ a1 < 100) from fun z => z hc), if_neg (show ¬ ¬ (nI D ≤ a1 ∧ a1 < 100) from fun z => z hc)]
    obtain ⟨d, hd, rfl⟩ := day_of hD hc
    obtain ⟨hEX, hEM, hEW⟩ := env_Rel hd hG hK h0 hS hB hg hRr
    rw [cnt_X n hn hEX hG, cnt_M n hn hEM hG]
    simp only [bd_eq]
    have hle := thC_le (th := thO τ d) (G := G)
    by_cases h6 : thC (thO τ d) G ≤ 6
    · rw [if_pos (show nI (thC (thO τ d) G) ≤ (6 : Int32) from nI_le (b := 6) h6 (by decide)), if_pos (show nI (thC (thO τ d) G) ≤ (6 : Int32) from nI_le (b := 6) h6 (by decide))]
      obtain ⟨σ', x1, x2, x3, x4⟩ := run_X n hn hEX hEW h6
      obtain ⟨τ', m1, m2, m3⟩ := finds_M n hn hEM hEW h6
      obtain ⟨Db, Ob, q, hq, hok⟩ := fin_some (c := cfO τ) (d := d) (P := pgO τ) (gs := gsO (thO τ d) G) (N := thC (thO τ d) G) h6
      rw [hq] at x4 m3
      obtain ⟨y1, y2, y3, y4, y5⟩ := x4
      obtain ⟨z1, z2, z3, z4, z5⟩ := m3
      have hRel := Rel_kp hR' x2 m2
      rw [x1, m1]
      simp only [bd_eq]
      rw [cnt_M n hn (kpM_en m2 hEM) hG]
      simp only [bd_eq, nm_eq, isIn_eq, one_if]
      unfold f_1_tell
      simp only [nm_eq]
      rw [x3, y1, y2, z1, z2]
      by_cases c0 : a2 = 0
      · rw [if_pos c0, if_pos c0, bd_eq]; exact ⟨_, σ', τ', rfl, rfl, hRel⟩
      by_cases c1 : a2 = 1
      · rw [if_neg c0, if_pos c1, if_neg c0, if_pos c1, bd_eq]; exact ⟨_, σ', τ', rfl, rfl, hRel⟩
      rw [if_neg c0, if_neg c1, if_neg c0, if_neg c1]
      by_cases c10 : a2 < 10
      · rw [if_pos c10, bd_eq, if_pos (fun z => Int32.not_lt.mpr z.1 c10)]; exact ⟨_, σ', τ', rfl, rfl, hRel⟩
      · obtain ⟨w, hw, rfl⟩ := nI_of (Int32.not_lt.mpr (i_tr (show (0 : Int32) ≤ 10 by decide) (Int32.not_lt.mp c10)))
        have hw10 : 10 ≤ w := (nI_leI (a := 10) (by decide) hw).mp (Int32.not_lt.mp c10)
        rw [if_neg c10, show nI w - 10 = nI (w - 10) from sub_nI (k := 10) hw10, show (9 : Int32) + nI (thC (thO τ d) G) = nI (9 + thC (thO τ d) G) from nI_add 9 _]
        by_cases e : w - 10 < thC (thO τ d) G
        · rw [if_neg (nI_ge e (by omega)), gd_t (inb_nI (show w - 10 < 6 by omega) (by decide)), nI_clamp (by omega), bd_eq, if_neg (fun z => z ⟨Int32.not_lt.mp c10, nI_le (by omega) (by omega)⟩), gd_t (inb_nI (show w - 10 < 8 by omega) (by decide)), y5 _ e, z5 _ e]
          exact ⟨_, σ', τ', rfl, rfl, hRel⟩
        · rw [if_pos (nI_le (by omega) (by omega)), bd_eq, if_pos (fun z => by have := (nI_leI hw (show 9 + thC (thO τ d) G < 2 ^ 31 by omega)).mp z.2; omega)]
          exact ⟨_, σ', τ', rfl, rfl, hRel⟩
    · rw [if_neg (show ¬ nI (thC (thO τ d) G) ≤ (6 : Int32) from nI_ge (a := 6) (by omega) (by omega)), if_neg (show ¬ nI (thC (thO τ d) G) ≤ (6 : Int32) from nI_ge (a := 6) (by omega) (by omega))]
      exact ⟨_, σ, τ, rfl, rfl, hR'⟩
  · rw [if_pos hc, if_pos hc]
    exact ⟨_, σ, τ, rfl, rfl, hR'⟩
