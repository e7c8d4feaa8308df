/-! the order by rank; a day laid out in an order -/
theorem getD_app {l l' : List Nat} {j : Nat} (h : j < l.length) : (l ++ l').getD j 0 = l.getD j 0 := by
  rw [List.getD_eq_getElem?_getD, List.getD_eq_getElem?_getD, List.getElem?_append_left h]
def rkL (th : Nat → Bool) (rk : Nat → Nat) (r : Nat) : Nat → List Nat
  | 0 => []
  | i + 1 => if th i = true ∧ rk i = r then rkL th rk r i ++ [i] else rkL th rk r i
def rkA (th : Nat → Bool) (rk : Nat → Nat) (G : Nat) : Nat → List Nat
  | 0 => []
  | r + 1 => rkA th rk G r ++ rkL th rk r G
def thC (th : Nat → Bool) : Nat → Nat
  | 0 => 0
  | g + 1 => thC th g + if th g = true then 1 else 0
section RK
variable {c : Cf} {d G : Nat} {P : Pg} {th : Nat → Bool} {rk : Nat → Nat}
theorem rkL_mem {r g : Nat} : ∀ {i : Nat}, g ∈ rkL th rk r i ↔ g < i ∧ th g = true ∧ rk g = r := by
  intro i
  induction i with
  | zero => simp [rkL]
  | succ i ih =>
    rw [rkL]
    by_cases e : th i = true ∧ rk i = r
    · rw [if_pos e, List.mem_append, List.mem_singleton, ih]
      constructor
      · rintro (⟨h1, h2⟩ | rfl)
        · exact ⟨by omega, h2⟩
        · exact ⟨by omega, e⟩
      · rintro ⟨h1, h2⟩
        by_cases z : g = i
        · exact .inr z
        · exact .inl ⟨by omega, h2⟩
    · rw [if_neg e, ih]
      constructor
      · rintro ⟨h1, h2⟩; exact ⟨by omega, h2⟩
      · rintro ⟨h1, h2⟩
        refine ⟨?_, h2⟩
        by_cases z : g = i
        · subst z; exact absurd h2 e
        · omega
theorem rkA_mem {g : Nat} : ∀ {r : Nat}, g ∈ rkA th rk G r ↔ g < G ∧ th g = true ∧ rk g < r := by
  intro r
  induction r with
  | zero => simp [rkA]
  | succ r ih =>
    rw [rkA, List.mem_append, ih, rkL_mem]
    constructor
    · rintro (⟨h1, h2, h3⟩ | ⟨h1, h2, h3⟩)
      · exact ⟨h1, h2, by omega⟩
      · exact ⟨h1, h2, by omega⟩
    · rintro ⟨h1, h2, h3⟩
      by_cases z : rk g = r
      · exact .inr ⟨h1, h2, z⟩
      · exact .inl ⟨h1, h2, by omega⟩
theorem rkL_mono {r i j : Nat} (h : i ≤ j) : (rkL th rk r i).length ≤ (rkL th rk r j).length := by
  induction j with
  | zero => rw [show i = 0 by omega]; exact Nat.le_refl _
  | succ j ih =>
    by_cases e : i = j + 1
    · rw [e]; exact Nat.le_refl _
    · refine Nat.le_trans (ih (by omega)) ?_
      rw [rkL]
      split
      · rw [List.length_append]; omega
      · exact Nat.le_refl _
theorem rkA_mono {r s : Nat} (h : r ≤ s) : (rkA th rk G r).length ≤ (rkA th rk G s).length := by
  induction s with
  | zero => rw [show r = 0 by omega]; exact Nat.le_refl _
  | succ s ih =>
    by_cases e : r = s + 1
    · rw [e]; exact Nat.le_refl _
    · refine Nat.le_trans (ih (by omega)) ?_
      rw [rkA, List.length_append]; omega
theorem rkL_len {r i : Nat} : (rkL th rk r (i + 1)).length = (rkL th rk r i).length + if th i = true ∧ rk i = r then 1 else 0 := by
  rw [rkL]
  split
  · rw [List.length_append]; rfl
  · rfl
theorem rkA_len (h : ∀ g, g < G → rk g < 4) : (rkA th rk G 4).length = thC th G := by
  have e : (rkA th rk G 4).length = (rkL th rk 0 G).length + (rkL th rk 1 G).length + (rkL th rk 2 G).length + (rkL th rk 3 G).length := by
    simp only [rkA, List.length_append, List.length_nil]; omega
  rw [e]
  clear e
  induction G with
  | zero => rfl
  | succ G ih =>
    have ih := ih (fun g hg => h g (by omega))
    have hG := h G (by omega)
    rw [rkL_len, rkL_len, rkL_len, rkL_len, thC]
    by_cases z : th G = true
    · simp only [z, true_and, if_true]
      have : rk G = 0 ∨ rk G = 1 ∨ rk G = 2 ∨ rk G = 3 := by omega
      rcases this with y | y | y | y <;> simp only [y] <;> simp <;> omega
    · simp only [z, false_and, if_false]; simp; omega
theorem thC_le : ∀ {G : Nat}, thC th G ≤ G := by
  intro G
  induction G with
  | zero => exact Nat.le_refl 0
  | succ G ih => rw [thC]; split <;> omega
theorem cT_th {f t : Nat → Int32} {dd : Int32} : ∀ {G : Nat}, (∀ g, g < G → (th g = true ↔ f g ≤ dd ∧ dd < t g)) → cT f t dd G = thC th G := by
  intro G
  induction G with
  | zero => intro _; rfl
  | succ G ih =>
    intro h
    rw [cT, thC, ih (fun g hg => h g (by omega))]
    by_cases z : th G = true
    · rw [if_pos z, if_pos ((h G (by omega)).mp z)]
    · rw [if_neg z, if_neg (fun y => z ((h G (by omega)).mpr y))]
theorem there_X (n : Nat) {σ : St} {g : Nat} (hE : enX σ c d G P th rk) (hG : G ≤ 8) (hg : g < G) : f_9_isThere n σ (nI g) (nI d) = some (if th g = true then 1 else 0, σ) := by
  obtain ⟨e1, e2, e3⟩ := hE
  rw [isThere_X n σ _ _ e2 hG, nI_clamp (by omega)]
  by_cases z : th g = true
  · rw [if_pos z, if_pos ⟨⟨nI_pos' (by omega), nI_lt hg (by omega)⟩, (e3 g hg).2.2.mp z⟩]
  · rw [if_neg z, if_neg (fun y => z ((e3 g hg).2.2.mpr y.2))]
theorem here_M (n : Nat) {τ : St} {g : Nat} (hE : enM τ c d G P th rk) (hG : G ≤ 8) (hg : g < G) : f_11_isHere n τ (nI g) (nI d) = some (if th g = true then 1 else 0, τ) := by
  obtain ⟨e1, e2, e3⟩ := hE
  rw [isHere_M n τ _ _ e2 hG, nI_clamp (by omega)]
  by_cases z : th g = true
  · rw [if_pos z, if_pos ⟨⟨nI_pos' (by omega), nI_lt hg (by omega)⟩, (e3 g hg).2.2.mp z⟩]
  · rw [if_neg z, if_neg (fun y => z ((e3 g hg).2.2.mpr y.2))]
theorem cnt_X (n : Nat) (hn : 1000 ≤ n) {σ : St} (hE : enX σ c d G P th rk) (hG : G ≤ 8) : f_9_countThere n σ (nI d) = some (nI (thC th G), σ) := by
  rw [count_X n (by omega) σ _ hE.2.1 hG, cT_th (th := th) (fun g hg => (hE.2.2 g hg).2.2)]
theorem cnt_M (n : Nat) (hn : 1000 ≤ n) {τ : St} (hE : enM τ c d G P th rk) (hG : G ≤ 8) : f_11_here n τ (nI d) = some (nI (thC th G), τ) := by
  rw [count_M n (by omega) τ _ hE.2.1 hG, cT_th (th := th) (fun g hg => (hE.2.2 g hg).2.2)]
theorem rankIn_X (n : Nat) (hn : 1000 ≤ n) {σ0 σ : St} {l : List Nat} {r : Nat} (hr : r < 4) (hE : enX σ0 c d G P th rk) (hW : enW c d G P rk) (hl : ∀ g, g ∈ l → g < G) (hf : ∀ k, k < 76 → σ.1 k = σ0.1 k) (hS : dyX σ l (dLay c d P l S0)) : ∃ e : Int32 × St, lq (b_3_layOutByRank_14 n (nI d) (nI r)) n (0, σ) = some e ∧ (∀ k, k < 76 → e.2.1 k = σ0.1 k) ∧ dyX e.2 (l ++ rkL th rk r G) (dLay c d P (l ++ rkL th rk r G) S0) := by
  have hG := hW.2.2.1
  refine lq_for (b := b_3_layOutByRank_14 n (nI d) (nI r)) (X := fun e => (∀ k, k < 76 → e.2.1 k = σ0.1 k) ∧ dyX e.2 (l ++ rkL th rk r G) (dLay c d P (l ++ rkL th rk r G) S0)) G (fun i s => ∃ σi, s = (nI i, σi) ∧ (∀ k, k < 76 → σi.1 k = σ0.1 k) ∧ dyX σi (l ++ rkL th rk r i) (dLay c d P (l ++ rkL th rk r i) S0)) ?_ ?_ (n := n) (by omega) ⟨σ, rfl, hf, by rw [rkL, List.append_nil]; exact hS⟩
  · rintro i s hi ⟨σi, rfl, h1, h2⟩
    left
    have hEi := enX_c hG h1 hE
    obtain ⟨e1, e2, e3⟩ := id hEi
    obtain ⟨-, q2, -⟩ := e3 i hi
    have hrk := (hW.2.2.2 i hi).2.2
    unfold b_3_layOutByRank_14
    simp only [nm_eq]
    rw [e2, if_neg (nI_ge hi (by omega)), gd_t (inb_nI (show i < 8 by omega) (by decide)), nI_clamp (by omega), q2]
    by_cases z : rk i = r
    · rw [if_pos (by rw [z]), there_X n hEi hG hi, bd_eq]
      simp only
      by_cases y : th i = true
      · rw [if_pos y, if_neg (by decide)]
        have hmem : ∀ g, g ∈ l ++ rkL th rk r i → g < G := fun g hg => by
          rcases List.mem_append.mp hg with u | u
          · exact hl g u
          · have := (rkL_mem.mp u).1; omega
        obtain ⟨σ', t1, t2, t3⟩ := add_X n hn hEi hW hi h2 (dLay_W hW _ _ hmem S0_W)
        rw [t1, bd_eq, nI_1]
        refine ⟨_, rfl, σ', rfl, fun k hk => by rw [frX_lt t3 k hk]; exact h1 k hk, ?_⟩
        rw [rkL, if_pos ⟨y, z⟩, ← List.append_assoc, dLay_snoc]
        exact t2
      · rw [if_neg y, if_pos rfl, nI_1]
        refine ⟨_, rfl, σi, rfl, h1, ?_⟩
        rw [rkL, if_neg (fun u => y u.1)]; exact h2
    · rw [if_neg (fun u => z ((nI_eq (by omega) (by omega)).mp u)), nI_1]
      refine ⟨_, rfl, σi, rfl, h1, ?_⟩
      rw [rkL, if_neg (fun u => z u.2)]; exact h2
  · rintro s ⟨σi, rfl, h1, h2⟩
    have hEi := enX_c hG h1 hE
    unfold b_3_layOutByRank_14
    simp only [nm_eq]
    rw [hEi.2.1, if_pos (nI_le (Nat.le_refl G) (by omega))]
    exact ⟨_, rfl, h1, h2⟩
theorem rank_X (n : Nat) (hn : 1000 ≤ n) {σ : St} (hE : enX σ c d G P th rk) (hW : enW c d G P rk) : ∃ σ', f_3_layOutByRank n σ (nI d) = some σ' ∧ (∀ k, k < 76 → σ'.1 k = σ.1 k) ∧ dyX σ' (rkA th rk G 4) (dLay c d P (rkA th rk G 4) S0) := by
  unfold f_3_layOutByRank
  obtain ⟨σ1, t1, t2, t3⟩ := clear_X n hn (σ := σ)
  rw [t1, bd_eq]
  obtain ⟨e, he, hX⟩ := lq_for (b := b_3_layOutByRank_6 n (nI d)) (X := fun e => (∀ k, k < 76 → e.2.1 k = σ.1 k) ∧ dyX e.2 (rkA th rk G 4) (dLay c d P (rkA th rk G 4) S0)) 4 (fun r s => ∃ σi, s = (nI r, σi) ∧ (∀ k, k < 76 → σi.1 k = σ.1 k) ∧ dyX σi (rkA th rk G r) (dLay c d P (rkA th rk G r) S0)) (by
    rintro r s hr ⟨σi, rfl, h1, h2⟩
    left
    obtain ⟨e, he, h3, h4⟩ := rankIn_X n hn (r := r) hr hE hW (fun g hg => (rkA_mem.mp hg).1) h1 h2
    unfold b_3_layOutByRank_6
    simp only [nm_eq]
    rw [if_neg (show ¬ (4 : Int32) ≤ nI r from nI_ge (b := 4) hr (by decide)), he, bd_eq, nI_1]
    exact ⟨_, rfl, e.2, rfl, h3, h4⟩) (by
    rintro s ⟨σi, rfl, h1, h2⟩
    unfold b_3_layOutByRank_6
    simp only [nm_eq]
    rw [if_pos (show (4 : Int32) ≤ nI 4 from nI_le (a := 4) (Nat.le_refl 4) (by decide))]
    exact ⟨_, rfl, h1, h2⟩) (n := n) (by omega) (s := (0, σ1)) ⟨σ1, rfl, fun k hk => t2 k (by omega), t3⟩
  rw [he, bd_eq]
  exact ⟨_, rfl, hX⟩
/-- the order stands in the reference's row -/
def arM (τ : St) (l : List Nat) : Prop := ∀ j, j < l.length → τ.1 26 j = nI (l.getD j 0)
theorem arM_snoc {τ : St} {l : List Nat} {g : Nat} (h : arM τ l) : arM (si τ 26 l.length (nI g)) (l ++ [g]) := fun j hj => by
  rw [List.length_append] at hj
  have hj : j < l.length + 1 := hj
  rw [si_get]
  by_cases e : j = l.length
  · rw [if_pos ⟨rfl, e⟩, e]; simp
  · rw [if_neg (fun z => e z.2), h j (by omega), getD_app (by omega)]
/-- all but the row of the order is as before -/
def k26 (τ τ' : St) : Prop := (∀ k, k ≠ 26 → τ'.1 k = τ.1 k) ∧ τ'.2 = τ.2
theorem k26_en {τ τ' : St} (h : k26 τ τ') (hE : enM τ c d G P th rk) : enM τ' c d G P th rk := enM_c (fun k h1 h2 => h.1 k (by omega)) (by rw [h.1 0 (by decide)]) hE
theorem rankIn_M (n : Nat) (hn : 1000 ≤ n) {τ0 τ : St} {r : Nat} (hr : r < 4) (hE : enM τ0 c d G P th rk) (hW : enW c d G P rk) (hk : k26 τ0 τ) (ha : arM τ (rkA th rk G r)) : ∃ e : Int32 × Int32 × St, lq (b_11_ranks_12 n (nI d) (nI r)) n (nI (rkA th rk G r).length, 0, τ) = some e ∧ e.1 = nI (rkA th rk G (r + 1)).length ∧ k26 τ0 e.2.2 ∧ arM e.2.2 (rkA th rk G (r + 1)) := by
  have hG := hW.2.2.1
  have hlen : (rkA th rk G (r + 1)).length ≤ G := by
    have h1 := rkA_mono (th := th) (rk := rk) (G := G) (show r + 1 ≤ 4 by omega)
    rw [rkA_len (fun g hg => (hW.2.2.2 g hg).2.2)] at h1
    have := thC_le (th := th) (G := G)
    omega
  refine lq_for (b := b_11_ranks_12 n (nI d) (nI r)) (X := fun e => e.1 = nI (rkA th rk G (r + 1)).length ∧ k26 τ0 e.2.2 ∧ arM e.2.2 (rkA th rk G (r + 1))) G (fun i s => ∃ τi, s = (nI (rkA th rk G r ++ rkL th rk r i).length, nI i, τi) ∧ k26 τ0 τi ∧ arM τi (rkA th rk G r ++ rkL th rk r i)) ?_ ?_ (n := n) (by omega) ⟨τ, by rw [rkL, List.append_nil]; rfl, hk, by rw [rkL, List.append_nil]; exact ha⟩
  · rintro i s hi ⟨τi, rfl, h1, h2⟩
    left
    have hEi := k26_en h1 hE
    obtain ⟨e1, e2, e3⟩ := id hEi
    obtain ⟨-, q2, -⟩ := e3 i hi
    have hrk := (hW.2.2.2 i hi).2.2
    unfold b_11_ranks_12
    simp only [nm_eq]
    rw [e2, if_neg (nI_ge hi (by omega)), here_M n hEi hG hi, bd_eq]
    simp only
    by_cases y : th i = true
    · rw [if_pos y, if_neg (by decide), gd_t (inb_nI (show i < 8 by omega) (by decide)), nI_clamp (show i < 2 ^ 31 by omega), q2]
      by_cases z : rk i = r
      · have hl1 : (rkA th rk G r ++ rkL th rk r i).length < 8 := by
          have h3 := rkL_mono (th := th) (rk := rk) (r := r) (show i + 1 ≤ G by omega)
          rw [rkL_len, if_pos ⟨y, z⟩] at h3
          rw [rkA, List.length_append] at hlen
          rw [List.length_append]
          omega
        rw [if_pos (by rw [z]), gd_t (inb_nI hl1 (by decide)), nI_clamp (by omega), nI_1, nI_1]
        refine ⟨_, rfl, si τi 26 (rkA th rk G r ++ rkL th rk r i).length (nI i), ?_, ⟨fun k hk => by rw [si_ne hk]; exact h1.1 k hk, h1.2⟩, ?_⟩
        · rw [rkL, if_pos ⟨y, z⟩, ← List.append_assoc, List.length_append (bs := [i])]
          rfl
        · rw [rkL, if_pos ⟨y, z⟩, ← List.append_assoc]
          exact arM_snoc h2
      · rw [if_neg (fun u => z ((nI_eq (by omega) (by omega)).mp u)), nI_1]
        refine ⟨_, rfl, τi, ?_, h1, ?_⟩
        · rw [rkL, if_neg (fun u => z u.2)]
        · rw [rkL, if_neg (fun u => z u.2)]; exact h2
    · rw [if_neg y, if_pos rfl, nI_1]
      refine ⟨_, rfl, τi, ?_, h1, ?_⟩
      · rw [rkL, if_neg (fun u => y u.1)]
      · rw [rkL, if_neg (fun u => y u.1)]; exact h2
  · rintro s ⟨τi, rfl, h1, h2⟩
    have hEi := k26_en h1 hE
    unfold b_11_ranks_12
    simp only [nm_eq]
    rw [hEi.2.1, if_pos (nI_le (Nat.le_refl G) (by omega))]
    exact ⟨_, rfl, rfl, h1, h2⟩
theorem ranks_M (n : Nat) (hn : 1000 ≤ n) {τ : St} (hE : enM τ c d G P th rk) (hW : enW c d G P rk) : ∃ τ', f_11_ranks n τ (nI d) = some τ' ∧ k26 τ τ' ∧ arM τ' (rkA th rk G 4) := by
  obtain ⟨e, he, hX⟩ := lq_for (b := b_11_ranks_4 n (nI d)) (X := fun e => k26 τ e.2.2 ∧ arM e.2.2 (rkA th rk G 4)) 4 (fun r s => ∃ τi, s = (nI (rkA th rk G r).length, nI r, τi) ∧ k26 τ τi ∧ arM τi (rkA th rk G r)) (by
    rintro r s hr ⟨τi, rfl, h1, h2⟩
    left
    obtain ⟨e, he, h3, h4, h5⟩ := rankIn_M n hn hr hE hW h1 h2
    unfold b_11_ranks_4
    simp only [nm_eq]
    rw [if_neg (show ¬ (4 : Int32) ≤ nI r from nI_ge (b := 4) hr (by decide)), he, bd_eq, nI_1, h3]
    exact ⟨_, rfl, e.2.2, rfl, h4, h5⟩) (by
    rintro s ⟨τi, rfl, h1, h2⟩
    unfold b_11_ranks_4
    simp only [nm_eq]
    rw [if_pos (show (4 : Int32) ≤ nI 4 from nI_le (a := 4) (Nat.le_refl 4) (by decide))]
    exact ⟨_, rfl, h1, h2⟩) (n := n) (by omega) (s := (0, 0, τ)) ⟨τ, rfl, ⟨fun _ _ => rfl, rfl⟩, fun j hj => by simp [rkA] at hj⟩
  unfold f_11_ranks
  rw [he, bd_eq]
  exact ⟨_, rfl, hX⟩
/-- what laying out leaves as it was -/
def kL (τ τ' : St) : Prop := (∀ k, 1 ≤ k → (k < 25 ∨ k = 26 ∨ 35 ≤ k) → τ'.1 k = τ.1 k) ∧ (∀ j, j ≠ 49 → τ'.1 0 j = τ.1 0 j) ∧ τ'.2 = τ.2
theorem kL_en {τ τ' : St} (h : kL τ τ') (hE : enM τ c d G P th rk) : enM τ' c d G P th rk := enM_c (fun k h1 h2 => h.1 k h1 (by omega)) (h.2.1 1 (by decide)) hE
theorem lays_M (n : Nat) (hn : 1000 ≤ n) {τ : St} {l : List Nat} (hE : enM τ c d G P th rk) (hW : enW c d G P rk) (hl : ∀ g, g ∈ l → g < G) (hlen : l.length = thC th G) (ha : arM τ l) : ∃ τ', f_11_lays n τ (nI d) = some τ' ∧ kL τ τ' ∧ dyM τ' l (dLay c d P l S0) ∧ dW l (dLay c d P l S0) := by
  have hG := hW.2.2.1
  have hle := thC_le (th := th) (G := G)
  unfold f_11_lays
  obtain ⟨τ1, t1, t2, t3, t4⟩ := clear_M n hn (τ := τ)
  rw [t1, bd_eq]
  obtain ⟨e, he, hX⟩ := lq_for (b := b_11_lays_6 n (nI d)) (X := fun e => kL τ e.2 ∧ dyM e.2 l (dLay c d P l S0) ∧ dW l (dLay c d P l S0)) l.length (fun i s => ∃ τi, s = (nI i, τi) ∧ kL τ τi ∧ dyM τi (l.take i) (dLay c d P (l.take i) S0) ∧ dW (l.take i) (dLay c d P (l.take i) S0)) (by
    rintro i s hi ⟨τi, rfl, h1, h2, h3⟩
    left
    have hEi := kL_en h1 hE
    unfold b_11_lays_6
    simp only [nm_eq]
    have hget : l.getD i 0 = l[i] := by rw [List.getD_eq_getElem?_getD, List.getElem?_eq_getElem hi]; rfl
    have hgG : l[i] < G := hl _ (List.getElem_mem hi)
    have hmem : ∀ g, g ∈ l.take i → g < G := fun g hg => hl g (List.mem_of_mem_take hg)
    have hW2 := dLay_W hW (l.take i) S0 hmem S0_W
    rw [cnt_M n hn hEi hG, bd_eq, ← hlen]
    simp only
    rw [if_neg (nI_ge hi (by omega)), gd_t (inb_nI (show i < 8 by omega) (by decide)), nI_clamp (by omega), h1.1 26 (by omega) (by omega), ha i hi, hget]
    obtain ⟨τ', u1, u2, u3⟩ := add_M n hn hEi hW hgG h2 hW2 h3
    rw [u1, bd_eq, nI_1]
    have htk : l.take (i + 1) = l.take i ++ [l[i]] := List.take_succ_eq_append_getElem hi
    refine ⟨_, rfl, τ', rfl, ⟨fun k a b => (u3.1 k a b).trans (h1.1 k a b), fun j a => (u3.2.1 j a).trans (h1.2.1 j a), u3.2.2.1.trans h1.2.2⟩, ?_, ?_⟩
    · rw [htk, dLay_snoc]; exact u2
    · rw [htk, dLay_snoc]; exact dW_add hW hgG hW2 h3) (by
    rintro s ⟨τi, rfl, h1, h2, h3⟩
    have hEi := kL_en h1 hE
    unfold b_11_lays_6
    simp only [nm_eq]
    rw [cnt_M n hn hEi hG, bd_eq, ← hlen]
    simp only
    rw [if_pos (nI_le (Nat.le_refl _) (by omega))]
    rw [List.take_length] at h2 h3
    exact ⟨_, rfl, h1, h2, h3⟩) (n := n) (by omega) (s := (0, τ1)) ⟨τ1, rfl, ⟨fun k a b => t2 k (by omega) (by omega), fun j a => by rw [t2 0 (by decide) (by decide)], t3⟩, t4, fun h hh => by simp at hh⟩
  rw [he, bd_eq]
  exact ⟨_, rfl, hX⟩
end RK
