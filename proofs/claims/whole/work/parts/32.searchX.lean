/-! the class's search for the best order -/
theorem hop_ar {a l h x : Nat} (e : a + l = h + x) : nI h + (nI x - nI l) = nI a := by
  rw [Int32.sub_eq_add_neg, ← Int32.add_assoc, nI_add, ← e, ← nI_add, ← Int32.sub_eq_add_neg, Int32.add_sub_cancel]
theorem hop_ra {a l h x : Nat} (e : a + l = h + x) : nI a - (nI x - nI l) = nI h := by
  rw [← hop_ar e, Int32.add_sub_cancel]
theorem sr_get (σ : St) (k : Nat) (f : Nat → Int32) (a : Nat) : (sr σ k f).1 a = if a = k then f else σ.1 a := rfl
section SX
variable {c : Cf} {d G : Nat} {P : Pg} {th : Nat → Bool} {rk : Nat → Nat} {gs : Nat → Nat} {N : Nat}
def bsX (N : Nat) (gs : Nat → Nat) (σ : St) : Bs → Prop
  | none => σ.1 15 7 = -1
  | some (D, O, q) => σ.1 15 7 = nI D ∧ σ.1 15 8 = nI O ∧ D < 2 ^ 30 ∧ O < 2 ^ 30 ∧ ∀ j, j < N → σ.1 21 j = nI (gs (q.getD j 0))
def stX9 (c : Cf) (d : Nat) (P : Pg) (gs : Nat → Nat) (N : Nat) (σ0 σ : St) : Prop := kpX σ0 σ ∧ σ.1 15 6 = nI N ∧ ∀ i, i < N → σ.1 16 i = nI (gs i) ∧ σ.1 17 i = nI (laD c d P gs i) ∧ σ.1 18 i = nI (laO c d P gs i)
def SX (c : Cf) (d : Nat) (P : Pg) (gs : Nat → Nat) (N : Nat) (σ0 σ : St) (p : List Nat) (b : Bs) : Prop := stX9 c d P gs N σ0 σ ∧ σ.1 15 9 = nI (hD c d P gs N p) ∧ σ.1 15 10 = nI (hO c d P gs N p) ∧ (∀ i, i < N → σ.1 19 i = if i ∈ p then 1 else 0) ∧ (∀ j, j < p.length → σ.1 20 j = nI (gs (p.getD j 0))) ∧ bsX N gs σ b ∧ dyX σ (p.map gs) (dLay c d P (p.map gs) S0)
theorem bsX_c {σ σ' : St} {b : Bs} (h7 : σ'.1 15 7 = σ.1 15 7) (h8 : σ'.1 15 8 = σ.1 15 8) (h21 : σ'.1 21 = σ.1 21) (h : bsX N gs σ b) : bsX N gs σ' b := by
  match b, h with
  | none, h => exact h7.trans h
  | some (D, O, q), h =>
    obtain ⟨q1, q2, q3, q4, q5⟩ := h
    exact ⟨h7.trans q1, h8.trans q2, q3, q4, fun j hj => by rw [h21]; exact q5 j hj⟩
theorem gFin_le (hW : enW c d G P rk) {g : Nat} (hg : g < G) {T : Tk} {B : Bt} (hT : rsW T B) : xLen (gFin c d (P g) T B) ≤ 30 ∧ xOv (gFin c d (P g) T B) ≤ 48 := by
  have h := gFin_W hW hg hT
  have h30 := (hW.2.2.2 g hg).2.1.1
  generalize gFin c d (P g) T B = x at h
  obtain ⟨now, str, len, ov, gl, lo, ac, T, B⟩ := x
  obtain ⟨h1, h2, h3, h4, -⟩ := h
  exact ⟨by show len ≤ 30; omega, h4⟩
theorem sc_le (hW : enW c d G P rk) : ∀ {l : List Nat} {S : DS}, (∀ g, g ∈ l → g < G) → rsW S.2.1 S.2.2 → scD c d P l S ≤ 30 * l.length ∧ scO c d P l S ≤ 48 * l.length := by
  intro l
  induction l with
  | nil => intro S _ _; exact ⟨Nat.le_refl _, Nat.le_refl _⟩
  | cons g l ih =>
    intro S hl hS
    have hg := hl g List.mem_cons_self
    obtain ⟨a1, a2⟩ := gFin_le hW hg hS
    obtain ⟨b1, b2⟩ := ih (fun h hh => hl h (List.mem_cons_of_mem _ hh)) (dAdd_W hW hg hS)
    rw [List.length_cons]
    refine ⟨?_, ?_⟩
    · show xLen _ + _ ≤ _; omega
    · show xOv _ + _ ≤ _; omega
theorem rD_le {la : Nat → Nat} {p : List Nat} {m : Nat} : ∀ {N : Nat}, (∀ i, i < N → la i ≤ m) → rD la p N ≤ m * N := by
  intro N
  induction N with
  | zero => intro _; exact Nat.le_refl _
  | succ N ih =>
    intro h
    have h1 := ih (fun i hi => h i (by omega))
    have h2 := h N (by omega)
    rw [rD, Nat.mul_succ]
    split <;> omega
theorem h_le (hW : enW c d G P rk) (hgs : ∀ i, i < N → gs i < G) (hN : N ≤ 6) {p : List Nat} (hp : ∀ i, i ∈ p → i < N) (hl : p.length ≤ N) : hD c d P gs N p < 2 ^ 30 ∧ hO c d P gs N p < 2 ^ 30 := by
  obtain ⟨a1, a2⟩ := sc_le hW (l := p.map gs) (S := S0) (fun g hg => by obtain ⟨i, hi, rfl⟩ := List.mem_map.mp hg; exact hgs i (hp i hi)) S0_W
  have b1 := rD_le (p := p) (N := N) (m := 30) (la := laD c d P gs) (fun i hi => (gFin_le hW (hgs i hi) S0_W).1)
  have b2 := rD_le (p := p) (N := N) (m := 48) (la := laO c d P gs) (fun i hi => (gFin_le hW (hgs i hi) S0_W).2)
  rw [List.length_map] at a1 a2
  unfold hD hO
  exact ⟨by omega, by omega⟩
theorem hopeless_X (n : Nat) {σ : St} {b : Bs} {p : List Nat} (h9 : σ.1 15 9 = nI (hD c d P gs N p)) (h10 : σ.1 15 10 = nI (hO c d P gs N p)) (hl1 : hD c d P gs N p < 2 ^ 30) (hl2 : hO c d P gs N p < 2 ^ 30) (hb : bsX N gs σ b) : (hop c d P gs N b p ∧ f_1_isHopeless n σ = some (1, σ)) ∨ (¬ hop c d P gs N b p ∧ f_1_isHopeless n σ = some (0, σ)) := by
  unfold f_1_isHopeless
  rw [h9, h10]
  match b, hb with
  | none, hb =>
    right
    have hb : σ.1 15 7 = -1 := hb
    refine ⟨fun z => z, ?_⟩
    rw [hb, if_neg (fun z => ?_), if_neg (nI_nm1 (by omega))]
    rw [Int32.lt_iff_toInt_lt, nI_toInt (by omega), show (-1 : Int32).toInt = -1 by decide] at z
    omega
  | some (D, O, q), hb =>
    obtain ⟨q1, q2, q3, q4, q5⟩ := hb
    rw [q1, q2]
    by_cases e1 : hD c d P gs N p < D
    · left
      rw [if_pos (nI_lt e1 (by omega))]
      exact ⟨.inl e1, rfl⟩
    · rw [if_neg (nI_nlt (by omega) (by omega))]
      by_cases e2 : hD c d P gs N p = D
      · rw [if_pos (by rw [e2])]
        by_cases e3 : hO c d P gs N p < O
        · right
          rw [if_pos (nI_lt e3 (by omega))]
          exact ⟨fun z => z.elim (fun y => e1 y) (fun y => by omega), rfl⟩
        · left
          rw [if_neg (nI_nlt (by omega) (by omega))]
          exact ⟨.inr ⟨e2, by omega⟩, rfl⟩
      · right
        rw [if_neg (fun z => e2 ((nI_eq (by omega) (by omega)).mp z))]
        exact ⟨fun z => z.elim (fun y => e1 y) (fun y => e2 y.1), rfl⟩
theorem bF_not {b : Bs} {p : List Nat} (hp : rD (fun _ => 1) p N = 0) (h : ¬ hop c d P gs N b p) : bF c d P gs b p = some (hD c d P gs N p, hO c d P gs N p, p) := by
  have e1 : hD c d P gs N p = scD c d P (p.map gs) S0 := by unfold hD; rw [rD_all hp]; rfl
  have e2 : hO c d P gs N p = scO c d P (p.map gs) S0 := by unfold hO; rw [rD_all hp]; rfl
  unfold bF
  match b, h with
  | none, _ => rw [e1, e2]; rfl
  | some (D, O, q), h =>
    have h : ¬ (hD c d P gs N p < D ∨ (hD c d P gs N p = D ∧ O ≤ hO c d P gs N p)) := h
    rw [← e1, ← e2]
    show (if D < hD c d P gs N p ∨ (hD c d P gs N p = D ∧ hO c d P gs N p < O) then _ else _) = _
    rw [if_pos]
    omega
theorem keep_X (n : Nat) {σ0 σ : St} {b : Bs} {p : List Nat} (hN : N ≤ 6) (hlen : p.length = N) (hl1 : hD c d P gs N p < 2 ^ 30) (hl2 : hO c d P gs N p < 2 ^ 30) (h : SX c d P gs N σ0 σ p b) : ∃ σ', f_1_keepOrder n σ = some σ' ∧ SX c d P gs N σ0 σ' p (some (hD c d P gs N p, hO c d P gs N p, p)) := by
  obtain ⟨⟨s1, s2, s3⟩, h9, h10, h19, h20, hb, hd1, hd2⟩ := h
  unfold f_1_keepOrder
  simp only [nm_eq]
  have e6 : (si (si σ 15 7 (σ.1 15 9)) 15 8 ((si σ 15 7 (σ.1 15 9)).1 15 10)).1 15 6 = nI N := by rw [si_place (by decide), si_place (by decide), s2]
  rw [e6, gd_t (inb_nI (show N < 7 by omega) (by decide)), nI_clamp (by omega)]
  have hne : ∀ (σ1 : St) (f : Nat → Int32) (k : Nat), k ≠ 21 → (sr σ1 21 f).1 k = σ1.1 k := fun σ1 f k hk => by rw [sr_get, if_neg hk]
  refine ⟨_, rfl, ⟨fun k hk => ?_, ?_, fun i hi => ?_⟩, ?_, ?_, fun i hi => ?_, fun j hj => ?_, ⟨?_, ?_, hl1, hl2, fun j hj => ?_⟩, fun h hh => ?_, ?_⟩
  · rw [hne _ _ _ (by omega), si_ne (by omega), si_ne (by omega)]; exact s1 k hk
  · rw [hne _ _ _ (by decide)]; exact e6
  · rw [hne _ _ _ (by decide), hne _ _ _ (by decide), hne _ _ _ (by decide), si_cell (by decide), si_cell (by decide), si_cell (by decide), si_cell (by decide), si_cell (by decide), si_cell (by decide)]
    exact s3 i hi
  · rw [hne _ _ _ (by decide), si_place (by decide), si_place (by decide)]; exact h9
  · rw [hne _ _ _ (by decide), si_place (by decide), si_place (by decide)]; exact h10
  · rw [hne _ _ _ (by decide), si_cell (by decide), si_cell (by decide)]; exact h19 i hi
  · rw [hne _ _ _ (by decide), si_cell (by decide), si_cell (by decide)]; exact h20 j hj
  · rw [hne _ _ _ (by decide), si_place (by decide), si_hit]; exact h9
  · rw [hne _ _ _ (by decide), si_hit, si_place (by decide)]; exact h10
  · rw [sr_get, if_pos rfl, pk_cpy_in (Nat.zero_le j) (by omega), si_cell (by decide), si_cell (by decide), show 0 + (j - 0) = j by omega]
    exact h20 j (by omega)
  · refine ⟨(hd1 h hh).1, rwX_c (fun k k1 k2 => ?_) (hd1 h hh).1 (hd1 h hh).2⟩
    rw [hne _ _ _ (by omega), si_ne (by omega), si_ne (by omega)]
  · refine rsX_c (σ := σ) (fun k hk => ?_) rfl hd2
    rw [hne _ _ _ (by omega), si_ne (by omega), si_ne (by omega)]
/-- one more is placed -/
theorem place_X (n : Nat) {σ0 σ σ1 : St} {b : Bs} {p : List Nat} {i : Nat} (hN : N ≤ 6) (hi : i < N) (hgi : gs i < 8) (hip : i ∉ p) (hpl : p.length < N) (h : SX c d P gs N σ0 σ p b) (hf : frX (gs i) σ σ1) (h1 : dyX σ1 (p.map gs ++ [gs i]) (dAdd c d P (dLay c d P (p.map gs) S0) (gs i))) : ∃ σ2, f_1_place n σ1 (nI i) (nI p.length) = some σ2 ∧ SX c d P gs N σ0 σ2 (p ++ [i]) b := by
  obtain ⟨⟨s1, s2, s3⟩, h9, h10, h19, h20, hb, hd1, hd2⟩ := h
  have hk : ∀ k, k < 76 → σ1.1 k = σ.1 k := frX_lt hf
  obtain ⟨t16, t17, t18⟩ := s3 i hi
  have hrow := (h1.1 (gs i) (List.mem_append_right _ (List.mem_singleton.mpr rfl))).2
  have hrow : rwX (gs i) σ1 (gFin c d (P (gs i)) (dLay c d P (p.map gs) S0).2.1 (dLay c d P (p.map gs) S0).2.2) := by
    have e : (dAdd c d P (dLay c d P (p.map gs) S0) (gs i)).1 (gs i) = gFin c d (P (gs i)) (dLay c d P (p.map gs) S0).2.1 (dLay c d P (p.map gs) S0).2.2 := if_pos rfl
    rw [← e]; exact hrow
  have hr2 : σ1.1 (76 + gs i) 2 = nI (xLen (gFin c d (P (gs i)) (dLay c d P (p.map gs) S0).2.1 (dLay c d P (p.map gs) S0).2.2)) := by
    generalize gFin c d (P (gs i)) (dLay c d P (p.map gs) S0).2.1 (dLay c d P (p.map gs) S0).2.2 = x at hrow
    obtain ⟨now, str, len, ov, gl, lo, ac, T, B⟩ := x
    exact hrow.2.2.1
  have hr3 : σ1.1 (76 + gs i) 3 = nI (xOv (gFin c d (P (gs i)) (dLay c d P (p.map gs) S0).2.1 (dLay c d P (p.map gs) S0).2.2)) := by
    generalize gFin c d (P (gs i)) (dLay c d P (p.map gs) S0).2.1 (dLay c d P (p.map gs) S0).2.2 = x at hrow
    obtain ⟨now, str, len, ov, gl, lo, ac, T, B⟩ := x
    exact hrow.2.2.2.1
  have u16 : σ1.1 16 i = nI (gs i) := by rw [hk 16 (by omega)]; exact t16
  have u17 : σ1.1 17 i = nI (laD c d P gs i) := by rw [hk 17 (by omega)]; exact t17
  have u18 : σ1.1 18 i = nI (laO c d P gs i) := by rw [hk 18 (by omega)]; exact t18
  have u9 : σ1.1 15 9 = nI (hD c d P gs N p) := by rw [hk 15 (by omega)]; exact h9
  have u10 : σ1.1 15 10 = nI (hO c d P gs N p) := by rw [hk 15 (by omega)]; exact h10
  have v9 := hop_ar (hD_snoc c d P gs N hip hi)
  have v10 := hop_ar (hO_snoc c d P gs N hip hi)
  unfold f_1_place
  simp only [nm_eq]
  rw [gd_t (inb_nI (show i < 6 by omega) (by decide)), nI_clamp (by omega), u16, gd_t (inb_nI hgi (by decide)), nI_clamp (by omega), gd_t (inb_nI (show p.length < 6 by omega) (by decide)), nI_clamp (by omega)]
  simp only [si_cell (show (16 : Nat) ≠ 19 by decide), si_cell (show (17 : Nat) ≠ 20 by decide), si_cell (show (17 : Nat) ≠ 19 by decide), si_cell (show (18 : Nat) ≠ 15 by decide), si_cell (show (18 : Nat) ≠ 20 by decide), si_cell (show (18 : Nat) ≠ 19 by decide), si_cell (show 76 + gs i ≠ 20 by omega), si_cell (show 76 + gs i ≠ 19 by omega), si_cell (show 76 + gs i ≠ 15 by omega), si_cell (show (15 : Nat) ≠ 20 by decide), si_cell (show (15 : Nat) ≠ 19 by decide), si_place (show (10 : Nat) ≠ 9 by decide), u16, u17, u18, u9, u10, hr2, hr3, v9, v10]
  have hne : ∀ k, k ≠ 15 → k ≠ 19 → k ≠ 20 → (si (si (si (si σ1 19 i 1) 20 p.length (nI (gs i))) 15 9 (nI (hD c d P gs N (p ++ [i])))) 15 10 (nI (hO c d P gs N (p ++ [i])))).1 k = σ1.1 k := fun k a b c => by rw [si_ne a, si_ne a, si_ne c, si_ne b]
  refine ⟨_, rfl, ⟨fun k hk' => ?_, ?_, fun j hj => ?_⟩, ?_, ?_, fun j hj => ?_, fun j hj => ?_, ?_, fun h hh => ?_, ?_⟩
  · rw [hne k (by omega) (by omega) (by omega), hk k (by omega)]; exact s1 k hk'
  · rw [si_place (by decide), si_place (by decide), si_cell (by decide), si_cell (by decide), hk 15 (by omega)]; exact s2
  · rw [hne 16 (by decide) (by decide) (by decide), hne 17 (by decide) (by decide) (by decide), hne 18 (by decide) (by decide) (by decide), hk 16 (by omega), hk 17 (by omega), hk 18 (by omega)]; exact s3 j hj
  · rw [si_place (by decide), si_hit]
  · rw [si_hit]
  · rw [si_cell (by decide), si_cell (by decide), si_cell (by decide), si_get, hk 19 (by omega)]
    by_cases z : j = i
    · rw [if_pos ⟨rfl, z⟩, if_pos (by rw [z]; exact List.mem_append_right _ (List.mem_singleton.mpr rfl))]
    · rw [if_neg (fun y => z y.2), h19 j hj]
      by_cases y : j ∈ p
      · rw [if_pos y, if_pos (List.mem_append_left _ y)]
      · rw [if_neg y, if_neg (fun u => by
          rcases List.mem_append.mp u with v | v
          · exact y v
          · exact z (List.mem_singleton.mp v))]
  · rw [List.length_append] at hj
    have hj : j < p.length + 1 := hj
    rw [si_cell (by decide), si_cell (by decide), si_get]
    by_cases z : j = p.length
    · rw [if_pos ⟨rfl, z⟩, z]; simp
    · rw [if_neg (fun y => z y.2), si_cell (by decide), hk 20 (by omega), h20 j (by omega), getD_app (by omega)]
  · refine bsX_c ?_ ?_ ?_ hb
    · rw [si_place (by decide), si_place (by decide), si_cell (by decide), si_cell (by decide), hk 15 (by omega)]
    · rw [si_place (by decide), si_place (by decide), si_cell (by decide), si_cell (by decide), hk 15 (by omega)]
    · rw [hne 21 (by decide) (by decide) (by decide), hk 21 (by omega)]
  · rw [List.map_append, show [i].map gs = [gs i] from rfl] at hh ⊢
    rw [dLay_snoc]
    exact ⟨(h1.1 h hh).1, rwX_c (fun k k1 k2 => hne k (by omega) (by omega) (by omega)) (h1.1 h hh).1 (h1.1 h hh).2⟩
  · rw [List.map_append, show [i].map gs = [gs i] from rfl, dLay_snoc]
    exact rsX_c (fun k hk => hne k (by omega) (by omega) (by omega)) rfl h1.2
/-- and taken back -/
theorem unplace_X (n : Nat) (hn : 1000 ≤ n) {σ0 σ : St} {b : Bs} {p : List Nat} {i : Nat} (hW : enW c d G P rk) (hN : N ≤ 6) (hi : i < N) (hgi : gs i < G) (hip : i ∉ p) (hinj : gs i ∉ p.map gs) (hpG : ∀ g, g ∈ p.map gs → g < G) (h : SX c d P gs N σ0 σ (p ++ [i]) b) : ∃ σ2 σ3, f_1_unplace n σ (nI i) = some σ2 ∧ σ2.1 16 i = nI (gs i) ∧ f_3_removeGuest n σ2 (nI (gs i)) = some σ3 ∧ SX c d P gs N σ0 σ3 p b := by
  obtain ⟨⟨s1, s2, s3⟩, h9, h10, h19, h20, hb, hd⟩ := h
  have hG8 := hW.2.2.1
  obtain ⟨t16, t17, t18⟩ := s3 i hi
  rw [List.map_append, show [i].map gs = [gs i] from rfl, dLay_snoc] at hd
  obtain ⟨hd1, hd2⟩ := hd
  have hrW : rsW (dLay c d P (p.map gs) S0).2.1 (dLay c d P (p.map gs) S0).2.2 := dLay_W hW _ _ hpG S0_W
  have hrow := (hd1 (gs i) (List.mem_append_right _ (List.mem_singleton.mpr rfl))).2
  have hrow : rwX (gs i) σ (gFin c d (P (gs i)) (dLay c d P (p.map gs) S0).2.1 (dLay c d P (p.map gs) S0).2.2) := by
    have e : (dAdd c d P (dLay c d P (p.map gs) S0) (gs i)).1 (gs i) = gFin c d (P (gs i)) (dLay c d P (p.map gs) S0).2.1 (dLay c d P (p.map gs) S0).2.2 := if_pos rfl
    rw [← e]; exact hrow
  have hr2 : σ.1 (76 + gs i) 2 = nI (xLen (gFin c d (P (gs i)) (dLay c d P (p.map gs) S0).2.1 (dLay c d P (p.map gs) S0).2.2)) := by
    generalize gFin c d (P (gs i)) (dLay c d P (p.map gs) S0).2.1 (dLay c d P (p.map gs) S0).2.2 = x at hrow
    obtain ⟨now, str, len, ov, gl, lo, ac, T, B⟩ := x
    exact hrow.2.2.1
  have hr3 : σ.1 (76 + gs i) 3 = nI (xOv (gFin c d (P (gs i)) (dLay c d P (p.map gs) S0).2.1 (dLay c d P (p.map gs) S0).2.2)) := by
    generalize gFin c d (P (gs i)) (dLay c d P (p.map gs) S0).2.1 (dLay c d P (p.map gs) S0).2.2 = x at hrow
    obtain ⟨now, str, len, ov, gl, lo, ac, T, B⟩ := x
    exact hrow.2.2.2.1
  have v9 := hop_ra (hD_snoc c d P gs N hip hi)
  have v10 := hop_ra (hO_snoc c d P gs N hip hi)
  have hU : f_1_unplace n σ (nI i) = some (si (si (si σ 19 i 0) 15 9 (nI (hD c d P gs N p))) 15 10 (nI (hO c d P gs N p))) := by
    unfold f_1_unplace
    simp only [nm_eq]
    rw [gd_t (inb_nI (show i < 6 by omega) (by decide)), nI_clamp (by omega), t16, gd_t (inb_nI (show gs i < 8 by omega) (by decide)), nI_clamp (by omega)]
    simp only [si_cell (show (17 : Nat) ≠ 19 by decide), si_cell (show (18 : Nat) ≠ 15 by decide), si_cell (show (18 : Nat) ≠ 19 by decide), si_cell (show 76 + gs i ≠ 19 by omega), si_cell (show 76 + gs i ≠ 15 by omega), si_cell (show (15 : Nat) ≠ 19 by decide), si_place (show (10 : Nat) ≠ 9 by decide), t17, t18, h9, h10, hr2, hr3, v9, v10]
  have hne : ∀ k, k ≠ 15 → k ≠ 19 → (si (si (si σ 19 i 0) 15 9 (nI (hD c d P gs N p))) 15 10 (nI (hO c d P gs N p))).1 k = σ.1 k := fun k a b => by rw [si_ne a, si_ne a, si_ne b]
  have hx30 := xW_30 (hW.2.2.2 (gs i) hgi).2.1.1 (gFin_W hW hgi hrW)
  have hrp : rpX (gs i) (si (si (si σ 19 i 0) 15 9 (nI (hD c d P gs N p))) 15 10 (nI (hO c d P gs N p))) (gFin c d (P (gs i)) (dLay c d P (p.map gs) S0).2.1 (dLay c d P (p.map gs) S0).2.2) := ⟨rwX_c (fun k k1 k2 => hne k (by omega) (by omega)) (by omega) hrow, rsX_c (fun k hk => hne k (by omega) (by omega)) rfl hd2⟩
  obtain ⟨σ3, r1, r2, r3⟩ := remove_X n hn (show gs i < 8 by omega) hx30 dJ_fin hrp hrW
  refine ⟨_, σ3, hU, by rw [hne 16 (by decide) (by decide)]; exact t16, r1, ⟨fun k hk => ?_, ?_, fun j hj => ?_⟩, ?_, ?_, fun j hj => ?_, fun j hj => ?_, ?_, fun h hh => ?_, r2⟩
  · rw [r3 k (by omega), hne k (by omega) (by omega)]; exact s1 k hk
  · rw [r3 15 (by omega), si_place (by decide), si_place (by decide), si_cell (by decide)]; exact s2
  · rw [r3 16 (by omega), r3 17 (by omega), r3 18 (by omega), hne 16 (by decide) (by decide), hne 17 (by decide) (by decide), hne 18 (by decide) (by decide)]; exact s3 j hj
  · rw [r3 15 (by omega), si_place (by decide), si_hit]
  · rw [r3 15 (by omega), si_hit]
  · rw [r3 19 (by omega), si_cell (by decide), si_cell (by decide), si_get]
    by_cases z : j = i
    · rw [if_pos ⟨rfl, z⟩, if_neg (by rw [z]; exact hip)]
    · rw [if_neg (fun y => z y.2), h19 j hj]
      by_cases y : j ∈ p
      · rw [if_pos y, if_pos (List.mem_append_left _ y)]
      · rw [if_neg y, if_neg (fun u => by
          rcases List.mem_append.mp u with v | v
          · exact y v
          · exact z (List.mem_singleton.mp v))]
  · rw [r3 20 (by omega), hne 20 (by decide) (by decide), h20 j (by rw [List.length_append]; omega), getD_app hj]
  · refine bsX_c ?_ ?_ ?_ hb
    · rw [r3 15 (by omega), si_place (by decide), si_place (by decide), si_cell (by decide)]
    · rw [r3 15 (by omega), si_place (by decide), si_place (by decide), si_cell (by decide)]
    · rw [r3 21 (by omega), hne 21 (by decide) (by decide)]
  · obtain ⟨w1, w2⟩ := hd1 h (List.mem_append_left _ hh)
    refine ⟨w1, rwX_c (σ := σ) (fun k k1 k2 => ?_) w1 ?_⟩
    · rw [r3 k k2, hne k (by omega) (by omega)]
    · have e : (dAdd c d P (dLay c d P (p.map gs) S0) (gs i)).1 h = (dLay c d P (p.map gs) S0).1 h := if_neg (fun z => hinj (by rw [← z]; exact hh))
      rw [e] at w2
      exact w2
end SX
