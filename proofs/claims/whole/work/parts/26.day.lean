/-! a day for guests one behind the other -/
abbrev Pg : Type := Nat → Nat × Nat × Rg
abbrev DS : Type := (Nat → Xs) × Tk × Bt
def gFin (c : Cf) (d : Nat) (p : Nat × Nat × Rg) (T : Tk) (B : Bt) : Xs := (gR c p.1 d p.2.2 (x0 T B) p.2.1).2
def dAdd (c : Cf) (d : Nat) (P : Pg) (S : DS) (g : Nat) : DS := (fun h => if h = g then gFin c d (P g) S.2.1 S.2.2 else S.1 h, xT (gFin c d (P g) S.2.1 S.2.2), xB (gFin c d (P g) S.2.1 S.2.2))
def dLay (c : Cf) (d : Nat) (P : Pg) (l : List Nat) (S : DS) : DS := l.foldl (dAdd c d P) S
def S0 : DS := (fun _ => x0 (fun _ _ => 0) (fun _ _ => false), fun _ _ => 0, fun _ _ => false)
theorem dLay_snoc {c : Cf} {d : Nat} {P : Pg} {l : List Nat} {g : Nat} {S : DS} : dLay c d P (l ++ [g]) S = dAdd c d P (dLay c d P l S) g := by
  unfold dLay; rw [List.foldl_append]; rfl
def enX (σ : St) (c : Cf) (d G : Nat) (P : Pg) (th : Nat → Bool) (rk : Nat → Nat) : Prop := cfX σ c ∧ σ.1 1 5 = nI G ∧ ∀ g, g < G → (∃ r, guX σ g r (P g).1 (P g).2.1 (P g).2.2) ∧ σ.1 (36 + g) 0 = nI (rk g) ∧ (th g = true ↔ σ.1 (36 + g) 2 ≤ nI d ∧ nI d < σ.1 (36 + g) 3)
def enM (τ : St) (c : Cf) (d G : Nat) (P : Pg) (th : Nat → Bool) (rk : Nat → Nat) : Prop := cfM τ c ∧ τ.1 0 1 = nI G ∧ ∀ g, g < G → (∃ r, guM τ g r (P g).1 (P g).2.1 (P g).2.2) ∧ τ.1 16 g = nI (rk g) ∧ (th g = true ↔ τ.1 18 g ≤ nI d ∧ nI d < τ.1 19 g)
def enW (c : Cf) (d G : Nat) (P : Pg) (rk : Nat → Nat) : Prop := cfW c ∧ d ≤ 99 ∧ G ≤ 8 ∧ ∀ g, g < G → (P g).1 ≤ 99 ∧ rgW (P g).2.2 (P g).2.1 ∧ rk g < 4
section DY
variable {c : Cf} {d G : Nat} {P : Pg} {th : Nat → Bool} {rk : Nat → Nat}
theorem enX_c {σ σ' : St} (hG : G ≤ 8) (h : ∀ k, k < 76 → σ'.1 k = σ.1 k) (he : enX σ c d G P th rk) : enX σ' c d G P th rk := by
  obtain ⟨h1, h2, h3⟩ := he
  refine ⟨cfX_c h h1, by rw [h 1 (by omega)]; exact h2, fun g hg => ?_⟩
  obtain ⟨⟨r, q1⟩, q2, q3⟩ := h3 g hg
  rw [h (36 + g) (by omega)]
  exact ⟨⟨r, guX_c (by omega) h q1⟩, q2, q3⟩
theorem enM_c {τ τ' : St} (h : ∀ k, 1 ≤ k → k < 25 → τ'.1 k = τ.1 k) (h0 : τ'.1 0 1 = τ.1 0 1) (he : enM τ c d G P th rk) : enM τ' c d G P th rk := by
  obtain ⟨h1, h2, h3⟩ := he
  refine ⟨cfM_c h h1, by rw [h0]; exact h2, fun g hg => ?_⟩
  obtain ⟨⟨r, q1⟩, q2, q3⟩ := h3 g hg
  rw [h 16 (by omega) (by omega), h 18 (by omega) (by omega), h 19 (by omega) (by omega)]
  exact ⟨⟨r, guM_c h q1⟩, q2, q3⟩
def dyX (σ : St) (l : List Nat) (S : DS) : Prop := (∀ h, h ∈ l → h < 8 ∧ rwX h σ (S.1 h)) ∧ rsX σ S.2.1 S.2.2
def dyM (τ : St) (l : List Nat) (S : DS) : Prop := (∀ h, h ∈ l → h < 8 ∧ rwM h τ (S.1 h)) ∧ rsM τ S.2.1 S.2.2
theorem gFin_W (hW : enW c d G P rk) {g : Nat} (hg : g < G) {T : Tk} {B : Bt} (hT : rsW T B) : xW (P g).1 (P g).2.1 (gFin c d (P g) T B) := by
  obtain ⟨w1, w2, w3, w4⟩ := hW
  obtain ⟨p1, p2, p3⟩ := w4 g hg
  exact (gR_W w1 p2 p1 hT (P g).2.1 (Nat.le_refl _)).1
theorem xW_rs {bd i : Nat} {x : Xs} (h : xW bd i x) : rsW (xT x) (xB x) := by
  obtain ⟨now, str, len, ov, gl, lo, ac, T, B⟩ := x
  exact h.2.2.2.2.2.2
theorem dAdd_W (hW : enW c d G P rk) {g : Nat} (hg : g < G) {S : DS} (hT : rsW S.2.1 S.2.2) : rsW (dAdd c d P S g).2.1 (dAdd c d P S g).2.2 := xW_rs (gFin_W hW hg hT)
theorem S0_W : rsW S0.2.1 S0.2.2 := ⟨fun _ _ => Nat.zero_le 9, fun _ _ _ => rfl⟩
theorem dLay_W (hW : enW c d G P rk) : ∀ (l : List Nat) (S : DS), (∀ g, g ∈ l → g < G) → rsW S.2.1 S.2.2 → rsW (dLay c d P l S).2.1 (dLay c d P l S).2.2 := by
  intro l
  induction l with
  | nil => intro S _ h; exact h
  | cons g l ih =>
    intro S hl h
    exact ih _ (fun g hg => hl g (List.mem_cons_of_mem _ hg)) (dAdd_W hW (hl g List.mem_cons_self) h)
theorem rwX_fr {g h : Nat} {σ σ' : St} {x : Xs} (hf : frX g σ σ') (hg : g < 8) (hh : h < 8) (hne : h ≠ g) (hx : rwX h σ x) : rwX h σ' x := by
  obtain ⟨now, str, len, ov, gl, lo, ac, T, B⟩ := x
  unfold rwX at hx ⊢
  simp only at hx ⊢
  rw [hf (76 + h) (by omega) (by omega) (by omega) (by omega) (by omega) (by omega), hf (84 + h) (by omega) (by omega) (by omega) (by omega) (by omega) (by omega), hf (92 + h) (by omega) (by omega) (by omega) (by omega) (by omega) (by omega), hf (100 + h) (by omega) (by omega) (by omega) (by omega) (by omega) (by omega), hf (108 + h) (by omega) (by omega) (by omega) (by omega) (by omega) (by omega)]
  exact hx
theorem rwM_fr {g h : Nat} {τ τ' : St} {x : Xs} {bd : Nat} (hf : frM g τ τ') (hne : h ≠ g) (hW : xW bd 30 x) (hx : rwM h τ x) : rwM h τ' x := by
  obtain ⟨now, str, len, ov, gl, lo, ac, T, B⟩ := x
  obtain ⟨w1, w2, w3, -⟩ := hW
  obtain ⟨h2, h3, h4, h5, h6⟩ := hx
  refine ⟨?_, ?_, ?_, ?_, fun i hi => ?_⟩
  · rw [hf.2.2.2.1 27 h (by omega) (by omega) hne]; exact h2
  · rw [hf.2.2.2.1 28 h (by omega) (by omega) hne]; exact h3
  · rw [hf.2.2.2.1 29 h (by omega) (by omega) hne]; exact h4
  · rw [hf.2.2.2.1 30 h (by omega) (by omega) hne]; exact h5
  · rw [hf.2.2.2.2 32 _ (by omega) (by omega) (by omega), hf.2.2.2.2 33 _ (by omega) (by omega) (by omega), hf.2.2.2.2 34 _ (by omega) (by omega) (by omega)]
    exact h6 i hi
theorem add_X (n : Nat) (hn : 1000 ≤ n) {σ : St} {l : List Nat} {S : DS} {g : Nat} (hE : enX σ c d G P th rk) (hW : enW c d G P rk) (hg : g < G) (hS : dyX σ l S) (hr : rsW S.2.1 S.2.2) : ∃ σ', f_3_addGuest n σ (nI g) (nI d) = some σ' ∧ dyX σ' (l ++ [g]) (dAdd c d P S g) ∧ frX g σ σ' := by
  obtain ⟨w1, w2, w3, w4⟩ := hW
  obtain ⟨p1, p2, p3⟩ := w4 g hg
  obtain ⟨e1, e2, e3⟩ := hE
  obtain ⟨⟨r, q1⟩, q2, q3⟩ := e3 g hg
  obtain ⟨σ', t1, t2, t3⟩ := addGuest_X n hn (show g < 8 by omega) q1 p2 p1 w2 e1 w1 hS.2 hr
  refine ⟨σ', t1, ⟨fun h hh => ?_, t2.2⟩, t3⟩
  by_cases e : h = g
  · subst e
    refine ⟨by omega, ?_⟩
    show rwX h σ' (if h = h then _ else _)
    rw [if_pos rfl]; exact t2.1
  · have hm : h ∈ l := by
      rcases List.mem_append.mp hh with z | z
      · exact z
      · exact absurd (List.mem_singleton.mp z) e
    refine ⟨(hS.1 h hm).1, ?_⟩
    show rwX h σ' (if h = g then _ else _)
    rw [if_neg e]
    exact rwX_fr t3 (by omega) (hS.1 h hm).1 e (hS.1 h hm).2
/-- every row has bounds -/
def dW (l : List Nat) (S : DS) : Prop := ∀ h, h ∈ l → ∃ bd, xW bd 30 (S.1 h)
theorem xW_30 {bd i : Nat} {x : Xs} (hi : i ≤ 30) (h : xW bd i x) : xW bd 30 x := by
  obtain ⟨now, str, len, ov, gl, lo, ac, T, B⟩ := x
  obtain ⟨h1, h2, h3, h4⟩ := h
  exact ⟨h1, h2, by omega, h4⟩
theorem dW_add (hW : enW c d G P rk) {l : List Nat} {S : DS} {g : Nat} (hg : g < G) (hr : rsW S.2.1 S.2.2) (hS : dW l S) : dW (l ++ [g]) (dAdd c d P S g) := fun h hh => by
  by_cases e : h = g
  · subst e
    refine ⟨(P h).1, ?_⟩
    show xW _ 30 (if h = h then _ else _)
    rw [if_pos rfl]
    exact xW_30 (hW.2.2.2 h hg).2.1.1 (gFin_W hW hg hr)
  · have hm : h ∈ l := by
      rcases List.mem_append.mp hh with z | z
      · exact z
      · exact absurd (List.mem_singleton.mp z) e
    obtain ⟨bd, hb⟩ := hS h hm
    refine ⟨bd, ?_⟩
    show xW _ 30 (if h = g then _ else _)
    rw [if_neg e]; exact hb
theorem add_M (n : Nat) (hn : 1000 ≤ n) {τ : St} {l : List Nat} {S : DS} {g : Nat} (hE : enM τ c d G P th rk) (hW : enW c d G P rk) (hg : g < G) (hS : dyM τ l S) (hr : rsW S.2.1 S.2.2) (hd : dW l S) : ∃ τ', f_11_goes n τ (nI g) (nI d) = some τ' ∧ dyM τ' (l ++ [g]) (dAdd c d P S g) ∧ frM g τ τ' := by
  obtain ⟨w1, w2, w3, w4⟩ := hW
  obtain ⟨p1, p2, p3⟩ := w4 g hg
  obtain ⟨e1, e2, e3⟩ := hE
  obtain ⟨⟨r, q1⟩, q2, q3⟩ := e3 g hg
  obtain ⟨τ', t1, t2, t3⟩ := goes_M n hn (show g < 8 by omega) q1 p2 p1 w2 e1 w1 hS.2 hr
  refine ⟨τ', t1, ⟨fun h hh => ?_, t2.2.2⟩, t3⟩
  by_cases e : h = g
  · subst e
    refine ⟨by omega, ?_⟩
    show rwM h τ' (if h = h then _ else _)
    rw [if_pos rfl]; exact t2.2.1
  · have hm : h ∈ l := by
      rcases List.mem_append.mp hh with z | z
      · exact z
      · exact absurd (List.mem_singleton.mp z) e
    refine ⟨(hS.1 h hm).1, ?_⟩
    show rwM h τ' (if h = g then _ else _)
    rw [if_neg e]
    obtain ⟨bd, hb⟩ := hd h hm
    exact rwM_fr t3 e hb (hS.1 h hm).2
/-! all is free again -/
theorem fill_X (n : Nat) (hn : 1000 ≤ n) {σ : St} {s : Nat} (hs : s < 4) : ∃ σ', f_J7_fill_53178 n σ s 0 = some σ' ∧ (∀ k, k ≠ 116 + s → σ'.1 k = σ.1 k) ∧ σ'.2 = σ.2 ∧ ∀ q, q < 48 → σ'.1 (116 + s) q = 0 := by
  obtain ⟨e, he, hX⟩ := lq_for (b := b_J7_fill_53178_5 n s 0) (X := fun e => (∀ k, k ≠ 116 + s → e.2.1 k = σ.1 k) ∧ e.2.2 = σ.2 ∧ ∀ q, q < 48 → e.2.1 (116 + s) q = 0) 48 (fun i st => ∃ σi, st = (nI i, σi) ∧ (∀ k, k ≠ 116 + s → σi.1 k = σ.1 k) ∧ σi.2 = σ.2 ∧ ∀ q, q < i → σi.1 (116 + s) q = 0) (by
    rintro i st hi ⟨σi, rfl, h1, h2, h3⟩
    left
    unfold b_J7_fill_53178_5
    simp only [nm_eq]
    rw [if_neg (show ¬ (48 : Int32) ≤ nI i from nI_ge (b := 48) hi (by decide)), gd_t (inb_nI hi (by decide)), nI_clamp (by omega), nI_1]
    refine ⟨_, rfl, _, rfl, fun k hk => by rw [si_ne hk]; exact h1 k hk, h2, fun q hq => ?_⟩
    rw [si_get]
    by_cases e : q = i
    · rw [if_pos ⟨rfl, e⟩]
    · rw [if_neg (fun z => e z.2)]; exact h3 q (by omega)) (by
    rintro st ⟨σi, rfl, h1, h2, h3⟩
    unfold b_J7_fill_53178_5
    simp only [nm_eq]
    rw [if_pos (show (48 : Int32) ≤ nI 48 from nI_le (a := 48) (Nat.le_refl 48) (by decide))]
    exact ⟨_, rfl, h1, h2, h3⟩) (n := n) (by omega) (s := (0, σ)) ⟨σ, rfl, fun _ _ => rfl, rfl, fun q hq => by omega⟩
  unfold f_J7_fill_53178
  rw [he, bd_eq]
  exact ⟨_, rfl, hX⟩
theorem fillL_X (n : Nat) (hn : 1000 ≤ n) {σ : St} : ∃ σ', f_J7_fill_d0a16 n σ 0 = some σ' ∧ σ'.1 = σ.1 ∧ ∀ k, k < 6 → σ'.2 14 k = 0 := by
  obtain ⟨e, he, hX⟩ := lq_for (b := b_J7_fill_d0a16_6 n 0) (X := fun e => e.2.1 = σ.1 ∧ ∀ k, k < 6 → e.2.2 14 k = 0) 6 (fun i st => ∃ σi, st = (nI i, σi) ∧ σi.1 = σ.1 ∧ ∀ k, k < i → σi.2 14 k = 0) (by
    rintro i st hi ⟨σi, rfl, h1, h3⟩
    left
    unfold b_J7_fill_d0a16_6
    simp only [nm_eq]
    rw [if_neg (show ¬ (6 : Int32) ≤ nI i from nI_ge (b := 6) hi (by decide)), gd_t (inb_nI hi (by decide)), nI_clamp (by omega), nI_1]
    refine ⟨_, rfl, _, rfl, h1, fun q hq => ?_⟩
    rw [sl_get]
    by_cases e : q = i
    · rw [if_pos ⟨rfl, e⟩]
    · rw [if_neg (fun z => e z.2)]; exact h3 q (by omega)) (by
    rintro st ⟨σi, rfl, h1, h3⟩
    unfold b_J7_fill_d0a16_6
    simp only [nm_eq]
    rw [if_pos (show (6 : Int32) ≤ nI 6 from nI_le (a := 6) (Nat.le_refl 6) (by decide))]
    exact ⟨_, rfl, h1, h3⟩) (n := n) (by omega) (s := (0, σ)) ⟨σ, rfl, rfl, fun q hq => by omega⟩
  unfold f_J7_fill_d0a16
  rw [he, bd_eq]
  exact ⟨_, rfl, hX⟩
theorem clear_X (n : Nat) (hn : 1000 ≤ n) {σ : St} : ∃ σ', f_3_clear n σ = some σ' ∧ (∀ k, k < 116 → σ'.1 k = σ.1 k) ∧ dyX σ' [] S0 := by
  obtain ⟨e, he, hX⟩ := lq_for (b := b_3_clear_2 n) (X := fun e => (∀ k, k < 116 → e.2.1 k = σ.1 k) ∧ ∀ s q, s < 4 → q < 48 → e.2.1 (116 + s) q = 0) 4 (fun i st => ∃ σi, st = (nI i, σi) ∧ (∀ k, k < 116 → σi.1 k = σ.1 k) ∧ ∀ s q, s < i → q < 48 → σi.1 (116 + s) q = 0) (by
    rintro i st hi ⟨σi, rfl, h1, h3⟩
    left
    unfold b_3_clear_2
    simp only [nm_eq]
    obtain ⟨σ', t1, t2, t3, t4⟩ := fill_X n hn (σ := σi) hi
    rw [if_neg (show ¬ (4 : Int32) ≤ nI i from nI_ge (b := 4) hi (by decide)), gd_t (inb_nI hi (by decide)), nI_clamp (by omega), t1, bd_eq, nI_1]
    refine ⟨_, rfl, _, rfl, fun k hk => by rw [t2 k (by omega)]; exact h1 k hk, fun s q hs hq => ?_⟩
    by_cases e : s = i
    · subst e; exact t4 q hq
    · rw [t2 (116 + s) (by omega)]; exact h3 s q (by omega) hq) (by
    rintro st ⟨σi, rfl, h1, h3⟩
    unfold b_3_clear_2
    simp only [nm_eq]
    rw [if_pos (show (4 : Int32) ≤ nI 4 from nI_le (a := 4) (Nat.le_refl 4) (by decide))]
    exact ⟨_, rfl, h1, h3⟩) (n := n) (by omega) (s := (0, σ)) ⟨σ, rfl, fun _ _ => rfl, fun s q hs => by omega⟩
  unfold f_3_clear
  rw [he, bd_eq]
  obtain ⟨σ', t1, t2, t3⟩ := fillL_X n hn (σ := e.2)
  rw [t1, bd_eq]
  refine ⟨_, rfl, fun k hk => by rw [t2]; exact hX.1 k hk, fun h hh => by simp at hh, fun s q hs hq => ?_, fun k t hk => ?_⟩
  · rw [t2]; exact hX.2 s q hs hq
  · rw [t3 k hk]
    show (0#64).getLsbD t = false
    simp
theorem clear_M (n : Nat) (hn : 1000 ≤ n) {τ : St} : ∃ τ', f_11_clear n τ = some τ' ∧ (∀ k, k ≠ 25 → k ≠ 31 → τ'.1 k = τ.1 k) ∧ τ'.2 = τ.2 ∧ dyM τ' [] S0 := by
  obtain ⟨e, he, hX1, hX2, hX3⟩ := lq_for (b := b_11_clear_2 n) (X := fun e => (∀ k, k ≠ 25 → e.2.1 k = τ.1 k) ∧ e.2.2 = τ.2 ∧ ∀ q, q < 192 → e.2.1 25 q = 0) 192 (fun i st => ∃ σi, st = (nI i, σi) ∧ (∀ k, k ≠ 25 → σi.1 k = τ.1 k) ∧ σi.2 = τ.2 ∧ ∀ q, q < i → σi.1 25 q = 0) (by
    rintro i st hi ⟨σi, rfl, h1, h2, h3⟩
    left
    unfold b_11_clear_2
    simp only [nm_eq]
    rw [if_neg (show ¬ (192 : Int32) ≤ nI i from nI_ge (b := 192) hi (by decide)), gd_t (inb_nI hi (by decide)), nI_clamp (by omega), nI_1]
    refine ⟨_, rfl, _, rfl, fun k hk => by rw [si_ne hk]; exact h1 k hk, h2, fun q hq => ?_⟩
    rw [si_get]
    by_cases e : q = i
    · rw [if_pos ⟨rfl, e⟩]
    · rw [if_neg (fun z => e z.2)]; exact h3 q (by omega)) (by
    rintro st ⟨σi, rfl, h1, h2, h3⟩
    unfold b_11_clear_2
    simp only [nm_eq]
    rw [if_pos (show (192 : Int32) ≤ nI 192 from nI_le (a := 192) (Nat.le_refl 192) (by decide))]
    exact ⟨_, rfl, h1, h2, h3⟩) (n := n) (by omega) (s := (0, τ)) ⟨τ, rfl, fun _ _ => rfl, rfl, fun q hq => by omega⟩
  obtain ⟨e', he', hY1, hY2, hY3⟩ := lq_for (b := b_11_clear_24 n) (X := fun e' => (∀ k, k ≠ 31 → e'.2.1 k = e.2.1 k) ∧ e'.2.2 = e.2.2 ∧ ∀ q, q < 288 → e'.2.1 31 q = 0) 288 (fun i st => ∃ σi, st = (nI i, σi) ∧ (∀ k, k ≠ 31 → σi.1 k = e.2.1 k) ∧ σi.2 = e.2.2 ∧ ∀ q, q < i → σi.1 31 q = 0) (by
    rintro i st hi ⟨σi, rfl, h1, h2, h3⟩
    left
    unfold b_11_clear_24
    simp only [nm_eq]
    rw [if_neg (show ¬ (288 : Int32) ≤ nI i from nI_ge (b := 288) hi (by decide)), gd_t (inb_nI hi (by decide)), nI_clamp (by omega), nI_1]
    refine ⟨_, rfl, _, rfl, fun k hk => by rw [si_ne hk]; exact h1 k hk, h2, fun q hq => ?_⟩
    rw [si_get]
    by_cases e : q = i
    · rw [if_pos ⟨rfl, e⟩]
    · rw [if_neg (fun z => e z.2)]; exact h3 q (by omega)) (by
    rintro st ⟨σi, rfl, h1, h2, h3⟩
    unfold b_11_clear_24
    simp only [nm_eq]
    rw [if_pos (show (288 : Int32) ≤ nI 288 from nI_le (a := 288) (Nat.le_refl 288) (by decide))]
    exact ⟨_, rfl, h1, h2, h3⟩) (n := n) (by omega) (s := (0, e.2)) ⟨e.2, rfl, fun _ _ => rfl, rfl, fun q hq => by omega⟩
  unfold f_11_clear
  rw [he, bd_eq, he', bd_eq]
  refine ⟨_, rfl, fun k h1 h2 => by rw [hY1 k h2]; exact hX1 k h1, hY2.trans hX2, fun h hh => by simp at hh, fun s q hs hq => ?_, fun k t hk ht => ?_⟩
  · rw [hY1 25 (by decide)]; exact hX3 _ (by omega)
  · rw [hY3 _ (by omega)]; rfl
end DY
