/-! all orders, the first by guests first -/
def thL (th : Nat → Bool) : Nat → List Nat
  | 0 => []
  | g + 1 => if th g = true then thL th g ++ [g] else thL th g
theorem thL_len {th : Nat → Bool} : ∀ {G : Nat}, (thL th G).length = thC th G := by
  intro G
  induction G with
  | zero => rfl
  | succ G ih =>
    rw [thL, thC]
    split
    · rw [List.length_append, ih]; rfl
    · rw [ih]; rfl
theorem thL_mem {th : Nat → Bool} {g : Nat} : ∀ {G : Nat}, g ∈ thL th G ↔ g < G ∧ th g = true := by
  intro G
  induction G with
  | zero => simp [thL]
  | succ G ih =>
    rw [thL]
    by_cases e : th G = true
    · rw [if_pos e, List.mem_append, List.mem_singleton, ih]
      constructor
      · rintro (⟨h1, h2⟩ | rfl)
        · exact ⟨by omega, h2⟩
        · exact ⟨by omega, e⟩
      · rintro ⟨h1, h2⟩
        by_cases z : g = G
        · exact .inr z
        · exact .inl ⟨by omega, h2⟩
    · rw [if_neg e, ih]
      constructor
      · rintro ⟨h1, h2⟩; exact ⟨by omega, h2⟩
      · rintro ⟨h1, h2⟩
        refine ⟨?_, h2⟩
        by_cases z : g = G
        · subst z; exact absurd h2 e
        · omega
theorem getD_mem {l : List Nat} {i : Nat} (h : i < l.length) : l.getD i 0 ∈ l := by
  rw [List.getD_eq_getElem?_getD, List.getElem?_eq_getElem h]
  exact List.getElem_mem h
theorem thL_mono {th : Nat → Bool} : ∀ {G i j : Nat}, i < j → j < (thL th G).length → (thL th G).getD i 0 < (thL th G).getD j 0 := by
  intro G
  induction G with
  | zero => intro i j _ h; simp [thL] at h
  | succ G ih =>
    intro i j hij hj
    rw [thL] at hj ⊢
    by_cases e : th G = true
    · rw [if_pos e] at hj ⊢
      rw [List.length_append] at hj
      have hj : j < (thL th G).length + 1 := hj
      rw [getD_app (by omega)]
      by_cases z : j < (thL th G).length
      · rw [getD_app z]
        exact ih hij z
      · have hjl : j = (thL th G).length := by omega
        have h1 : (thL th G ++ [G]).getD j 0 = G := by rw [hjl]; simp
        rw [h1]
        exact (thL_mem.mp (getD_mem (show i < (thL th G).length by omega))).1
    · rw [if_neg e] at hj ⊢
      exact ih hij hj
def rD (la : Nat → Nat) (p : List Nat) : Nat → Nat
  | 0 => 0
  | i + 1 => rD la p i + if i ∈ p then 0 else la i
theorem rD_same {la : Nat → Nat} {p : List Nat} {i : Nat} : ∀ {N : Nat}, N ≤ i → rD la (p ++ [i]) N = rD la p N := by
  intro N
  induction N with
  | zero => intro _; rfl
  | succ N ih =>
    intro h
    rw [rD, rD, ih (by omega)]
    congr 1
    by_cases e : N ∈ p
    · rw [if_pos e, if_pos (List.mem_append_left _ e)]
    · rw [if_neg e, if_neg (fun z => by
        rcases List.mem_append.mp z with y | y
        · exact e y
        · have := List.mem_singleton.mp y; omega)]
theorem rD_snoc {la : Nat → Nat} {p : List Nat} {i : Nat} (hi : i ∉ p) : ∀ {N : Nat}, i < N → rD la (p ++ [i]) N + la i = rD la p N := by
  intro N
  induction N with
  | zero => intro h; omega
  | succ N ih =>
    intro h
    rw [rD, rD]
    by_cases e : i = N
    · subst e
      rw [rD_same (Nat.le_refl _), if_pos (List.mem_append_right _ (List.mem_singleton.mpr rfl)), if_neg hi, Nat.add_zero]
    · have := ih (by omega)
      have h2 : (if N ∈ p ++ [i] then 0 else la N) = if N ∈ p then 0 else la N := by
        by_cases z : N ∈ p
        · rw [if_pos z, if_pos (List.mem_append_left _ z)]
        · rw [if_neg z, if_neg (fun y => by
            rcases List.mem_append.mp y with u | u
            · exact z u
            · have := List.mem_singleton.mp u; omega)]
      rw [h2]; omega
theorem rD_all {p : List Nat} : ∀ {N : Nat}, rD (fun _ => 1) p N = 0 → ∀ (la : Nat → Nat), rD la p N = 0 := by
  intro N
  induction N with
  | zero => intro _ _; rfl
  | succ N ih =>
    intro h la
    rw [rD] at h ⊢
    rw [ih (by omega) la]
    by_cases e : N ∈ p
    · rw [if_pos e]
    · rw [if_neg e] at h; omega
theorem rD_nil {N : Nat} : rD (fun _ => 1) [] N = N := by
  induction N with
  | zero => rfl
  | succ N ih => rw [rD, ih, if_neg (by simp)]
abbrev Bs : Type := Option (Nat × Nat × List Nat)
def bUp (D O : Nat) (q : List Nat) : Bs → Bs
  | none => some (D, O, q)
  | some (D0, O0, q0) => if D0 < D ∨ (D = D0 ∧ O < O0) then some (D, O, q) else some (D0, O0, q0)
section SC
variable (c : Cf) (d : Nat) (P : Pg)
def scD : List Nat → DS → Nat
  | [], _ => 0
  | g :: l, S => xLen (gFin c d (P g) S.2.1 S.2.2) + scD l (dAdd c d P S g)
def scO : List Nat → DS → Nat
  | [], _ => 0
  | g :: l, S => xOv (gFin c d (P g) S.2.1 S.2.2) + scO l (dAdd c d P S g)
theorem scD_snoc {g : Nat} : ∀ {l : List Nat} {S : DS}, scD c d P (l ++ [g]) S = scD c d P l S + xLen (gFin c d (P g) (dLay c d P l S).2.1 (dLay c d P l S).2.2) := by
  intro l
  induction l with
  | nil => intro S; show xLen (gFin c d (P g) S.2.1 S.2.2) + 0 = 0 + xLen (gFin c d (P g) S.2.1 S.2.2); omega
  | cons h l ih =>
    intro S
    show xLen _ + scD c d P (l ++ [g]) (dAdd c d P S h) = xLen _ + scD c d P l (dAdd c d P S h) + _
    rw [ih, Nat.add_assoc]; rfl
theorem scO_snoc {g : Nat} : ∀ {l : List Nat} {S : DS}, scO c d P (l ++ [g]) S = scO c d P l S + xOv (gFin c d (P g) (dLay c d P l S).2.1 (dLay c d P l S).2.2) := by
  intro l
  induction l with
  | nil => intro S; show xOv (gFin c d (P g) S.2.1 S.2.2) + 0 = 0 + xOv (gFin c d (P g) S.2.1 S.2.2); omega
  | cons h l ih =>
    intro S
    show xOv _ + scO c d P (l ++ [g]) (dAdd c d P S h) = xOv _ + scO c d P l (dAdd c d P S h) + _
    rw [ih, Nat.add_assoc]; rfl
variable (gs : Nat → Nat) (N : Nat)
def laD (i : Nat) : Nat := xLen (gFin c d (P (gs i)) S0.2.1 S0.2.2)
def laO (i : Nat) : Nat := xOv (gFin c d (P (gs i)) S0.2.1 S0.2.2)
def hD (p : List Nat) : Nat := scD c d P (p.map gs) S0 + rD (laD c d P gs) p N
def hO (p : List Nat) : Nat := scO c d P (p.map gs) S0 + rD (laO c d P gs) p N
def bF (b : Bs) (q : List Nat) : Bs := bUp (scD c d P (q.map gs) S0) (scO c d P (q.map gs) S0) q b
theorem hD_snoc {p : List Nat} {i : Nat} (hi : i ∉ p) (hN : i < N) : hD c d P gs N (p ++ [i]) + laD c d P gs i = hD c d P gs N p + xLen (gFin c d (P (gs i)) (dLay c d P (p.map gs) S0).2.1 (dLay c d P (p.map gs) S0).2.2) := by
  unfold hD
  rw [List.map_append, show [i].map gs = [gs i] from rfl, scD_snoc]
  have := rD_snoc (la := laD c d P gs) hi hN
  omega
theorem hO_snoc {p : List Nat} {i : Nat} (hi : i ∉ p) (hN : i < N) : hO c d P gs N (p ++ [i]) + laO c d P gs i = hO c d P gs N p + xOv (gFin c d (P (gs i)) (dLay c d P (p.map gs) S0).2.1 (dLay c d P (p.map gs) S0).2.2) := by
  unfold hO
  rw [List.map_append, show [i].map gs = [gs i] from rfl, scO_snoc]
  have := rD_snoc (la := laO c d P gs) hi hN
  omega
theorem h_mono {p : List Nat} {i : Nat} (hi : i ∉ p) (hN : i < N) : hD c d P gs N (p ++ [i]) ≤ hD c d P gs N p ∧ (hD c d P gs N (p ++ [i]) = hD c d P gs N p → hO c d P gs N p ≤ hO c d P gs N (p ++ [i])) := by
  have h1 := hD_snoc c d P gs N hi hN
  have h2 := hO_snoc c d P gs N hi hN
  obtain ⟨m1, m2⟩ := mo_fin (c := c) (d := d) (p := P (gs i)) (T1 := S0.2.1) (B1 := S0.2.2) (T2 := (dLay c d P (p.map gs) S0).2.1) (B2 := (dLay c d P (p.map gs) S0).2.2) (fun _ _ => Nat.zero_le _) (fun _ _ z => by cases z)
  have e1 : laD c d P gs i = xLen (gFin c d (P (gs i)) S0.2.1 S0.2.2) := rfl
  have e2 : laO c d P gs i = xOv (gFin c d (P (gs i)) S0.2.1 S0.2.2) := rfl
  refine ⟨by omega, fun z => ?_⟩
  have := m2 (by omega)
  omega
theorem comps_le : ∀ (f : Nat) (p : List Nat), rD (fun _ => 1) p N = f → ∀ q, q ∈ comps N f p → scD c d P (q.map gs) S0 ≤ hD c d P gs N p ∧ (scD c d P (q.map gs) S0 = hD c d P gs N p → hO c d P gs N p ≤ scO c d P (q.map gs) S0) := by
  intro f
  induction f with
  | zero =>
    intro p hp q hq
    have hq : q = p := List.mem_singleton.mp hq
    subst hq
    have e1 : hD c d P gs N q = scD c d P (q.map gs) S0 := by unfold hD; rw [rD_all hp]; rfl
    have e2 : hO c d P gs N q = scO c d P (q.map gs) S0 := by unfold hO; rw [rD_all hp]; rfl
    rw [e1, e2]
    exact ⟨Nat.le_refl _, fun _ => Nat.le_refl _⟩
  | succ f ih =>
    intro p hp q hq
    rw [comps] at hq
    obtain ⟨i, hi, hq⟩ := List.mem_flatMap.mp hq
    have hiN : i < N := List.mem_range.mp hi
    by_cases e : i ∈ p
    · rw [if_pos e] at hq; simp at hq
    · rw [if_neg e] at hq
      have hf := rD_snoc (la := fun _ => 1) e hiN
      obtain ⟨h1, h2⟩ := ih (p ++ [i]) (by omega) q hq
      obtain ⟨m1, m2⟩ := h_mono c d P gs N e hiN
      refine ⟨Nat.le_trans h1 m1, fun z => ?_⟩
      exact Nat.le_trans (m2 (by omega)) (h2 (by omega))
def hop (b : Bs) (p : List Nat) : Prop := match b with
  | none => False
  | some (D, O, _) => hD c d P gs N p < D ∨ (hD c d P gs N p = D ∧ O ≤ hO c d P gs N p)
theorem fold_id {α β : Type} {F : β → α → β} {b : β} : ∀ {l : List α}, (∀ q, q ∈ l → F b q = b) → l.foldl F b = b := by
  intro l
  induction l with
  | nil => intro _; rfl
  | cons a l ih =>
    intro h
    rw [List.foldl_cons, h a List.mem_cons_self]
    exact ih (fun q hq => h q (List.mem_cons_of_mem _ hq))
theorem hop_fold {f : Nat} {p : List Nat} {b : Bs} (hp : rD (fun _ => 1) p N = f) (h : hop c d P gs N b p) : (comps N f p).foldl (bF c d P gs) b = b := by
  refine fold_id (fun q hq => ?_)
  obtain ⟨h1, h2⟩ := comps_le c d P gs N f p hp q hq
  match b, h with
  | some (D, O, q0), h =>
    have h : hD c d P gs N p < D ∨ (hD c d P gs N p = D ∧ O ≤ hO c d P gs N p) := h
    show (if D < scD c d P (q.map gs) S0 ∨ (scD c d P (q.map gs) S0 = D ∧ scO c d P (q.map gs) S0 < O) then _ else _) = _
    rw [if_neg]
    rintro (z | ⟨z1, z2⟩)
    · rcases h with y | y <;> omega
    · rcases h with y | ⟨y1, y2⟩
      · omega
      · have := h2 (by omega)
        omega
/-- the sums over the rows, when nobody stands twice in the order -/
theorem dLay_out {g : Nat} : ∀ {l : List Nat} {S : DS}, g ∉ l → (dLay c d P l S).1 g = S.1 g := by
  intro l
  induction l with
  | nil => intro S _; rfl
  | cons h l ih =>
    intro S hg
    show (dLay c d P l (dAdd c d P S h)).1 g = _
    rw [ih (fun z => hg (List.mem_cons_of_mem _ z))]
    show (if g = h then _ else S.1 g) = _
    rw [if_neg (fun z => hg (by rw [z]; exact List.mem_cons_self))]
def sN (f : Nat → Nat) : Nat → Nat
  | 0 => 0
  | j + 1 => sN f j + f j
theorem sN_c {f f' : Nat → Nat} : ∀ {n : Nat}, (∀ j, j < n → f j = f' j) → sN f n = sN f' n := by
  intro n
  induction n with
  | zero => intro _; rfl
  | succ n ih => intro h; rw [sN, sN, ih (fun j hj => h j (by omega)), h n (by omega)]
theorem sN_shift {f : Nat → Nat} : ∀ {n : Nat}, sN f (n + 1) = f 0 + sN (fun j => f (j + 1)) n := by
  intro n
  induction n with
  | zero => show 0 + f 0 = f 0 + 0; omega
  | succ n ih => rw [sN, ih, sN]; omega
theorem sum_D : ∀ {l : List Nat} {S : DS}, l.Nodup → sN (fun j => xLen ((dLay c d P l S).1 (l.getD j 0))) l.length = scD c d P l S := by
  intro l
  induction l with
  | nil => intro S _; rfl
  | cons g l ih =>
    intro S hn
    have hn' := List.nodup_cons.mp hn
    rw [List.length_cons, sN_shift]
    show xLen ((dLay c d P l (dAdd c d P S g)).1 g) + sN (fun j => xLen ((dLay c d P l (dAdd c d P S g)).1 (l.getD j 0))) l.length = _
    rw [ih hn'.2, dLay_out c d P hn'.1]
    show xLen (if g = g then _ else _) + _ = _
    rw [if_pos rfl]; rfl
theorem sum_O : ∀ {l : List Nat} {S : DS}, l.Nodup → sN (fun j => xOv ((dLay c d P l S).1 (l.getD j 0))) l.length = scO c d P l S := by
  intro l
  induction l with
  | nil => intro S _; rfl
  | cons g l ih =>
    intro S hn
    have hn' := List.nodup_cons.mp hn
    rw [List.length_cons, sN_shift]
    show xOv ((dLay c d P l (dAdd c d P S g)).1 g) + sN (fun j => xOv ((dLay c d P l (dAdd c d P S g)).1 (l.getD j 0))) l.length = _
    rw [ih hn'.2, dLay_out c d P hn'.1]
    show xOv (if g = g then _ else _) + _ = _
    rw [if_pos rfl]; rfl
end SC
