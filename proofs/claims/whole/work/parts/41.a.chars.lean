/-! signs and their classes on both sides -/
def sx (b : Nat) : Int32 := (Int32.toInt8 (nI b)).toInt32
theorem sx_lo : ∀ b, b < 128 → sx b = nI b := by decide +kernel
theorem sx_hi : ∀ b, b < 256 → 128 ≤ b → sx b < 0 := by decide +kernel
def letB (b : Nat) : Bool := decide ((97 ≤ b ∧ b ≤ 122) ∨ (65 ≤ b ∧ b ≤ 90))
def smB (b : Nat) : Bool := decide (97 ≤ b ∧ b ≤ 122)
def dgB (b : Nat) : Bool := decide (48 ≤ b ∧ b ≤ 57)
def blB (b : Nat) : Bool := decide (b = 32 ∨ b = 10)
theorem neg_lt {x : Int32} {k : Nat} (hk : k < 2 ^ 31) (h : x < 0) : x < nI k := by
  rw [Int32.lt_iff_toInt_lt] at h ⊢
  rw [nI_toInt hk]
  have : (0 : Int32).toInt = 0 := by decide
  omega
theorem neg_ne {x : Int32} {k : Nat} (hk : k < 2 ^ 31) (h : x < 0) : ¬ x = nI k := fun e => by
  rw [e] at h
  exact nI_pos hk h
theorem isBlank_X (n : Nat) (σ : St) {b : Nat} (hb : b < 256) : f_8_isBlank n σ (sx b) = some (if blB b = true then 1 else 0, σ) := by
  unfold f_8_isBlank blB
  simp only [decide_eq_true_eq]
  by_cases h : b < 128
  · rw [sx_lo b h]
    by_cases c1 : b = 32
    · rw [if_pos (by rw [c1]; rfl), if_pos (.inl c1)]
    rw [if_neg (show ¬ nI b = 32 from fun z => c1 ((nI_eq (b := 32) (by omega) (by decide)).mp z))]
    by_cases c2 : b = 10
    · rw [if_pos (by rw [c2]; rfl), if_pos (.inr c2)]
    rw [if_neg (show ¬ nI b = 10 from fun z => c2 ((nI_eq (b := 10) (by omega) (by decide)).mp z)), if_neg (fun z => z.elim c1 c2)]
  · have hn := sx_hi b hb (by omega)
    rw [if_neg (show ¬ sx b = 32 from neg_ne (k := 32) (by decide) hn), if_neg (show ¬ sx b = 10 from neg_ne (k := 10) (by decide) hn), if_neg (fun z => by omega)]
theorem isLetter_X (n : Nat) (σ : St) {b : Nat} (hb : b < 256) : f_8_isLetter n σ (sx b) = some (if letB b = true then 1 else 0, σ) := by
  unfold f_8_isLetter letB
  simp only [decide_eq_true_eq]
  by_cases h : b < 128
  · rw [sx_lo b h]
    by_cases c1 : b < 97
    · rw [if_pos (show nI b < (97 : Int32) from nI_lt (b := 97) c1 (by decide))]
      by_cases c2 : b < 65
      · rw [if_pos (show nI b < (65 : Int32) from nI_lt (b := 65) c2 (by decide)), if_neg (fun z => by omega)]
      rw [if_neg (show ¬ nI b < (65 : Int32) from nI_nlt (b := 65) (by omega) (by omega))]
      by_cases c3 : 90 < b
      · rw [if_pos (show (90 : Int32) < nI b from nI_lt (a := 90) c3 (by omega)), if_neg (fun z => by omega)]
      rw [if_neg (show ¬ (90 : Int32) < nI b from nI_nlt (a := 90) (by omega) (by decide)), if_pos (by omega)]
    · rw [if_neg (show ¬ nI b < (97 : Int32) from nI_nlt (b := 97) (by omega) (by omega))]
      by_cases c2 : b ≤ 122
      · rw [if_pos (show nI b ≤ (122 : Int32) from nI_le (b := 122) c2 (by decide)), if_pos (by omega)]
      rw [if_neg (show ¬ nI b ≤ (122 : Int32) from nI_ge (a := 122) (by omega) (by omega)), if_neg (show ¬ nI b < (65 : Int32) from nI_nlt (b := 65) (by omega) (by omega)), if_pos (show (90 : Int32) < nI b from nI_lt (a := 90) (by omega) (by omega)), if_neg (fun z => by omega)]
  · have hn := sx_hi b hb (by omega)
    rw [if_pos (show sx b < (97 : Int32) from neg_lt (k := 97) (by decide) hn), if_pos (show sx b < (65 : Int32) from neg_lt (k := 65) (by decide) hn), if_neg (fun z => by omega)]
theorem isDigit_X (n : Nat) (σ : St) {b : Nat} (hb : b < 256) : f_8_isDigit n σ (sx b) = some (if dgB b = true then 1 else 0, σ) := by
  unfold f_8_isDigit dgB
  simp only [decide_eq_true_eq]
  by_cases h : b < 128
  · rw [sx_lo b h]
    by_cases c1 : b < 48
    · rw [if_pos (show nI b < (48 : Int32) from nI_lt (b := 48) c1 (by decide)), if_neg (fun z => by omega)]
    rw [if_neg (show ¬ nI b < (48 : Int32) from nI_nlt (b := 48) (by omega) (by omega))]
    by_cases c3 : 57 < b
    · rw [if_pos (show (57 : Int32) < nI b from nI_lt (a := 57) c3 (by omega)), if_neg (fun z => by omega)]
    rw [if_neg (show ¬ (57 : Int32) < nI b from nI_nlt (a := 57) (by omega) (by decide)), if_pos (by omega)]
  · have hn := sx_hi b hb (by omega)
    rw [if_pos (show sx b < (48 : Int32) from neg_lt (k := 48) (by decide) hn), if_neg (fun z => by omega)]
def sgX (b : Nat) : Nat := if b = 40 then 10 else if b = 41 then 11 else if b = 58 then 8 else if b = 59 then 9 else 13
theorem sign_X (n : Nat) (σ : St) {b : Nat} (hb : b < 256) : f_8_signToken n σ (sx b) = some (nI (sgX b), σ) := by
  unfold f_8_signToken sgX
  by_cases h : b < 128
  · rw [sx_lo b h]
    by_cases c1 : b = 40
    · rw [if_pos (show nI b = 40 by rw [c1]; rfl), if_pos c1]; rfl
    rw [if_neg (show ¬ nI b = 40 from fun z => c1 ((nI_eq (b := 40) (by omega) (by decide)).mp z)), if_neg c1]
    by_cases c2 : b = 41
    · rw [if_pos (show nI b = 41 by rw [c2]; rfl), if_pos c2]; rfl
    rw [if_neg (show ¬ nI b = 41 from fun z => c2 ((nI_eq (b := 41) (by omega) (by decide)).mp z)), if_neg c2]
    by_cases c3 : b = 58
    · rw [if_pos (show nI b = 58 by rw [c3]; rfl), if_pos c3]; rfl
    rw [if_neg (show ¬ nI b = 58 from fun z => c3 ((nI_eq (b := 58) (by omega) (by decide)).mp z)), if_neg c3]
    by_cases c4 : b = 59
    · rw [if_pos (show nI b = 59 by rw [c4]; rfl), if_pos c4]; rfl
    rw [if_neg (show ¬ nI b = 59 from fun z => c4 ((nI_eq (b := 59) (by omega) (by decide)).mp z)), if_neg c4]; rfl
  · have hn := sx_hi b hb (by omega)
    rw [if_neg (show ¬ sx b = 40 from neg_ne (k := 40) (by decide) hn), if_neg (show ¬ sx b = 41 from neg_ne (k := 41) (by decide) hn), if_neg (show ¬ sx b = 58 from neg_ne (k := 58) (by decide) hn), if_neg (show ¬ sx b = 59 from neg_ne (k := 59) (by decide) hn), if_neg (by omega), if_neg (by omega), if_neg (by omega), if_neg (by omega)]; rfl
theorem isSmall_M (n : Nat) (τ : St) {b : Nat} (hb : b < 256) : f_11_isSmall n τ (nI b) = some (if smB b = true then 1 else 0, τ) := by
  unfold f_11_isSmall smB
  rw [isIn_eq, bd_eq]
  simp only [decide_eq_true_eq]
  have : (97 ≤ nI b ∧ nI b ≤ 122) ↔ (97 ≤ b ∧ b ≤ 122) := by
    rw [show (97 : Int32) = nI 97 from rfl, show (122 : Int32) = nI 122 from rfl, nI_leI (by decide) (by omega), nI_leI (by omega) (by decide)]
  by_cases c : 97 ≤ b ∧ b ≤ 122
  · rw [if_pos c, if_pos (this.mpr c)]; exact gd_t (by decide)
  · rw [if_neg c, if_neg (fun z => c (this.mp z))]; exact gd_t (by decide)
theorem isDigit_M (n : Nat) (τ : St) {b : Nat} (hb : b < 256) : f_11_isDigit n τ (nI b) = some (if dgB b = true then 1 else 0, τ) := by
  unfold f_11_isDigit dgB
  rw [isIn_eq, bd_eq]
  simp only [decide_eq_true_eq]
  have : (48 ≤ nI b ∧ nI b ≤ 57) ↔ (48 ≤ b ∧ b ≤ 57) := by
    rw [show (48 : Int32) = nI 48 from rfl, show (57 : Int32) = nI 57 from rfl, nI_leI (by decide) (by omega), nI_leI (by omega) (by decide)]
  by_cases c : 48 ≤ b ∧ b ≤ 57
  · rw [if_pos c, if_pos (this.mpr c)]; exact gd_t (by decide)
  · rw [if_neg c, if_neg (fun z => c (this.mp z))]; exact gd_t (by decide)
theorem isLetter_M (n : Nat) (τ : St) {b : Nat} (hb : b < 256) : f_11_isLetter n τ (nI b) = some (if letB b = true then 1 else 0, τ) := by
  unfold f_11_isLetter letB
  rw [isSmall_M n τ hb, bd_eq]
  unfold smB
  simp only [decide_eq_true_eq]
  by_cases c : 97 ≤ b ∧ b ≤ 122
  · rw [if_pos c, if_neg (by decide), if_pos (.inl c)]
  · rw [if_neg c, if_pos rfl, isIn_eq, bd_eq]
    simp only
    have : (65 ≤ nI b ∧ nI b ≤ 90) ↔ (65 ≤ b ∧ b ≤ 90) := by
      rw [show (65 : Int32) = nI 65 from rfl, show (90 : Int32) = nI 90 from rfl, nI_leI (by decide) (by omega), nI_leI (by omega) (by decide)]
    by_cases c2 : 65 ≤ b ∧ b ≤ 90
    · rw [if_pos (this.mpr c2), if_neg (by decide), if_pos (.inr c2)]
    · rw [if_neg (fun z => c2 (this.mp z)), if_pos rfl, if_neg (fun z => z.elim c c2)]
theorem none_M (n : Nat) (τ : St) : f_11_isLetter n τ (-1) = some (0, τ) ∧ f_11_isDigit n τ (-1) = some (0, τ) := by
  constructor
  · unfold f_11_isLetter f_11_isSmall
    rw [isIn_eq, bd_eq]
    rfl
  · unfold f_11_isDigit
    rw [isIn_eq, bd_eq]
    rfl
/-! words -/
theorem cdB_inj {B o : Nat} (hB : 0 < B) : ∀ {w w' : List Nat}, (∀ x, x ∈ w → 0 < o + x ∧ o + x < B) → (∀ x, x ∈ w' → 0 < o + x ∧ o + x < B) → cdB B o w = cdB B o w' → w = w' := by
  intro w
  induction w with
  | nil =>
    intro w' _ h2 e
    cases w' with
    | nil => rfl
    | cons y t =>
      have := (h2 y List.mem_cons_self).1
      have e : 0 = cdB B o t * B + (o + y) := e
      omega
  | cons x t ih =>
    intro w' h1 h2 e
    cases w' with
    | nil =>
      have := (h1 x List.mem_cons_self).1
      have e : cdB B o t * B + (o + x) = 0 := e
      omega
    | cons y u =>
      obtain ⟨a1, a2⟩ := h1 x List.mem_cons_self
      obtain ⟨b1, b2⟩ := h2 y List.mem_cons_self
      have e : cdB B o t * B + (o + x) = cdB B o u * B + (o + y) := e
      have hm : (cdB B o t * B + (o + x)) % B = (cdB B o u * B + (o + y)) % B := by rw [e]
      rw [Nat.add_comm, Nat.add_mul_mod_self_right, Nat.mod_eq_of_lt a2, Nat.add_comm (cdB B o u * B), Nat.add_mul_mod_self_right, Nat.mod_eq_of_lt b2] at hm
      have hxy : x = y := by omega
      have ht : cdB B o t * B = cdB B o u * B := by omega
      have ht : cdB B o t = cdB B o u := Nat.eq_of_mul_eq_mul_right hB ht
      rw [hxy, ih (fun z hz => h1 z (List.mem_cons_of_mem _ hz)) (fun z hz => h2 z (List.mem_cons_of_mem _ hz)) ht]
theorem cdB_lt {B o : Nat} (hB : 0 < B) : ∀ {w : List Nat} {m : Nat}, (∀ x, x ∈ w → o + x < B) → w.length ≤ m → cdB B o w < B ^ m := by
  intro w
  induction w with
  | nil => intro m h hm; exact Nat.pow_pos hB
  | cons x t ih =>
    intro m h hm
    cases m with
    | zero => simp at hm
    | succ m =>
      have h1 := ih (m := m) (fun z hz => h z (List.mem_cons_of_mem _ hz)) (by rw [List.length_cons] at hm; omega)
      have h2 := h x List.mem_cons_self
      rw [Nat.pow_succ]
      show cdB B o t * B + (o + x) < B ^ m * B
      have h3 : (cdB B o t + 1) * B ≤ B ^ m * B := Nat.mul_le_mul_right B h1
      rw [Nat.succ_mul] at h3
      omega
/-- the letters from a place on, the last first -/
def wOf (b : Nat → Nat) (a : Nat) : Nat → List Nat
  | 0 => []
  | j + 1 => (b (a + j) - 96) :: wOf b a j
theorem wOf_len {b : Nat → Nat} {a : Nat} : ∀ {j : Nat}, (wOf b a j).length = j := by
  intro j
  induction j with
  | zero => rfl
  | succ j ih => rw [wOf, List.length_cons, ih]
theorem wOf_mem {b : Nat → Nat} {a : Nat} : ∀ {j : Nat}, (∀ i, i < j → smB (b (a + i)) = true) → ∀ x, x ∈ wOf b a j → 1 ≤ x ∧ x ≤ 26 := by
  intro j
  induction j with
  | zero => intro _ x hx; simp [wOf] at hx
  | succ j ih =>
    intro h x hx
    rw [wOf] at hx
    rcases List.mem_cons.mp hx with rfl | hx
    · have := h j (by omega)
      simp only [smB, decide_eq_true_eq] at this
      omega
    · exact ih (fun i hi => h i (by omega)) x hx
theorem wOf_eq {b f : Nat → Nat} {a : Nat} : ∀ {j : Nat}, (∀ i, i < j → 97 ≤ b (a + i)) → (∀ i, i < j → 97 ≤ f (0 + i)) → (wOf b a j = wOf f 0 j ↔ ∀ i, i < j → b (a + i) = f (0 + i)) := by
  intro j
  induction j with
  | zero => intro _ _; exact ⟨fun _ i hi => by omega, fun _ => rfl⟩
  | succ j ih =>
    intro h1 h2
    have ih := ih (fun i hi => h1 i (by omega)) (fun i hi => h2 i (by omega))
    have q1 := h1 j (by omega)
    have q2 := h2 j (by omega)
    constructor
    · intro h i hi
      rw [wOf, wOf] at h
      injection h with h3 h4
      by_cases e : i = j
      · subst e; omega
      · exact ih.mp h4 i (by omega)
    · intro h
      rw [wOf, wOf, ih.mpr (fun i hi => h i (by omega)), h j (by omega)]
theorem wsh {x c : Nat} (hx : x < 2 ^ 48) (hc : c < 256) : (lN x <<< (Int32.toInt64 8 &&& 63)) ||| Int32.toInt64 (nI c) = lN (x * 256 + c) := by
  apply Int64.toBitVec_inj.mp
  apply BitVec.eq_of_toNat_eq
  rw [nI_l (by omega), Int64.toBitVec_or, BitVec.toNat_or]
  have h1 : (lN x <<< (Int32.toInt64 8 &&& 63)).toBitVec.toNat = x * 256 := by
    show ((lN x).toBitVec <<< ((Int32.toInt64 8 &&& 63).toBitVec.smod 64).toNat).toNat = _
    rw [show ((Int32.toInt64 8 &&& 63).toBitVec.smod 64).toNat = 8 by decide, BitVec.toNat_shiftLeft, Nat.shiftLeft_eq]
    have : (lN x).toBitVec.toNat = x := Nat.mod_eq_of_lt (by omega)
    rw [this]
    exact Nat.mod_eq_of_lt (by omega)
  have h2 : (lN c).toBitVec.toNat = c := Nat.mod_eq_of_lt (by omega)
  have h3 : (lN (x * 256 + c)).toBitVec.toNat = x * 256 + c := Nat.mod_eq_of_lt (by omega)
  rw [h1, h2, h3]
  have := Nat.shiftLeft_add_eq_or_of_lt (i := 8) (b := c) (by omega) x
  rw [Nat.shiftLeft_eq] at this
  exact this.symm
