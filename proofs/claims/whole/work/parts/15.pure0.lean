/-! pure rules: loops, places, guards -/
theorem lq_ex {S E : Type} {b : S → Option (S ⊕ E)} {X : E → Prop} (I : Nat → S → Prop) (h : ∀ k s, I k s → (∃ k' s', k' < k ∧ b s = some (.inl s') ∧ I k' s') ∨ ∃ e, b s = some (.inr e) ∧ X e) : ∀ (n k : Nat) (s : S), k < n → I k s → ∃ e, lq b n s = some e ∧ X e := by
  intro n
  induction n with
  | zero => intro k s hk; exact absurd hk (Nat.not_lt_zero k)
  | succ n ih =>
    intro k s hk hI
    rcases h k s hI with ⟨k', s', h1, h2, h3⟩ | ⟨e, h2, h3⟩
    · obtain ⟨e, h4, h5⟩ := ih k' s' (by omega) h3
      exact ⟨e, by rw [lq, h2]; exact h4, h5⟩
    · exact ⟨e, by rw [lq, h2]; rfl, h3⟩
theorem lq_two {S1 E1 S2 E2 : Type} {b1 : S1 → Option (S1 ⊕ E1)} {b2 : S2 → Option (S2 ⊕ E2)} {X : E1 → E2 → Prop} (I : Nat → S1 → S2 → Prop) (h : ∀ k s1 s2, I k s1 s2 → (∃ k' s1' s2', k' < k ∧ b1 s1 = some (.inl s1') ∧ b2 s2 = some (.inl s2') ∧ I k' s1' s2') ∨ ∃ e1 e2, b1 s1 = some (.inr e1) ∧ b2 s2 = some (.inr e2) ∧ X e1 e2) : ∀ (n1 n2 k : Nat) (s1 : S1) (s2 : S2), k < n1 → k < n2 → I k s1 s2 → ∃ e1 e2, lq b1 n1 s1 = some e1 ∧ lq b2 n2 s2 = some e2 ∧ X e1 e2 := by
  intro n1
  induction n1 with
  | zero => intro n2 k s1 s2 hk; exact absurd hk (Nat.not_lt_zero k)
  | succ n1 ih =>
    intro n2 k s1 s2 hk1 hk2 hI
    obtain ⟨n3, rfl⟩ : ∃ n3, n2 = n3 + 1 := ⟨n2 - 1, by omega⟩
    rcases h k s1 s2 hI with ⟨k', s1', s2', h1, h2, h3, h4⟩ | ⟨e1, e2, h2, h3, h4⟩
    · obtain ⟨e1, e2, h5, h6, h7⟩ := ih n3 k' s1' s2' (by omega) (by omega) h4
      exact ⟨e1, e2, by rw [lq, h2]; exact h5, by rw [lq, h3]; exact h6, h7⟩
    · exact ⟨e1, e2, by rw [lq, h2]; rfl, by rw [lq, h3]; rfl, h4⟩
theorem gd_t {α : Type} {b : Bool} {f : Option α} (h : b = true) : gd b f = f := by rw [gd, if_pos h]
theorem nm_eq {α β : Type} {v : β} {f : β → Option α} : nm v f = f v := rfl
theorem bd_eq {α β : Type} {a : α} {f : α → Option β} : (some a).bind f = f a := rfl
theorem si_get (σ : St) (k j : Nat) (v : Int32) (a b : Nat) : (si σ k j v).1 a b = if a = k ∧ b = j then v else σ.1 a b := by
  unfold si va_up upd
  by_cases h1 : a = k
  · subst h1
    by_cases h2 : b = j <;> simp [h2]
  · simp [h1]
theorem si_hit {σ : St} {k j : Nat} {v : Int32} : (si σ k j v).1 k j = v := by rw [si_get, if_pos ⟨rfl, rfl⟩]
theorem si_cell {σ : St} {k j : Nat} {v : Int32} {a b : Nat} (h : a ≠ k) : (si σ k j v).1 a b = σ.1 a b := by rw [si_get, if_neg (fun q => h q.1)]
theorem si_place {σ : St} {k j : Nat} {v : Int32} {a b : Nat} (h : b ≠ j) : (si σ k j v).1 a b = σ.1 a b := by rw [si_get, if_neg (fun q => h q.2)]
theorem sl_get (σ : St) (k j : Nat) (v : Int64) (a b : Nat) : (sl σ k j v).2 a b = if a = k ∧ b = j then v else σ.2 a b := by
  unfold sl va_up vp_updL
  by_cases h1 : a = k
  · subst h1
    by_cases h2 : b = j <;> simp [h2]
  · simp [h1]
theorem inb_nI {j n : Nat} (h : j < n) (hn : n < 2 ^ 31) : inb (nI j) n = true := by
  have h1 := nI_pos' (n := j) (by omega)
  simp only [inb, Bool.and_eq_true, decide_eq_true_eq]
  exact ⟨h1, by rw [nI_clamp (by omega)]; exact h⟩
theorem inb_of {x : Int32} {n : Nat} (h : inb x n = true) (hn : n < 2 ^ 31) : ∃ j, j < n ∧ x = nI j := vp_in_of (inb_vp h) hn
/-- an Int32 in a range of naturals -/
theorem rg_of {x : Int32} {n : Nat} (h0 : ¬ x < 0) (h1 : ¬ nI n ≤ x) (hn : n < 2 ^ 31) : ∃ j, j < n ∧ x = nI j := by
  obtain ⟨j, hj, rfl⟩ := nI_of h0
  exact ⟨j, by rw [nI_leI hn hj] at h1; omega, rfl⟩
