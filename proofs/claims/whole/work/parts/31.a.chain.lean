def comps (N : Nat) : Nat → List Nat → List (List Nat)
  | 0, p => [p]
  | f + 1, p => (List.range N).flatMap (fun i => if i ∈ p then [] else comps N f (p ++ [i]))
/-! the next order, as the reference finds it -/
def sw (a : Nat → Nat) (x y : Nat) : Nat → Nat := fun k => if k = y then a x else if k = x then a y else a k
def fI (a : Nat → Nat) : Nat → Nat
  | 0 => 0
  | i + 1 => if a i ≤ a (i + 1) then i + 1 else fI a i
def fJ (a : Nat → Nat) (p : Nat) : Nat → Nat
  | 0 => 0
  | j + 1 => if p ≤ a (j + 1) then j + 1 else fJ a p j
def rv : Nat → (Nat → Nat) → Nat → Nat → (Nat → Nat)
  | 0, a, _, _ => a
  | f + 1, a, x, y => if y ≤ x then a else rv f (sw a x y) (x + 1) (y - 1)
def np (n : Nat) (l : List Nat) : Option (List Nat) := match fI (fun k => l.getD k 0) (n - 1) with
  | 0 => none
  | i + 1 => some ((List.range n).map (rv n (sw (fun k => l.getD k 0) i (fJ (fun k => l.getD k 0) (l.getD i 0) (n - 1))) (i + 1) (n - 1)))
def chain (n : Nat) : Nat → List Nat → List (List Nat)
  | 0, _ => []
  | f + 1, l => l :: match np n l with
    | none => []
    | some l' => chain n f l'
def ndB : List Nat → Bool
  | [] => true
  | x :: t => !t.contains x && ndB t
def okL (n : Nat) (l : List Nat) : Bool := decide (l.length = n) && l.all (fun x => decide (x < n)) && ndB l
theorem comps_ok : ∀ n, n < 7 → (comps n n []).all (okL n) = true := by decide +kernel
theorem chain_eq : ∀ n, n < 7 → chain n 721 (List.range n) = comps n n [] := by decide +kernel
theorem comps_len : ∀ n, n < 7 → (comps n n []).length < 721 := by decide +kernel
theorem ndB_nd : ∀ {l : List Nat}, ndB l = true → l.Nodup := by
  intro l
  induction l with
  | nil => intro _; exact List.nodup_nil
  | cons x t ih =>
    intro h
    rw [ndB, Bool.and_eq_true] at h
    refine List.nodup_cons.mpr ⟨fun z => ?_, ih h.2⟩
    have := h.1
    rw [List.contains_iff_mem.mpr z] at this
    cases this
theorem okL_of {n : Nat} {l : List Nat} (h : okL n l = true) : l.length = n ∧ (∀ x, x ∈ l → x < n) ∧ l.Nodup := by
  unfold okL at h
  rw [Bool.and_eq_true, Bool.and_eq_true] at h
  refine ⟨of_decide_eq_true h.1.1, fun x hx => ?_, ndB_nd h.2⟩
  exact of_decide_eq_true (List.all_eq_true.mp h.1.2 x hx)
