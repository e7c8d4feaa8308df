theorem comps_full : ∀ n, n < 7 → (comps n n []).all (fun l => (List.range n).all (fun i => l.contains i)) = true := by decide +kernel
theorem comps_has {n i : Nat} {l : List Nat} (hn : n < 7) (hl : l ∈ comps n n []) (hi : i < n) : i ∈ l := by
  have h1 := List.all_eq_true.mp (comps_full n hn) l hl
  have h2 := List.all_eq_true.mp h1 i (List.mem_range.mpr hi)
  exact List.contains_iff_mem.mp h2
