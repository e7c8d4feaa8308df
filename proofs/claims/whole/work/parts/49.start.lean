/-! both begin alike -/
theorem σ0X_0 {k : Nat} (h1 : k ≠ 6) (h2 : k ≠ 7) (h3 : k ≠ 15) (h4 : k < 22 ∨ 25 < k) (j : Nat) : σ0X.1 k j = 0 := by
  unfold σ0X
  simp only
  rw [if_neg h1, if_neg h2, if_neg h3, if_neg (by omega), if_neg (by omega), if_neg (by omega), if_neg (by omega)]
theorem σ0M_0 {k : Nat} (h1 : k ≠ 0) (h2 : k ≠ 3) (j : Nat) : σ0M.1 k j = 0 := by
  unfold σ0M
  simp only
  rw [if_neg h1, if_neg h2]
theorem rel_0 : Rel σ0X σ0M := by
  refine ⟨0, 0, 0, 0, by decide, by decide, by decide, by decide, ?_, ?_, ?_, ?_, ?_, ?_, ⟨?_, ?_⟩, ?_, ?_⟩
  · exact ⟨by decide, by decide, by decide, by decide, by decide, by decide, by decide, by decide, by decide, by decide, by decide, by decide, by decide⟩
  · intro s hs
    have : s = 0 ∨ s = 1 ∨ s = 2 ∨ s = 3 := by omega
    rcases this with rfl | rfl | rfl | rfl
    · exact ⟨0, 0, 48, 0, by decide, by decide, by decide, by decide, ⟨by decide, by decide⟩, ⟨by decide, by decide⟩, ⟨by decide, by decide⟩, by decide, by decide⟩
    · exact ⟨0, 0, 48, 0, by decide, by decide, by decide, by decide, ⟨by decide, by decide⟩, ⟨by decide, by decide⟩, ⟨by decide, by decide⟩, by decide, by decide⟩
    · exact ⟨0, 0, 48, 0, by decide, by decide, by decide, by decide, ⟨by decide, by decide⟩, ⟨by decide, by decide⟩, ⟨by decide, by decide⟩, by decide, by decide⟩
    · exact ⟨0, 0, 48, 0, by decide, by decide, by decide, by decide, ⟨by decide, by decide⟩, ⟨by decide, by decide⟩, ⟨by decide, by decide⟩, by decide, by decide⟩
  · intro s hs
    have : s = 0 ∨ s = 1 ∨ s = 2 ∨ s = 3 := by omega
    rcases this with rfl | rfl | rfl | rfl
    · exact ⟨by decide, by decide, by decide, by decide⟩
    · exact ⟨by decide, by decide, by decide, by decide⟩
    · exact ⟨by decide, by decide, by decide, by decide⟩
    · exact ⟨by decide, by decide, by decide, by decide⟩
  · intro s d hs hd
    rw [σ0X_0 (by omega) (by omega) (by omega) (by omega), σ0M_0 (by decide) (by decide)]
  · intro k hk
    rw [σ0X_0 (by omega) (by omega) (by omega) (by omega), σ0X_0 (by omega) (by omega) (by omega) (by omega), σ0M_0 (by decide) (by decide), σ0M_0 (by decide) (by decide)]
    exact ⟨rfl, rfl⟩
  · intro r hr
    rw [σ0X_0 (by decide) (by decide) (by decide) (by decide), σ0M_0 (by decide) (by decide)]
  · intro g j hg hj
    rw [σ0X_0 (by omega) (by omega) (by omega) (by omega), σ0M_0 (by omega) (by omega)]
  · intro g hg
    exact absurd hg (Nat.not_lt_zero g)
  · intro r hr
    exact absurd hr (Nat.not_lt_zero r)
  · intro i hi
    exact absurd hi (Nat.not_lt_zero i)
/-- from the entry, for every script of at most 3072 ints, the law comes to its end with true -/
theorem whole_start {p : Program} {e : Env} {s : State} {m : MethodId} {below : List Frame} {meth : Method} {c : Code} (l : Launch) {b L : Nat} {xs : Nat → Int32} (hL : L ≤ 3072) (C0 : lw_At p s m meth c b L xs) : W p l e room_1 s m #[Value.ref b] below meth c s.heap [] 0 0 (lw_Z below #[Value.ref b] s) (entryFrame m ([Value.ref b] : List Value).toArray 4) :=
  start_open l hL C0 (Rel := Rel) (n := 1000) rel_0 (sim_spring 1000) (sim_bath 1000) (sim_rate 1000) (sim_feed 1000 (Nat.le_refl _)) (sim_end 1000) (sim_load 1000 (Nat.le_refl _)) (sim_fault 1000) (sim_guest 1000) (sim_leave 1000) (sim_look 1000 (Nat.le_refl _)) (sim_plan 1000 (Nat.le_refl _)) (sim_taken 1000 (Nat.le_refl _)) (sim_best 1000 (Nat.le_refl _)) (sim_keep 1000 (Nat.le_refl _)) (sim_next 1000 (Nat.le_refl _)) (sim_water 1000) (sim_bottles 1000) (sim_sell 1000 (Nat.le_refl _)) (sim_bill 1000)
