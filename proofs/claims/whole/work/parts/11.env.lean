theorem env_EC {s : State} {b : Nat} (hts : ∀ w ∈ lw_tbl, w.before #[Value.ref b] s = true) : EC s :=
  ⟨va_AO.of (A := #[Value.ref b]) (hts _ (List.mem_of_getElem? (i := 85) (by decide +kernel))), va_AO.of (A := #[Value.ref b]) (hts _ (List.mem_of_getElem? (i := 87) (by decide +kernel))), va_AO.of (A := #[Value.ref b]) (hts _ (List.mem_of_getElem? (i := 89) (by decide +kernel))), va_AO.of (A := #[Value.ref b]) (hts _ (List.mem_of_getElem? (i := 133) (by decide +kernel))), va_AO.of (A := #[Value.ref b]) (hts _ (List.mem_of_getElem? (i := 346) (by decide +kernel))), (show va_AOA .int s from (hts (Cond.arrayOver (.array .int)) (List.mem_of_getElem? (i := 348) (by decide +kernel)) : (Cond.arrayOver (.array .int)).before #[Value.ref b] s = true)), va_Nw.of rfl (hts _ (List.mem_of_getElem? (i := 98) (by decide +kernel))), va_Nw.of rfl (hts _ (List.mem_of_getElem? (i := 135) (by decide +kernel))), va_Nw.of rfl (hts _ (List.mem_of_getElem? (i := 350) (by decide +kernel))), va_Nw.of rfl (hts _ (List.mem_of_getElem? (i := 201) (by decide +kernel))), va_Nw.of rfl (hts _ (List.mem_of_getElem? (i := 248) (by decide +kernel))), va_Nw.of rfl (hts _ (List.mem_of_getElem? (i := 264) (by decide +kernel))), va_Nw.of rfl (hts _ (List.mem_of_getElem? (i := 414) (by decide +kernel)))⟩
theorem env_LEAST_FIRST {s : State} {b : Nat} {A : Nat → Prop} (hgv : (Jvm.Cond.and given_1 narrow_1).before #[Value.ref b] s = true) (hA : ∀ a : Nat, a < s.heap.size → ¬ A a) : ∃ t : Nat, (Term.static "CureTown" "LEAST_FIRST" "[I").eval #[Value.ref b] s none [] s = some (.ref t) ∧ va_T .int t 5 (fun j => .int (leastF j)) A s s.heap := by
  have hs := flat_of_before _ hgv
  refine va_Tof (by decide) (hs (.arrayOf (.static "CureTown" "LEAST_FIRST" "[I") .int) (by decide +kernel)) (va_eqt (hs (.eq (.length (.static "CureTown" "LEAST_FIRST" "[I")) (.int 5)) (by decide +kernel))) ?_ hA
  refine df_s (n := 4) ?_ (va_eqt (hs (.eq (.elem (.static "CureTown" "LEAST_FIRST" "[I") (.int 4)) (.int 1)) (by decide +kernel)))
  refine df_s (n := 3) ?_ (va_eqt (hs (.eq (.elem (.static "CureTown" "LEAST_FIRST" "[I") (.int 3)) (.int 0)) (by decide +kernel)))
  refine df_s (n := 2) ?_ (va_eqt (hs (.eq (.elem (.static "CureTown" "LEAST_FIRST" "[I") (.int 2)) (.int 1)) (by decide +kernel)))
  refine df_s (n := 1) ?_ (va_eqt (hs (.eq (.elem (.static "CureTown" "LEAST_FIRST" "[I") (.int 1)) (.int 0)) (by decide +kernel)))
  refine df_s (n := 0) ?_ (va_eqt (hs (.eq (.elem (.static "CureTown" "LEAST_FIRST" "[I") (.int 0)) (.int 0)) (by decide +kernel)))
  exact tb_df
theorem env_MOST_FIRST {s : State} {b : Nat} {A : Nat → Prop} (hgv : (Jvm.Cond.and given_1 narrow_1).before #[Value.ref b] s = true) (hA : ∀ a : Nat, a < s.heap.size → ¬ A a) : ∃ t : Nat, (Term.static "CureTown" "MOST_FIRST" "[I").eval #[Value.ref b] s none [] s = some (.ref t) ∧ va_T .int t 5 (fun j => .int (mostF j)) A s s.heap := by
  have hs := flat_of_before _ hgv
  refine va_Tof (by decide) (hs (.arrayOf (.static "CureTown" "MOST_FIRST" "[I") .int) (by decide +kernel)) (va_eqt (hs (.eq (.length (.static "CureTown" "MOST_FIRST" "[I")) (.int 5)) (by decide +kernel))) ?_ hA
  refine df_s (n := 4) ?_ (va_eqt (hs (.eq (.elem (.static "CureTown" "MOST_FIRST" "[I") (.int 4)) (.int 9)) (by decide +kernel)))
  refine df_s (n := 3) ?_ (va_eqt (hs (.eq (.elem (.static "CureTown" "MOST_FIRST" "[I") (.int 3)) (.int 47)) (by decide +kernel)))
  refine df_s (n := 2) ?_ (va_eqt (hs (.eq (.elem (.static "CureTown" "MOST_FIRST" "[I") (.int 2)) (.int 16)) (by decide +kernel)))
  refine df_s (n := 1) ?_ (va_eqt (hs (.eq (.elem (.static "CureTown" "MOST_FIRST" "[I") (.int 1)) (.int 2)) (by decide +kernel)))
  refine df_s (n := 0) ?_ (va_eqt (hs (.eq (.elem (.static "CureTown" "MOST_FIRST" "[I") (.int 0)) (.int 3)) (by decide +kernel)))
  exact tb_df
theorem env_str {s : State} {b : Nat} {A : Nat → Prop} (hgv : (Jvm.Cond.and given_1 narrow_1).before #[Value.ref b] s = true) (hA : ∀ a : Nat, a < s.heap.size → ¬ A a) : ∃ (adK adV : Nat → Nat), vk_S 6 wdLen wdByt adK adV A s s.heap ∧ ∀ i : Nat, i < 6 → (Term.string "CureTown$Tape" (wdIx i)).eval #[Value.ref b] s none [] s = some (.ref (adK i)) := by
  have hs := flat_of_before _ hgv
  refine vk_Sof (tm := fun i => .string "CureTown$Tape" (wdIx i)) (by decide +kernel) ?_ ?_ ?_ ?_ ?_ ?_ hA
  · show ∀ i : Nat, i < 6 → _
    refine df_s (n := 5) ?_ (hs (.exactly (.string "CureTown$Tape" 72) "java/lang/String") (by decide +kernel))
    refine df_s (n := 4) ?_ (hs (.exactly (.string "CureTown$Tape" 70) "java/lang/String") (by decide +kernel))
    refine df_s (n := 3) ?_ (hs (.exactly (.string "CureTown$Tape" 68) "java/lang/String") (by decide +kernel))
    refine df_s (n := 2) ?_ (hs (.exactly (.string "CureTown$Tape" 66) "java/lang/String") (by decide +kernel))
    refine df_s (n := 1) ?_ (hs (.exactly (.string "CureTown$Tape" 64) "java/lang/String") (by decide +kernel))
    refine df_s (n := 0) ?_ (hs (.exactly (.string "CureTown$Tape" 58) "java/lang/String") (by decide +kernel))
    exact tb_df
  · show ∀ i : Nat, i < 6 → _
    refine df_s (n := 5) ?_ (hs (.eq (.field (.string "CureTown$Tape" 72) "java/lang/String" "coder" "B") (.int 0)) (by decide +kernel))
    refine df_s (n := 4) ?_ (hs (.eq (.field (.string "CureTown$Tape" 70) "java/lang/String" "coder" "B") (.int 0)) (by decide +kernel))
    refine df_s (n := 3) ?_ (hs (.eq (.field (.string "CureTown$Tape" 68) "java/lang/String" "coder" "B") (.int 0)) (by decide +kernel))
    refine df_s (n := 2) ?_ (hs (.eq (.field (.string "CureTown$Tape" 66) "java/lang/String" "coder" "B") (.int 0)) (by decide +kernel))
    refine df_s (n := 1) ?_ (hs (.eq (.field (.string "CureTown$Tape" 64) "java/lang/String" "coder" "B") (.int 0)) (by decide +kernel))
    refine df_s (n := 0) ?_ (hs (.eq (.field (.string "CureTown$Tape" 58) "java/lang/String" "coder" "B") (.int 0)) (by decide +kernel))
    exact tb_df
  · show ∀ i : Nat, i < 6 → _
    refine df_s (n := 5) ?_ (hs (.arrayOf (.field (.string "CureTown$Tape" 72) "java/lang/String" "value" "[B") .byte) (by decide +kernel))
    refine df_s (n := 4) ?_ (hs (.arrayOf (.field (.string "CureTown$Tape" 70) "java/lang/String" "value" "[B") .byte) (by decide +kernel))
    refine df_s (n := 3) ?_ (hs (.arrayOf (.field (.string "CureTown$Tape" 68) "java/lang/String" "value" "[B") .byte) (by decide +kernel))
    refine df_s (n := 2) ?_ (hs (.arrayOf (.field (.string "CureTown$Tape" 66) "java/lang/String" "value" "[B") .byte) (by decide +kernel))
    refine df_s (n := 1) ?_ (hs (.arrayOf (.field (.string "CureTown$Tape" 64) "java/lang/String" "value" "[B") .byte) (by decide +kernel))
    refine df_s (n := 0) ?_ (hs (.arrayOf (.field (.string "CureTown$Tape" 58) "java/lang/String" "value" "[B") .byte) (by decide +kernel))
    exact tb_df
  · show ∀ i : Nat, i < 6 → _
    refine df_s (n := 5) ?_ (hs (.eq (.length (.field (.string "CureTown$Tape" 72) "java/lang/String" "value" "[B")) (.int 4)) (by decide +kernel))
    refine df_s (n := 4) ?_ (hs (.eq (.length (.field (.string "CureTown$Tape" 70) "java/lang/String" "value" "[B")) (.int 4)) (by decide +kernel))
    refine df_s (n := 3) ?_ (hs (.eq (.length (.field (.string "CureTown$Tape" 68) "java/lang/String" "value" "[B")) (.int 5)) (by decide +kernel))
    refine df_s (n := 2) ?_ (hs (.eq (.length (.field (.string "CureTown$Tape" 66) "java/lang/String" "value" "[B")) (.int 4)) (by decide +kernel))
    refine df_s (n := 1) ?_ (hs (.eq (.length (.field (.string "CureTown$Tape" 64) "java/lang/String" "value" "[B")) (.int 4)) (by decide +kernel))
    refine df_s (n := 0) ?_ (hs (.eq (.length (.field (.string "CureTown$Tape" 58) "java/lang/String" "value" "[B")) (.int 5)) (by decide +kernel))
    exact tb_df
  · show ∀ i : Nat, i < 6 → _
    refine df_s (n := 5) ?_ (df_s (n := 3) (df_s (n := 2) (df_s (n := 1) (df_s (n := 0) tb_df (hs (.eq (.elem (.field (.string "CureTown$Tape" 72) "java/lang/String" "value" "[B") (.int 0)) (.int 99)) (by decide +kernel))) (hs (.eq (.elem (.field (.string "CureTown$Tape" 72) "java/lang/String" "value" "[B") (.int 1)) (.int 117)) (by decide +kernel))) (hs (.eq (.elem (.field (.string "CureTown$Tape" 72) "java/lang/String" "value" "[B") (.int 2)) (.int 114)) (by decide +kernel))) (hs (.eq (.elem (.field (.string "CureTown$Tape" 72) "java/lang/String" "value" "[B") (.int 3)) (.int 101)) (by decide +kernel)))
    refine df_s (n := 4) ?_ (df_s (n := 3) (df_s (n := 2) (df_s (n := 1) (df_s (n := 0) tb_df (hs (.eq (.elem (.field (.string "CureTown$Tape" 70) "java/lang/String" "value" "[B") (.int 0)) (.int 101)) (by decide +kernel))) (hs (.eq (.elem (.field (.string "CureTown$Tape" 70) "java/lang/String" "value" "[B") (.int 1)) (.int 97)) (by decide +kernel))) (hs (.eq (.elem (.field (.string "CureTown$Tape" 70) "java/lang/String" "value" "[B") (.int 2)) (.int 99)) (by decide +kernel))) (hs (.eq (.elem (.field (.string "CureTown$Tape" 70) "java/lang/String" "value" "[B") (.int 3)) (.int 104)) (by decide +kernel)))
    refine df_s (n := 3) ?_ (df_s (n := 4) (df_s (n := 3) (df_s (n := 2) (df_s (n := 1) (df_s (n := 0) tb_df (hs (.eq (.elem (.field (.string "CureTown$Tape" 68) "java/lang/String" "value" "[B") (.int 0)) (.int 117)) (by decide +kernel))) (hs (.eq (.elem (.field (.string "CureTown$Tape" 68) "java/lang/String" "value" "[B") (.int 1)) (.int 110)) (by decide +kernel))) (hs (.eq (.elem (.field (.string "CureTown$Tape" 68) "java/lang/String" "value" "[B") (.int 2)) (.int 116)) (by decide +kernel))) (hs (.eq (.elem (.field (.string "CureTown$Tape" 68) "java/lang/String" "value" "[B") (.int 3)) (.int 105)) (by decide +kernel))) (hs (.eq (.elem (.field (.string "CureTown$Tape" 68) "java/lang/String" "value" "[B") (.int 4)) (.int 108)) (by decide +kernel)))
    refine df_s (n := 2) ?_ (df_s (n := 3) (df_s (n := 2) (df_s (n := 1) (df_s (n := 0) tb_df (hs (.eq (.elem (.field (.string "CureTown$Tape" 66) "java/lang/String" "value" "[B") (.int 0)) (.int 114)) (by decide +kernel))) (hs (.eq (.elem (.field (.string "CureTown$Tape" 66) "java/lang/String" "value" "[B") (.int 1)) (.int 101)) (by decide +kernel))) (hs (.eq (.elem (.field (.string "CureTown$Tape" 66) "java/lang/String" "value" "[B") (.int 2)) (.int 115)) (by decide +kernel))) (hs (.eq (.elem (.field (.string "CureTown$Tape" 66) "java/lang/String" "value" "[B") (.int 3)) (.int 116)) (by decide +kernel)))
    refine df_s (n := 1) ?_ (df_s (n := 3) (df_s (n := 2) (df_s (n := 1) (df_s (n := 0) tb_df (hs (.eq (.elem (.field (.string "CureTown$Tape" 64) "java/lang/String" "value" "[B") (.int 0)) (.int 98)) (by decide +kernel))) (hs (.eq (.elem (.field (.string "CureTown$Tape" 64) "java/lang/String" "value" "[B") (.int 1)) (.int 97)) (by decide +kernel))) (hs (.eq (.elem (.field (.string "CureTown$Tape" 64) "java/lang/String" "value" "[B") (.int 2)) (.int 116)) (by decide +kernel))) (hs (.eq (.elem (.field (.string "CureTown$Tape" 64) "java/lang/String" "value" "[B") (.int 3)) (.int 104)) (by decide +kernel)))
    refine df_s (n := 0) ?_ (df_s (n := 4) (df_s (n := 3) (df_s (n := 2) (df_s (n := 1) (df_s (n := 0) tb_df (hs (.eq (.elem (.field (.string "CureTown$Tape" 58) "java/lang/String" "value" "[B") (.int 0)) (.int 103)) (by decide +kernel))) (hs (.eq (.elem (.field (.string "CureTown$Tape" 58) "java/lang/String" "value" "[B") (.int 1)) (.int 108)) (by decide +kernel))) (hs (.eq (.elem (.field (.string "CureTown$Tape" 58) "java/lang/String" "value" "[B") (.int 2)) (.int 97)) (by decide +kernel))) (hs (.eq (.elem (.field (.string "CureTown$Tape" 58) "java/lang/String" "value" "[B") (.int 3)) (.int 115)) (by decide +kernel))) (hs (.eq (.elem (.field (.string "CureTown$Tape" 58) "java/lang/String" "value" "[B") (.int 4)) (.int 115)) (by decide +kernel)))
    exact tb_df
  · refine fun i j hi => ?_
    revert j
    revert i
    show ∀ i : Nat, i < 6 → ∀ j : Nat, j < 6 → i ≠ j → _
    refine df_s (n := 5) ?_ (df_s (n := 5) (df_s (n := 4) (df_s (n := 3) (df_s (n := 2) (df_s (n := 1) (df_s (n := 0) tb_df (fun _ => Or.inr (hs (.not (.eq (.string "CureTown$Tape" 58) (.string "CureTown$Tape" 72))) (by decide +kernel)))) (fun _ => Or.inr (hs (.not (.eq (.string "CureTown$Tape" 64) (.string "CureTown$Tape" 72))) (by decide +kernel)))) (fun _ => Or.inr (hs (.not (.eq (.string "CureTown$Tape" 66) (.string "CureTown$Tape" 72))) (by decide +kernel)))) (fun _ => Or.inr (hs (.not (.eq (.string "CureTown$Tape" 68) (.string "CureTown$Tape" 72))) (by decide +kernel)))) (fun _ => Or.inr (hs (.not (.eq (.string "CureTown$Tape" 70) (.string "CureTown$Tape" 72))) (by decide +kernel)))) (fun h => absurd rfl h))
    refine df_s (n := 4) ?_ (df_s (n := 5) (df_s (n := 4) (df_s (n := 3) (df_s (n := 2) (df_s (n := 1) (df_s (n := 0) tb_df (fun _ => Or.inr (hs (.not (.eq (.string "CureTown$Tape" 58) (.string "CureTown$Tape" 70))) (by decide +kernel)))) (fun _ => Or.inr (hs (.not (.eq (.string "CureTown$Tape" 64) (.string "CureTown$Tape" 70))) (by decide +kernel)))) (fun _ => Or.inr (hs (.not (.eq (.string "CureTown$Tape" 66) (.string "CureTown$Tape" 70))) (by decide +kernel)))) (fun _ => Or.inr (hs (.not (.eq (.string "CureTown$Tape" 68) (.string "CureTown$Tape" 70))) (by decide +kernel)))) (fun h => absurd rfl h)) (fun _ => Or.inl (hs (.not (.eq (.string "CureTown$Tape" 70) (.string "CureTown$Tape" 72))) (by decide +kernel))))
    refine df_s (n := 3) ?_ (df_s (n := 5) (df_s (n := 4) (df_s (n := 3) (df_s (n := 2) (df_s (n := 1) (df_s (n := 0) tb_df (fun _ => Or.inr (hs (.not (.eq (.string "CureTown$Tape" 58) (.string "CureTown$Tape" 68))) (by decide +kernel)))) (fun _ => Or.inr (hs (.not (.eq (.string "CureTown$Tape" 64) (.string "CureTown$Tape" 68))) (by decide +kernel)))) (fun _ => Or.inr (hs (.not (.eq (.string "CureTown$Tape" 66) (.string "CureTown$Tape" 68))) (by decide +kernel)))) (fun h => absurd rfl h)) (fun _ => Or.inl (hs (.not (.eq (.string "CureTown$Tape" 68) (.string "CureTown$Tape" 70))) (by decide +kernel)))) (fun _ => Or.inl (hs (.not (.eq (.string "CureTown$Tape" 68) (.string "CureTown$Tape" 72))) (by decide +kernel))))
    refine df_s (n := 2) ?_ (df_s (n := 5) (df_s (n := 4) (df_s (n := 3) (df_s (n := 2) (df_s (n := 1) (df_s (n := 0) tb_df (fun _ => Or.inr (hs (.not (.eq (.string "CureTown$Tape" 58) (.string "CureTown$Tape" 66))) (by decide +kernel)))) (fun _ => Or.inr (hs (.not (.eq (.string "CureTown$Tape" 64) (.string "CureTown$Tape" 66))) (by decide +kernel)))) (fun h => absurd rfl h)) (fun _ => Or.inl (hs (.not (.eq (.string "CureTown$Tape" 66) (.string "CureTown$Tape" 68))) (by decide +kernel)))) (fun _ => Or.inl (hs (.not (.eq (.string "CureTown$Tape" 66) (.string "CureTown$Tape" 70))) (by decide +kernel)))) (fun _ => Or.inl (hs (.not (.eq (.string "CureTown$Tape" 66) (.string "CureTown$Tape" 72))) (by decide +kernel))))
    refine df_s (n := 1) ?_ (df_s (n := 5) (df_s (n := 4) (df_s (n := 3) (df_s (n := 2) (df_s (n := 1) (df_s (n := 0) tb_df (fun _ => Or.inr (hs (.not (.eq (.string "CureTown$Tape" 58) (.string "CureTown$Tape" 64))) (by decide +kernel)))) (fun h => absurd rfl h)) (fun _ => Or.inl (hs (.not (.eq (.string "CureTown$Tape" 64) (.string "CureTown$Tape" 66))) (by decide +kernel)))) (fun _ => Or.inl (hs (.not (.eq (.string "CureTown$Tape" 64) (.string "CureTown$Tape" 68))) (by decide +kernel)))) (fun _ => Or.inl (hs (.not (.eq (.string "CureTown$Tape" 64) (.string "CureTown$Tape" 70))) (by decide +kernel)))) (fun _ => Or.inl (hs (.not (.eq (.string "CureTown$Tape" 64) (.string "CureTown$Tape" 72))) (by decide +kernel))))
    refine df_s (n := 0) ?_ (df_s (n := 5) (df_s (n := 4) (df_s (n := 3) (df_s (n := 2) (df_s (n := 1) (df_s (n := 0) tb_df (fun h => absurd rfl h)) (fun _ => Or.inl (hs (.not (.eq (.string "CureTown$Tape" 58) (.string "CureTown$Tape" 64))) (by decide +kernel)))) (fun _ => Or.inl (hs (.not (.eq (.string "CureTown$Tape" 58) (.string "CureTown$Tape" 66))) (by decide +kernel)))) (fun _ => Or.inl (hs (.not (.eq (.string "CureTown$Tape" 58) (.string "CureTown$Tape" 68))) (by decide +kernel)))) (fun _ => Or.inl (hs (.not (.eq (.string "CureTown$Tape" 58) (.string "CureTown$Tape" 70))) (by decide +kernel)))) (fun _ => Or.inl (hs (.not (.eq (.string "CureTown$Tape" 58) (.string "CureTown$Tape" 72))) (by decide +kernel))))
    exact tb_df
theorem env_EX {s : State} {b : Nat} {ad : Nat → Nat} (hts : ∀ w ∈ lw_tbl, w.before #[Value.ref b] s = true) (hgv : (Jvm.Cond.and given_1 narrow_1).before #[Value.ref b] s = true) (had : ∀ k, k < 120 → s.heap.size ≤ ad k) : ∃ z : ZX, EX ad z s := by
  have hA : ∀ a : Nat, a < s.heap.size → ¬ inA 120 ad a := fun a ha h => by
    obtain ⟨k, hk, rfl⟩ := h
    have := had k hk
    omega
  have hs := flat_of_before _ hgv
  obtain ⟨tL, eL, hTL⟩ := env_LEAST_FIRST (A := inA 120 ad) hgv hA
  obtain ⟨tM, eM, hTM⟩ := env_MOST_FIRST (A := inA 120 ad) hgv hA
  obtain ⟨adK, adV, hVS, hVR⟩ := env_str (A := inA 120 ad) hgv hA
  refine ⟨(tL, tM, adK, adV), va_Nw.of rfl (hts _ (List.mem_of_getElem? (i := 688) (by decide +kernel))), va_Nw.of rfl (hts _ (List.mem_of_getElem? (i := 644) (by decide +kernel))), va_Nw.of rfl (hts _ (List.mem_of_getElem? (i := 646) (by decide +kernel))), va_Zref (hts _ (List.mem_of_getElem? (i := 645) (by decide +kernel))) (hts _ (List.mem_of_getElem? (i := 51) (by decide +kernel))) eL hA, hTL, va_Zref (hts _ (List.mem_of_getElem? (i := 647) (by decide +kernel))) (hts _ (List.mem_of_getElem? (i := 51) (by decide +kernel))) eM hA, hTM, hVS, ?_, va_Zof (hts _ (List.mem_of_getElem? (i := 546) (by decide +kernel))) (hts _ (List.mem_of_getElem? (i := 63) (by decide +kernel))) (va_eqt (hs (.eq (.static "java/lang/String" "COMPACT_STRINGS" "Z") (.int 1)) (by decide +kernel))) hA, va_Zqof (hts _ (List.mem_of_getElem? (i := 562) (by decide +kernel))) (hts _ (List.mem_of_getElem? (i := 65) (by decide +kernel))) (hs (.isRef (.static "jdk/internal/util/Preconditions" "SIOOBE_FORMATTER" "Ljava/util/function/BiFunction;")) (by decide +kernel)) hA⟩
  refine df_s (n := 5) ?_ (vk_R.of (A := #[Value.ref b]) (hts _ (List.mem_of_getElem? (i := 589) (by decide +kernel))) (hVR 5 (by decide)))
  refine df_s (n := 4) ?_ (vk_R.of (A := #[Value.ref b]) (hts _ (List.mem_of_getElem? (i := 588) (by decide +kernel))) (hVR 4 (by decide)))
  refine df_s (n := 3) ?_ (vk_R.of (A := #[Value.ref b]) (hts _ (List.mem_of_getElem? (i := 587) (by decide +kernel))) (hVR 3 (by decide)))
  refine df_s (n := 2) ?_ (vk_R.of (A := #[Value.ref b]) (hts _ (List.mem_of_getElem? (i := 586) (by decide +kernel))) (hVR 2 (by decide)))
  refine df_s (n := 1) ?_ (vk_R.of (A := #[Value.ref b]) (hts _ (List.mem_of_getElem? (i := 585) (by decide +kernel))) (hVR 1 (by decide)))
  refine df_s (n := 0) ?_ (vk_R.of (A := #[Value.ref b]) (hts _ (List.mem_of_getElem? (i := 532) (by decide +kernel))) (hVR 0 (by decide)))
  exact tb_df
set_option maxRecDepth 100000 in
theorem env_K {s : State} {b : Nat} (hts : ∀ w ∈ lw_tbl, w.before #[Value.ref b] s = true) : ∃ D : va_G, va_K D vwCl [] s := by
  obtain ⟨c0, i0, k0⟩ := u_known (C := RX0) (T := TX0) (N := 2) (n := 2) hts in_wsX00 (hts _ (List.mem_of_getElem? (i := 247) (by decide +kernel)))
  obtain ⟨c1, i1, k1⟩ := u_known (C := RX1) (T := TX1) (N := 11) (n := 11) hts in_wsX10 (hts _ (List.mem_of_getElem? (i := 413) (by decide +kernel)))
  obtain ⟨c2, i2, k2⟩ := u_known (C := RX2) (T := TX2) (N := 10) (n := 10) hts in_wsX20 (hts _ (List.mem_of_getElem? (i := 91) (by decide +kernel)))
  obtain ⟨c3, i3, k3⟩ := u_known (C := RX3) (T := TX3) (N := 3) (n := 3) hts in_wsX30 (hts _ (List.mem_of_getElem? (i := 340) (by decide +kernel)))
  obtain ⟨c4, i4, k4⟩ := u_known (C := RX4) (T := TX4) (N := 9) (n := 9) hts in_wsX40 (hts _ (List.mem_of_getElem? (i := 263) (by decide +kernel)))
  obtain ⟨c5, i5, k5⟩ := u_known (C := RX5) (T := TX5) (N := 10) (n := 10) hts in_wsX50 (hts _ (List.mem_of_getElem? (i := 349) (by decide +kernel)))
  obtain ⟨c6, i6, k6⟩ := u_known (C := RX6) (T := TX6) (N := 5) (n := 5) hts in_wsX60 (hts _ (List.mem_of_getElem? (i := 134) (by decide +kernel)))
  obtain ⟨c7, i7, k7⟩ := u_known (C := RX7) (T := TX7) (N := 9) (n := 9) hts in_wsX70 (hts _ (List.mem_of_getElem? (i := 200) (by decide +kernel)))
  obtain ⟨c8, i8, k8⟩ := u_known (C := RX8) (T := TX8) (N := 7) (n := 7) hts in_wsX80 (hts _ (List.mem_of_getElem? (i := 97) (by decide +kernel)))
  obtain ⟨c9, i9, k9⟩ := u_known (C := RX9) (T := TX9) (N := 6) (n := 6) hts in_wsX90 (hts _ (List.mem_of_getElem? (i := 79) (by decide +kernel)))
  obtain ⟨c10, i10, k10⟩ := u_known (C := RX10) (T := TX10) (N := 7) (n := 7) hts in_wsX100 (hts _ (List.mem_of_getElem? (i := 71) (by decide +kernel)))
  obtain ⟨c11, i11, k11⟩ := u_known (C := RX11) (T := TX11) (N := 61) (n := 61) hts in_wsX110 (hts _ (List.mem_of_getElem? (i := 867) (by decide +kernel)))
  refine ⟨(fun k => ([c0, c1, c2, c3, c4, c5, c6, c7, c8, c9, c10, c11] : List ClassId).getD k 0, fun k => ([i0, i1, i2, i3, i4, i5, i6, i7, i8, i9, i10, i11] : List (Nat → Nat)).getD k (fun _ => 0)), fun k q hq => ?_, fun k q h => by simp at h⟩
  match k, hq with
  | 0, hq => cases hq; exact k0
  | 1, hq => cases hq; exact k1
  | 2, hq => cases hq; exact k2
  | 3, hq => cases hq; exact k3
  | 4, hq => cases hq; exact k4
  | 5, hq => cases hq; exact k5
  | 6, hq => cases hq; exact k6
  | 7, hq => cases hq; exact k7
  | 8, hq => cases hq; exact k8
  | 9, hq => cases hq; exact k9
  | 10, hq => cases hq; exact k10
  | 11, hq => cases hq; exact k11
  | k + 12, hq => simp [vwCl] at hq
