def gM (h0 : Nat) (qs : Nat → Nat) (p : Nat) : Nat := (if p < 20 then (if p < 10 then (if p < 5 then (if p < 2 then (if p < 1 then h0 else (qs 0)) else (if p < 3 then (qs 1) else (if p < 4 then (qs 2) else (qs 3)))) else (if p < 7 then (if p < 6 then (qs 4) else (qs 5)) else (if p < 8 then (qs 6) else (if p < 9 then (qs 7) else (qs 8))))) else (if p < 15 then (if p < 12 then (if p < 11 then (qs 9) else (qs 10)) else (if p < 13 then (qs 11) else (if p < 14 then (qs 12) else (qs 13)))) else (if p < 17 then (if p < 16 then (qs 14) else (qs 15)) else (if p < 18 then (qs 16) else (if p < 19 then (qs 17) else (qs 18)))))) else (if p < 30 then (if p < 25 then (if p < 22 then (if p < 21 then (qs 19) else (qs 20)) else (if p < 23 then (qs 21) else (if p < 24 then (qs 22) else (qs 23)))) else (if p < 27 then (if p < 26 then (qs 24) else (qs 25)) else (if p < 28 then (qs 26) else (if p < 29 then (qs 27) else (qs 28))))) else (if p < 35 then (if p < 32 then (if p < 31 then (qs 29) else (qs 30)) else (if p < 33 then (qs 31) else (if p < 34 then (qs 32) else (qs 33)))) else (if p < 38 then (if p < 36 then (qs 34) else (if p < 37 then (qs 35) else (qs 36))) else (if p < 39 then (qs 37) else (if p < 40 then (qs 38) else (qs 39)))))))
def plM (k : Nat) : Nat := (if k < 20 then (if k < 10 then (if k < 5 then (if k < 2 then (if k < 1 then 0 else 1) else (if k < 3 then 2 else (if k < 4 then 3 else 4))) else (if k < 7 then (if k < 6 then 5 else 6) else (if k < 8 then 7 else (if k < 9 then 8 else 9)))) else (if k < 15 then (if k < 12 then (if k < 11 then 10 else 11) else (if k < 13 then 12 else (if k < 14 then 13 else 14))) else (if k < 17 then (if k < 16 then 15 else 16) else (if k < 18 then 17 else (if k < 19 then 18 else 19))))) else (if k < 30 then (if k < 25 then (if k < 22 then (if k < 21 then 20 else 21) else (if k < 23 then 22 else (if k < 24 then 23 else 24))) else (if k < 27 then (if k < 26 then 25 else 26) else (if k < 28 then 27 else (if k < 29 then 28 else 29)))) else (if k < 35 then (if k < 32 then (if k < 31 then 30 else 31) else (if k < 33 then 32 else (if k < 34 then 33 else 34))) else (if k < 38 then (if k < 36 then 35 else (if k < 37 then 36 else 37)) else (if k < 39 then 38 else (if k < 40 then 39 else 40))))))
def adM (h0 : Nat) (qs : Nat → Nat) (k : Nat) : Nat := gM h0 qs (plM k)
def cAM (cs : Nat → ClassId) (k : Nat) : ClassId := (if k < 20 then (if k < 10 then (if k < 5 then (if k < 2 then (cs 0) else (if k < 3 then (cs 1) else (if k < 4 then (cs 2) else (cs 3)))) else (if k < 7 then (if k < 6 then (cs 4) else (cs 5)) else (if k < 8 then (cs 6) else (if k < 9 then (cs 7) else (cs 8))))) else (if k < 15 then (if k < 12 then (if k < 11 then (cs 9) else (cs 10)) else (if k < 13 then (cs 11) else (if k < 14 then (cs 12) else (cs 13)))) else (if k < 17 then (if k < 16 then (cs 14) else (cs 15)) else (if k < 18 then (cs 16) else (if k < 19 then (cs 17) else (cs 18)))))) else (if k < 30 then (if k < 25 then (if k < 22 then (if k < 21 then (cs 19) else (cs 20)) else (if k < 23 then (cs 21) else (if k < 24 then (cs 22) else (cs 23)))) else (if k < 27 then (if k < 26 then (cs 24) else (cs 25)) else (if k < 28 then (cs 26) else (if k < 29 then (cs 27) else (cs 28))))) else (if k < 35 then (if k < 32 then (if k < 31 then (cs 29) else (cs 30)) else (if k < 33 then (cs 31) else (if k < 34 then (cs 32) else (cs 33)))) else (if k < 38 then (if k < 36 then (cs 34) else (if k < 37 then (cs 35) else (cs 36))) else (if k < 39 then (cs 37) else (if k < 40 then (cs 38) else (cs 39)))))))
def σ0M : St := (fun k => if k = 0 then (upd (fun _ => 0) 26 (-1)) else if k = 3 then ((upd (upd (upd (upd (fun _ => 0) 0 48) 1 48) 2 48) 3 48)) else (fun _ => 0), fun _ _ => 0)
set_option maxRecDepth 100000 in
set_option maxHeartbeats 40000000 in
theorem lkM {h0 : Nat} {qs : Nat → Nat} {cs : Nat → ClassId} : lkP (wc_11 h0 qs cs) (gM h0 qs) 0 := by
  refine lk_c (o := 0) rfl ?_
  refine lk_c (o := 1) rfl ?_
  refine lk_c (o := 2) rfl ?_
  refine lk_c (o := 3) rfl ?_
  refine lk_c (o := 4) rfl ?_
  refine lk_c (o := 5) rfl ?_
  refine lk_c (o := 6) rfl ?_
  refine lk_c (o := 7) rfl ?_
  refine lk_c (o := 8) rfl ?_
  refine lk_c (o := 9) rfl ?_
  refine lk_c (o := 10) rfl ?_
  refine lk_c (o := 11) rfl ?_
  refine lk_c (o := 12) rfl ?_
  refine lk_c (o := 13) rfl ?_
  refine lk_c (o := 14) rfl ?_
  refine lk_c (o := 15) rfl ?_
  refine lk_c (o := 16) rfl ?_
  refine lk_c (o := 17) rfl ?_
  refine lk_c (o := 18) rfl ?_
  refine lk_c (o := 19) rfl ?_
  refine lk_c (o := 20) rfl ?_
  refine lk_c (o := 21) rfl ?_
  refine lk_c (o := 22) rfl ?_
  refine lk_c (o := 23) rfl ?_
  refine lk_c (o := 24) rfl ?_
  refine lk_c (o := 25) rfl ?_
  refine lk_c (o := 26) rfl ?_
  refine lk_c (o := 27) rfl ?_
  refine lk_c (o := 28) rfl ?_
  refine lk_c (o := 29) rfl ?_
  refine lk_c (o := 30) rfl ?_
  refine lk_c (o := 31) rfl ?_
  refine lk_c (o := 32) rfl ?_
  refine lk_c (o := 33) rfl ?_
  refine lk_c (o := 34) rfl ?_
  refine lk_c (o := 35) rfl ?_
  refine lk_c (o := 36) rfl ?_
  refine lk_c (o := 37) rfl ?_
  refine lk_c (o := 38) rfl ?_
  refine lk_c (o := 39) rfl ?_
  refine lk_c (o := 40) rfl ?_
  exact lk_n
set_option maxRecDepth 100000 in
set_option maxHeartbeats 40000000 in
theorem stM_P {D : va_G} {h0 : Nat} {qs : Nat → Nat} {cs : Nat → ClassId} {H : Heap} (hP : va_P D vwCl (wc_11 h0 qs cs) H) : ∀ k, k < 41 → va_at D vwCl (adM h0 qs k, cel dM (cAM cs) (adM h0 qs) σ0M k) H := by
  obtain ⟨a0, hP⟩ := va_Pc1 hP
  obtain ⟨a1, hP⟩ := va_Pc1 hP
  obtain ⟨a2, hP⟩ := va_Pc1 hP
  obtain ⟨a3, hP⟩ := va_Pc1 hP
  obtain ⟨a4, hP⟩ := va_Pc1 hP
  obtain ⟨a5, hP⟩ := va_Pc1 hP
  obtain ⟨a6, hP⟩ := va_Pc1 hP
  obtain ⟨a7, hP⟩ := va_Pc1 hP
  obtain ⟨a8, hP⟩ := va_Pc1 hP
  obtain ⟨a9, hP⟩ := va_Pc1 hP
  obtain ⟨a10, hP⟩ := va_Pc1 hP
  obtain ⟨a11, hP⟩ := va_Pc1 hP
  obtain ⟨a12, hP⟩ := va_Pc1 hP
  obtain ⟨a13, hP⟩ := va_Pc1 hP
  obtain ⟨a14, hP⟩ := va_Pc1 hP
  obtain ⟨a15, hP⟩ := va_Pc1 hP
  obtain ⟨a16, hP⟩ := va_Pc1 hP
  obtain ⟨a17, hP⟩ := va_Pc1 hP
  obtain ⟨a18, hP⟩ := va_Pc1 hP
  obtain ⟨a19, hP⟩ := va_Pc1 hP
  obtain ⟨a20, hP⟩ := va_Pc1 hP
  obtain ⟨a21, hP⟩ := va_Pc1 hP
  obtain ⟨a22, hP⟩ := va_Pc1 hP
  obtain ⟨a23, hP⟩ := va_Pc1 hP
  obtain ⟨a24, hP⟩ := va_Pc1 hP
  obtain ⟨a25, hP⟩ := va_Pc1 hP
  obtain ⟨a26, hP⟩ := va_Pc1 hP
  obtain ⟨a27, hP⟩ := va_Pc1 hP
  obtain ⟨a28, hP⟩ := va_Pc1 hP
  obtain ⟨a29, hP⟩ := va_Pc1 hP
  obtain ⟨a30, hP⟩ := va_Pc1 hP
  obtain ⟨a31, hP⟩ := va_Pc1 hP
  obtain ⟨a32, hP⟩ := va_Pc1 hP
  obtain ⟨a33, hP⟩ := va_Pc1 hP
  obtain ⟨a34, hP⟩ := va_Pc1 hP
  obtain ⟨a35, hP⟩ := va_Pc1 hP
  obtain ⟨a36, hP⟩ := va_Pc1 hP
  obtain ⟨a37, hP⟩ := va_Pc1 hP
  obtain ⟨a38, hP⟩ := va_Pc1 hP
  obtain ⟨a39, hP⟩ := va_Pc1 hP
  obtain ⟨a40, hP⟩ := va_Pc1 hP
  refine df_s (n := 40) ?_ a40
  refine df_s (n := 39) ?_ a39
  refine df_s (n := 38) ?_ a38
  refine df_s (n := 37) ?_ a37
  refine df_s (n := 36) ?_ a36
  refine df_s (n := 35) ?_ a35
  refine df_s (n := 34) ?_ a34
  refine df_s (n := 33) ?_ a33
  refine df_s (n := 32) ?_ a32
  refine df_s (n := 31) ?_ a31
  refine df_s (n := 30) ?_ a30
  refine df_s (n := 29) ?_ a29
  refine df_s (n := 28) ?_ a28
  refine df_s (n := 27) ?_ a27
  refine df_s (n := 26) ?_ a26
  refine df_s (n := 25) ?_ a25
  refine df_s (n := 24) ?_ a24
  refine df_s (n := 23) ?_ a23
  refine df_s (n := 22) ?_ a22
  refine df_s (n := 21) ?_ a21
  refine df_s (n := 20) ?_ a20
  refine df_s (n := 19) ?_ a19
  refine df_s (n := 18) ?_ a18
  refine df_s (n := 17) ?_ a17
  refine df_s (n := 16) ?_ a16
  refine df_s (n := 15) ?_ a15
  refine df_s (n := 14) ?_ a14
  refine df_s (n := 13) ?_ a13
  refine df_s (n := 12) ?_ a12
  refine df_s (n := 11) ?_ a11
  refine df_s (n := 10) ?_ a10
  refine df_s (n := 9) ?_ a9
  refine df_s (n := 8) ?_ a8
  refine df_s (n := 7) ?_ a7
  refine df_s (n := 6) ?_ a6
  refine df_s (n := 5) ?_ a5
  refine df_s (n := 4) ?_ a4
  refine df_s (n := 3) ?_ a3
  refine df_s (n := 2) ?_ a2
  refine df_s (n := 1) ?_ a1
  refine df_s (n := 0) ?_ (cel_o2 (ks := 0 :: 0 :: 0 :: 4 :: 5 :: 6 :: 7 :: 8 :: 9 :: 10 :: 11 :: 12 :: 13 :: 14 :: 15 :: 16 :: 0 :: 17 :: 0 :: 0 :: 0 :: 0 :: 0 :: 0 :: 0 :: 0 :: 0 :: 1 :: 0 :: 18 :: 19 :: 20 :: 21 :: 22 :: 23 :: 24 :: 25 :: 26 :: 27 :: 28 :: 29 :: 30 :: 31 :: 32 :: 33 :: 34 :: 35 :: 36 :: 37 :: 0 :: 38 :: 0 :: 0 :: 0 :: 39 :: 40 :: 41 :: 42 :: 43 :: 0 :: 0 :: []) (ci := 11) (by decide +kernel) a0 (by simp only [fsx]; rfl))
  exact tb_df
set_option maxRecDepth 100000 in
set_option maxHeartbeats 40000000 in
theorem stM_K {D : va_G} {cs : Nat → ClassId} {U : State} (hK : va_K D vwCl (tc_11 cs) U) : ∀ k, k < 41 → ArrOfT U (cAM cs k) (aty dM k) ∧ va_RA U (cAM cs k) (aty dM k) := by
  have hT := hK.2
  obtain ⟨b0, hT⟩ := va_Kc1 hT
  obtain ⟨b1, hT⟩ := va_Kc1 hT
  obtain ⟨b2, hT⟩ := va_Kc1 hT
  obtain ⟨b3, hT⟩ := va_Kc1 hT
  obtain ⟨b4, hT⟩ := va_Kc1 hT
  obtain ⟨b5, hT⟩ := va_Kc1 hT
  obtain ⟨b6, hT⟩ := va_Kc1 hT
  obtain ⟨b7, hT⟩ := va_Kc1 hT
  obtain ⟨b8, hT⟩ := va_Kc1 hT
  obtain ⟨b9, hT⟩ := va_Kc1 hT
  obtain ⟨b10, hT⟩ := va_Kc1 hT
  obtain ⟨b11, hT⟩ := va_Kc1 hT
  obtain ⟨b12, hT⟩ := va_Kc1 hT
  obtain ⟨b13, hT⟩ := va_Kc1 hT
  obtain ⟨b14, hT⟩ := va_Kc1 hT
  obtain ⟨b15, hT⟩ := va_Kc1 hT
  obtain ⟨b16, hT⟩ := va_Kc1 hT
  obtain ⟨b17, hT⟩ := va_Kc1 hT
  obtain ⟨b18, hT⟩ := va_Kc1 hT
  obtain ⟨b19, hT⟩ := va_Kc1 hT
  obtain ⟨b20, hT⟩ := va_Kc1 hT
  obtain ⟨b21, hT⟩ := va_Kc1 hT
  obtain ⟨b22, hT⟩ := va_Kc1 hT
  obtain ⟨b23, hT⟩ := va_Kc1 hT
  obtain ⟨b24, hT⟩ := va_Kc1 hT
  obtain ⟨b25, hT⟩ := va_Kc1 hT
  obtain ⟨b26, hT⟩ := va_Kc1 hT
  obtain ⟨b27, hT⟩ := va_Kc1 hT
  obtain ⟨b28, hT⟩ := va_Kc1 hT
  obtain ⟨b29, hT⟩ := va_Kc1 hT
  obtain ⟨b30, hT⟩ := va_Kc1 hT
  obtain ⟨b31, hT⟩ := va_Kc1 hT
  obtain ⟨b32, hT⟩ := va_Kc1 hT
  obtain ⟨b33, hT⟩ := va_Kc1 hT
  obtain ⟨b34, hT⟩ := va_Kc1 hT
  obtain ⟨b35, hT⟩ := va_Kc1 hT
  obtain ⟨b36, hT⟩ := va_Kc1 hT
  obtain ⟨b37, hT⟩ := va_Kc1 hT
  obtain ⟨b38, hT⟩ := va_Kc1 hT
  obtain ⟨b39, hT⟩ := va_Kc1 hT
  refine df_s (n := 40) ?_ b39
  refine df_s (n := 39) ?_ b38
  refine df_s (n := 38) ?_ b37
  refine df_s (n := 37) ?_ b36
  refine df_s (n := 36) ?_ b35
  refine df_s (n := 35) ?_ b34
  refine df_s (n := 34) ?_ b33
  refine df_s (n := 33) ?_ b32
  refine df_s (n := 32) ?_ b31
  refine df_s (n := 31) ?_ b30
  refine df_s (n := 30) ?_ b29
  refine df_s (n := 29) ?_ b28
  refine df_s (n := 28) ?_ b27
  refine df_s (n := 27) ?_ b26
  refine df_s (n := 26) ?_ b25
  refine df_s (n := 25) ?_ b24
  refine df_s (n := 24) ?_ b23
  refine df_s (n := 23) ?_ b22
  refine df_s (n := 22) ?_ b21
  refine df_s (n := 21) ?_ b20
  refine df_s (n := 20) ?_ b19
  refine df_s (n := 19) ?_ b18
  refine df_s (n := 18) ?_ b17
  refine df_s (n := 17) ?_ b16
  refine df_s (n := 16) ?_ b15
  refine df_s (n := 15) ?_ b14
  refine df_s (n := 14) ?_ b13
  refine df_s (n := 13) ?_ b12
  refine df_s (n := 12) ?_ b11
  refine df_s (n := 11) ?_ b10
  refine df_s (n := 10) ?_ b9
  refine df_s (n := 9) ?_ b8
  refine df_s (n := 8) ?_ b7
  refine df_s (n := 7) ?_ b6
  refine df_s (n := 6) ?_ b5
  refine df_s (n := 5) ?_ b4
  refine df_s (n := 4) ?_ b3
  refine df_s (n := 3) ?_ b2
  refine df_s (n := 2) ?_ b1
  refine df_s (n := 1) ?_ b0
  refine df_s (n := 0) ?_ b0
  exact tb_df
theorem plM_inj : ∀ i, i < 41 → ∀ j, j < 41 → plM i = plM j → i = j := by decide +kernel
theorem plM_lt : ∀ i, i < 41 → plM i < 41 := by decide +kernel
theorem stM {D : va_G} {h0 : Nat} {qs : Nat → Nat} {cs : Nat → ClassId} {H : Heap} {U : State} {A : Nat → Prop} (hP : va_P D vwCl (wc_11 h0 qs cs) H) (hK : va_K D vwCl (tc_11 cs) U) (hD : va_D A (wc_11 h0 qs cs)) : ∃ (ad : Nat → Nat) (cA : Nat → ClassId), ad 0 = h0 ∧ inj 41 ad ∧ va_P D vwCl (ww dM 41 cA ad σ0M) H ∧ va_K D vwCl (tt dM 41 cA) U ∧ ∀ k, k < 41 → A (ad k) := by
  have hlk : ∀ k, k < 41 → ∃ e, (wc_11 h0 qs cs)[plM k]? = some (adM h0 qs k, e) := fun k hk => by
    have h1 := lkM (h0 := h0) (qs := qs) (cs := cs) (plM k) (plM_lt k hk)
    rw [Nat.zero_add] at h1
    cases hq : (wc_11 h0 qs cs)[plM k]? with
    | none => rw [hq] at h1; cases h1
    | some q =>
      rw [hq] at h1
      have h2 : q.1 = gM h0 qs (plM k) := Option.some.inj h1
      exact ⟨q.2, by rw [adM, ← h2]⟩
  refine ⟨adM h0 qs, cAM cs, rfl, fun i j hi hj h => ?_, fun k q hk => ?_, ⟨hK.1, fun k q hk => ?_⟩, fun k hk => ?_⟩
  · obtain ⟨e1, h1⟩ := hlk i hi
    obtain ⟨e2, h2⟩ := hlk j hj
    exact plM_inj i hi j hj (hD.1 _ _ _ _ h1 h2 h)
  · obtain ⟨hk2, rfl⟩ := ww_lt hk
    exact stM_P hP k hk2
  · have hk2 : k < 41 := by
      have := (List.getElem?_eq_some_iff.mp hk).1
      simpa [tt] using this
    rw [tt_at hk2] at hk
    cases hk
    exact stM_K hK k hk2
  · obtain ⟨e1, h1⟩ := hlk k hk
    exact hD.2 _ _ h1
