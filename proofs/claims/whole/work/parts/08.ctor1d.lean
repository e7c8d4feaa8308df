abbrev wc_7 (h0 : Nat) (qs : Nat → Nat) (cs : Nat → ClassId) : va_W := [(h0, .inr (7, [.int 0, .int 0, .int 48, .int 0, .int 0, .int 0, .int 0, .int 0, .ref (qs 0)])), ((qs 0), .inl ((cs 0), 100, .inl (fun _ => 0)))]
abbrev tc_7 (cs : Nat → ClassId) : List (ClassId × FieldType) := [((cs 0), .int)]
abbrev rm_7_init : Room := { frames := 1, cells := 1, slots := 100, locals := 12 }
set_option maxRecDepth 100000 in
set_option maxHeartbeats 40000000 in
theorem q_7_init (l : Launch) (D : va_G) (h0 sz : Nat) : Met l yX7_init wsX7_init rm_7_init (va_Pc [.ref h0] (fun U => U.heap.size = sz ∧ va_P D vwCl [(h0, .inr (7, [.int 0, .int 0, .int 0, .int 0, .int 0, .int 0, .int 0, .int 0, .null]))] U.heap ∧ va_K D vwCl [] U ∧ va_D (fun _ => True) [(h0, .inr (7, [.int 0, .int 0, .int 0, .int 0, .int 0, .int 0, .int 0, .int 0, .null]))] ∧ EC U)) (va_Qv (fun _ : Unit => True) (fun _ t => ∃ (qs : Nat → Nat) (cs : Nat → ClassId), va_P D vwCl (wc_7 h0 qs cs) t.heap ∧ va_K D vwCl (tc_7 cs) t ∧ va_D (va_A [(h0, .inr (7, [.int 0, .int 0, .int 0, .int 0, .int 0, .int 0, .int 0, .int 0, .null]))] sz) (wc_7 h0 qs cs)) (va_A [(h0, .inr (7, [.int 0, .int 0, .int 0, .int 0, .int 0, .int 0, .int 0, .int 0, .null]))] sz)) 1 100 (va_A [(h0, .inr (7, [.int 0, .int 0, .int 0, .int 0, .int 0, .int 0, .int 0, .int 0, .null]))] sz) := by
  refine Met.ofW (cc := cX7_init) (maxL := 1) (ret := none) (by decide) rfl ?_
  intro p e s m args below meth c s₁ B hml hv
  obtain ⟨hargs, hsz, hP, hK, hD0, hEC⟩ := hv
  have hx := B.exec
  have hb := B.bytes
  have hr := B.returns
  have hts := atoms_spec (ws := wsX7_init) B.pre
  have hown : s.vm.findClass RX7 = some m.cls := findClass_of_methodNamed B.named
  have hlocks := B.notSynchronized
  have hin : meth.name = "<init>" := (name_of_methodNamed B.named B.method).1
  subst hsz
  have hD := hD0.self (sz := s.heap.size)
  generalize hAe : (va_A [(h0, .inr (7, [.int 0, .int 0, .int 0, .int 0, .int 0, .int 0, .int 0, .int 0, .null]))] s.heap.size) = A at hD ⊢
  have hA : ∀ q : Nat, s.heap.size ≤ q → A q := fun q h => by rw [← hAe]; exact Or.inr h
  have hS : va_S A s.heap s.heap [] := va_S.rf
  have hl := lv_entry ([.ref h0]) (n := 1) (Nat.le_of_ble_eq_true rfl)
  rw [show entryFrame m args 1 = entryFrame m ([.ref h0] : List Value).toArray 1 by rw [hargs]]
  rw [lg_entry_eq]
  generalize (lg_sl ([.ref h0]) ++ List.replicate (1 - (lg_sl ([.ref h0])).length) Slot.unset).toArray = ls at hl ⊢
  have hl : lv_has ls 1 [(0, .ref h0)] := hl
  have oi : (Cond.methodLink RX7 3 objectInit).before args s = true := hts _ (by decide +kernel)
  have oj : (Cond.instanceMethod objectInit).before args s = true := hts _ (by decide +kernel)
  have oc : (Cond.code objectInit ⟨#[0xb1]⟩ 1 none).before args s = true := hts _ (by decide +kernel)
  have lk9 : (Cond.fieldLink RX7 9 "CureTown$Spring" "glasses" "I").before args s = true := hts _ (by decide +kernel)
  have in7 : ∀ w ∈ wsX70, w ∈ wsX7_init := by decide +kernel
  have lk15 : (Cond.fieldLink RX7 15 "CureTown$Spring" "from" "I").before args s = true := hts _ (by decide +kernel)
  have lk18 : (Cond.fieldLink RX7 18 "CureTown$Spring" "until" "I").before args s = true := hts _ (by decide +kernel)
  have lk21 : (Cond.fieldLink RX7 21 "CureTown$Spring" "strength" "I").before args s = true := hts _ (by decide +kernel)
  have lk24 : (Cond.fieldLink RX7 24 "CureTown$Spring" "allGiven" "I").before args s = true := hts _ (by decide +kernel)
  have lk27 : (Cond.fieldLink RX7 27 "CureTown$Spring" "allTaken" "I").before args s = true := hts _ (by decide +kernel)
  have lk30 : (Cond.fieldLink RX7 30 "CureTown$Spring" "allFilled" "I").before args s = true := hts _ (by decide +kernel)
  have lk33 : (Cond.fieldLink RX7 33 "CureTown$Spring" "allRunOff" "I").before args s = true := hts _ (by decide +kernel)
  have acint : (Cond.arrayClass .int).before args s = true := hts _ (by decide +kernel)
  have lk36 : (Cond.fieldLink RX7 36 "CureTown$Spring" "bottlesOf" "[I").before args s = true := hts _ (by decide +kernel)
  refine lv_aload_n hx hb dX7_init_0 rfl (lv_at hl 0 rfl) ?_
  refine W.objInit hx hb hown oi oj oc rfl (by rw [hml]; exact hl.1) rfl dX7_init_1 (Nat.le_of_ble_eq_true rfl) (Nat.le_of_ble_eq_true rfl) ?_
  refine W.eq (g2 := F0 m 4 ls []) rfl ?_
  refine lv_aload_n hx hb dX7_init_4 rfl (lv_at hl 0 rfl) ?_
  refine lv_iconst (v := 0) hx hb dX7_init_5 (by decide) ?_
  refine va_put (D := D) (ci := 7) (v := .int 0) (C := RX7) (T := TX7) (N := 9) hx hb hts in7 tyX7 tyX7_ok nmX7 hown hK hP hD hS 0 rfl rfl 0 (by decide) lk9 (fun _ h9 => h9) rfl (tyX7_ok 0 (by decide)) rfl rfl (Nat.le_of_ble_eq_true rfl) dX7_init_6 (fun H locs hP hD hS => ?_)
  have hP : va_P D vwCl [(h0, .inr (7, [.int 0, .int 0, .int 0, .int 0, .int 0, .int 0, .int 0, .int 0, .null]))] H := hP
  have hD : va_D A [(h0, .inr (7, [.int 0, .int 0, .int 0, .int 0, .int 0, .int 0, .int 0, .int 0, .null]))] := hD
  refine lv_aload_n hx hb dX7_init_9 rfl (lv_at hl 0 rfl) ?_
  refine lv_iconst (v := 0) hx hb dX7_init_10 (by decide) ?_
  refine va_put (D := D) (ci := 7) (v := .int 0) (C := RX7) (T := TX7) (N := 9) hx hb hts in7 tyX7 tyX7_ok nmX7 hown hK hP hD hS 0 rfl rfl 1 (by decide) lk15 (fun _ h9 => h9) rfl (tyX7_ok 1 (by decide)) rfl rfl (Nat.le_of_ble_eq_true rfl) dX7_init_11 (fun H locs hP hD hS => ?_)
  have hP : va_P D vwCl [(h0, .inr (7, [.int 0, .int 0, .int 0, .int 0, .int 0, .int 0, .int 0, .int 0, .null]))] H := hP
  have hD : va_D A [(h0, .inr (7, [.int 0, .int 0, .int 0, .int 0, .int 0, .int 0, .int 0, .int 0, .null]))] := hD
  refine lv_aload_n hx hb dX7_init_14 rfl (lv_at hl 0 rfl) ?_
  refine lv_bipush (v := 48) hx hb dX7_init_15 (by decide) ?_
  refine va_put (D := D) (ci := 7) (v := .int 48) (C := RX7) (T := TX7) (N := 9) hx hb hts in7 tyX7 tyX7_ok nmX7 hown hK hP hD hS 0 rfl rfl 2 (by decide) lk18 (fun _ h9 => h9) rfl (tyX7_ok 2 (by decide)) rfl rfl (Nat.le_of_ble_eq_true rfl) dX7_init_17 (fun H locs hP hD hS => ?_)
  have hP : va_P D vwCl [(h0, .inr (7, [.int 0, .int 0, .int 48, .int 0, .int 0, .int 0, .int 0, .int 0, .null]))] H := hP
  have hD : va_D A [(h0, .inr (7, [.int 0, .int 0, .int 48, .int 0, .int 0, .int 0, .int 0, .int 0, .null]))] := hD
  refine lv_aload_n hx hb dX7_init_20 rfl (lv_at hl 0 rfl) ?_
  refine lv_iconst (v := 0) hx hb dX7_init_21 (by decide) ?_
  refine va_put (D := D) (ci := 7) (v := .int 0) (C := RX7) (T := TX7) (N := 9) hx hb hts in7 tyX7 tyX7_ok nmX7 hown hK hP hD hS 0 rfl rfl 3 (by decide) lk21 (fun _ h9 => h9) rfl (tyX7_ok 3 (by decide)) rfl rfl (Nat.le_of_ble_eq_true rfl) dX7_init_22 (fun H locs hP hD hS => ?_)
  have hP : va_P D vwCl [(h0, .inr (7, [.int 0, .int 0, .int 48, .int 0, .int 0, .int 0, .int 0, .int 0, .null]))] H := hP
  have hD : va_D A [(h0, .inr (7, [.int 0, .int 0, .int 48, .int 0, .int 0, .int 0, .int 0, .int 0, .null]))] := hD
  refine lv_aload_n hx hb dX7_init_25 rfl (lv_at hl 0 rfl) ?_
  refine lv_iconst (v := 0) hx hb dX7_init_26 (by decide) ?_
  refine va_put (D := D) (ci := 7) (v := .int 0) (C := RX7) (T := TX7) (N := 9) hx hb hts in7 tyX7 tyX7_ok nmX7 hown hK hP hD hS 0 rfl rfl 4 (by decide) lk24 (fun _ h9 => h9) rfl (tyX7_ok 4 (by decide)) rfl rfl (Nat.le_of_ble_eq_true rfl) dX7_init_27 (fun H locs hP hD hS => ?_)
  have hP : va_P D vwCl [(h0, .inr (7, [.int 0, .int 0, .int 48, .int 0, .int 0, .int 0, .int 0, .int 0, .null]))] H := hP
  have hD : va_D A [(h0, .inr (7, [.int 0, .int 0, .int 48, .int 0, .int 0, .int 0, .int 0, .int 0, .null]))] := hD
  refine lv_aload_n hx hb dX7_init_30 rfl (lv_at hl 0 rfl) ?_
  refine lv_iconst (v := 0) hx hb dX7_init_31 (by decide) ?_
  refine va_put (D := D) (ci := 7) (v := .int 0) (C := RX7) (T := TX7) (N := 9) hx hb hts in7 tyX7 tyX7_ok nmX7 hown hK hP hD hS 0 rfl rfl 5 (by decide) lk27 (fun _ h9 => h9) rfl (tyX7_ok 5 (by decide)) rfl rfl (Nat.le_of_ble_eq_true rfl) dX7_init_32 (fun H locs hP hD hS => ?_)
  have hP : va_P D vwCl [(h0, .inr (7, [.int 0, .int 0, .int 48, .int 0, .int 0, .int 0, .int 0, .int 0, .null]))] H := hP
  have hD : va_D A [(h0, .inr (7, [.int 0, .int 0, .int 48, .int 0, .int 0, .int 0, .int 0, .int 0, .null]))] := hD
  refine lv_aload_n hx hb dX7_init_35 rfl (lv_at hl 0 rfl) ?_
  refine lv_iconst (v := 0) hx hb dX7_init_36 (by decide) ?_
  refine va_put (D := D) (ci := 7) (v := .int 0) (C := RX7) (T := TX7) (N := 9) hx hb hts in7 tyX7 tyX7_ok nmX7 hown hK hP hD hS 0 rfl rfl 6 (by decide) lk30 (fun _ h9 => h9) rfl (tyX7_ok 6 (by decide)) rfl rfl (Nat.le_of_ble_eq_true rfl) dX7_init_37 (fun H locs hP hD hS => ?_)
  have hP : va_P D vwCl [(h0, .inr (7, [.int 0, .int 0, .int 48, .int 0, .int 0, .int 0, .int 0, .int 0, .null]))] H := hP
  have hD : va_D A [(h0, .inr (7, [.int 0, .int 0, .int 48, .int 0, .int 0, .int 0, .int 0, .int 0, .null]))] := hD
  refine lv_aload_n hx hb dX7_init_40 rfl (lv_at hl 0 rfl) ?_
  refine lv_iconst (v := 0) hx hb dX7_init_41 (by decide) ?_
  refine va_put (D := D) (ci := 7) (v := .int 0) (C := RX7) (T := TX7) (N := 9) hx hb hts in7 tyX7 tyX7_ok nmX7 hown hK hP hD hS 0 rfl rfl 7 (by decide) lk33 (fun _ h9 => h9) rfl (tyX7_ok 7 (by decide)) rfl rfl (Nat.le_of_ble_eq_true rfl) dX7_init_42 (fun H locs hP hD hS => ?_)
  have hP : va_P D vwCl [(h0, .inr (7, [.int 0, .int 0, .int 48, .int 0, .int 0, .int 0, .int 0, .int 0, .null]))] H := hP
  have hD : va_D A [(h0, .inr (7, [.int 0, .int 0, .int 48, .int 0, .int 0, .int 0, .int 0, .int 0, .null]))] := hD
  refine lv_aload_n hx hb dX7_init_45 rfl (lv_at hl 0 rfl) ?_
  refine lv_bipush (v := 100) hx hb dX7_init_46 (by decide) ?_
  refine va_newa (atype := .int) (ty := .int) (N' := 100) (a0 := (100, .inl (fun _ => 0))) hx hb acint rfl hK hP hD hS hA (fun _ => rfl) (by decide) (by decide) (by decide) (by show _ ≤ 1; omega) (by show _ ≤ 100; omega) dX7_init_48 (fun q1 c2 H hK hP hD hS => ?_)
  have hP : va_P D vwCl [(h0, .inr (7, [.int 0, .int 0, .int 48, .int 0, .int 0, .int 0, .int 0, .int 0, .null])), (q1, .inl (c2, 100, .inl (fun _ => 0)))] H := hP
  have hD : va_D A [(h0, .inr (7, [.int 0, .int 0, .int 48, .int 0, .int 0, .int 0, .int 0, .int 0, .null])), (q1, .inl (c2, 100, .inl (fun _ => 0)))] := hD
  have hK : va_K D vwCl [(c2, .int)] s := hK
  refine W.widen (k := 1) (n := 100) (by omega) (by omega) ?_
  refine va_putF (D := D) (ci := 7) (v := .ref q1) (C := RX7) (T := TX7) (N := 9) hx hb hts in7 tyX7 tyX7_ok nmX7 hown hK hP hD hS 0 rfl rfl 8 (by decide) lk36 (fun _ h9 => h9) rfl hin rfl (tyX7_ok 8 (by decide)) rfl rfl (Nat.le_of_ble_eq_true rfl) dX7_init_50 (fun H locs hP hD hS => ?_)
  have hP : va_P D vwCl [(h0, .inr (7, [.int 0, .int 0, .int 48, .int 0, .int 0, .int 0, .int 0, .int 0, .ref q1])), (q1, .inl (c2, 100, .inl (fun _ => 0)))] H := hP
  have hD : va_D A [(h0, .inr (7, [.int 0, .int 0, .int 48, .int 0, .int 0, .int 0, .int 0, .int 0, .ref q1])), (q1, .inl (c2, 100, .inl (fun _ => 0)))] := hD
  exact W.vret hx hb hr (fun t ht hW => ⟨⟨(), rfl, trivial, (fun k => ([q1] : List Nat).getD k 0), (fun k => ([c2] : List ClassId).getD k 0), by rw [ht]; exact hP, va_K.moved hW.alike hK, hD⟩, hS.F ht⟩) hS.2.2 dX7_init_53
