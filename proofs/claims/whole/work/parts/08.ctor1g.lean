abbrev wc_1 (h0 : Nat) (qs : Nat → Nat) (cs : Nat → ClassId) : va_W := [(h0, .inr (1, [.ref (qs 0), .ref (qs 1), .ref (qs 2), .ref (qs 3), .ref (qs 4), .ref (qs 5), .int 0, .int (-1), .int 0, .int 0, .int 0])), ((qs 0), .inl ((cs 0), 6, .inl (fun _ => 0))), ((qs 1), .inl ((cs 1), 6, .inl (fun _ => 0))), ((qs 2), .inl ((cs 2), 6, .inl (fun _ => 0))), ((qs 3), .inl ((cs 3), 6, .inl (fun _ => 0))), ((qs 4), .inl ((cs 4), 6, .inl (fun _ => 0))), ((qs 5), .inl ((cs 5), 6, .inl (fun _ => 0)))]
abbrev tc_1 (cs : Nat → ClassId) : List (ClassId × FieldType) := [((cs 0), .int), ((cs 1), .int), ((cs 2), .int), ((cs 3), .boolean), ((cs 4), .int), ((cs 5), .int)]
abbrev rm_1_init : Room := { frames := 1, cells := 6, slots := 36, locals := 12 }
set_option maxRecDepth 100000 in
set_option maxHeartbeats 40000000 in
theorem q_1_init (l : Launch) (D : va_G) (h0 sz : Nat) : Met l yX1_init wsX1_init rm_1_init (va_Pc [.ref h0] (fun U => U.heap.size = sz ∧ va_P D vwCl [(h0, .inr (1, [.null, .null, .null, .null, .null, .null, .int 0, .int 0, .int 0, .int 0, .int 0]))] U.heap ∧ va_K D vwCl [] U ∧ va_D (fun _ => True) [(h0, .inr (1, [.null, .null, .null, .null, .null, .null, .int 0, .int 0, .int 0, .int 0, .int 0]))] ∧ EC U)) (va_Qv (fun _ : Unit => True) (fun _ t => ∃ (qs : Nat → Nat) (cs : Nat → ClassId), va_P D vwCl (wc_1 h0 qs cs) t.heap ∧ va_K D vwCl (tc_1 cs) t ∧ va_D (va_A [(h0, .inr (1, [.null, .null, .null, .null, .null, .null, .int 0, .int 0, .int 0, .int 0, .int 0]))] sz) (wc_1 h0 qs cs)) (va_A [(h0, .inr (1, [.null, .null, .null, .null, .null, .null, .int 0, .int 0, .int 0, .int 0, .int 0]))] sz)) 6 36 (va_A [(h0, .inr (1, [.null, .null, .null, .null, .null, .null, .int 0, .int 0, .int 0, .int 0, .int 0]))] sz) := by
  refine Met.ofW (cc := cX1_init) (maxL := 1) (ret := none) (by decide) rfl ?_
  intro p e s m args below meth c s₁ B hml hv
  obtain ⟨hargs, hsz, hP, hK, hD0, hEC⟩ := hv
  have hx := B.exec
  have hb := B.bytes
  have hr := B.returns
  have hts := atoms_spec (ws := wsX1_init) B.pre
  have hown : s.vm.findClass RX1 = some m.cls := findClass_of_methodNamed B.named
  have hlocks := B.notSynchronized
  have hin : meth.name = "<init>" := (name_of_methodNamed B.named B.method).1
  subst hsz
  have hD := hD0.self (sz := s.heap.size)
  generalize hAe : (va_A [(h0, .inr (1, [.null, .null, .null, .null, .null, .null, .int 0, .int 0, .int 0, .int 0, .int 0]))] s.heap.size) = A at hD ⊢
  have hA : ∀ q : Nat, s.heap.size ≤ q → A q := fun q h => by rw [← hAe]; exact Or.inr h
  have hS : va_S A s.heap s.heap [] := va_S.rf
  have hl := lv_entry ([.ref h0]) (n := 1) (Nat.le_of_ble_eq_true rfl)
  rw [show entryFrame m args 1 = entryFrame m ([.ref h0] : List Value).toArray 1 by rw [hargs]]
  rw [lg_entry_eq]
  generalize (lg_sl ([.ref h0]) ++ List.replicate (1 - (lg_sl ([.ref h0])).length) Slot.unset).toArray = ls at hl ⊢
  have hl : lv_has ls 1 [(0, .ref h0)] := hl
  have oi : (Cond.methodLink RX1 3 objectInit).before args s = true := hts _ (by decide +kernel)
  have oj : (Cond.instanceMethod objectInit).before args s = true := hts _ (by decide +kernel)
  have oc : (Cond.code objectInit ⟨#[0xb1]⟩ 1 none).before args s = true := hts _ (by decide +kernel)
  have acint : (Cond.arrayClass .int).before args s = true := hts _ (by decide +kernel)
  have lk9 : (Cond.fieldLink RX1 9 "CureTown$BestSearch" "guests" "[I").before args s = true := hts _ (by decide +kernel)
  have in1 : ∀ w ∈ wsX10, w ∈ wsX1_init := by decide +kernel
  have lk15 : (Cond.fieldLink RX1 15 "CureTown$BestSearch" "doneAlone" "[I").before args s = true := hts _ (by decide +kernel)
  have lk18 : (Cond.fieldLink RX1 18 "CureTown$BestSearch" "overAlone" "[I").before args s = true := hts _ (by decide +kernel)
  have acboolean : (Cond.arrayClass .boolean).before args s = true := hts _ (by decide +kernel)
  have lk21 : (Cond.fieldLink RX1 21 "CureTown$BestSearch" "isPlaced" "[Z").before args s = true := hts _ (by decide +kernel)
  have lk25 : (Cond.fieldLink RX1 25 "CureTown$BestSearch" "order" "[I").before args s = true := hts _ (by decide +kernel)
  have lk28 : (Cond.fieldLink RX1 28 "CureTown$BestSearch" "bestOrder" "[I").before args s = true := hts _ (by decide +kernel)
  have lk31 : (Cond.fieldLink RX1 31 "CureTown$BestSearch" "count" "I").before args s = true := hts _ (by decide +kernel)
  have lk35 : (Cond.fieldLink RX1 35 "CureTown$BestSearch" "bestDone" "I").before args s = true := hts _ (by decide +kernel)
  have lk38 : (Cond.fieldLink RX1 38 "CureTown$BestSearch" "bestOver" "I").before args s = true := hts _ (by decide +kernel)
  have lk41 : (Cond.fieldLink RX1 41 "CureTown$BestSearch" "hopedDone" "I").before args s = true := hts _ (by decide +kernel)
  have lk44 : (Cond.fieldLink RX1 44 "CureTown$BestSearch" "hopedOver" "I").before args s = true := hts _ (by decide +kernel)
  refine lv_aload_n hx hb dX1_init_0 rfl (lv_at hl 0 rfl) ?_
  refine W.objInit hx hb hown oi oj oc rfl (by rw [hml]; exact hl.1) rfl dX1_init_1 (Nat.le_of_ble_eq_true rfl) (Nat.le_of_ble_eq_true rfl) ?_
  refine W.eq (g2 := F0 m 4 ls []) rfl ?_
  refine lv_aload_n hx hb dX1_init_4 rfl (lv_at hl 0 rfl) ?_
  refine lv_bipush (v := 6) hx hb dX1_init_5 (by decide) ?_
  refine va_newa (atype := .int) (ty := .int) (N' := 6) (a0 := (6, .inl (fun _ => 0))) hx hb acint rfl hK hP hD hS hA (fun _ => rfl) (by decide) (by decide) (by decide) (by show _ ≤ 6; omega) (by show _ ≤ 36; omega) dX1_init_7 (fun q1 c2 H hK hP hD hS => ?_)
  have hP : va_P D vwCl [(h0, .inr (1, [.null, .null, .null, .null, .null, .null, .int 0, .int 0, .int 0, .int 0, .int 0])), (q1, .inl (c2, 6, .inl (fun _ => 0)))] H := hP
  have hD : va_D A [(h0, .inr (1, [.null, .null, .null, .null, .null, .null, .int 0, .int 0, .int 0, .int 0, .int 0])), (q1, .inl (c2, 6, .inl (fun _ => 0)))] := hD
  have hK : va_K D vwCl [(c2, .int)] s := hK
  refine W.widen (k := 1) (n := 6) (by omega) (by omega) ?_
  refine va_putF (D := D) (ci := 1) (v := .ref q1) (C := RX1) (T := TX1) (N := 11) hx hb hts in1 tyX1 tyX1_ok nmX1 hown hK hP hD hS 0 rfl rfl 0 (by decide) lk9 (fun _ h9 => h9) rfl hin rfl (tyX1_ok 0 (by decide)) rfl rfl (Nat.le_of_ble_eq_true rfl) dX1_init_9 (fun H locs hP hD hS => ?_)
  have hP : va_P D vwCl [(h0, .inr (1, [.ref q1, .null, .null, .null, .null, .null, .int 0, .int 0, .int 0, .int 0, .int 0])), (q1, .inl (c2, 6, .inl (fun _ => 0)))] H := hP
  have hD : va_D A [(h0, .inr (1, [.ref q1, .null, .null, .null, .null, .null, .int 0, .int 0, .int 0, .int 0, .int 0])), (q1, .inl (c2, 6, .inl (fun _ => 0)))] := hD
  refine lv_aload_n hx hb dX1_init_12 rfl (lv_at hl 0 rfl) ?_
  refine lv_bipush (v := 6) hx hb dX1_init_13 (by decide) ?_
  refine va_newa (atype := .int) (ty := .int) (N' := 6) (a0 := (6, .inl (fun _ => 0))) hx hb acint rfl hK hP hD hS hA (fun _ => rfl) (by decide) (by decide) (by decide) (by show _ ≤ 6; omega) (by show _ ≤ 36; omega) dX1_init_15 (fun q3 c4 H hK hP hD hS => ?_)
  have hP : va_P D vwCl [(h0, .inr (1, [.ref q1, .null, .null, .null, .null, .null, .int 0, .int 0, .int 0, .int 0, .int 0])), (q1, .inl (c2, 6, .inl (fun _ => 0))), (q3, .inl (c4, 6, .inl (fun _ => 0)))] H := hP
  have hD : va_D A [(h0, .inr (1, [.ref q1, .null, .null, .null, .null, .null, .int 0, .int 0, .int 0, .int 0, .int 0])), (q1, .inl (c2, 6, .inl (fun _ => 0))), (q3, .inl (c4, 6, .inl (fun _ => 0)))] := hD
  have hK : va_K D vwCl [(c2, .int), (c4, .int)] s := hK
  refine W.widen (k := 2) (n := 12) (by omega) (by omega) ?_
  refine va_putF (D := D) (ci := 1) (v := .ref q3) (C := RX1) (T := TX1) (N := 11) hx hb hts in1 tyX1 tyX1_ok nmX1 hown hK hP hD hS 0 rfl rfl 1 (by decide) lk15 (fun _ h9 => h9) rfl hin rfl (tyX1_ok 1 (by decide)) rfl rfl (Nat.le_of_ble_eq_true rfl) dX1_init_17 (fun H locs hP hD hS => ?_)
  have hP : va_P D vwCl [(h0, .inr (1, [.ref q1, .ref q3, .null, .null, .null, .null, .int 0, .int 0, .int 0, .int 0, .int 0])), (q1, .inl (c2, 6, .inl (fun _ => 0))), (q3, .inl (c4, 6, .inl (fun _ => 0)))] H := hP
  have hD : va_D A [(h0, .inr (1, [.ref q1, .ref q3, .null, .null, .null, .null, .int 0, .int 0, .int 0, .int 0, .int 0])), (q1, .inl (c2, 6, .inl (fun _ => 0))), (q3, .inl (c4, 6, .inl (fun _ => 0)))] := hD
  refine lv_aload_n hx hb dX1_init_20 rfl (lv_at hl 0 rfl) ?_
  refine lv_bipush (v := 6) hx hb dX1_init_21 (by decide) ?_
  refine va_newa (atype := .int) (ty := .int) (N' := 6) (a0 := (6, .inl (fun _ => 0))) hx hb acint rfl hK hP hD hS hA (fun _ => rfl) (by decide) (by decide) (by decide) (by show _ ≤ 6; omega) (by show _ ≤ 36; omega) dX1_init_23 (fun q5 c6 H hK hP hD hS => ?_)
  have hP : va_P D vwCl [(h0, .inr (1, [.ref q1, .ref q3, .null, .null, .null, .null, .int 0, .int 0, .int 0, .int 0, .int 0])), (q1, .inl (c2, 6, .inl (fun _ => 0))), (q3, .inl (c4, 6, .inl (fun _ => 0))), (q5, .inl (c6, 6, .inl (fun _ => 0)))] H := hP
  have hD : va_D A [(h0, .inr (1, [.ref q1, .ref q3, .null, .null, .null, .null, .int 0, .int 0, .int 0, .int 0, .int 0])), (q1, .inl (c2, 6, .inl (fun _ => 0))), (q3, .inl (c4, 6, .inl (fun _ => 0))), (q5, .inl (c6, 6, .inl (fun _ => 0)))] := hD
  have hK : va_K D vwCl [(c2, .int), (c4, .int), (c6, .int)] s := hK
  refine W.widen (k := 3) (n := 18) (by omega) (by omega) ?_
  refine va_putF (D := D) (ci := 1) (v := .ref q5) (C := RX1) (T := TX1) (N := 11) hx hb hts in1 tyX1 tyX1_ok nmX1 hown hK hP hD hS 0 rfl rfl 2 (by decide) lk18 (fun _ h9 => h9) rfl hin rfl (tyX1_ok 2 (by decide)) rfl rfl (Nat.le_of_ble_eq_true rfl) dX1_init_25 (fun H locs hP hD hS => ?_)
  have hP : va_P D vwCl [(h0, .inr (1, [.ref q1, .ref q3, .ref q5, .null, .null, .null, .int 0, .int 0, .int 0, .int 0, .int 0])), (q1, .inl (c2, 6, .inl (fun _ => 0))), (q3, .inl (c4, 6, .inl (fun _ => 0))), (q5, .inl (c6, 6, .inl (fun _ => 0)))] H := hP
  have hD : va_D A [(h0, .inr (1, [.ref q1, .ref q3, .ref q5, .null, .null, .null, .int 0, .int 0, .int 0, .int 0, .int 0])), (q1, .inl (c2, 6, .inl (fun _ => 0))), (q3, .inl (c4, 6, .inl (fun _ => 0))), (q5, .inl (c6, 6, .inl (fun _ => 0)))] := hD
  refine lv_aload_n hx hb dX1_init_28 rfl (lv_at hl 0 rfl) ?_
  refine lv_bipush (v := 6) hx hb dX1_init_29 (by decide) ?_
  refine va_newa (atype := .boolean) (ty := .boolean) (N' := 6) (a0 := (6, .inl (fun _ => 0))) hx hb acboolean rfl hK hP hD hS hA (fun _ => rfl) (by decide) (by decide) (by decide) (by show _ ≤ 6; omega) (by show _ ≤ 36; omega) dX1_init_31 (fun q7 c8 H hK hP hD hS => ?_)
  have hP : va_P D vwCl [(h0, .inr (1, [.ref q1, .ref q3, .ref q5, .null, .null, .null, .int 0, .int 0, .int 0, .int 0, .int 0])), (q1, .inl (c2, 6, .inl (fun _ => 0))), (q3, .inl (c4, 6, .inl (fun _ => 0))), (q5, .inl (c6, 6, .inl (fun _ => 0))), (q7, .inl (c8, 6, .inl (fun _ => 0)))] H := hP
  have hD : va_D A [(h0, .inr (1, [.ref q1, .ref q3, .ref q5, .null, .null, .null, .int 0, .int 0, .int 0, .int 0, .int 0])), (q1, .inl (c2, 6, .inl (fun _ => 0))), (q3, .inl (c4, 6, .inl (fun _ => 0))), (q5, .inl (c6, 6, .inl (fun _ => 0))), (q7, .inl (c8, 6, .inl (fun _ => 0)))] := hD
  have hK : va_K D vwCl [(c2, .int), (c4, .int), (c6, .int), (c8, .boolean)] s := hK
  refine W.widen (k := 4) (n := 24) (by omega) (by omega) ?_
  refine va_putF (D := D) (ci := 1) (v := .ref q7) (C := RX1) (T := TX1) (N := 11) hx hb hts in1 tyX1 tyX1_ok nmX1 hown hK hP hD hS 0 rfl rfl 3 (by decide) lk21 (fun _ h9 => h9) rfl hin rfl (tyX1_ok 3 (by decide)) rfl rfl (Nat.le_of_ble_eq_true rfl) dX1_init_33 (fun H locs hP hD hS => ?_)
  have hP : va_P D vwCl [(h0, .inr (1, [.ref q1, .ref q3, .ref q5, .ref q7, .null, .null, .int 0, .int 0, .int 0, .int 0, .int 0])), (q1, .inl (c2, 6, .inl (fun _ => 0))), (q3, .inl (c4, 6, .inl (fun _ => 0))), (q5, .inl (c6, 6, .inl (fun _ => 0))), (q7, .inl (c8, 6, .inl (fun _ => 0)))] H := hP
  have hD : va_D A [(h0, .inr (1, [.ref q1, .ref q3, .ref q5, .ref q7, .null, .null, .int 0, .int 0, .int 0, .int 0, .int 0])), (q1, .inl (c2, 6, .inl (fun _ => 0))), (q3, .inl (c4, 6, .inl (fun _ => 0))), (q5, .inl (c6, 6, .inl (fun _ => 0))), (q7, .inl (c8, 6, .inl (fun _ => 0)))] := hD
  refine lv_aload_n hx hb dX1_init_36 rfl (lv_at hl 0 rfl) ?_
  refine lv_bipush (v := 6) hx hb dX1_init_37 (by decide) ?_
  refine va_newa (atype := .int) (ty := .int) (N' := 6) (a0 := (6, .inl (fun _ => 0))) hx hb acint rfl hK hP hD hS hA (fun _ => rfl) (by decide) (by decide) (by decide) (by show _ ≤ 6; omega) (by show _ ≤ 36; omega) dX1_init_39 (fun q9 c10 H hK hP hD hS => ?_)
  have hP : va_P D vwCl [(h0, .inr (1, [.ref q1, .ref q3, .ref q5, .ref q7, .null, .null, .int 0, .int 0, .int 0, .int 0, .int 0])), (q1, .inl (c2, 6, .inl (fun _ => 0))), (q3, .inl (c4, 6, .inl (fun _ => 0))), (q5, .inl (c6, 6, .inl (fun _ => 0))), (q7, .inl (c8, 6, .inl (fun _ => 0))), (q9, .inl (c10, 6, .inl (fun _ => 0)))] H := hP
  have hD : va_D A [(h0, .inr (1, [.ref q1, .ref q3, .ref q5, .ref q7, .null, .null, .int 0, .int 0, .int 0, .int 0, .int 0])), (q1, .inl (c2, 6, .inl (fun _ => 0))), (q3, .inl (c4, 6, .inl (fun _ => 0))), (q5, .inl (c6, 6, .inl (fun _ => 0))), (q7, .inl (c8, 6, .inl (fun _ => 0))), (q9, .inl (c10, 6, .inl (fun _ => 0)))] := hD
  have hK : va_K D vwCl [(c2, .int), (c4, .int), (c6, .int), (c8, .boolean), (c10, .int)] s := hK
  refine W.widen (k := 5) (n := 30) (by omega) (by omega) ?_
  refine va_putF (D := D) (ci := 1) (v := .ref q9) (C := RX1) (T := TX1) (N := 11) hx hb hts in1 tyX1 tyX1_ok nmX1 hown hK hP hD hS 0 rfl rfl 4 (by decide) lk25 (fun _ h9 => h9) rfl hin rfl (tyX1_ok 4 (by decide)) rfl rfl (Nat.le_of_ble_eq_true rfl) dX1_init_41 (fun H locs hP hD hS => ?_)
  have hP : va_P D vwCl [(h0, .inr (1, [.ref q1, .ref q3, .ref q5, .ref q7, .ref q9, .null, .int 0, .int 0, .int 0, .int 0, .int 0])), (q1, .inl (c2, 6, .inl (fun _ => 0))), (q3, .inl (c4, 6, .inl (fun _ => 0))), (q5, .inl (c6, 6, .inl (fun _ => 0))), (q7, .inl (c8, 6, .inl (fun _ => 0))), (q9, .inl (c10, 6, .inl (fun _ => 0)))] H := hP
  have hD : va_D A [(h0, .inr (1, [.ref q1, .ref q3, .ref q5, .ref q7, .ref q9, .null, .int 0, .int 0, .int 0, .int 0, .int 0])), (q1, .inl (c2, 6, .inl (fun _ => 0))), (q3, .inl (c4, 6, .inl (fun _ => 0))), (q5, .inl (c6, 6, .inl (fun _ => 0))), (q7, .inl (c8, 6, .inl (fun _ => 0))), (q9, .inl (c10, 6, .inl (fun _ => 0)))] := hD
  refine lv_aload_n hx hb dX1_init_44 rfl (lv_at hl 0 rfl) ?_
  refine lv_bipush (v := 6) hx hb dX1_init_45 (by decide) ?_
  refine va_newa (atype := .int) (ty := .int) (N' := 6) (a0 := (6, .inl (fun _ => 0))) hx hb acint rfl hK hP hD hS hA (fun _ => rfl) (by decide) (by decide) (by decide) (by show _ ≤ 6; omega) (by show _ ≤ 36; omega) dX1_init_47 (fun q11 c12 H hK hP hD hS => ?_)
  have hP : va_P D vwCl [(h0, .inr (1, [.ref q1, .ref q3, .ref q5, .ref q7, .ref q9, .null, .int 0, .int 0, .int 0, .int 0, .int 0])), (q1, .inl (c2, 6, .inl (fun _ => 0))), (q3, .inl (c4, 6, .inl (fun _ => 0))), (q5, .inl (c6, 6, .inl (fun _ => 0))), (q7, .inl (c8, 6, .inl (fun _ => 0))), (q9, .inl (c10, 6, .inl (fun _ => 0))), (q11, .inl (c12, 6, .inl (fun _ => 0)))] H := hP
  have hD : va_D A [(h0, .inr (1, [.ref q1, .ref q3, .ref q5, .ref q7, .ref q9, .null, .int 0, .int 0, .int 0, .int 0, .int 0])), (q1, .inl (c2, 6, .inl (fun _ => 0))), (q3, .inl (c4, 6, .inl (fun _ => 0))), (q5, .inl (c6, 6, .inl (fun _ => 0))), (q7, .inl (c8, 6, .inl (fun _ => 0))), (q9, .inl (c10, 6, .inl (fun _ => 0))), (q11, .inl (c12, 6, .inl (fun _ => 0)))] := hD
  have hK : va_K D vwCl [(c2, .int), (c4, .int), (c6, .int), (c8, .boolean), (c10, .int), (c12, .int)] s := hK
  refine W.widen (k := 6) (n := 36) (by omega) (by omega) ?_
  refine va_putF (D := D) (ci := 1) (v := .ref q11) (C := RX1) (T := TX1) (N := 11) hx hb hts in1 tyX1 tyX1_ok nmX1 hown hK hP hD hS 0 rfl rfl 5 (by decide) lk28 (fun _ h9 => h9) rfl hin rfl (tyX1_ok 5 (by decide)) rfl rfl (Nat.le_of_ble_eq_true rfl) dX1_init_49 (fun H locs hP hD hS => ?_)
  have hP : va_P D vwCl [(h0, .inr (1, [.ref q1, .ref q3, .ref q5, .ref q7, .ref q9, .ref q11, .int 0, .int 0, .int 0, .int 0, .int 0])), (q1, .inl (c2, 6, .inl (fun _ => 0))), (q3, .inl (c4, 6, .inl (fun _ => 0))), (q5, .inl (c6, 6, .inl (fun _ => 0))), (q7, .inl (c8, 6, .inl (fun _ => 0))), (q9, .inl (c10, 6, .inl (fun _ => 0))), (q11, .inl (c12, 6, .inl (fun _ => 0)))] H := hP
  have hD : va_D A [(h0, .inr (1, [.ref q1, .ref q3, .ref q5, .ref q7, .ref q9, .ref q11, .int 0, .int 0, .int 0, .int 0, .int 0])), (q1, .inl (c2, 6, .inl (fun _ => 0))), (q3, .inl (c4, 6, .inl (fun _ => 0))), (q5, .inl (c6, 6, .inl (fun _ => 0))), (q7, .inl (c8, 6, .inl (fun _ => 0))), (q9, .inl (c10, 6, .inl (fun _ => 0))), (q11, .inl (c12, 6, .inl (fun _ => 0)))] := hD
  refine lv_aload_n hx hb dX1_init_52 rfl (lv_at hl 0 rfl) ?_
  refine lv_iconst (v := 0) hx hb dX1_init_53 (by decide) ?_
  refine va_put (D := D) (ci := 1) (v := .int 0) (C := RX1) (T := TX1) (N := 11) hx hb hts in1 tyX1 tyX1_ok nmX1 hown hK hP hD hS 0 rfl rfl 6 (by decide) lk31 (fun _ h9 => h9) rfl (tyX1_ok 6 (by decide)) rfl rfl (Nat.le_of_ble_eq_true rfl) dX1_init_54 (fun H locs hP hD hS => ?_)
  have hP : va_P D vwCl [(h0, .inr (1, [.ref q1, .ref q3, .ref q5, .ref q7, .ref q9, .ref q11, .int 0, .int 0, .int 0, .int 0, .int 0])), (q1, .inl (c2, 6, .inl (fun _ => 0))), (q3, .inl (c4, 6, .inl (fun _ => 0))), (q5, .inl (c6, 6, .inl (fun _ => 0))), (q7, .inl (c8, 6, .inl (fun _ => 0))), (q9, .inl (c10, 6, .inl (fun _ => 0))), (q11, .inl (c12, 6, .inl (fun _ => 0)))] H := hP
  have hD : va_D A [(h0, .inr (1, [.ref q1, .ref q3, .ref q5, .ref q7, .ref q9, .ref q11, .int 0, .int 0, .int 0, .int 0, .int 0])), (q1, .inl (c2, 6, .inl (fun _ => 0))), (q3, .inl (c4, 6, .inl (fun _ => 0))), (q5, .inl (c6, 6, .inl (fun _ => 0))), (q7, .inl (c8, 6, .inl (fun _ => 0))), (q9, .inl (c10, 6, .inl (fun _ => 0))), (q11, .inl (c12, 6, .inl (fun _ => 0)))] := hD
  refine lv_aload_n hx hb dX1_init_57 rfl (lv_at hl 0 rfl) ?_
  refine lv_iconst (v := (-1)) hx hb dX1_init_58 (by decide) ?_
  refine va_put (D := D) (ci := 1) (v := .int (-1)) (C := RX1) (T := TX1) (N := 11) hx hb hts in1 tyX1 tyX1_ok nmX1 hown hK hP hD hS 0 rfl rfl 7 (by decide) lk35 (fun _ h9 => h9) rfl (tyX1_ok 7 (by decide)) rfl rfl (Nat.le_of_ble_eq_true rfl) dX1_init_59 (fun H locs hP hD hS => ?_)
  have hP : va_P D vwCl [(h0, .inr (1, [.ref q1, .ref q3, .ref q5, .ref q7, .ref q9, .ref q11, .int 0, .int (-1), .int 0, .int 0, .int 0])), (q1, .inl (c2, 6, .inl (fun _ => 0))), (q3, .inl (c4, 6, .inl (fun _ => 0))), (q5, .inl (c6, 6, .inl (fun _ => 0))), (q7, .inl (c8, 6, .inl (fun _ => 0))), (q9, .inl (c10, 6, .inl (fun _ => 0))), (q11, .inl (c12, 6, .inl (fun _ => 0)))] H := hP
  have hD : va_D A [(h0, .inr (1, [.ref q1, .ref q3, .ref q5, .ref q7, .ref q9, .ref q11, .int 0, .int (-1), .int 0, .int 0, .int 0])), (q1, .inl (c2, 6, .inl (fun _ => 0))), (q3, .inl (c4, 6, .inl (fun _ => 0))), (q5, .inl (c6, 6, .inl (fun _ => 0))), (q7, .inl (c8, 6, .inl (fun _ => 0))), (q9, .inl (c10, 6, .inl (fun _ => 0))), (q11, .inl (c12, 6, .inl (fun _ => 0)))] := hD
  refine lv_aload_n hx hb dX1_init_62 rfl (lv_at hl 0 rfl) ?_
  refine lv_iconst (v := 0) hx hb dX1_init_63 (by decide) ?_
  refine va_put (D := D) (ci := 1) (v := .int 0) (C := RX1) (T := TX1) (N := 11) hx hb hts in1 tyX1 tyX1_ok nmX1 hown hK hP hD hS 0 rfl rfl 8 (by decide) lk38 (fun _ h9 => h9) rfl (tyX1_ok 8 (by decide)) rfl rfl (Nat.le_of_ble_eq_true rfl) dX1_init_64 (fun H locs hP hD hS => ?_)
  have hP : va_P D vwCl [(h0, .inr (1, [.ref q1, .ref q3, .ref q5, .ref q7, .ref q9, .ref q11, .int 0, .int (-1), .int 0, .int 0, .int 0])), (q1, .inl (c2, 6, .inl (fun _ => 0))), (q3, .inl (c4, 6, .inl (fun _ => 0))), (q5, .inl (c6, 6, .inl (fun _ => 0))), (q7, .inl (c8, 6, .inl (fun _ => 0))), (q9, .inl (c10, 6, .inl (fun _ => 0))), (q11, .inl (c12, 6, .inl (fun _ => 0)))] H := hP
  have hD : va_D A [(h0, .inr (1, [.ref q1, .ref q3, .ref q5, .ref q7, .ref q9, .ref q11, .int 0, .int (-1), .int 0, .int 0, .int 0])), (q1, .inl (c2, 6, .inl (fun _ => 0))), (q3, .inl (c4, 6, .inl (fun _ => 0))), (q5, .inl (c6, 6, .inl (fun _ => 0))), (q7, .inl (c8, 6, .inl (fun _ => 0))), (q9, .inl (c10, 6, .inl (fun _ => 0))), (q11, .inl (c12, 6, .inl (fun _ => 0)))] := hD
  refine lv_aload_n hx hb dX1_init_67 rfl (lv_at hl 0 rfl) ?_
  refine lv_iconst (v := 0) hx hb dX1_init_68 (by decide) ?_
  refine va_put (D := D) (ci := 1) (v := .int 0) (C := RX1) (T := TX1) (N := 11) hx hb hts in1 tyX1 tyX1_ok nmX1 hown hK hP hD hS 0 rfl rfl 9 (by decide) lk41 (fun _ h9 => h9) rfl (tyX1_ok 9 (by decide)) rfl rfl (Nat.le_of_ble_eq_true rfl) dX1_init_69 (fun H locs hP hD hS => ?_)
  have hP : va_P D vwCl [(h0, .inr (1, [.ref q1, .ref q3, .ref q5, .ref q7, .ref q9, .ref q11, .int 0, .int (-1), .int 0, .int 0, .int 0])), (q1, .inl (c2, 6, .inl (fun _ => 0))), (q3, .inl (c4, 6, .inl (fun _ => 0))), (q5, .inl (c6, 6, .inl (fun _ => 0))), (q7, .inl (c8, 6, .inl (fun _ => 0))), (q9, .inl (c10, 6, .inl (fun _ => 0))), (q11, .inl (c12, 6, .inl (fun _ => 0)))] H := hP
  have hD : va_D A [(h0, .inr (1, [.ref q1, .ref q3, .ref q5, .ref q7, .ref q9, .ref q11, .int 0, .int (-1), .int 0, .int 0, .int 0])), (q1, .inl (c2, 6, .inl (fun _ => 0))), (q3, .inl (c4, 6, .inl (fun _ => 0))), (q5, .inl (c6, 6, .inl (fun _ => 0))), (q7, .inl (c8, 6, .inl (fun _ => 0))), (q9, .inl (c10, 6, .inl (fun _ => 0))), (q11, .inl (c12, 6, .inl (fun _ => 0)))] := hD
  refine lv_aload_n hx hb dX1_init_72 rfl (lv_at hl 0 rfl) ?_
  refine lv_iconst (v := 0) hx hb dX1_init_73 (by decide) ?_
  refine va_put (D := D) (ci := 1) (v := .int 0) (C := RX1) (T := TX1) (N := 11) hx hb hts in1 tyX1 tyX1_ok nmX1 hown hK hP hD hS 0 rfl rfl 10 (by decide) lk44 (fun _ h9 => h9) rfl (tyX1_ok 10 (by decide)) rfl rfl (Nat.le_of_ble_eq_true rfl) dX1_init_74 (fun H locs hP hD hS => ?_)
  have hP : va_P D vwCl [(h0, .inr (1, [.ref q1, .ref q3, .ref q5, .ref q7, .ref q9, .ref q11, .int 0, .int (-1), .int 0, .int 0, .int 0])), (q1, .inl (c2, 6, .inl (fun _ => 0))), (q3, .inl (c4, 6, .inl (fun _ => 0))), (q5, .inl (c6, 6, .inl (fun _ => 0))), (q7, .inl (c8, 6, .inl (fun _ => 0))), (q9, .inl (c10, 6, .inl (fun _ => 0))), (q11, .inl (c12, 6, .inl (fun _ => 0)))] H := hP
  have hD : va_D A [(h0, .inr (1, [.ref q1, .ref q3, .ref q5, .ref q7, .ref q9, .ref q11, .int 0, .int (-1), .int 0, .int 0, .int 0])), (q1, .inl (c2, 6, .inl (fun _ => 0))), (q3, .inl (c4, 6, .inl (fun _ => 0))), (q5, .inl (c6, 6, .inl (fun _ => 0))), (q7, .inl (c8, 6, .inl (fun _ => 0))), (q9, .inl (c10, 6, .inl (fun _ => 0))), (q11, .inl (c12, 6, .inl (fun _ => 0)))] := hD
  exact W.vret hx hb hr (fun t ht hW => ⟨⟨(), rfl, trivial, (fun k => ([q1, q3, q5, q7, q9, q11] : List Nat).getD k 0), (fun k => ([c2, c4, c6, c8, c10, c12] : List ClassId).getD k 0), by rw [ht]; exact hP, va_K.moved hW.alike hK, hD⟩, hS.F ht⟩) hS.2.2 dX1_init_77
