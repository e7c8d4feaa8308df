set_option maxRecDepth 100000 in
set_option maxHeartbeats 4000000 in
theorem lc_look {p : Program} {l : Launch} {e : Env} {s : State} {m : MethodId} {below : List Frame} {meth : Method} {c : Code} {H : Heap} {locs : List Loc} {Q : State → Prop} {b : Nat} {ls : Array Slot} {D : va_G} {cA cB : Nat → ClassId} {ad bd : Nat → Nat} {z : ZX} {σ τ : St} {Rel : St → St → Prop} {n L i : Nat} {xs : Nat → Int32} (C : Lc p s m c b D cA ad z cB bd) (hX : va_X b L xs s s.heap) (hbl : b < s.heap.size) (hL : L ≤ 3072) (hi : i + 6 ≤ L) (hsim : ∀ (a1 : Int32), Sim Rel (fun σ => f_10_look n σ a1) (fun τ => f_11_look n τ a1)) (hRel : Rel σ τ) (hPX : va_P D vwCl (ww dX 120 cA ad σ) H) (hPM : va_P D vwCl (ww dM 41 cB bd τ) H) (hS : va_S (fun q : Nat => s.heap.size ≤ q) s.heap H locs) (hl : lv_has ls 4 [(0, .ref b), (1, .ref (ad 0)), (2, .ref (bd 0)), (3, .int (nI i))])
    (kk : ∀ (σ' τ' : St) (H : Heap) (locs : List Loc) (ls : Array Slot), Rel σ' τ' → va_P D vwCl (ww dX 120 cA ad σ') H → va_P D vwCl (ww dM 41 cB bd τ') H → va_S (fun q : Nat => s.heap.size ≤ q) s.heap H locs → lv_has ls 4 [(0, .ref b), (1, .ref (ad 0)), (2, .ref (bd 0)), (3, .int (nI i))] → W p l e room_1 s m #[Value.ref b] below meth c H locs 161 7151 Q (F0 m 813 ls [])) : W p l e room_1 s m #[Value.ref b] below meth c H locs 161 7151 Q (F0 m 497 ls []) := by
  have hx := C.1
  have hb := C.2.1
  have hbA : ¬ (fun q : Nat => s.heap.size ≤ q) b := Nat.not_le.mpr hbl
  obtain ⟨r, σ', τ', e1, e2, hR2⟩ := hsim (xs (nI i + 1).toNatClampNeg) σ τ hRel
  refine lv_aload_n hx hb dL_law_497 rfl (lv_at hl 1 rfl) ?_
  refine lv_aload_n hx hb dL_law_498 rfl (lv_at hl 0 rfl) ?_
  refine lv_iload_n hx hb dL_law_499 rfl (lv_at hl 3 rfl) ?_
  refine lv_iconst (v := 1) hx hb dL_law_500 (by decide) ?_
  refine lv_iadd hx hb dL_law_501 ?_
  refine va_sld hx hb hX hbl hbA hS (l_in (k := 1) rfl hi (by decide) hL) dL_law_502 ?_
  refine l_X (rest := []) C hPX hPM hS (k_10_look l D cA ad z C.2.2.2.2.2.2.2.1 n σ (xs (nI i + 1).toNatClampNeg) e1) 1 gT_X10_look rfl rfl rfl (by decide +kernel) ⟨Nat.le_of_ble_eq_true rfl, Nat.le_of_ble_eq_true rfl⟩ rfl hl.1 rfl (Nat.le_of_ble_eq_true rfl) dL_law_503 ⟨Nat.le_of_ble_eq_true rfl, Nat.le_of_ble_eq_true rfl⟩ (fun H locs hPX hPM hS => ?_)
  refine lv_aload_n hx hb dL_law_506 rfl (lv_at hl 2 rfl) ?_
  refine lv_aload_n hx hb dL_law_507 rfl (lv_at hl 0 rfl) ?_
  refine lv_iload_n hx hb dL_law_508 rfl (lv_at hl 3 rfl) ?_
  refine lv_iconst (v := 1) hx hb dL_law_509 (by decide) ?_
  refine lv_iadd hx hb dL_law_510 ?_
  refine va_sld hx hb hX hbl hbA hS (l_in (k := 1) rfl hi (by decide) hL) dL_law_511 ?_
  refine l_M (rest := [.int r]) C hPX hPM hS (k_11_look l D cB bd C.2.2.2.2.2.2.2.2.1 n τ (xs (nI i + 1).toNatClampNeg) e2) 1 gT_X11_look rfl rfl rfl (by decide +kernel) ⟨Nat.le_of_ble_eq_true rfl, Nat.le_of_ble_eq_true rfl⟩ rfl hl.1 rfl (Nat.le_of_ble_eq_true rfl) dL_law_512 ⟨Nat.le_of_ble_eq_true rfl, Nat.le_of_ble_eq_true rfl⟩ (fun H locs hPX hPM hS => ?_)
  exact lv_icmp_eq (tgt := 813) hx hb dL_law_515 (by decide) (fun _ => kk σ' τ' H locs ls hR2 hPX hPM hS hl) (fun c9 => absurd rfl c9)
set_option maxRecDepth 100000 in
set_option maxHeartbeats 4000000 in
theorem lc_plan {p : Program} {l : Launch} {e : Env} {s : State} {m : MethodId} {below : List Frame} {meth : Method} {c : Code} {H : Heap} {locs : List Loc} {Q : State → Prop} {b : Nat} {ls : Array Slot} {D : va_G} {cA cB : Nat → ClassId} {ad bd : Nat → Nat} {z : ZX} {σ τ : St} {Rel : St → St → Prop} {n L i : Nat} {xs : Nat → Int32} (C : Lc p s m c b D cA ad z cB bd) (hX : va_X b L xs s s.heap) (hbl : b < s.heap.size) (hL : L ≤ 3072) (hi : i + 6 ≤ L) (hsim : ∀ (a1 : Int32) (a2 : Int32) (a3 : Int32), Sim Rel (fun σ => f_10_plan n σ a1 a2 a3) (fun τ => f_11_plan n τ a1 a2 a3)) (hRel : Rel σ τ) (hPX : va_P D vwCl (ww dX 120 cA ad σ) H) (hPM : va_P D vwCl (ww dM 41 cB bd τ) H) (hS : va_S (fun q : Nat => s.heap.size ≤ q) s.heap H locs) (hl : lv_has ls 4 [(0, .ref b), (1, .ref (ad 0)), (2, .ref (bd 0)), (3, .int (nI i))])
    (kk : ∀ (σ' τ' : St) (H : Heap) (locs : List Loc) (ls : Array Slot), Rel σ' τ' → va_P D vwCl (ww dX 120 cA ad σ') H → va_P D vwCl (ww dM 41 cB bd τ') H → va_S (fun q : Nat => s.heap.size ≤ q) s.heap H locs → lv_has ls 4 [(0, .ref b), (1, .ref (ad 0)), (2, .ref (bd 0)), (3, .int (nI i))] → W p l e room_1 s m #[Value.ref b] below meth c H locs 161 7151 Q (F0 m 813 ls [])) : W p l e room_1 s m #[Value.ref b] below meth c H locs 161 7151 Q (F0 m 520 ls []) := by
  have hx := C.1
  have hb := C.2.1
  have hbA : ¬ (fun q : Nat => s.heap.size ≤ q) b := Nat.not_le.mpr hbl
  obtain ⟨r, σ', τ', e1, e2, hR2⟩ := hsim (xs (nI i + 1).toNatClampNeg) (xs (nI i + 2).toNatClampNeg) (xs (nI i + 3).toNatClampNeg) σ τ hRel
  refine lv_aload_n hx hb dL_law_520 rfl (lv_at hl 1 rfl) ?_
  refine lv_aload_n hx hb dL_law_521 rfl (lv_at hl 0 rfl) ?_
  refine lv_iload_n hx hb dL_law_522 rfl (lv_at hl 3 rfl) ?_
  refine lv_iconst (v := 1) hx hb dL_law_523 (by decide) ?_
  refine lv_iadd hx hb dL_law_524 ?_
  refine va_sld hx hb hX hbl hbA hS (l_in (k := 1) rfl hi (by decide) hL) dL_law_525 ?_
  refine lv_aload_n hx hb dL_law_526 rfl (lv_at hl 0 rfl) ?_
  refine lv_iload_n hx hb dL_law_527 rfl (lv_at hl 3 rfl) ?_
  refine lv_iconst (v := 2) hx hb dL_law_528 (by decide) ?_
  refine lv_iadd hx hb dL_law_529 ?_
  refine va_sld hx hb hX hbl hbA hS (l_in (k := 2) rfl hi (by decide) hL) dL_law_530 ?_
  refine lv_aload_n hx hb dL_law_531 rfl (lv_at hl 0 rfl) ?_
  refine lv_iload_n hx hb dL_law_532 rfl (lv_at hl 3 rfl) ?_
  refine lv_iconst (v := 3) hx hb dL_law_533 (by decide) ?_
  refine lv_iadd hx hb dL_law_534 ?_
  refine va_sld hx hb hX hbl hbA hS (l_in (k := 3) rfl hi (by decide) hL) dL_law_535 ?_
  refine l_X (rest := []) C hPX hPM hS (k_10_plan l D cA ad z C.2.2.2.2.2.2.2.1 n σ (xs (nI i + 1).toNatClampNeg) (xs (nI i + 2).toNatClampNeg) (xs (nI i + 3).toNatClampNeg) e1) 3 gT_X10_plan rfl rfl rfl (by decide +kernel) ⟨Nat.le_of_ble_eq_true rfl, Nat.le_of_ble_eq_true rfl⟩ rfl hl.1 rfl (Nat.le_of_ble_eq_true rfl) dL_law_536 ⟨Nat.le_of_ble_eq_true rfl, Nat.le_of_ble_eq_true rfl⟩ (fun H locs hPX hPM hS => ?_)
  refine lv_aload_n hx hb dL_law_539 rfl (lv_at hl 2 rfl) ?_
  refine lv_aload_n hx hb dL_law_540 rfl (lv_at hl 0 rfl) ?_
  refine lv_iload_n hx hb dL_law_541 rfl (lv_at hl 3 rfl) ?_
  refine lv_iconst (v := 1) hx hb dL_law_542 (by decide) ?_
  refine lv_iadd hx hb dL_law_543 ?_
  refine va_sld hx hb hX hbl hbA hS (l_in (k := 1) rfl hi (by decide) hL) dL_law_544 ?_
  refine lv_aload_n hx hb dL_law_545 rfl (lv_at hl 0 rfl) ?_
  refine lv_iload_n hx hb dL_law_546 rfl (lv_at hl 3 rfl) ?_
  refine lv_iconst (v := 2) hx hb dL_law_547 (by decide) ?_
  refine lv_iadd hx hb dL_law_548 ?_
  refine va_sld hx hb hX hbl hbA hS (l_in (k := 2) rfl hi (by decide) hL) dL_law_549 ?_
  refine lv_aload_n hx hb dL_law_550 rfl (lv_at hl 0 rfl) ?_
  refine lv_iload_n hx hb dL_law_551 rfl (lv_at hl 3 rfl) ?_
  refine lv_iconst (v := 3) hx hb dL_law_552 (by decide) ?_
  refine lv_iadd hx hb dL_law_553 ?_
  refine va_sld hx hb hX hbl hbA hS (l_in (k := 3) rfl hi (by decide) hL) dL_law_554 ?_
  refine l_M (rest := [.int r]) C hPX hPM hS (k_11_plan l D cB bd C.2.2.2.2.2.2.2.2.1 n τ (xs (nI i + 1).toNatClampNeg) (xs (nI i + 2).toNatClampNeg) (xs (nI i + 3).toNatClampNeg) e2) 3 gT_X11_plan rfl rfl rfl (by decide +kernel) ⟨Nat.le_of_ble_eq_true rfl, Nat.le_of_ble_eq_true rfl⟩ rfl hl.1 rfl (Nat.le_of_ble_eq_true rfl) dL_law_555 ⟨Nat.le_of_ble_eq_true rfl, Nat.le_of_ble_eq_true rfl⟩ (fun H locs hPX hPM hS => ?_)
  exact lv_icmp_eq (tgt := 813) hx hb dL_law_558 (by decide) (fun _ => kk σ' τ' H locs ls hR2 hPX hPM hS hl) (fun c9 => absurd rfl c9)
set_option maxRecDepth 100000 in
set_option maxHeartbeats 4000000 in
theorem lc_taken {p : Program} {l : Launch} {e : Env} {s : State} {m : MethodId} {below : List Frame} {meth : Method} {c : Code} {H : Heap} {locs : List Loc} {Q : State → Prop} {b : Nat} {ls : Array Slot} {D : va_G} {cA cB : Nat → ClassId} {ad bd : Nat → Nat} {z : ZX} {σ τ : St} {Rel : St → St → Prop} {n L i : Nat} {xs : Nat → Int32} (C : Lc p s m c b D cA ad z cB bd) (hX : va_X b L xs s s.heap) (hbl : b < s.heap.size) (hL : L ≤ 3072) (hi : i + 6 ≤ L) (hsim : ∀ (a1 : Int32) (a2 : Int32) (a3 : Int32), Sim Rel (fun σ => f_10_taken n σ a1 a2 a3) (fun τ => f_11_taken n τ a1 a2 a3)) (hRel : Rel σ τ) (hPX : va_P D vwCl (ww dX 120 cA ad σ) H) (hPM : va_P D vwCl (ww dM 41 cB bd τ) H) (hS : va_S (fun q : Nat => s.heap.size ≤ q) s.heap H locs) (hl : lv_has ls 4 [(0, .ref b), (1, .ref (ad 0)), (2, .ref (bd 0)), (3, .int (nI i))])
    (kk : ∀ (σ' τ' : St) (H : Heap) (locs : List Loc) (ls : Array Slot), Rel σ' τ' → va_P D vwCl (ww dX 120 cA ad σ') H → va_P D vwCl (ww dM 41 cB bd τ') H → va_S (fun q : Nat => s.heap.size ≤ q) s.heap H locs → lv_has ls 4 [(0, .ref b), (1, .ref (ad 0)), (2, .ref (bd 0)), (3, .int (nI i))] → W p l e room_1 s m #[Value.ref b] below meth c H locs 161 7151 Q (F0 m 813 ls [])) : W p l e room_1 s m #[Value.ref b] below meth c H locs 161 7151 Q (F0 m 563 ls []) := by
  have hx := C.1
  have hb := C.2.1
  have hbA : ¬ (fun q : Nat => s.heap.size ≤ q) b := Nat.not_le.mpr hbl
  obtain ⟨r, σ', τ', e1, e2, hR2⟩ := hsim (xs (nI i + 1).toNatClampNeg) (xs (nI i + 2).toNatClampNeg) (xs (nI i + 3).toNatClampNeg) σ τ hRel
  refine lv_aload_n hx hb dL_law_563 rfl (lv_at hl 1 rfl) ?_
  refine lv_aload_n hx hb dL_law_564 rfl (lv_at hl 0 rfl) ?_
  refine lv_iload_n hx hb dL_law_565 rfl (lv_at hl 3 rfl) ?_
  refine lv_iconst (v := 1) hx hb dL_law_566 (by decide) ?_
  refine lv_iadd hx hb dL_law_567 ?_
  refine va_sld hx hb hX hbl hbA hS (l_in (k := 1) rfl hi (by decide) hL) dL_law_568 ?_
  refine lv_aload_n hx hb dL_law_569 rfl (lv_at hl 0 rfl) ?_
  refine lv_iload_n hx hb dL_law_570 rfl (lv_at hl 3 rfl) ?_
  refine lv_iconst (v := 2) hx hb dL_law_571 (by decide) ?_
  refine lv_iadd hx hb dL_law_572 ?_
  refine va_sld hx hb hX hbl hbA hS (l_in (k := 2) rfl hi (by decide) hL) dL_law_573 ?_
  refine lv_aload_n hx hb dL_law_574 rfl (lv_at hl 0 rfl) ?_
  refine lv_iload_n hx hb dL_law_575 rfl (lv_at hl 3 rfl) ?_
  refine lv_iconst (v := 3) hx hb dL_law_576 (by decide) ?_
  refine lv_iadd hx hb dL_law_577 ?_
  refine va_sld hx hb hX hbl hbA hS (l_in (k := 3) rfl hi (by decide) hL) dL_law_578 ?_
  refine l_X (rest := []) C hPX hPM hS (k_10_taken l D cA ad z C.2.2.2.2.2.2.2.1 n σ (xs (nI i + 1).toNatClampNeg) (xs (nI i + 2).toNatClampNeg) (xs (nI i + 3).toNatClampNeg) e1) 3 gT_X10_taken rfl rfl rfl (by decide +kernel) ⟨Nat.le_of_ble_eq_true rfl, Nat.le_of_ble_eq_true rfl⟩ rfl hl.1 rfl (Nat.le_of_ble_eq_true rfl) dL_law_579 ⟨Nat.le_of_ble_eq_true rfl, Nat.le_of_ble_eq_true rfl⟩ (fun H locs hPX hPM hS => ?_)
  refine lv_aload_n hx hb dL_law_582 rfl (lv_at hl 2 rfl) ?_
  refine lv_aload_n hx hb dL_law_583 rfl (lv_at hl 0 rfl) ?_
  refine lv_iload_n hx hb dL_law_584 rfl (lv_at hl 3 rfl) ?_
  refine lv_iconst (v := 1) hx hb dL_law_585 (by decide) ?_
  refine lv_iadd hx hb dL_law_586 ?_
  refine va_sld hx hb hX hbl hbA hS (l_in (k := 1) rfl hi (by decide) hL) dL_law_587 ?_
  refine lv_aload_n hx hb dL_law_588 rfl (lv_at hl 0 rfl) ?_
  refine lv_iload_n hx hb dL_law_589 rfl (lv_at hl 3 rfl) ?_
  refine lv_iconst (v := 2) hx hb dL_law_590 (by decide) ?_
  refine lv_iadd hx hb dL_law_591 ?_
  refine va_sld hx hb hX hbl hbA hS (l_in (k := 2) rfl hi (by decide) hL) dL_law_592 ?_
  refine lv_aload_n hx hb dL_law_593 rfl (lv_at hl 0 rfl) ?_
  refine lv_iload_n hx hb dL_law_594 rfl (lv_at hl 3 rfl) ?_
  refine lv_iconst (v := 3) hx hb dL_law_595 (by decide) ?_
  refine lv_iadd hx hb dL_law_596 ?_
  refine va_sld hx hb hX hbl hbA hS (l_in (k := 3) rfl hi (by decide) hL) dL_law_597 ?_
  refine l_M (rest := [.int r]) C hPX hPM hS (k_11_taken l D cB bd C.2.2.2.2.2.2.2.2.1 n τ (xs (nI i + 1).toNatClampNeg) (xs (nI i + 2).toNatClampNeg) (xs (nI i + 3).toNatClampNeg) e2) 3 gT_X11_taken rfl rfl rfl (by decide +kernel) ⟨Nat.le_of_ble_eq_true rfl, Nat.le_of_ble_eq_true rfl⟩ rfl hl.1 rfl (Nat.le_of_ble_eq_true rfl) dL_law_598 ⟨Nat.le_of_ble_eq_true rfl, Nat.le_of_ble_eq_true rfl⟩ (fun H locs hPX hPM hS => ?_)
  exact lv_icmp_eq (tgt := 813) hx hb dL_law_601 (by decide) (fun _ => kk σ' τ' H locs ls hR2 hPX hPM hS hl) (fun c9 => absurd rfl c9)
set_option maxRecDepth 100000 in
set_option maxHeartbeats 4000000 in
theorem lc_best {p : Program} {l : Launch} {e : Env} {s : State} {m : MethodId} {below : List Frame} {meth : Method} {c : Code} {H : Heap} {locs : List Loc} {Q : State → Prop} {b : Nat} {ls : Array Slot} {D : va_G} {cA cB : Nat → ClassId} {ad bd : Nat → Nat} {z : ZX} {σ τ : St} {Rel : St → St → Prop} {n L i : Nat} {xs : Nat → Int32} (C : Lc p s m c b D cA ad z cB bd) (hX : va_X b L xs s s.heap) (hbl : b < s.heap.size) (hL : L ≤ 3072) (hi : i + 6 ≤ L) (hsim : ∀ (a1 : Int32) (a2 : Int32), Sim Rel (fun σ => f_10_best n σ a1 a2) (fun τ => f_11_best n τ a1 a2)) (hRel : Rel σ τ) (hPX : va_P D vwCl (ww dX 120 cA ad σ) H) (hPM : va_P D vwCl (ww dM 41 cB bd τ) H) (hS : va_S (fun q : Nat => s.heap.size ≤ q) s.heap H locs) (hl : lv_has ls 4 [(0, .ref b), (1, .ref (ad 0)), (2, .ref (bd 0)), (3, .int (nI i))])
    (kk : ∀ (σ' τ' : St) (H : Heap) (locs : List Loc) (ls : Array Slot), Rel σ' τ' → va_P D vwCl (ww dX 120 cA ad σ') H → va_P D vwCl (ww dM 41 cB bd τ') H → va_S (fun q : Nat => s.heap.size ≤ q) s.heap H locs → lv_has ls 4 [(0, .ref b), (1, .ref (ad 0)), (2, .ref (bd 0)), (3, .int (nI i))] → W p l e room_1 s m #[Value.ref b] below meth c H locs 161 7151 Q (F0 m 813 ls [])) : W p l e room_1 s m #[Value.ref b] below meth c H locs 161 7151 Q (F0 m 606 ls []) := by
  have hx := C.1
  have hb := C.2.1
  have hbA : ¬ (fun q : Nat => s.heap.size ≤ q) b := Nat.not_le.mpr hbl
  obtain ⟨r, σ', τ', e1, e2, hR2⟩ := hsim (xs (nI i + 1).toNatClampNeg) (xs (nI i + 2).toNatClampNeg) σ τ hRel
  refine lv_aload_n hx hb dL_law_606 rfl (lv_at hl 1 rfl) ?_
  refine lv_aload_n hx hb dL_law_607 rfl (lv_at hl 0 rfl) ?_
  refine lv_iload_n hx hb dL_law_608 rfl (lv_at hl 3 rfl) ?_
  refine lv_iconst (v := 1) hx hb dL_law_609 (by decide) ?_
  refine lv_iadd hx hb dL_law_610 ?_
  refine va_sld hx hb hX hbl hbA hS (l_in (k := 1) rfl hi (by decide) hL) dL_law_611 ?_
  refine lv_aload_n hx hb dL_law_612 rfl (lv_at hl 0 rfl) ?_
  refine lv_iload_n hx hb dL_law_613 rfl (lv_at hl 3 rfl) ?_
  refine lv_iconst (v := 2) hx hb dL_law_614 (by decide) ?_
  refine lv_iadd hx hb dL_law_615 ?_
  refine va_sld hx hb hX hbl hbA hS (l_in (k := 2) rfl hi (by decide) hL) dL_law_616 ?_
  refine l_X (rest := []) C hPX hPM hS (k_10_best l D cA ad z C.2.2.2.2.2.2.2.1 n σ (xs (nI i + 1).toNatClampNeg) (xs (nI i + 2).toNatClampNeg) e1) 2 gT_X10_best rfl rfl rfl (by decide +kernel) ⟨Nat.le_of_ble_eq_true rfl, Nat.le_of_ble_eq_true rfl⟩ rfl hl.1 rfl (Nat.le_of_ble_eq_true rfl) dL_law_617 ⟨Nat.le_of_ble_eq_true rfl, Nat.le_of_ble_eq_true rfl⟩ (fun H locs hPX hPM hS => ?_)
  refine lv_aload_n hx hb dL_law_620 rfl (lv_at hl 2 rfl) ?_
  refine lv_aload_n hx hb dL_law_621 rfl (lv_at hl 0 rfl) ?_
  refine lv_iload_n hx hb dL_law_622 rfl (lv_at hl 3 rfl) ?_
  refine lv_iconst (v := 1) hx hb dL_law_623 (by decide) ?_
  refine lv_iadd hx hb dL_law_624 ?_
  refine va_sld hx hb hX hbl hbA hS (l_in (k := 1) rfl hi (by decide) hL) dL_law_625 ?_
  refine lv_aload_n hx hb dL_law_626 rfl (lv_at hl 0 rfl) ?_
  refine lv_iload_n hx hb dL_law_627 rfl (lv_at hl 3 rfl) ?_
  refine lv_iconst (v := 2) hx hb dL_law_628 (by decide) ?_
  refine lv_iadd hx hb dL_law_629 ?_
  refine va_sld hx hb hX hbl hbA hS (l_in (k := 2) rfl hi (by decide) hL) dL_law_630 ?_
  refine l_M (rest := [.int r]) C hPX hPM hS (k_11_best l D cB bd C.2.2.2.2.2.2.2.2.1 n τ (xs (nI i + 1).toNatClampNeg) (xs (nI i + 2).toNatClampNeg) e2) 2 gT_X11_best rfl rfl rfl (by decide +kernel) ⟨Nat.le_of_ble_eq_true rfl, Nat.le_of_ble_eq_true rfl⟩ rfl hl.1 rfl (Nat.le_of_ble_eq_true rfl) dL_law_631 ⟨Nat.le_of_ble_eq_true rfl, Nat.le_of_ble_eq_true rfl⟩ (fun H locs hPX hPM hS => ?_)
  exact lv_icmp_eq (tgt := 813) hx hb dL_law_634 (by decide) (fun _ => kk σ' τ' H locs ls hR2 hPX hPM hS hl) (fun c9 => absurd rfl c9)
set_option maxRecDepth 100000 in
set_option maxHeartbeats 4000000 in
theorem lc_keep {p : Program} {l : Launch} {e : Env} {s : State} {m : MethodId} {below : List Frame} {meth : Method} {c : Code} {H : Heap} {locs : List Loc} {Q : State → Prop} {b : Nat} {ls : Array Slot} {D : va_G} {cA cB : Nat → ClassId} {ad bd : Nat → Nat} {z : ZX} {σ τ : St} {Rel : St → St → Prop} {n L i : Nat} {xs : Nat → Int32} (C : Lc p s m c b D cA ad z cB bd) (hX : va_X b L xs s s.heap) (hbl : b < s.heap.size) (hL : L ≤ 3072) (hi : i + 6 ≤ L) (hsim : ∀ (a1 : Int32), (a1 = 0 ∨ a1 = 1) → Sim Rel (fun σ => f_10_keep n σ a1) (fun τ => f_11_keep n τ a1)) (hRel : Rel σ τ) (hPX : va_P D vwCl (ww dX 120 cA ad σ) H) (hPM : va_P D vwCl (ww dM 41 cB bd τ) H) (hS : va_S (fun q : Nat => s.heap.size ≤ q) s.heap H locs) (hl : lv_has ls 4 [(0, .ref b), (1, .ref (ad 0)), (2, .ref (bd 0)), (3, .int (nI i))])
    (kk : ∀ (σ' τ' : St) (H : Heap) (locs : List Loc) (ls : Array Slot), Rel σ' τ' → va_P D vwCl (ww dX 120 cA ad σ') H → va_P D vwCl (ww dM 41 cB bd τ') H → va_S (fun q : Nat => s.heap.size ≤ q) s.heap H locs → lv_has ls 4 [(0, .ref b), (1, .ref (ad 0)), (2, .ref (bd 0)), (3, .int (nI i))] → W p l e room_1 s m #[Value.ref b] below meth c H locs 161 7151 Q (F0 m 813 ls [])) : W p l e room_1 s m #[Value.ref b] below meth c H locs 161 7151 Q (F0 m 639 ls []) := by
  have hx := C.1
  have hb := C.2.1
  have hbA : ¬ (fun q : Nat => s.heap.size ≤ q) b := Nat.not_le.mpr hbl
  refine lv_aload_n hx hb dL_law_639 rfl (lv_at hl 1 rfl) ?_
  refine lv_aload_n hx hb dL_law_640 rfl (lv_at hl 0 rfl) ?_
  refine lv_iload_n hx hb dL_law_641 rfl (lv_at hl 3 rfl) ?_
  refine lv_iconst (v := 1) hx hb dL_law_642 (by decide) ?_
  refine lv_iadd hx hb dL_law_643 ?_
  refine va_sld hx hb hX hbl hbA hS (l_in (k := 1) rfl hi (by decide) hL) dL_law_644 ?_
  refine lv_if_eq (tgt := 652) hx hb dL_law_645 (by decide) (fun c1 => ?_) (fun c1 => ?_)
  · obtain ⟨r, σ', τ', e1, e2, hR2⟩ := hsim 0 (Or.inl rfl) σ τ hRel
    refine lv_iconst (v := 0) hx hb dL_law_652 (by decide) ?_
    refine l_X (rest := []) C hPX hPM hS (k_10_keep l D cA ad z C.2.2.2.2.2.2.2.1 n σ 0 e1) 1 gT_X10_keep rfl rfl rfl (by decide +kernel) ⟨Nat.le_of_ble_eq_true rfl, Nat.le_of_ble_eq_true rfl⟩ rfl hl.1 rfl (Nat.le_of_ble_eq_true rfl) dL_law_653 ⟨Nat.le_of_ble_eq_true rfl, Nat.le_of_ble_eq_true rfl⟩ (fun H locs hPX hPM hS => ?_)
    refine lv_aload_n hx hb dL_law_656 rfl (lv_at hl 2 rfl) ?_
    refine lv_aload_n hx hb dL_law_657 rfl (lv_at hl 0 rfl) ?_
    refine lv_iload_n hx hb dL_law_658 rfl (lv_at hl 3 rfl) ?_
    refine lv_iconst (v := 1) hx hb dL_law_659 (by decide) ?_
    refine lv_iadd hx hb dL_law_660 ?_
    refine va_sld hx hb hX hbl hbA hS (l_in (k := 1) rfl hi (by decide) hL) dL_law_661 ?_
    refine lv_if_eq (tgt := 669) hx hb dL_law_662 (by decide) (fun _ => ?_) (fun c2 => absurd c1 c2)
    refine lv_iconst (v := 0) hx hb dL_law_669 (by decide) ?_
    refine l_M (rest := [.int r]) C hPX hPM hS (k_11_keep l D cB bd C.2.2.2.2.2.2.2.2.1 n τ 0 e2) 1 gT_X11_keep rfl rfl rfl (by decide +kernel) ⟨Nat.le_of_ble_eq_true rfl, Nat.le_of_ble_eq_true rfl⟩ rfl hl.1 rfl (Nat.le_of_ble_eq_true rfl) dL_law_670 ⟨Nat.le_of_ble_eq_true rfl, Nat.le_of_ble_eq_true rfl⟩ (fun H locs hPX hPM hS => ?_)
    exact lv_icmp_eq (tgt := 813) hx hb dL_law_673 (by decide) (fun _ => kk σ' τ' H locs ls hR2 hPX hPM hS hl) (fun c9 => absurd rfl c9)
  · obtain ⟨r, σ', τ', e1, e2, hR2⟩ := hsim 1 (Or.inr rfl) σ τ hRel
    refine lv_iconst (v := 1) hx hb dL_law_648 (by decide) ?_
    refine lv_goto (tgt := 653) hx hb dL_law_649 (by decide) ?_
    refine l_X (rest := []) C hPX hPM hS (k_10_keep l D cA ad z C.2.2.2.2.2.2.2.1 n σ 1 e1) 1 gT_X10_keep rfl rfl rfl (by decide +kernel) ⟨Nat.le_of_ble_eq_true rfl, Nat.le_of_ble_eq_true rfl⟩ rfl hl.1 rfl (Nat.le_of_ble_eq_true rfl) dL_law_653 ⟨Nat.le_of_ble_eq_true rfl, Nat.le_of_ble_eq_true rfl⟩ (fun H locs hPX hPM hS => ?_)
    refine lv_aload_n hx hb dL_law_656 rfl (lv_at hl 2 rfl) ?_
    refine lv_aload_n hx hb dL_law_657 rfl (lv_at hl 0 rfl) ?_
    refine lv_iload_n hx hb dL_law_658 rfl (lv_at hl 3 rfl) ?_
    refine lv_iconst (v := 1) hx hb dL_law_659 (by decide) ?_
    refine lv_iadd hx hb dL_law_660 ?_
    refine va_sld hx hb hX hbl hbA hS (l_in (k := 1) rfl hi (by decide) hL) dL_law_661 ?_
    refine lv_if_eq (tgt := 669) hx hb dL_law_662 (by decide) (fun c2 => absurd c2 c1) (fun _ => ?_)
    refine lv_iconst (v := 1) hx hb dL_law_665 (by decide) ?_
    refine lv_goto (tgt := 670) hx hb dL_law_666 (by decide) ?_
    refine l_M (rest := [.int r]) C hPX hPM hS (k_11_keep l D cB bd C.2.2.2.2.2.2.2.2.1 n τ 1 e2) 1 gT_X11_keep rfl rfl rfl (by decide +kernel) ⟨Nat.le_of_ble_eq_true rfl, Nat.le_of_ble_eq_true rfl⟩ rfl hl.1 rfl (Nat.le_of_ble_eq_true rfl) dL_law_670 ⟨Nat.le_of_ble_eq_true rfl, Nat.le_of_ble_eq_true rfl⟩ (fun H locs hPX hPM hS => ?_)
    exact lv_icmp_eq (tgt := 813) hx hb dL_law_673 (by decide) (fun _ => kk σ' τ' H locs ls hR2 hPX hPM hS hl) (fun c9 => absurd rfl c9)
set_option maxRecDepth 100000 in
set_option maxHeartbeats 4000000 in
theorem lc_next {p : Program} {l : Launch} {e : Env} {s : State} {m : MethodId} {below : List Frame} {meth : Method} {c : Code} {H : Heap} {locs : List Loc} {Q : State → Prop} {b : Nat} {ls : Array Slot} {D : va_G} {cA cB : Nat → ClassId} {ad bd : Nat → Nat} {z : ZX} {σ τ : St} {Rel : St → St → Prop} {n L i : Nat} {xs : Nat → Int32} (C : Lc p s m c b D cA ad z cB bd) (hX : va_X b L xs s s.heap) (hbl : b < s.heap.size) (hL : L ≤ 3072) (hi : i + 6 ≤ L) (hsim :  Sim Rel (fun σ => f_10_next n σ ) (fun τ => f_11_next n τ )) (hRel : Rel σ τ) (hPX : va_P D vwCl (ww dX 120 cA ad σ) H) (hPM : va_P D vwCl (ww dM 41 cB bd τ) H) (hS : va_S (fun q : Nat => s.heap.size ≤ q) s.heap H locs) (hl : lv_has ls 4 [(0, .ref b), (1, .ref (ad 0)), (2, .ref (bd 0)), (3, .int (nI i))])
    (kk : ∀ (σ' τ' : St) (H : Heap) (locs : List Loc) (ls : Array Slot), Rel σ' τ' → va_P D vwCl (ww dX 120 cA ad σ') H → va_P D vwCl (ww dM 41 cB bd τ') H → va_S (fun q : Nat => s.heap.size ≤ q) s.heap H locs → lv_has ls 4 [(0, .ref b), (1, .ref (ad 0)), (2, .ref (bd 0)), (3, .int (nI i))] → W p l e room_1 s m #[Value.ref b] below meth c H locs 161 7151 Q (F0 m 813 ls [])) : W p l e room_1 s m #[Value.ref b] below meth c H locs 161 7151 Q (F0 m 678 ls []) := by
  have hx := C.1
  have hb := C.2.1
  have hbA : ¬ (fun q : Nat => s.heap.size ≤ q) b := Nat.not_le.mpr hbl
  obtain ⟨r, σ', τ', e1, e2, hR2⟩ := hsim  σ τ hRel
  refine lv_aload_n hx hb dL_law_678 rfl (lv_at hl 1 rfl) ?_
  refine l_X (rest := []) C hPX hPM hS (k_10_next l D cA ad z C.2.2.2.2.2.2.2.1 n σ  e1) 0 gT_X10_next rfl rfl rfl (by decide +kernel) ⟨Nat.le_of_ble_eq_true rfl, Nat.le_of_ble_eq_true rfl⟩ rfl hl.1 rfl (Nat.le_of_ble_eq_true rfl) dL_law_679 ⟨Nat.le_of_ble_eq_true rfl, Nat.le_of_ble_eq_true rfl⟩ (fun H locs hPX hPM hS => ?_)
  refine lv_aload_n hx hb dL_law_682 rfl (lv_at hl 2 rfl) ?_
  refine l_M (rest := [.int r]) C hPX hPM hS (k_11_next l D cB bd C.2.2.2.2.2.2.2.2.1 n τ  e2) 0 gT_X11_next rfl rfl rfl (by decide +kernel) ⟨Nat.le_of_ble_eq_true rfl, Nat.le_of_ble_eq_true rfl⟩ rfl hl.1 rfl (Nat.le_of_ble_eq_true rfl) dL_law_683 ⟨Nat.le_of_ble_eq_true rfl, Nat.le_of_ble_eq_true rfl⟩ (fun H locs hPX hPM hS => ?_)
  exact lv_icmp_eq (tgt := 813) hx hb dL_law_686 (by decide) (fun _ => kk σ' τ' H locs ls hR2 hPX hPM hS hl) (fun c9 => absurd rfl c9)
set_option maxRecDepth 100000 in
set_option maxHeartbeats 4000000 in
theorem lc_water {p : Program} {l : Launch} {e : Env} {s : State} {m : MethodId} {below : List Frame} {meth : Method} {c : Code} {H : Heap} {locs : List Loc} {Q : State → Prop} {b : Nat} {ls : Array Slot} {D : va_G} {cA cB : Nat → ClassId} {ad bd : Nat → Nat} {z : ZX} {σ τ : St} {Rel : St → St → Prop} {n L i : Nat} {xs : Nat → Int32} (C : Lc p s m c b D cA ad z cB bd) (hX : va_X b L xs s s.heap) (hbl : b < s.heap.size) (hL : L ≤ 3072) (hi : i + 6 ≤ L) (hsim : ∀ (a1 : Int32) (a2 : Int32), Sim Rel (fun σ => f_10_water n σ a1 a2) (fun τ => f_11_water n τ a1 a2)) (hRel : Rel σ τ) (hPX : va_P D vwCl (ww dX 120 cA ad σ) H) (hPM : va_P D vwCl (ww dM 41 cB bd τ) H) (hS : va_S (fun q : Nat => s.heap.size ≤ q) s.heap H locs) (hl : lv_has ls 4 [(0, .ref b), (1, .ref (ad 0)), (2, .ref (bd 0)), (3, .int (nI i))])
    (kk : ∀ (σ' τ' : St) (H : Heap) (locs : List Loc) (ls : Array Slot), Rel σ' τ' → va_P D vwCl (ww dX 120 cA ad σ') H → va_P D vwCl (ww dM 41 cB bd τ') H → va_S (fun q : Nat => s.heap.size ≤ q) s.heap H locs → lv_has ls 4 [(0, .ref b), (1, .ref (ad 0)), (2, .ref (bd 0)), (3, .int (nI i))] → W p l e room_1 s m #[Value.ref b] below meth c H locs 161 7151 Q (F0 m 813 ls [])) : W p l e room_1 s m #[Value.ref b] below meth c H locs 161 7151 Q (F0 m 691 ls []) := by
  have hx := C.1
  have hb := C.2.1
  have hbA : ¬ (fun q : Nat => s.heap.size ≤ q) b := Nat.not_le.mpr hbl
  obtain ⟨r, σ', τ', e1, e2, hR2⟩ := hsim (xs (nI i + 1).toNatClampNeg) (xs (nI i + 2).toNatClampNeg) σ τ hRel
  refine lv_aload_n hx hb dL_law_691 rfl (lv_at hl 1 rfl) ?_
  refine lv_aload_n hx hb dL_law_692 rfl (lv_at hl 0 rfl) ?_
  refine lv_iload_n hx hb dL_law_693 rfl (lv_at hl 3 rfl) ?_
  refine lv_iconst (v := 1) hx hb dL_law_694 (by decide) ?_
  refine lv_iadd hx hb dL_law_695 ?_
  refine va_sld hx hb hX hbl hbA hS (l_in (k := 1) rfl hi (by decide) hL) dL_law_696 ?_
  refine lv_aload_n hx hb dL_law_697 rfl (lv_at hl 0 rfl) ?_
  refine lv_iload_n hx hb dL_law_698 rfl (lv_at hl 3 rfl) ?_
  refine lv_iconst (v := 2) hx hb dL_law_699 (by decide) ?_
  refine lv_iadd hx hb dL_law_700 ?_
  refine va_sld hx hb hX hbl hbA hS (l_in (k := 2) rfl hi (by decide) hL) dL_law_701 ?_
  refine l_X (rest := []) C hPX hPM hS (k_10_water l D cA ad z C.2.2.2.2.2.2.2.1 n σ (xs (nI i + 1).toNatClampNeg) (xs (nI i + 2).toNatClampNeg) e1) 2 gT_X10_water rfl rfl rfl (by decide +kernel) ⟨Nat.le_of_ble_eq_true rfl, Nat.le_of_ble_eq_true rfl⟩ rfl hl.1 rfl (Nat.le_of_ble_eq_true rfl) dL_law_702 ⟨Nat.le_of_ble_eq_true rfl, Nat.le_of_ble_eq_true rfl⟩ (fun H locs hPX hPM hS => ?_)
  refine lv_aload_n hx hb dL_law_705 rfl (lv_at hl 2 rfl) ?_
  refine lv_aload_n hx hb dL_law_706 rfl (lv_at hl 0 rfl) ?_
  refine lv_iload_n hx hb dL_law_707 rfl (lv_at hl 3 rfl) ?_
  refine lv_iconst (v := 1) hx hb dL_law_708 (by decide) ?_
  refine lv_iadd hx hb dL_law_709 ?_
  refine va_sld hx hb hX hbl hbA hS (l_in (k := 1) rfl hi (by decide) hL) dL_law_710 ?_
  refine lv_aload_n hx hb dL_law_711 rfl (lv_at hl 0 rfl) ?_
  refine lv_iload_n hx hb dL_law_712 rfl (lv_at hl 3 rfl) ?_
  refine lv_iconst (v := 2) hx hb dL_law_713 (by decide) ?_
  refine lv_iadd hx hb dL_law_714 ?_
  refine va_sld hx hb hX hbl hbA hS (l_in (k := 2) rfl hi (by decide) hL) dL_law_715 ?_
  refine l_M (rest := [.int r]) C hPX hPM hS (k_11_water l D cB bd C.2.2.2.2.2.2.2.2.1 n τ (xs (nI i + 1).toNatClampNeg) (xs (nI i + 2).toNatClampNeg) e2) 2 gT_X11_water rfl rfl rfl (by decide +kernel) ⟨Nat.le_of_ble_eq_true rfl, Nat.le_of_ble_eq_true rfl⟩ rfl hl.1 rfl (Nat.le_of_ble_eq_true rfl) dL_law_716 ⟨Nat.le_of_ble_eq_true rfl, Nat.le_of_ble_eq_true rfl⟩ (fun H locs hPX hPM hS => ?_)
  exact lv_icmp_eq (tgt := 813) hx hb dL_law_719 (by decide) (fun _ => kk σ' τ' H locs ls hR2 hPX hPM hS hl) (fun c9 => absurd rfl c9)
set_option maxRecDepth 100000 in
set_option maxHeartbeats 4000000 in
theorem lc_bottles {p : Program} {l : Launch} {e : Env} {s : State} {m : MethodId} {below : List Frame} {meth : Method} {c : Code} {H : Heap} {locs : List Loc} {Q : State → Prop} {b : Nat} {ls : Array Slot} {D : va_G} {cA cB : Nat → ClassId} {ad bd : Nat → Nat} {z : ZX} {σ τ : St} {Rel : St → St → Prop} {n L i : Nat} {xs : Nat → Int32} (C : Lc p s m c b D cA ad z cB bd) (hX : va_X b L xs s s.heap) (hbl : b < s.heap.size) (hL : L ≤ 3072) (hi : i + 6 ≤ L) (hsim : ∀ (a1 : Int32) (a2 : Int32), Sim Rel (fun σ => f_10_bottles n σ a1 a2) (fun τ => f_11_bottles n τ a1 a2)) (hRel : Rel σ τ) (hPX : va_P D vwCl (ww dX 120 cA ad σ) H) (hPM : va_P D vwCl (ww dM 41 cB bd τ) H) (hS : va_S (fun q : Nat => s.heap.size ≤ q) s.heap H locs) (hl : lv_has ls 4 [(0, .ref b), (1, .ref (ad 0)), (2, .ref (bd 0)), (3, .int (nI i))])
    (kk : ∀ (σ' τ' : St) (H : Heap) (locs : List Loc) (ls : Array Slot), Rel σ' τ' → va_P D vwCl (ww dX 120 cA ad σ') H → va_P D vwCl (ww dM 41 cB bd τ') H → va_S (fun q : Nat => s.heap.size ≤ q) s.heap H locs → lv_has ls 4 [(0, .ref b), (1, .ref (ad 0)), (2, .ref (bd 0)), (3, .int (nI i))] → W p l e room_1 s m #[Value.ref b] below meth c H locs 161 7151 Q (F0 m 813 ls [])) : W p l e room_1 s m #[Value.ref b] below meth c H locs 161 7151 Q (F0 m 724 ls []) := by
  have hx := C.1
  have hb := C.2.1
  have hbA : ¬ (fun q : Nat => s.heap.size ≤ q) b := Nat.not_le.mpr hbl
  obtain ⟨r, σ', τ', e1, e2, hR2⟩ := hsim (xs (nI i + 1).toNatClampNeg) (xs (nI i + 2).toNatClampNeg) σ τ hRel
  refine lv_aload_n hx hb dL_law_724 rfl (lv_at hl 1 rfl) ?_
  refine lv_aload_n hx hb dL_law_725 rfl (lv_at hl 0 rfl) ?_
  refine lv_iload_n hx hb dL_law_726 rfl (lv_at hl 3 rfl) ?_
  refine lv_iconst (v := 1) hx hb dL_law_727 (by decide) ?_
  refine lv_iadd hx hb dL_law_728 ?_
  refine va_sld hx hb hX hbl hbA hS (l_in (k := 1) rfl hi (by decide) hL) dL_law_729 ?_
  refine lv_aload_n hx hb dL_law_730 rfl (lv_at hl 0 rfl) ?_
  refine lv_iload_n hx hb dL_law_731 rfl (lv_at hl 3 rfl) ?_
  refine lv_iconst (v := 2) hx hb dL_law_732 (by decide) ?_
  refine lv_iadd hx hb dL_law_733 ?_
  refine va_sld hx hb hX hbl hbA hS (l_in (k := 2) rfl hi (by decide) hL) dL_law_734 ?_
  refine l_X (rest := []) C hPX hPM hS (k_10_bottles l D cA ad z C.2.2.2.2.2.2.2.1 n σ (xs (nI i + 1).toNatClampNeg) (xs (nI i + 2).toNatClampNeg) e1) 2 gT_X10_bottles rfl rfl rfl (by decide +kernel) ⟨Nat.le_of_ble_eq_true rfl, Nat.le_of_ble_eq_true rfl⟩ rfl hl.1 rfl (Nat.le_of_ble_eq_true rfl) dL_law_735 ⟨Nat.le_of_ble_eq_true rfl, Nat.le_of_ble_eq_true rfl⟩ (fun H locs hPX hPM hS => ?_)
  refine lv_aload_n hx hb dL_law_738 rfl (lv_at hl 2 rfl) ?_
  refine lv_aload_n hx hb dL_law_739 rfl (lv_at hl 0 rfl) ?_
  refine lv_iload_n hx hb dL_law_740 rfl (lv_at hl 3 rfl) ?_
  refine lv_iconst (v := 1) hx hb dL_law_741 (by decide) ?_
  refine lv_iadd hx hb dL_law_742 ?_
  refine va_sld hx hb hX hbl hbA hS (l_in (k := 1) rfl hi (by decide) hL) dL_law_743 ?_
  refine lv_aload_n hx hb dL_law_744 rfl (lv_at hl 0 rfl) ?_
  refine lv_iload_n hx hb dL_law_745 rfl (lv_at hl 3 rfl) ?_
  refine lv_iconst (v := 2) hx hb dL_law_746 (by decide) ?_
  refine lv_iadd hx hb dL_law_747 ?_
  refine va_sld hx hb hX hbl hbA hS (l_in (k := 2) rfl hi (by decide) hL) dL_law_748 ?_
  refine l_M (rest := [.int r]) C hPX hPM hS (k_11_bottles l D cB bd C.2.2.2.2.2.2.2.2.1 n τ (xs (nI i + 1).toNatClampNeg) (xs (nI i + 2).toNatClampNeg) e2) 2 gT_X11_bottles rfl rfl rfl (by decide +kernel) ⟨Nat.le_of_ble_eq_true rfl, Nat.le_of_ble_eq_true rfl⟩ rfl hl.1 rfl (Nat.le_of_ble_eq_true rfl) dL_law_749 ⟨Nat.le_of_ble_eq_true rfl, Nat.le_of_ble_eq_true rfl⟩ (fun H locs hPX hPM hS => ?_)
  exact lv_icmp_eq (tgt := 813) hx hb dL_law_752 (by decide) (fun _ => kk σ' τ' H locs ls hR2 hPX hPM hS hl) (fun c9 => absurd rfl c9)
set_option maxRecDepth 100000 in
set_option maxHeartbeats 4000000 in
theorem lc_sell {p : Program} {l : Launch} {e : Env} {s : State} {m : MethodId} {below : List Frame} {meth : Method} {c : Code} {H : Heap} {locs : List Loc} {Q : State → Prop} {b : Nat} {ls : Array Slot} {D : va_G} {cA cB : Nat → ClassId} {ad bd : Nat → Nat} {z : ZX} {σ τ : St} {Rel : St → St → Prop} {n L i : Nat} {xs : Nat → Int32} (C : Lc p s m c b D cA ad z cB bd) (hX : va_X b L xs s s.heap) (hbl : b < s.heap.size) (hL : L ≤ 3072) (hi : i + 6 ≤ L) (hsim : ∀ (a1 : Int32), Sim Rel (fun σ => f_10_sell n σ a1) (fun τ => f_11_sell n τ a1)) (hRel : Rel σ τ) (hPX : va_P D vwCl (ww dX 120 cA ad σ) H) (hPM : va_P D vwCl (ww dM 41 cB bd τ) H) (hS : va_S (fun q : Nat => s.heap.size ≤ q) s.heap H locs) (hl : lv_has ls 4 [(0, .ref b), (1, .ref (ad 0)), (2, .ref (bd 0)), (3, .int (nI i))])
    (kk : ∀ (σ' τ' : St) (H : Heap) (locs : List Loc) (ls : Array Slot), Rel σ' τ' → va_P D vwCl (ww dX 120 cA ad σ') H → va_P D vwCl (ww dM 41 cB bd τ') H → va_S (fun q : Nat => s.heap.size ≤ q) s.heap H locs → lv_has ls 4 [(0, .ref b), (1, .ref (ad 0)), (2, .ref (bd 0)), (3, .int (nI i))] → W p l e room_1 s m #[Value.ref b] below meth c H locs 161 7151 Q (F0 m 813 ls [])) : W p l e room_1 s m #[Value.ref b] below meth c H locs 161 7151 Q (F0 m 757 ls []) := by
  have hx := C.1
  have hb := C.2.1
  have hbA : ¬ (fun q : Nat => s.heap.size ≤ q) b := Nat.not_le.mpr hbl
  obtain ⟨r, σ', τ', e1, e2, hR2⟩ := hsim (xs (nI i + 1).toNatClampNeg) σ τ hRel
  refine lv_aload_n hx hb dL_law_757 rfl (lv_at hl 1 rfl) ?_
  refine lv_aload_n hx hb dL_law_758 rfl (lv_at hl 0 rfl) ?_
  refine lv_iload_n hx hb dL_law_759 rfl (lv_at hl 3 rfl) ?_
  refine lv_iconst (v := 1) hx hb dL_law_760 (by decide) ?_
  refine lv_iadd hx hb dL_law_761 ?_
  refine va_sld hx hb hX hbl hbA hS (l_in (k := 1) rfl hi (by decide) hL) dL_law_762 ?_
  refine l_X (rest := []) C hPX hPM hS (k_10_sell l D cA ad z C.2.2.2.2.2.2.2.1 n σ (xs (nI i + 1).toNatClampNeg) e1) 1 gT_X10_sell rfl rfl rfl (by decide +kernel) ⟨Nat.le_of_ble_eq_true rfl, Nat.le_of_ble_eq_true rfl⟩ rfl hl.1 rfl (Nat.le_of_ble_eq_true rfl) dL_law_763 ⟨Nat.le_of_ble_eq_true rfl, Nat.le_of_ble_eq_true rfl⟩ (fun H locs hPX hPM hS => ?_)
  refine lv_aload_n hx hb dL_law_766 rfl (lv_at hl 2 rfl) ?_
  refine lv_aload_n hx hb dL_law_767 rfl (lv_at hl 0 rfl) ?_
  refine lv_iload_n hx hb dL_law_768 rfl (lv_at hl 3 rfl) ?_
  refine lv_iconst (v := 1) hx hb dL_law_769 (by decide) ?_
  refine lv_iadd hx hb dL_law_770 ?_
  refine va_sld hx hb hX hbl hbA hS (l_in (k := 1) rfl hi (by decide) hL) dL_law_771 ?_
  refine l_M (rest := [.int r]) C hPX hPM hS (k_11_sell l D cB bd C.2.2.2.2.2.2.2.2.1 n τ (xs (nI i + 1).toNatClampNeg) e2) 1 gT_X11_sell rfl rfl rfl (by decide +kernel) ⟨Nat.le_of_ble_eq_true rfl, Nat.le_of_ble_eq_true rfl⟩ rfl hl.1 rfl (Nat.le_of_ble_eq_true rfl) dL_law_772 ⟨Nat.le_of_ble_eq_true rfl, Nat.le_of_ble_eq_true rfl⟩ (fun H locs hPX hPM hS => ?_)
  exact lv_icmp_eq (tgt := 813) hx hb dL_law_775 (by decide) (fun _ => kk σ' τ' H locs ls hR2 hPX hPM hS hl) (fun c9 => absurd rfl c9)
set_option maxRecDepth 100000 in
set_option maxHeartbeats 4000000 in
theorem lc_bill {p : Program} {l : Launch} {e : Env} {s : State} {m : MethodId} {below : List Frame} {meth : Method} {c : Code} {H : Heap} {locs : List Loc} {Q : State → Prop} {b : Nat} {ls : Array Slot} {D : va_G} {cA cB : Nat → ClassId} {ad bd : Nat → Nat} {z : ZX} {σ τ : St} {Rel : St → St → Prop} {n L i : Nat} {xs : Nat → Int32} (C : Lc p s m c b D cA ad z cB bd) (hX : va_X b L xs s s.heap) (hbl : b < s.heap.size) (hL : L ≤ 3072) (hi : i + 6 ≤ L) (hsim : ∀ (a1 : Int32) (a2 : Int32), Sim Rel (fun σ => f_10_bill n σ a1 a2) (fun τ => f_11_bill n τ a1 a2)) (hRel : Rel σ τ) (hPX : va_P D vwCl (ww dX 120 cA ad σ) H) (hPM : va_P D vwCl (ww dM 41 cB bd τ) H) (hS : va_S (fun q : Nat => s.heap.size ≤ q) s.heap H locs) (hl : lv_has ls 4 [(0, .ref b), (1, .ref (ad 0)), (2, .ref (bd 0)), (3, .int (nI i))])
    (kk : ∀ (σ' τ' : St) (H : Heap) (locs : List Loc) (ls : Array Slot), Rel σ' τ' → va_P D vwCl (ww dX 120 cA ad σ') H → va_P D vwCl (ww dM 41 cB bd τ') H → va_S (fun q : Nat => s.heap.size ≤ q) s.heap H locs → lv_has ls 4 [(0, .ref b), (1, .ref (ad 0)), (2, .ref (bd 0)), (3, .int (nI i))] → W p l e room_1 s m #[Value.ref b] below meth c H locs 161 7151 Q (F0 m 813 ls [])) : W p l e room_1 s m #[Value.ref b] below meth c H locs 161 7151 Q (F0 m 780 ls []) := by
  have hx := C.1
  have hb := C.2.1
  have hbA : ¬ (fun q : Nat => s.heap.size ≤ q) b := Nat.not_le.mpr hbl
  obtain ⟨r, σ', τ', e1, e2, hR2⟩ := hsim (xs (nI i + 1).toNatClampNeg) (xs (nI i + 2).toNatClampNeg) σ τ hRel
  refine lv_aload_n hx hb dL_law_780 rfl (lv_at hl 1 rfl) ?_
  refine lv_aload_n hx hb dL_law_781 rfl (lv_at hl 0 rfl) ?_
  refine lv_iload_n hx hb dL_law_782 rfl (lv_at hl 3 rfl) ?_
  refine lv_iconst (v := 1) hx hb dL_law_783 (by decide) ?_
  refine lv_iadd hx hb dL_law_784 ?_
  refine va_sld hx hb hX hbl hbA hS (l_in (k := 1) rfl hi (by decide) hL) dL_law_785 ?_
  refine lv_aload_n hx hb dL_law_786 rfl (lv_at hl 0 rfl) ?_
  refine lv_iload_n hx hb dL_law_787 rfl (lv_at hl 3 rfl) ?_
  refine lv_iconst (v := 2) hx hb dL_law_788 (by decide) ?_
  refine lv_iadd hx hb dL_law_789 ?_
  refine va_sld hx hb hX hbl hbA hS (l_in (k := 2) rfl hi (by decide) hL) dL_law_790 ?_
  refine l_X (rest := []) C hPX hPM hS (k_10_bill l D cA ad z C.2.2.2.2.2.2.2.1 n σ (xs (nI i + 1).toNatClampNeg) (xs (nI i + 2).toNatClampNeg) e1) 2 gT_X10_bill rfl rfl rfl (by decide +kernel) ⟨Nat.le_of_ble_eq_true rfl, Nat.le_of_ble_eq_true rfl⟩ rfl hl.1 rfl (Nat.le_of_ble_eq_true rfl) dL_law_791 ⟨Nat.le_of_ble_eq_true rfl, Nat.le_of_ble_eq_true rfl⟩ (fun H locs hPX hPM hS => ?_)
  refine lv_aload_n hx hb dL_law_794 rfl (lv_at hl 2 rfl) ?_
  refine lv_aload_n hx hb dL_law_795 rfl (lv_at hl 0 rfl) ?_
  refine lv_iload_n hx hb dL_law_796 rfl (lv_at hl 3 rfl) ?_
  refine lv_iconst (v := 1) hx hb dL_law_797 (by decide) ?_
  refine lv_iadd hx hb dL_law_798 ?_
  refine va_sld hx hb hX hbl hbA hS (l_in (k := 1) rfl hi (by decide) hL) dL_law_799 ?_
  refine lv_aload_n hx hb dL_law_800 rfl (lv_at hl 0 rfl) ?_
  refine lv_iload_n hx hb dL_law_801 rfl (lv_at hl 3 rfl) ?_
  refine lv_iconst (v := 2) hx hb dL_law_802 (by decide) ?_
  refine lv_iadd hx hb dL_law_803 ?_
  refine va_sld hx hb hX hbl hbA hS (l_in (k := 2) rfl hi (by decide) hL) dL_law_804 ?_
  refine l_M (rest := [.int r]) C hPX hPM hS (k_11_bill l D cB bd C.2.2.2.2.2.2.2.2.1 n τ (xs (nI i + 1).toNatClampNeg) (xs (nI i + 2).toNatClampNeg) e2) 2 gT_X11_bill rfl rfl rfl (by decide +kernel) ⟨Nat.le_of_ble_eq_true rfl, Nat.le_of_ble_eq_true rfl⟩ rfl hl.1 rfl (Nat.le_of_ble_eq_true rfl) dL_law_805 ⟨Nat.le_of_ble_eq_true rfl, Nat.le_of_ble_eq_true rfl⟩ (fun H locs hPX hPM hS => ?_)
  exact lv_icmp_eq (tgt := 813) hx hb dL_law_808 (by decide) (fun _ => kk σ' τ' H locs ls hR2 hPX hPM hS hl) (fun c9 => absurd rfl c9)
