def f_2_fail (n : Nat) (σ : St) (a1 : Int32) : Option (St) :=
  nm (si σ 6 3 a1) fun σ1 =>
  nm (si σ1 6 4 (σ1.1 7 3)) fun σ2 =>
  some σ2
abbrev rm_2_fail : Room := { frames := 0, cells := 0, slots := 0, locals := 0 }
set_option maxRecDepth 100000 in
set_option maxHeartbeats 4000000 in
theorem k_2_fail (l : Launch) (D : va_G) (cA : Nat → ClassId) (ad : Nat → Nat) (z : ZX) (hj : inj 120 ad) (n : Nat) (σ : St) (a1 : Int32)  {res : St} (h : f_2_fail n σ a1 = some res) : MXv l D dX 120 cA ad (EX ad z) yX2_fail wsX2_fail rm_2_fail [.ref (ad 6), .int a1] σ res := by
  refine Met.ofW (cc := cX2_fail) (maxL := 2) (ret := none) (by decide) rfl ?_
  intro p e s m args below meth c s₁ B hml hv
  obtain ⟨hargs, hP, hK, hE⟩ := hv
  have hx := B.exec
  have hb := B.bytes
  have hr := B.returns
  have hts := atoms_spec (ws := wsX2_fail) B.pre
  have hown : s.vm.findClass RX2 = some m.cls := findClass_of_methodNamed B.named
  have hlocks := B.notSynchronized
  have X : Cx p s m args c cX2_fail 2 RX2 wsX2_fail D dX 120 cA ad (EX ad z) := ⟨hx, hb, hml, hown, hts, hK, hj, hE, EX_ok ad z⟩
  have hS : va_S (inA 120 ad) s.heap s.heap [] := va_S.rf
  have hl := lv_entry ([.ref (ad 6), .int a1]) (n := 2) (Nat.le_of_ble_eq_true rfl)
  rw [show entryFrame m args 2 = entryFrame m ([.ref (ad 6), .int a1] : List Value).toArray 2 by rw [hargs]]
  rw [lg_entry_eq]
  generalize (lg_sl ([.ref (ad 6), .int a1]) ++ List.replicate (2 - (lg_sl ([.ref (ad 6), .int a1])).length) Slot.unset).toArray = ls at hl ⊢
  have hl : lv_has ls 2 [(0, .ref (ad 6)), (1, .int a1)] := hl
  obtain ⟨QQ, hQQ⟩ : ∃ Q, Q = MQ below (va_Qv (fun u => u = res) (fun u t => va_P D vwCl (ww dX 120 cA ad u) t.heap) (inA 120 ad)) args s 0 0 (inA 120 ad) := ⟨_, rfl⟩
  show W p l e (headSpec wsX2_fail rm_2_fail).room s m args below meth c s.heap [] 0 0 (MQ below (va_Qv (fun u => u = res) (fun u t => va_P D vwCl (ww dX 120 cA ad u) t.heap) (inA 120 ad)) args s 0 0 (inA 120 ad)) _
  rw [← hQQ]
  have in2 : ∀ w ∈ wsX20, w ∈ wsX2_fail := by decide +kernel
  have in8 : ∀ w ∈ wsX80, w ∈ wsX2_fail := by decide +kernel
  have lk28 : Cond.fieldLink RX2 28 "CureTown$Book" "fault" "I" ∈ wsX2_fail := by decide +kernel
  have lk12 : Cond.fieldLink RX2 12 "CureTown$Book" "tape" "LCureTown$Tape;" ∈ wsX2_fail := by decide +kernel
  have lk89 : Cond.fieldLink RX2 89 "CureTown$Tape" "place" "I" ∈ wsX2_fail := by decide +kernel
  have lk31 : Cond.fieldLink RX2 31 "CureTown$Book" "faultPlace" "I" ∈ wsX2_fail := by decide +kernel
  unfold f_2_fail at h
  obtain ⟨H, hH⟩ : ∃ H, H = s.heap := ⟨_, rfl⟩
  obtain ⟨locs, hlc⟩ : ∃ q : List Loc, q = [] := ⟨_, rfl⟩
  have hP : va_P D vwCl (ww dX 120 cA ad σ) s.heap := hP
  have hS : va_S (inA 120 ad) s.heap s.heap [] := hS
  rw [← hlc] at hS ⊢
  rw [show W p l e (headSpec wsX2_fail rm_2_fail).room s m args below meth c s.heap locs 0 0 QQ = W p l e (headSpec wsX2_fail rm_2_fail).room s m args below meth c H locs 0 0 QQ by rw [hH]]
  have hS : va_S (inA 120 ad) s.heap H locs := by rw [hH]; exact hS
  have hP : va_P D vwCl (ww dX 120 cA ad σ) H := by rw [hH]; exact hP
  clear hH hlc
  refine lv_aload_n hx hb dX2_fail_0 rfl (lv_at hl 0 rfl) ?_
  refine lv_iload_n hx hb dX2_fail_1 rfl (lv_at hl 1 rfl) ?_
  refine x_pi X hP hS (j := 3) (by decide) (dX_6) rfl rfl (by decide) in2 tyX2_ok nmX2 lk28 rfl rfl rfl rfl dX2_fail_2 (fun σ1 eσ1 H locs hP hS => ?_)
  have h := nm_some eσ1 h
  refine lv_aload_n hx hb dX2_fail_5 rfl (lv_at hl 0 rfl) ?_
  refine lv_aload_n hx hb dX2_fail_6 rfl (lv_at hl 0 rfl) ?_
  refine x_gr X hP (j := 0) (by decide) (dX_6) rfl rfl (by decide) in2 lk12 dX2_fail_7 ?_
  refine x_gi X hP (j := 3) (by decide) (dX_7) rfl rfl (by decide) in8 lk89 dX2_fail_10 ?_
  refine x_pi X hP hS (j := 4) (by decide) (dX_6) rfl rfl (by decide) in2 tyX2_ok nmX2 lk31 rfl rfl rfl rfl dX2_fail_13 (fun σ2 eσ2 H locs hP hS => ?_)
  have h := nm_some eσ2 h
  subst hQQ
  exact x_rv X hr hlocks hP hS (Option.some.inj h) dX2_fail_16
def f_2_takeCure (n : Nat) (σ : St) (a1 : Int32) : Option (St) :=
  if a1 = 12 then
    some σ
  else
    if a1 = 5 then
      if (σ.1 6 5) < 8 then
        gd (inb (σ.1 6 5) 8) <| nm (si σ 6 9 (σ.1 6 5)) fun σ5 =>
        nm (si σ5 6 6 1) fun σ6 =>
        some σ6
      else
        (f_2_fail n σ 4).bind fun r7 =>
        some r7
    else
      (f_2_fail n σ 1).bind fun r9 =>
      some r9
abbrev rm_2_takeCure : Room := { frames := 1, cells := 0, slots := 0, locals := 21 }
set_option maxRecDepth 100000 in
set_option maxHeartbeats 4000000 in
theorem k_2_takeCure (l : Launch) (D : va_G) (cA : Nat → ClassId) (ad : Nat → Nat) (z : ZX) (hj : inj 120 ad) (n : Nat) (σ : St) (a1 : Int32)  {res : St} (h : f_2_takeCure n σ a1 = some res) : MXv l D dX 120 cA ad (EX ad z) yX2_takeCure wsX2_takeCure rm_2_takeCure [.ref (ad 6), .int a1] σ res := by
  refine Met.ofW (cc := cX2_takeCure) (maxL := 2) (ret := none) (by decide) rfl ?_
  intro p e s m args below meth c s₁ B hml hv
  obtain ⟨hargs, hP, hK, hE⟩ := hv
  have hx := B.exec
  have hb := B.bytes
  have hr := B.returns
  have hts := atoms_spec (ws := wsX2_takeCure) B.pre
  have hown : s.vm.findClass RX2 = some m.cls := findClass_of_methodNamed B.named
  have hlocks := B.notSynchronized
  have X : Cx p s m args c cX2_takeCure 2 RX2 wsX2_takeCure D dX 120 cA ad (EX ad z) := ⟨hx, hb, hml, hown, hts, hK, hj, hE, EX_ok ad z⟩
  have hS : va_S (inA 120 ad) s.heap s.heap [] := va_S.rf
  have hl := lv_entry ([.ref (ad 6), .int a1]) (n := 2) (Nat.le_of_ble_eq_true rfl)
  rw [show entryFrame m args 2 = entryFrame m ([.ref (ad 6), .int a1] : List Value).toArray 2 by rw [hargs]]
  rw [lg_entry_eq]
  generalize (lg_sl ([.ref (ad 6), .int a1]) ++ List.replicate (2 - (lg_sl ([.ref (ad 6), .int a1])).length) Slot.unset).toArray = ls at hl ⊢
  have hl : lv_has ls 2 [(0, .ref (ad 6)), (1, .int a1)] := hl
  obtain ⟨QQ, hQQ⟩ : ∃ Q, Q = MQ below (va_Qv (fun u => u = res) (fun u t => va_P D vwCl (ww dX 120 cA ad u) t.heap) (inA 120 ad)) args s 0 0 (inA 120 ad) := ⟨_, rfl⟩
  show W p l e (headSpec wsX2_takeCure rm_2_takeCure).room s m args below meth c s.heap [] 0 0 (MQ below (va_Qv (fun u => u = res) (fun u t => va_P D vwCl (ww dX 120 cA ad u) t.heap) (inA 120 ad)) args s 0 0 (inA 120 ad)) _
  rw [← hQQ]
  have in2 : ∀ w ∈ wsX20, w ∈ wsX2_takeCure := by decide +kernel
  have lk34 : Cond.fieldLink RX2 34 "CureTown$Book" "told" "I" ∈ wsX2_takeCure := by decide +kernel
  have lk20 : Cond.fieldLink RX2 20 "CureTown$Book" "regimens" "[LCureTown$Regimen;" ∈ wsX2_takeCure := by decide +kernel
  have lk48 : Cond.fieldLink RX2 48 "CureTown$Book" "current" "LCureTown$Regimen;" ∈ wsX2_takeCure := by decide +kernel
  have lk37 : Cond.fieldLink RX2 37 "CureTown$Book" "wants" "I" ∈ wsX2_takeCure := by decide +kernel
  unfold f_2_takeCure at h
  obtain ⟨H, hH⟩ : ∃ H, H = s.heap := ⟨_, rfl⟩
  obtain ⟨locs, hlc⟩ : ∃ q : List Loc, q = [] := ⟨_, rfl⟩
  have hP : va_P D vwCl (ww dX 120 cA ad σ) s.heap := hP
  have hS : va_S (inA 120 ad) s.heap s.heap [] := hS
  rw [← hlc] at hS ⊢
  rw [show W p l e (headSpec wsX2_takeCure rm_2_takeCure).room s m args below meth c s.heap locs 0 0 QQ = W p l e (headSpec wsX2_takeCure rm_2_takeCure).room s m args below meth c H locs 0 0 QQ by rw [hH]]
  have hS : va_S (inA 120 ad) s.heap H locs := by rw [hH]; exact hS
  have hP : va_P D vwCl (ww dX 120 cA ad σ) H := by rw [hH]; exact hP
  clear hH hlc
  refine lv_iload_n hx hb dX2_takeCure_0 rfl (lv_at hl 1 rfl) ?_
  refine lv_bipush (v := 12) hx hb dX2_takeCure_1 (by decide) ?_
  refine lv_icmp_ne (tgt := 7) hx hb dX2_takeCure_3 (by decide) (fun c1 => ?_) (fun c1 => ?_)
  · have h := it_f c1 h
    refine lv_iload_n hx hb dX2_takeCure_7 rfl (lv_at hl 1 rfl) ?_
    refine lv_iconst (v := 5) hx hb dX2_takeCure_8 (by decide) ?_
    refine lv_icmp_eq (tgt := 20) hx hb dX2_takeCure_9 (by decide) (fun c2 => ?_) (fun c2 => ?_)
    · have h := it_t c2 h
      refine lv_aload_n hx hb dX2_takeCure_20 rfl (lv_at hl 0 rfl) ?_
      refine x_gi X hP (j := 5) (by decide) (dX_6) rfl rfl (by decide) in2 lk34 dX2_takeCure_21 ?_
      refine lv_bipush (v := 8) hx hb dX2_takeCure_24 (by decide) ?_
      refine lv_icmp_lt (tgt := 37) hx hb dX2_takeCure_26 (by decide) (fun c3 => ?_) (fun c3 => ?_)
      · have h := it_t c3 h
        refine lv_aload_n hx hb dX2_takeCure_37 rfl (lv_at hl 0 rfl) ?_
        refine lv_aload_n hx hb dX2_takeCure_38 rfl (lv_at hl 0 rfl) ?_
        refine x_gr X hP (j := 1) (by decide) (dX_6) rfl rfl (by decide) in2 lk20 dX2_takeCure_39 ?_
        refine lv_aload_n hx hb dX2_takeCure_42 rfl (lv_at hl 0 rfl) ?_
        refine x_gi X hP (j := 5) (by decide) (dX_6) rfl rfl (by decide) in2 lk34 dX2_takeCure_43 ?_
        obtain ⟨g4, h⟩ := gd_some h
        refine x_ar X hP (by decide) (dX_9) g4 dX2_takeCure_46 ?_
        refine x_pc X hP hS (j := 9) (v := (σ.1 6 5)) (by decide) (dX_6) rfl rfl (by decide) in2 tyX2_ok nmX2 lk48 rfl rfl (fun _ => rfl) (fun _ => rfl) rfl dX2_takeCure_47 (fun σ5 eσ5 H locs hP hS => ?_)
        have h := nm_some eσ5 h
        refine lv_aload_n hx hb dX2_takeCure_50 rfl (lv_at hl 0 rfl) ?_
        refine lv_iconst (v := 1) hx hb dX2_takeCure_51 (by decide) ?_
        refine x_pi X hP hS (j := 6) (by decide) (dX_6) rfl rfl (by decide) in2 tyX2_ok nmX2 lk37 rfl rfl rfl rfl dX2_takeCure_52 (fun σ6 eσ6 H locs hP hS => ?_)
        have h := nm_some eσ6 h
        subst hQQ
        exact x_rv X hr hlocks hP hS (Option.some.inj h) dX2_takeCure_55
      · have h := it_f c3 h
        refine lv_aload_n hx hb dX2_takeCure_29 rfl (lv_at hl 0 rfl) ?_
        refine lv_iconst (v := 4) hx hb dX2_takeCure_30 (by decide) ?_
        obtain ⟨r7, k8, h⟩ := bd_some h
        refine x_Vv (rest := []) X hP hS (k_2_fail l D cA ad z hj n σ 4 k8) (by decide) (dX_6) rfl 1 gX2_takeCure_X2_fail rfl rfl rfl (by decide +kernel) ⟨Nat.le_of_ble_eq_true rfl, Nat.le_of_ble_eq_true rfl⟩ rfl hl.1 rfl (Nat.le_of_ble_eq_true rfl) dX2_takeCure_31 ⟨Nat.zero_le _, Nat.zero_le _⟩ (fun H locs hP hS => ?_)
        refine lv_goto (tgt := 55) hx hb dX2_takeCure_34 (by decide) ?_
        subst hQQ
        exact x_rv X hr hlocks hP hS (Option.some.inj h) dX2_takeCure_55
    · have h := it_f c2 h
      refine lv_aload_n hx hb dX2_takeCure_12 rfl (lv_at hl 0 rfl) ?_
      refine lv_iconst (v := 1) hx hb dX2_takeCure_13 (by decide) ?_
      obtain ⟨r9, k10, h⟩ := bd_some h
      refine x_Vv (rest := []) X hP hS (k_2_fail l D cA ad z hj n σ 1 k10) (by decide) (dX_6) rfl 1 gX2_takeCure_X2_fail rfl rfl rfl (by decide +kernel) ⟨Nat.le_of_ble_eq_true rfl, Nat.le_of_ble_eq_true rfl⟩ rfl hl.1 rfl (Nat.le_of_ble_eq_true rfl) dX2_takeCure_14 ⟨Nat.zero_le _, Nat.zero_le _⟩ (fun H locs hP hS => ?_)
      refine lv_goto (tgt := 55) hx hb dX2_takeCure_17 (by decide) ?_
      subst hQQ
      exact x_rv X hr hlocks hP hS (Option.some.inj h) dX2_takeCure_55
  · have h := it_t c1 h
    subst hQQ
    exact x_rv X hr hlocks hP hS (Option.some.inj h) dX2_takeCure_6
def b_2_isTold_2 (n : Nat) (a1 : Int32) (t2 : Int32 × St) : Option ((Int32 × St) ⊕ ((Int32 × St) ⊕ (Int32 × St))) :=
  if (t2.2.1 6 5) ≤ t2.1 then
    some (.inr (.inr (t2.1, t2.2)))
  else
    if 8 ≤ t2.1 then
      some (.inr (.inr (t2.1, t2.2)))
    else
      gd (inb t2.1 8) <| if (t2.2.1 (44 + t2.1.toNatClampNeg) 0) = a1 then
        some (.inr (.inl (1, t2.2)))
      else
        nm (t2.1 + 1) fun v7 =>
        some (.inl (v7, t2.2))
def f_2_isTold (n : Nat) (σ : St) (a1 : Int32) : Option (Int32 × St) :=
  (lq (b_2_isTold_2 n a1) n (0, σ)).bind <| Sum.elim (fun rr => some rr) fun t1008 =>
  some (0, t1008.2)
abbrev rm_2_isTold : Room := { frames := 0, cells := 0, slots := 0, locals := 0 }
set_option maxRecDepth 100000 in
set_option maxHeartbeats 4000000 in
theorem k_2_isTold (l : Launch) (D : va_G) (cA : Nat → ClassId) (ad : Nat → Nat) (z : ZX) (hj : inj 120 ad) (n : Nat) (σ : St) (a1 : Int32)  {res : Int32 × St} (h : f_2_isTold n σ a1 = some res) : MXi l D dX 120 cA ad (EX ad z) yX2_isTold wsX2_isTold rm_2_isTold [.ref (ad 6), .int a1] σ res := by
  refine Met.ofW (cc := cX2_isTold) (maxL := 3) (ret := (some .boolean)) (by decide) rfl ?_
  intro p e s m args below meth c s₁ B hml hv
  obtain ⟨hargs, hP, hK, hE⟩ := hv
  have hx := B.exec
  have hb := B.bytes
  have hr := B.returns
  have hts := atoms_spec (ws := wsX2_isTold) B.pre
  have hown : s.vm.findClass RX2 = some m.cls := findClass_of_methodNamed B.named
  have hlocks := B.notSynchronized
  have X : Cx p s m args c cX2_isTold 3 RX2 wsX2_isTold D dX 120 cA ad (EX ad z) := ⟨hx, hb, hml, hown, hts, hK, hj, hE, EX_ok ad z⟩
  have hS : va_S (inA 120 ad) s.heap s.heap [] := va_S.rf
  have hl := lv_entry ([.ref (ad 6), .int a1]) (n := 3) (Nat.le_of_ble_eq_true rfl)
  rw [show entryFrame m args 3 = entryFrame m ([.ref (ad 6), .int a1] : List Value).toArray 3 by rw [hargs]]
  rw [lg_entry_eq]
  generalize (lg_sl ([.ref (ad 6), .int a1]) ++ List.replicate (3 - (lg_sl ([.ref (ad 6), .int a1])).length) Slot.unset).toArray = ls at hl ⊢
  have hl : lv_has ls 3 [(0, .ref (ad 6)), (1, .int a1)] := hl
  obtain ⟨QQ, hQQ⟩ : ∃ Q, Q = MQ below (va_Qi (fun r u => r = res.1 ∧ u = res.2) (fun u t => va_P D vwCl (ww dX 120 cA ad u) t.heap) (inA 120 ad)) args s 0 0 (inA 120 ad) := ⟨_, rfl⟩
  show W p l e (headSpec wsX2_isTold rm_2_isTold).room s m args below meth c s.heap [] 0 0 (MQ below (va_Qi (fun r u => r = res.1 ∧ u = res.2) (fun u t => va_P D vwCl (ww dX 120 cA ad u) t.heap) (inA 120 ad)) args s 0 0 (inA 120 ad)) _
  rw [← hQQ]
  have in2 : ∀ w ∈ wsX20, w ∈ wsX2_isTold := by decide +kernel
  have in6 : ∀ w ∈ wsX60, w ∈ wsX2_isTold := by decide +kernel
  have lk34 : Cond.fieldLink RX2 34 "CureTown$Book" "told" "I" ∈ wsX2_isTold := by decide +kernel
  have lk20 : Cond.fieldLink RX2 20 "CureTown$Book" "regimens" "[LCureTown$Regimen;" ∈ wsX2_isTold := by decide +kernel
  have lk105 : Cond.fieldLink RX2 105 "CureTown$Regimen" "name" "I" ∈ wsX2_isTold := by decide +kernel
  unfold f_2_isTold at h
  obtain ⟨H, hH⟩ : ∃ H, H = s.heap := ⟨_, rfl⟩
  obtain ⟨locs, hlc⟩ : ∃ q : List Loc, q = [] := ⟨_, rfl⟩
  have hP : va_P D vwCl (ww dX 120 cA ad σ) s.heap := hP
  have hS : va_S (inA 120 ad) s.heap s.heap [] := hS
  rw [← hlc] at hS ⊢
  rw [show W p l e (headSpec wsX2_isTold rm_2_isTold).room s m args below meth c s.heap locs 0 0 QQ = W p l e (headSpec wsX2_isTold rm_2_isTold).room s m args below meth c H locs 0 0 QQ by rw [hH]]
  have hS : va_S (inA 120 ad) s.heap H locs := by rw [hH]; exact hS
  have hP : va_P D vwCl (ww dX 120 cA ad σ) H := by rw [hH]; exact hP
  clear hH hlc
  refine lv_iconst (v := 0) hx hb dX2_isTold_0 (by decide) ?_
  refine lv_istore_n (lv' := [(2, .int 0), (0, .ref (ad 6)), (1, .int a1)]) hx hb dX2_isTold_1 rfl hl (by decide) rfl (fun ls hl => ?_)
  obtain ⟨y1009, o1010, h⟩ := bd_some h
  refine lq_rule (P := fun t2 : Int32 × St => ∀ (H : Heap) (locs : List Loc) (ls : Array Slot), va_P D vwCl (ww dX 120 cA ad t2.2) H → va_S (inA 120 ad) s.heap H locs → lv_has ls 3 [(0, .ref (ad 6)), (1, .int a1), (2, .int t2.1)] → W p l e (headSpec wsX2_isTold rm_2_isTold).room s m args below meth c H locs 0 0 QQ (F0 m 2 ls [])) (X := fun y1009 : (Int32 × St) ⊕ (Int32 × St) => Sum.elim (fun rr => rr = res) (fun t1008 => ∀ (H : Heap) (locs : List Loc) (ls : Array Slot), va_P D vwCl (ww dX 120 cA ad t1008.2) H → va_S (inA 120 ad) s.heap H locs → lv_has ls 3 [(0, .ref (ad 6)), (1, .int a1), (2, .int t1008.1)] → W p l e (headSpec wsX2_isTold rm_2_isTold).room s m args below meth c H locs 0 0 QQ (F0 m 37 ls [])) y1009) ?_ n _ _ o1010 ?_ H locs ls hP hS (lv_sub hl [1, 2, 0] rfl)
  · clear h hP hS hl
    intro t2 rL1 h hCL1 hEL1 H locs ls hP hS hl
    unfold b_2_isTold_2 at h
    refine lv_iload_n hx hb dX2_isTold_2 rfl (lv_at hl 2 rfl) ?_
    refine lv_aload_n hx hb dX2_isTold_3 rfl (lv_at hl 0 rfl) ?_
    refine x_gi X hP (j := 5) (by decide) (dX_6) rfl rfl (by decide) in2 lk34 dX2_isTold_4 ?_
    refine lv_icmp_ge (tgt := 37) hx hb dX2_isTold_7 (by decide) (fun c3 => ?_) (fun c3 => ?_)
    · have h := it_t c3 h
      exact hEL1 _ (Option.some.inj h).symm H locs ls hP hS (lv_sub hl [0, 1, 2] rfl)
    · have h := it_f c3 h
      refine lv_iload_n hx hb dX2_isTold_10 rfl (lv_at hl 2 rfl) ?_
      refine lv_bipush (v := 8) hx hb dX2_isTold_11 (by decide) ?_
      refine lv_icmp_ge (tgt := 37) hx hb dX2_isTold_13 (by decide) (fun c4 => ?_) (fun c4 => ?_)
      · have h := it_t c4 h
        exact hEL1 _ (Option.some.inj h).symm H locs ls hP hS (lv_sub hl [0, 1, 2] rfl)
      · have h := it_f c4 h
        refine lv_aload_n hx hb dX2_isTold_16 rfl (lv_at hl 0 rfl) ?_
        refine x_gr X hP (j := 1) (by decide) (dX_6) rfl rfl (by decide) in2 lk20 dX2_isTold_17 ?_
        refine lv_iload_n hx hb dX2_isTold_20 rfl (lv_at hl 2 rfl) ?_
        obtain ⟨g5, h⟩ := gd_some h
        refine x_ar X hP (by decide) (dX_9) g5 dX2_isTold_21 ?_
        refine x_gi X hP (j := 0) (fam_lt (inb_lt g5) (by decide)) (dX_44 (inb_lt g5)) rfl rfl (by decide) in6 lk105 dX2_isTold_22 ?_
        refine lv_iload_n hx hb dX2_isTold_25 rfl (lv_at hl 1 rfl) ?_
        refine lv_icmp_ne (tgt := 31) hx hb dX2_isTold_26 (by decide) (fun c6 => ?_) (fun c6 => ?_)
        · have h := it_f c6 h
          obtain ⟨v7, ev7⟩ : ∃ y : Int32, y = t2.1 + 1 := ⟨_, rfl⟩
          have h := nm_some ev7 h
          refine lv_iinc (v := v7) (lv' := [(2, .int v7), (0, .ref (ad 6)), (1, .int a1)]) hx hb dX2_isTold_31 hl (k := 2) rfl (by rw [ev7]; rfl) (by decide) rfl (fun ls hl => ?_)
          refine lv_goto (tgt := 2) hx hb dX2_isTold_34 (by decide) ?_
          exact hCL1 _ (Option.some.inj h).symm H locs ls hP hS (lv_sub hl [1, 2, 0] rfl)
        · have h := it_t c6 h
          refine lv_iconst (v := 1) hx hb dX2_isTold_29 (by decide) ?_
          subst hQQ
          exact x_rz X hr hlocks hP hS (by decide +kernel) (hEL1 _ (Option.some.inj h).symm) dX2_isTold_30
  · rcases y1009 with rr | t1008
    · have h := el_l h
      exact (Option.some.inj h)
    · have h := el_r h
      intro H locs ls hP hS hl
      refine lv_iconst (v := 0) hx hb dX2_isTold_37 (by decide) ?_
      subst hQQ
      exact x_rz X hr hlocks hP hS (by decide +kernel) (Option.some.inj h) dX2_isTold_38
def f_2_takeName (n : Nat) (σ : St) (a1 : Int32) : Option (St) :=
  if a1 = 6 then
    (f_2_isTold n σ (σ.1 7 6)).bind fun r2 =>
    if r2.1 = 0 then
      gd (inb (r2.2.1 6 9) 8) <| (f_6_begin n r2.2 ((r2.2.1 6 9).toNatClampNeg) (r2.2.1 7 6)).bind fun r6 =>
      nm (si r6 6 6 2) fun σ8 =>
      some σ8
    else
      (f_2_fail n r2.2 2).bind fun r9 =>
      some r9
  else
    (f_2_fail n σ 1).bind fun r11 =>
    some r11
abbrev rm_2_takeName : Room := { frames := 1, cells := 0, slots := 0, locals := 22 }
set_option maxRecDepth 100000 in
set_option maxHeartbeats 4000000 in
theorem k_2_takeName (l : Launch) (D : va_G) (cA : Nat → ClassId) (ad : Nat → Nat) (z : ZX) (hj : inj 120 ad) (n : Nat) (σ : St) (a1 : Int32)  {res : St} (h : f_2_takeName n σ a1 = some res) : MXv l D dX 120 cA ad (EX ad z) yX2_takeName wsX2_takeName rm_2_takeName [.ref (ad 6), .int a1] σ res := by
  refine Met.ofW (cc := cX2_takeName) (maxL := 2) (ret := none) (by decide) rfl ?_
  intro p e s m args below meth c s₁ B hml hv
  obtain ⟨hargs, hP, hK, hE⟩ := hv
  have hx := B.exec
  have hb := B.bytes
  have hr := B.returns
  have hts := atoms_spec (ws := wsX2_takeName) B.pre
  have hown : s.vm.findClass RX2 = some m.cls := findClass_of_methodNamed B.named
  have hlocks := B.notSynchronized
  have X : Cx p s m args c cX2_takeName 2 RX2 wsX2_takeName D dX 120 cA ad (EX ad z) := ⟨hx, hb, hml, hown, hts, hK, hj, hE, EX_ok ad z⟩
  have hS : va_S (inA 120 ad) s.heap s.heap [] := va_S.rf
  have hl := lv_entry ([.ref (ad 6), .int a1]) (n := 2) (Nat.le_of_ble_eq_true rfl)
  rw [show entryFrame m args 2 = entryFrame m ([.ref (ad 6), .int a1] : List Value).toArray 2 by rw [hargs]]
  rw [lg_entry_eq]
  generalize (lg_sl ([.ref (ad 6), .int a1]) ++ List.replicate (2 - (lg_sl ([.ref (ad 6), .int a1])).length) Slot.unset).toArray = ls at hl ⊢
  have hl : lv_has ls 2 [(0, .ref (ad 6)), (1, .int a1)] := hl
  obtain ⟨QQ, hQQ⟩ : ∃ Q, Q = MQ below (va_Qv (fun u => u = res) (fun u t => va_P D vwCl (ww dX 120 cA ad u) t.heap) (inA 120 ad)) args s 0 0 (inA 120 ad) := ⟨_, rfl⟩
  show W p l e (headSpec wsX2_takeName rm_2_takeName).room s m args below meth c s.heap [] 0 0 (MQ below (va_Qv (fun u => u = res) (fun u t => va_P D vwCl (ww dX 120 cA ad u) t.heap) (inA 120 ad)) args s 0 0 (inA 120 ad)) _
  rw [← hQQ]
  have in2 : ∀ w ∈ wsX20, w ∈ wsX2_takeName := by decide +kernel
  have in8 : ∀ w ∈ wsX80, w ∈ wsX2_takeName := by decide +kernel
  have lk12 : Cond.fieldLink RX2 12 "CureTown$Book" "tape" "LCureTown$Tape;" ∈ wsX2_takeName := by decide +kernel
  have lk95 : Cond.fieldLink RX2 95 "CureTown$Tape" "name" "I" ∈ wsX2_takeName := by decide +kernel
  have lk48 : Cond.fieldLink RX2 48 "CureTown$Book" "current" "LCureTown$Regimen;" ∈ wsX2_takeName := by decide +kernel
  have lk37 : Cond.fieldLink RX2 37 "CureTown$Book" "wants" "I" ∈ wsX2_takeName := by decide +kernel
  unfold f_2_takeName at h
  obtain ⟨H, hH⟩ : ∃ H, H = s.heap := ⟨_, rfl⟩
  obtain ⟨locs, hlc⟩ : ∃ q : List Loc, q = [] := ⟨_, rfl⟩
  have hP : va_P D vwCl (ww dX 120 cA ad σ) s.heap := hP
  have hS : va_S (inA 120 ad) s.heap s.heap [] := hS
  rw [← hlc] at hS ⊢
  rw [show W p l e (headSpec wsX2_takeName rm_2_takeName).room s m args below meth c s.heap locs 0 0 QQ = W p l e (headSpec wsX2_takeName rm_2_takeName).room s m args below meth c H locs 0 0 QQ by rw [hH]]
  have hS : va_S (inA 120 ad) s.heap H locs := by rw [hH]; exact hS
  have hP : va_P D vwCl (ww dX 120 cA ad σ) H := by rw [hH]; exact hP
  clear hH hlc
  refine lv_iload_n hx hb dX2_takeName_0 rfl (lv_at hl 1 rfl) ?_
  refine lv_bipush (v := 6) hx hb dX2_takeName_1 (by decide) ?_
  refine lv_icmp_eq (tgt := 14) hx hb dX2_takeName_3 (by decide) (fun c1 => ?_) (fun c1 => ?_)
  · have h := it_t c1 h
    refine lv_aload_n hx hb dX2_takeName_14 rfl (lv_at hl 0 rfl) ?_
    refine lv_aload_n hx hb dX2_takeName_15 rfl (lv_at hl 0 rfl) ?_
    refine x_gr X hP (j := 0) (by decide) (dX_6) rfl rfl (by decide) in2 lk12 dX2_takeName_16 ?_
    refine x_gi X hP (j := 6) (by decide) (dX_7) rfl rfl (by decide) in8 lk95 dX2_takeName_19 ?_
    obtain ⟨r2, k3, h⟩ := bd_some h
    refine x_Vi (rest := []) X hP hS (k_2_isTold l D cA ad z hj n σ (σ.1 7 6) k3) (by decide) (dX_6) rfl 1 gX2_takeName_X2_isTold rfl rfl rfl (by decide +kernel) ⟨Nat.le_of_ble_eq_true rfl, Nat.le_of_ble_eq_true rfl⟩ rfl hl.1 rfl (Nat.le_of_ble_eq_true rfl) dX2_takeName_22 ⟨Nat.zero_le _, Nat.zero_le _⟩ (fun H locs hP hS => ?_)
    refine lv_if_eq (tgt := 36) hx hb dX2_takeName_25 (by decide) (fun c4 => ?_) (fun c4 => ?_)
    · have h := it_t c4 h
      refine lv_aload_n hx hb dX2_takeName_36 rfl (lv_at hl 0 rfl) ?_
      refine x_gc X hP (j := 9) (by decide) (dX_6) rfl rfl (by decide) in2 lk48 dX2_takeName_37 ?_
      obtain ⟨g5, h⟩ := gd_some h
      refine lv_aload_n hx hb dX2_takeName_40 rfl (lv_at hl 0 rfl) ?_
      refine x_gr X hP (j := 0) (by decide) (dX_6) rfl rfl (by decide) in2 lk12 dX2_takeName_41 ?_
      refine x_gi X hP (j := 6) (by decide) (dX_7) rfl rfl (by decide) in8 lk95 dX2_takeName_44 ?_
      obtain ⟨r6, k7, h⟩ := bd_some h
      refine x_Vv (rest := []) X hP hS (k_6_begin l D cA ad z hj n r2.2 ((r2.2.1 6 9).toNatClampNeg) (r2.2.1 7 6) (inb_lt g5) k7) (fam_lt (inb_lt g5) (by decide)) (dX_44 (inb_lt g5)) rfl 1 gX2_takeName_X6_begin rfl rfl rfl (by decide +kernel) ⟨Nat.le_of_ble_eq_true rfl, Nat.le_of_ble_eq_true rfl⟩ rfl hl.1 rfl (Nat.le_of_ble_eq_true rfl) dX2_takeName_47 ⟨Nat.zero_le _, Nat.zero_le _⟩ (fun H locs hP hS => ?_)
      refine lv_aload_n hx hb dX2_takeName_50 rfl (lv_at hl 0 rfl) ?_
      refine lv_iconst (v := 2) hx hb dX2_takeName_51 (by decide) ?_
      refine x_pi X hP hS (j := 6) (by decide) (dX_6) rfl rfl (by decide) in2 tyX2_ok nmX2 lk37 rfl rfl rfl rfl dX2_takeName_52 (fun σ8 eσ8 H locs hP hS => ?_)
      have h := nm_some eσ8 h
      subst hQQ
      exact x_rv X hr hlocks hP hS (Option.some.inj h) dX2_takeName_55
    · have h := it_f c4 h
      refine lv_aload_n hx hb dX2_takeName_28 rfl (lv_at hl 0 rfl) ?_
      refine lv_iconst (v := 2) hx hb dX2_takeName_29 (by decide) ?_
      obtain ⟨r9, k10, h⟩ := bd_some h
      refine x_Vv (rest := []) X hP hS (k_2_fail l D cA ad z hj n r2.2 2 k10) (by decide) (dX_6) rfl 1 gX2_takeName_X2_fail rfl rfl rfl (by decide +kernel) ⟨Nat.le_of_ble_eq_true rfl, Nat.le_of_ble_eq_true rfl⟩ rfl hl.1 rfl (Nat.le_of_ble_eq_true rfl) dX2_takeName_30 ⟨Nat.zero_le _, Nat.zero_le _⟩ (fun H locs hP hS => ?_)
      refine lv_goto (tgt := 55) hx hb dX2_takeName_33 (by decide) ?_
      subst hQQ
      exact x_rv X hr hlocks hP hS (Option.some.inj h) dX2_takeName_55
  · have h := it_f c1 h
    refine lv_aload_n hx hb dX2_takeName_6 rfl (lv_at hl 0 rfl) ?_
    refine lv_iconst (v := 1) hx hb dX2_takeName_7 (by decide) ?_
    obtain ⟨r11, k12, h⟩ := bd_some h
    refine x_Vv (rest := []) X hP hS (k_2_fail l D cA ad z hj n σ 1 k12) (by decide) (dX_6) rfl 1 gX2_takeName_X2_fail rfl rfl rfl (by decide +kernel) ⟨Nat.le_of_ble_eq_true rfl, Nat.le_of_ble_eq_true rfl⟩ rfl hl.1 rfl (Nat.le_of_ble_eq_true rfl) dX2_takeName_8 ⟨Nat.zero_le _, Nat.zero_le _⟩ (fun H locs hP hS => ?_)
    refine lv_goto (tgt := 55) hx hb dX2_takeName_11 (by decide) ?_
    subst hQQ
    exact x_rv X hr hlocks hP hS (Option.some.inj h) dX2_takeName_55
def f_2_takeColon (n : Nat) (σ : St) (a1 : Int32) : Option (St) :=
  if a1 = 8 then
    nm (si σ 6 7 0) fun σ2 =>
    nm (si σ2 6 6 3) fun σ3 =>
    some σ3
  else
    (f_2_fail n σ 1).bind fun r4 =>
    some r4
abbrev rm_2_takeColon : Room := { frames := 1, cells := 0, slots := 0, locals := 21 }
set_option maxRecDepth 100000 in
set_option maxHeartbeats 4000000 in
theorem k_2_takeColon (l : Launch) (D : va_G) (cA : Nat → ClassId) (ad : Nat → Nat) (z : ZX) (hj : inj 120 ad) (n : Nat) (σ : St) (a1 : Int32)  {res : St} (h : f_2_takeColon n σ a1 = some res) : MXv l D dX 120 cA ad (EX ad z) yX2_takeColon wsX2_takeColon rm_2_takeColon [.ref (ad 6), .int a1] σ res := by
  refine Met.ofW (cc := cX2_takeColon) (maxL := 2) (ret := none) (by decide) rfl ?_
  intro p e s m args below meth c s₁ B hml hv
  obtain ⟨hargs, hP, hK, hE⟩ := hv
  have hx := B.exec
  have hb := B.bytes
  have hr := B.returns
  have hts := atoms_spec (ws := wsX2_takeColon) B.pre
  have hown : s.vm.findClass RX2 = some m.cls := findClass_of_methodNamed B.named
  have hlocks := B.notSynchronized
  have X : Cx p s m args c cX2_takeColon 2 RX2 wsX2_takeColon D dX 120 cA ad (EX ad z) := ⟨hx, hb, hml, hown, hts, hK, hj, hE, EX_ok ad z⟩
  have hS : va_S (inA 120 ad) s.heap s.heap [] := va_S.rf
  have hl := lv_entry ([.ref (ad 6), .int a1]) (n := 2) (Nat.le_of_ble_eq_true rfl)
  rw [show entryFrame m args 2 = entryFrame m ([.ref (ad 6), .int a1] : List Value).toArray 2 by rw [hargs]]
  rw [lg_entry_eq]
  generalize (lg_sl ([.ref (ad 6), .int a1]) ++ List.replicate (2 - (lg_sl ([.ref (ad 6), .int a1])).length) Slot.unset).toArray = ls at hl ⊢
  have hl : lv_has ls 2 [(0, .ref (ad 6)), (1, .int a1)] := hl
  obtain ⟨QQ, hQQ⟩ : ∃ Q, Q = MQ below (va_Qv (fun u => u = res) (fun u t => va_P D vwCl (ww dX 120 cA ad u) t.heap) (inA 120 ad)) args s 0 0 (inA 120 ad) := ⟨_, rfl⟩
  show W p l e (headSpec wsX2_takeColon rm_2_takeColon).room s m args below meth c s.heap [] 0 0 (MQ below (va_Qv (fun u => u = res) (fun u t => va_P D vwCl (ww dX 120 cA ad u) t.heap) (inA 120 ad)) args s 0 0 (inA 120 ad)) _
  rw [← hQQ]
  have in2 : ∀ w ∈ wsX20, w ∈ wsX2_takeColon := by decide +kernel
  have lk40 : Cond.fieldLink RX2 40 "CureTown$Book" "openCount" "I" ∈ wsX2_takeColon := by decide +kernel
  have lk37 : Cond.fieldLink RX2 37 "CureTown$Book" "wants" "I" ∈ wsX2_takeColon := by decide +kernel
  unfold f_2_takeColon at h
  obtain ⟨H, hH⟩ : ∃ H, H = s.heap := ⟨_, rfl⟩
  obtain ⟨locs, hlc⟩ : ∃ q : List Loc, q = [] := ⟨_, rfl⟩
  have hP : va_P D vwCl (ww dX 120 cA ad σ) s.heap := hP
  have hS : va_S (inA 120 ad) s.heap s.heap [] := hS
  rw [← hlc] at hS ⊢
  rw [show W p l e (headSpec wsX2_takeColon rm_2_takeColon).room s m args below meth c s.heap locs 0 0 QQ = W p l e (headSpec wsX2_takeColon rm_2_takeColon).room s m args below meth c H locs 0 0 QQ by rw [hH]]
  have hS : va_S (inA 120 ad) s.heap H locs := by rw [hH]; exact hS
  have hP : va_P D vwCl (ww dX 120 cA ad σ) H := by rw [hH]; exact hP
  clear hH hlc
  refine lv_iload_n hx hb dX2_takeColon_0 rfl (lv_at hl 1 rfl) ?_
  refine lv_bipush (v := 8) hx hb dX2_takeColon_1 (by decide) ?_
  refine lv_icmp_eq (tgt := 14) hx hb dX2_takeColon_3 (by decide) (fun c1 => ?_) (fun c1 => ?_)
  · have h := it_t c1 h
    refine lv_aload_n hx hb dX2_takeColon_14 rfl (lv_at hl 0 rfl) ?_
    refine lv_iconst (v := 0) hx hb dX2_takeColon_15 (by decide) ?_
    refine x_pi X hP hS (j := 7) (by decide) (dX_6) rfl rfl (by decide) in2 tyX2_ok nmX2 lk40 rfl rfl rfl rfl dX2_takeColon_16 (fun σ2 eσ2 H locs hP hS => ?_)
    have h := nm_some eσ2 h
    refine lv_aload_n hx hb dX2_takeColon_19 rfl (lv_at hl 0 rfl) ?_
    refine lv_iconst (v := 3) hx hb dX2_takeColon_20 (by decide) ?_
    refine x_pi X hP hS (j := 6) (by decide) (dX_6) rfl rfl (by decide) in2 tyX2_ok nmX2 lk37 rfl rfl rfl rfl dX2_takeColon_21 (fun σ3 eσ3 H locs hP hS => ?_)
    have h := nm_some eσ3 h
    subst hQQ
    exact x_rv X hr hlocks hP hS (Option.some.inj h) dX2_takeColon_24
  · have h := it_f c1 h
    refine lv_aload_n hx hb dX2_takeColon_6 rfl (lv_at hl 0 rfl) ?_
    refine lv_iconst (v := 1) hx hb dX2_takeColon_7 (by decide) ?_
    obtain ⟨r4, k5, h⟩ := bd_some h
    refine x_Vv (rest := []) X hP hS (k_2_fail l D cA ad z hj n σ 1 k5) (by decide) (dX_6) rfl 1 gX2_takeColon_X2_fail rfl rfl rfl (by decide +kernel) ⟨Nat.le_of_ble_eq_true rfl, Nat.le_of_ble_eq_true rfl⟩ rfl hl.1 rfl (Nat.le_of_ble_eq_true rfl) dX2_takeColon_8 ⟨Nat.zero_le _, Nat.zero_le _⟩ (fun H locs hP hS => ?_)
    refine lv_goto (tgt := 24) hx hb dX2_takeColon_11 (by decide) ?_
    subst hQQ
    exact x_rv X hr hlocks hP hS (Option.some.inj h) dX2_takeColon_24
def f_2_beginAct (n : Nat) (σ : St) (a1 : Int32) : Option (St) :=
  gd (inb (σ.1 6 9) 8) <| if (σ.1 (44 + (σ.1 6 9).toNatClampNeg) 1) < 30 then
    (f_6_add n σ ((σ.1 6 9).toNatClampNeg) a1).bind fun r3 =>
    nm (si r3 6 6 4) fun σ5 =>
    some σ5
  else
    (f_2_fail n σ 4).bind fun r6 =>
    some r6
abbrev rm_2_beginAct : Room := { frames := 1, cells := 0, slots := 0, locals := 21 }
set_option maxRecDepth 100000 in
set_option maxHeartbeats 4000000 in
theorem k_2_beginAct (l : Launch) (D : va_G) (cA : Nat → ClassId) (ad : Nat → Nat) (z : ZX) (hj : inj 120 ad) (n : Nat) (σ : St) (a1 : Int32)  {res : St} (h : f_2_beginAct n σ a1 = some res) : MXv l D dX 120 cA ad (EX ad z) yX2_beginAct wsX2_beginAct rm_2_beginAct [.ref (ad 6), .int a1] σ res := by
  refine Met.ofW (cc := cX2_beginAct) (maxL := 2) (ret := none) (by decide) rfl ?_
  intro p e s m args below meth c s₁ B hml hv
  obtain ⟨hargs, hP, hK, hE⟩ := hv
  have hx := B.exec
  have hb := B.bytes
  have hr := B.returns
  have hts := atoms_spec (ws := wsX2_beginAct) B.pre
  have hown : s.vm.findClass RX2 = some m.cls := findClass_of_methodNamed B.named
  have hlocks := B.notSynchronized
  have X : Cx p s m args c cX2_beginAct 2 RX2 wsX2_beginAct D dX 120 cA ad (EX ad z) := ⟨hx, hb, hml, hown, hts, hK, hj, hE, EX_ok ad z⟩
  have hS : va_S (inA 120 ad) s.heap s.heap [] := va_S.rf
  have hl := lv_entry ([.ref (ad 6), .int a1]) (n := 2) (Nat.le_of_ble_eq_true rfl)
  rw [show entryFrame m args 2 = entryFrame m ([.ref (ad 6), .int a1] : List Value).toArray 2 by rw [hargs]]
  rw [lg_entry_eq]
  generalize (lg_sl ([.ref (ad 6), .int a1]) ++ List.replicate (2 - (lg_sl ([.ref (ad 6), .int a1])).length) Slot.unset).toArray = ls at hl ⊢
  have hl : lv_has ls 2 [(0, .ref (ad 6)), (1, .int a1)] := hl
  obtain ⟨QQ, hQQ⟩ : ∃ Q, Q = MQ below (va_Qv (fun u => u = res) (fun u t => va_P D vwCl (ww dX 120 cA ad u) t.heap) (inA 120 ad)) args s 0 0 (inA 120 ad) := ⟨_, rfl⟩
  show W p l e (headSpec wsX2_beginAct rm_2_beginAct).room s m args below meth c s.heap [] 0 0 (MQ below (va_Qv (fun u => u = res) (fun u t => va_P D vwCl (ww dX 120 cA ad u) t.heap) (inA 120 ad)) args s 0 0 (inA 120 ad)) _
  rw [← hQQ]
  have in2 : ∀ w ∈ wsX20, w ∈ wsX2_beginAct := by decide +kernel
  have in6 : ∀ w ∈ wsX60, w ∈ wsX2_beginAct := by decide +kernel
  have lk48 : Cond.fieldLink RX2 48 "CureTown$Book" "current" "LCureTown$Regimen;" ∈ wsX2_beginAct := by decide +kernel
  have lk112 : Cond.fieldLink RX2 112 "CureTown$Regimen" "count" "I" ∈ wsX2_beginAct := by decide +kernel
  have lk37 : Cond.fieldLink RX2 37 "CureTown$Book" "wants" "I" ∈ wsX2_beginAct := by decide +kernel
  unfold f_2_beginAct at h
  obtain ⟨H, hH⟩ : ∃ H, H = s.heap := ⟨_, rfl⟩
  obtain ⟨locs, hlc⟩ : ∃ q : List Loc, q = [] := ⟨_, rfl⟩
  have hP : va_P D vwCl (ww dX 120 cA ad σ) s.heap := hP
  have hS : va_S (inA 120 ad) s.heap s.heap [] := hS
  rw [← hlc] at hS ⊢
  rw [show W p l e (headSpec wsX2_beginAct rm_2_beginAct).room s m args below meth c s.heap locs 0 0 QQ = W p l e (headSpec wsX2_beginAct rm_2_beginAct).room s m args below meth c H locs 0 0 QQ by rw [hH]]
  have hS : va_S (inA 120 ad) s.heap H locs := by rw [hH]; exact hS
  have hP : va_P D vwCl (ww dX 120 cA ad σ) H := by rw [hH]; exact hP
  clear hH hlc
  refine lv_aload_n hx hb dX2_beginAct_0 rfl (lv_at hl 0 rfl) ?_
  refine x_gc X hP (j := 9) (by decide) (dX_6) rfl rfl (by decide) in2 lk48 dX2_beginAct_1 ?_
  obtain ⟨g1, h⟩ := gd_some h
  refine x_gi X hP (j := 1) (fam_lt (inb_lt g1) (by decide)) (dX_44 (inb_lt g1)) rfl rfl (by decide) in6 lk112 dX2_beginAct_4 ?_
  refine lv_bipush (v := 30) hx hb dX2_beginAct_7 (by decide) ?_
  refine lv_icmp_lt (tgt := 20) hx hb dX2_beginAct_9 (by decide) (fun c2 => ?_) (fun c2 => ?_)
  · have h := it_t c2 h
    refine lv_aload_n hx hb dX2_beginAct_20 rfl (lv_at hl 0 rfl) ?_
    refine x_gc X hP (j := 9) (by decide) (dX_6) rfl rfl (by decide) in2 lk48 dX2_beginAct_21 ?_
    refine lv_iload_n hx hb dX2_beginAct_24 rfl (lv_at hl 1 rfl) ?_
    obtain ⟨r3, k4, h⟩ := bd_some h
    refine x_Vv (rest := []) X hP hS (k_6_add l D cA ad z hj n σ ((σ.1 6 9).toNatClampNeg) a1 (inb_lt g1) k4) (fam_lt (inb_lt g1) (by decide)) (dX_44 (inb_lt g1)) rfl 1 gX2_beginAct_X6_add rfl rfl rfl (by decide +kernel) ⟨Nat.le_of_ble_eq_true rfl, Nat.le_of_ble_eq_true rfl⟩ rfl hl.1 rfl (Nat.le_of_ble_eq_true rfl) dX2_beginAct_25 ⟨Nat.zero_le _, Nat.zero_le _⟩ (fun H locs hP hS => ?_)
    refine lv_aload_n hx hb dX2_beginAct_28 rfl (lv_at hl 0 rfl) ?_
    refine lv_iconst (v := 4) hx hb dX2_beginAct_29 (by decide) ?_
    refine x_pi X hP hS (j := 6) (by decide) (dX_6) rfl rfl (by decide) in2 tyX2_ok nmX2 lk37 rfl rfl rfl rfl dX2_beginAct_30 (fun σ5 eσ5 H locs hP hS => ?_)
    have h := nm_some eσ5 h
    subst hQQ
    exact x_rv X hr hlocks hP hS (Option.some.inj h) dX2_beginAct_33
  · have h := it_f c2 h
    refine lv_aload_n hx hb dX2_beginAct_12 rfl (lv_at hl 0 rfl) ?_
    refine lv_iconst (v := 4) hx hb dX2_beginAct_13 (by decide) ?_
    obtain ⟨r6, k7, h⟩ := bd_some h
    refine x_Vv (rest := []) X hP hS (k_2_fail l D cA ad z hj n σ 4 k7) (by decide) (dX_6) rfl 1 gX2_beginAct_X2_fail rfl rfl rfl (by decide +kernel) ⟨Nat.le_of_ble_eq_true rfl, Nat.le_of_ble_eq_true rfl⟩ rfl hl.1 rfl (Nat.le_of_ble_eq_true rfl) dX2_beginAct_14 ⟨Nat.zero_le _, Nat.zero_le _⟩ (fun H locs hP hS => ?_)
    refine lv_goto (tgt := 33) hx hb dX2_beginAct_17 (by decide) ?_
    subst hQQ
    exact x_rv X hr hlocks hP hS (Option.some.inj h) dX2_beginAct_33
def f_2_takeAct (n : Nat) (σ : St) (a1 : Int32) : Option (St) :=
  if a1 < 0 then
    if a1 = 11 then
      if (σ.1 6 7) ≤ 0 then
        if a1 = 9 then
          if (σ.1 6 7) = 0 then
            nm ((σ.1 6 5) + 1) fun v19 =>
            nm (si σ 6 5 v19) fun σ20 =>
            nm (si σ20 6 6 0) fun σ21 =>
            some σ21
          else
            (f_2_fail n σ 1).bind fun r17 =>
            some r17
        else
          (f_2_fail n σ 1).bind fun r14 =>
          some r14
      else
        nm ((σ.1 6 7) - 1) fun v22 =>
        nm (si σ 6 7 v22) fun σ23 =>
        gd (inb (σ23.1 6 9) 8) <| gd (inb (σ23.1 6 7) 5) <| gd (inb (σ23.1 10 (σ23.1 6 7).toNatClampNeg) 30) <| nm (si σ23 (68 + (σ23.1 6 9).toNatClampNeg) ((σ23.1 10 (σ23.1 6 7).toNatClampNeg).toNatClampNeg) (σ23.1 (44 + (σ23.1 6 9).toNatClampNeg) 1)) fun σ27 =>
        some σ27
    else
      if a1 = 9 then
        if (σ.1 6 7) = 0 then
          nm ((σ.1 6 5) + 1) fun v9 =>
          nm (si σ 6 5 v9) fun σ10 =>
          nm (si σ10 6 6 0) fun σ11 =>
          some σ11
        else
          (f_2_fail n σ 1).bind fun r7 =>
          some r7
      else
        (f_2_fail n σ 1).bind fun r4 =>
        some r4
  else
    if 4 < a1 then
      if a1 = 11 then
        if (σ.1 6 7) ≤ 0 then
          if a1 = 9 then
            if (σ.1 6 7) = 0 then
              nm ((σ.1 6 5) + 1) fun v46 =>
              nm (si σ 6 5 v46) fun σ47 =>
              nm (si σ47 6 6 0) fun σ48 =>
              some σ48
            else
              (f_2_fail n σ 1).bind fun r44 =>
              some r44
          else
            (f_2_fail n σ 1).bind fun r41 =>
            some r41
        else
          nm ((σ.1 6 7) - 1) fun v49 =>
          nm (si σ 6 7 v49) fun σ50 =>
          gd (inb (σ50.1 6 9) 8) <| gd (inb (σ50.1 6 7) 5) <| gd (inb (σ50.1 10 (σ50.1 6 7).toNatClampNeg) 30) <| nm (si σ50 (68 + (σ50.1 6 9).toNatClampNeg) ((σ50.1 10 (σ50.1 6 7).toNatClampNeg).toNatClampNeg) (σ50.1 (44 + (σ50.1 6 9).toNatClampNeg) 1)) fun σ54 =>
          some σ54
      else
        if a1 = 9 then
          if (σ.1 6 7) = 0 then
            nm ((σ.1 6 5) + 1) fun v36 =>
            nm (si σ 6 5 v36) fun σ37 =>
            nm (si σ37 6 6 0) fun σ38 =>
            some σ38
          else
            (f_2_fail n σ 1).bind fun r34 =>
            some r34
        else
          (f_2_fail n σ 1).bind fun r31 =>
          some r31
    else
      (f_2_beginAct n σ a1).bind fun r55 =>
      some r55
abbrev rm_2_takeAct : Room := { frames := 2, cells := 0, slots := 0, locals := 42 }
set_option maxRecDepth 100000 in
set_option maxHeartbeats 4000000 in
theorem k_2_takeAct (l : Launch) (D : va_G) (cA : Nat → ClassId) (ad : Nat → Nat) (z : ZX) (hj : inj 120 ad) (n : Nat) (σ : St) (a1 : Int32)  {res : St} (h : f_2_takeAct n σ a1 = some res) : MXv l D dX 120 cA ad (EX ad z) yX2_takeAct wsX2_takeAct rm_2_takeAct [.ref (ad 6), .int a1] σ res := by
  refine Met.ofW (cc := cX2_takeAct) (maxL := 2) (ret := none) (by decide) rfl ?_
  intro p e s m args below meth c s₁ B hml hv
  obtain ⟨hargs, hP, hK, hE⟩ := hv
  have hx := B.exec
  have hb := B.bytes
  have hr := B.returns
  have hts := atoms_spec (ws := wsX2_takeAct) B.pre
  have hown : s.vm.findClass RX2 = some m.cls := findClass_of_methodNamed B.named
  have hlocks := B.notSynchronized
  have X : Cx p s m args c cX2_takeAct 2 RX2 wsX2_takeAct D dX 120 cA ad (EX ad z) := ⟨hx, hb, hml, hown, hts, hK, hj, hE, EX_ok ad z⟩
  have hS : va_S (inA 120 ad) s.heap s.heap [] := va_S.rf
  have hl := lv_entry ([.ref (ad 6), .int a1]) (n := 2) (Nat.le_of_ble_eq_true rfl)
  rw [show entryFrame m args 2 = entryFrame m ([.ref (ad 6), .int a1] : List Value).toArray 2 by rw [hargs]]
  rw [lg_entry_eq]
  generalize (lg_sl ([.ref (ad 6), .int a1]) ++ List.replicate (2 - (lg_sl ([.ref (ad 6), .int a1])).length) Slot.unset).toArray = ls at hl ⊢
  have hl : lv_has ls 2 [(0, .ref (ad 6)), (1, .int a1)] := hl
  obtain ⟨QQ, hQQ⟩ : ∃ Q, Q = MQ below (va_Qv (fun u => u = res) (fun u t => va_P D vwCl (ww dX 120 cA ad u) t.heap) (inA 120 ad)) args s 0 0 (inA 120 ad) := ⟨_, rfl⟩
  show W p l e (headSpec wsX2_takeAct rm_2_takeAct).room s m args below meth c s.heap [] 0 0 (MQ below (va_Qv (fun u => u = res) (fun u t => va_P D vwCl (ww dX 120 cA ad u) t.heap) (inA 120 ad)) args s 0 0 (inA 120 ad)) _
  rw [← hQQ]
  have in2 : ∀ w ∈ wsX20, w ∈ wsX2_takeAct := by decide +kernel
  have in6 : ∀ w ∈ wsX60, w ∈ wsX2_takeAct := by decide +kernel
  have lk40 : Cond.fieldLink RX2 40 "CureTown$Book" "openCount" "I" ∈ wsX2_takeAct := by decide +kernel
  have lk34 : Cond.fieldLink RX2 34 "CureTown$Book" "told" "I" ∈ wsX2_takeAct := by decide +kernel
  have lk37 : Cond.fieldLink RX2 37 "CureTown$Book" "wants" "I" ∈ wsX2_takeAct := by decide +kernel
  have lk48 : Cond.fieldLink RX2 48 "CureTown$Book" "current" "LCureTown$Regimen;" ∈ wsX2_takeAct := by decide +kernel
  have lk109 : Cond.fieldLink RX2 109 "CureTown$Regimen" "seconds" "[I" ∈ wsX2_takeAct := by decide +kernel
  have lk43 : Cond.fieldLink RX2 43 "CureTown$Book" "openActs" "[I" ∈ wsX2_takeAct := by decide +kernel
  have lk112 : Cond.fieldLink RX2 112 "CureTown$Regimen" "count" "I" ∈ wsX2_takeAct := by decide +kernel
  unfold f_2_takeAct at h
  obtain ⟨H, hH⟩ : ∃ H, H = s.heap := ⟨_, rfl⟩
  obtain ⟨locs, hlc⟩ : ∃ q : List Loc, q = [] := ⟨_, rfl⟩
  have hP : va_P D vwCl (ww dX 120 cA ad σ) s.heap := hP
  have hS : va_S (inA 120 ad) s.heap s.heap [] := hS
  rw [← hlc] at hS ⊢
  rw [show W p l e (headSpec wsX2_takeAct rm_2_takeAct).room s m args below meth c s.heap locs 0 0 QQ = W p l e (headSpec wsX2_takeAct rm_2_takeAct).room s m args below meth c H locs 0 0 QQ by rw [hH]]
  have hS : va_S (inA 120 ad) s.heap H locs := by rw [hH]; exact hS
  have hP : va_P D vwCl (ww dX 120 cA ad σ) H := by rw [hH]; exact hP
  clear hH hlc
  refine lv_iload_n hx hb dX2_takeAct_0 rfl (lv_at hl 1 rfl) ?_
  refine lv_if_lt (tgt := 17) hx hb dX2_takeAct_1 (by decide) (fun c1 => ?_) (fun c1 => ?_)
  · have h := it_t c1 h
    refine lv_iload_n hx hb dX2_takeAct_17 rfl (lv_at hl 1 rfl) ?_
    refine lv_bipush (v := 11) hx hb dX2_takeAct_18 (by decide) ?_
    refine lv_icmp_ne (tgt := 67) hx hb dX2_takeAct_20 (by decide) (fun c2 => ?_) (fun c2 => ?_)
    · have h := it_f c2 h
      refine lv_iload_n hx hb dX2_takeAct_67 rfl (lv_at hl 1 rfl) ?_
      refine lv_bipush (v := 9) hx hb dX2_takeAct_68 (by decide) ?_
      refine lv_icmp_ne (tgt := 98) hx hb dX2_takeAct_70 (by decide) (fun c3 => ?_) (fun c3 => ?_)
      · have h := it_f c3 h
        refine lv_aload_n hx hb dX2_takeAct_98 rfl (lv_at hl 0 rfl) ?_
        refine lv_iconst (v := 1) hx hb dX2_takeAct_99 (by decide) ?_
        obtain ⟨r4, k5, h⟩ := bd_some h
        refine x_Vv (rest := []) X hP hS (k_2_fail l D cA ad z hj n σ 1 k5) (by decide) (dX_6) rfl 1 gX2_takeAct_X2_fail rfl rfl rfl (by decide +kernel) ⟨Nat.le_of_ble_eq_true rfl, Nat.le_of_ble_eq_true rfl⟩ rfl hl.1 rfl (Nat.le_of_ble_eq_true rfl) dX2_takeAct_100 ⟨Nat.zero_le _, Nat.zero_le _⟩ (fun H locs hP hS => ?_)
        subst hQQ
        exact x_rv X hr hlocks hP hS (Option.some.inj h) dX2_takeAct_103
      · have h := it_t c3 h
        refine lv_aload_n hx hb dX2_takeAct_73 rfl (lv_at hl 0 rfl) ?_
        refine x_gi X hP (j := 7) (by decide) (dX_6) rfl rfl (by decide) in2 lk40 dX2_takeAct_74 ?_
        refine lv_if_ne (tgt := 98) hx hb dX2_takeAct_77 (by decide) (fun c6 => ?_) (fun c6 => ?_)
        · have h := it_f c6 h
          refine lv_aload_n hx hb dX2_takeAct_98 rfl (lv_at hl 0 rfl) ?_
          refine lv_iconst (v := 1) hx hb dX2_takeAct_99 (by decide) ?_
          obtain ⟨r7, k8, h⟩ := bd_some h
          refine x_Vv (rest := []) X hP hS (k_2_fail l D cA ad z hj n σ 1 k8) (by decide) (dX_6) rfl 1 gX2_takeAct_X2_fail rfl rfl rfl (by decide +kernel) ⟨Nat.le_of_ble_eq_true rfl, Nat.le_of_ble_eq_true rfl⟩ rfl hl.1 rfl (Nat.le_of_ble_eq_true rfl) dX2_takeAct_100 ⟨Nat.zero_le _, Nat.zero_le _⟩ (fun H locs hP hS => ?_)
          subst hQQ
          exact x_rv X hr hlocks hP hS (Option.some.inj h) dX2_takeAct_103
        · have h := it_t c6 h
          refine lv_aload_n hx hb dX2_takeAct_80 rfl (lv_at hl 0 rfl) ?_
          refine lv_dup hx hb dX2_takeAct_81 rfl ?_
          refine x_gi X hP (j := 5) (by decide) (dX_6) rfl rfl (by decide) in2 lk34 dX2_takeAct_82 ?_
          refine lv_iconst (v := 1) hx hb dX2_takeAct_85 (by decide) ?_
          refine lv_iadd hx hb dX2_takeAct_86 ?_
          refine lv_topi (fun v9 ev9 => ?_)
          have h := nm_some ev9 h
          refine x_pi X hP hS (j := 5) (by decide) (dX_6) rfl rfl (by decide) in2 tyX2_ok nmX2 lk34 rfl rfl rfl rfl dX2_takeAct_87 (fun σ10 eσ10 H locs hP hS => ?_)
          have h := nm_some eσ10 h
          refine lv_aload_n hx hb dX2_takeAct_90 rfl (lv_at hl 0 rfl) ?_
          refine lv_iconst (v := 0) hx hb dX2_takeAct_91 (by decide) ?_
          refine x_pi X hP hS (j := 6) (by decide) (dX_6) rfl rfl (by decide) in2 tyX2_ok nmX2 lk37 rfl rfl rfl rfl dX2_takeAct_92 (fun σ11 eσ11 H locs hP hS => ?_)
          have h := nm_some eσ11 h
          refine lv_goto (tgt := 103) hx hb dX2_takeAct_95 (by decide) ?_
          subst hQQ
          exact x_rv X hr hlocks hP hS (Option.some.inj h) dX2_takeAct_103
    · have h := it_t c2 h
      refine lv_aload_n hx hb dX2_takeAct_23 rfl (lv_at hl 0 rfl) ?_
      refine x_gi X hP (j := 7) (by decide) (dX_6) rfl rfl (by decide) in2 lk40 dX2_takeAct_24 ?_
      refine lv_if_le (tgt := 67) hx hb dX2_takeAct_27 (by decide) (fun c12 => ?_) (fun c12 => ?_)
      · have h := it_t c12 h
        refine lv_iload_n hx hb dX2_takeAct_67 rfl (lv_at hl 1 rfl) ?_
        refine lv_bipush (v := 9) hx hb dX2_takeAct_68 (by decide) ?_
        refine lv_icmp_ne (tgt := 98) hx hb dX2_takeAct_70 (by decide) (fun c13 => ?_) (fun c13 => ?_)
        · have h := it_f c13 h
          refine lv_aload_n hx hb dX2_takeAct_98 rfl (lv_at hl 0 rfl) ?_
          refine lv_iconst (v := 1) hx hb dX2_takeAct_99 (by decide) ?_
          obtain ⟨r14, k15, h⟩ := bd_some h
          refine x_Vv (rest := []) X hP hS (k_2_fail l D cA ad z hj n σ 1 k15) (by decide) (dX_6) rfl 1 gX2_takeAct_X2_fail rfl rfl rfl (by decide +kernel) ⟨Nat.le_of_ble_eq_true rfl, Nat.le_of_ble_eq_true rfl⟩ rfl hl.1 rfl (Nat.le_of_ble_eq_true rfl) dX2_takeAct_100 ⟨Nat.zero_le _, Nat.zero_le _⟩ (fun H locs hP hS => ?_)
          subst hQQ
          exact x_rv X hr hlocks hP hS (Option.some.inj h) dX2_takeAct_103
        · have h := it_t c13 h
          refine lv_aload_n hx hb dX2_takeAct_73 rfl (lv_at hl 0 rfl) ?_
          refine x_gi X hP (j := 7) (by decide) (dX_6) rfl rfl (by decide) in2 lk40 dX2_takeAct_74 ?_
          refine lv_if_ne (tgt := 98) hx hb dX2_takeAct_77 (by decide) (fun c16 => ?_) (fun c16 => ?_)
          · have h := it_f c16 h
            refine lv_aload_n hx hb dX2_takeAct_98 rfl (lv_at hl 0 rfl) ?_
            refine lv_iconst (v := 1) hx hb dX2_takeAct_99 (by decide) ?_
            obtain ⟨r17, k18, h⟩ := bd_some h
            refine x_Vv (rest := []) X hP hS (k_2_fail l D cA ad z hj n σ 1 k18) (by decide) (dX_6) rfl 1 gX2_takeAct_X2_fail rfl rfl rfl (by decide +kernel) ⟨Nat.le_of_ble_eq_true rfl, Nat.le_of_ble_eq_true rfl⟩ rfl hl.1 rfl (Nat.le_of_ble_eq_true rfl) dX2_takeAct_100 ⟨Nat.zero_le _, Nat.zero_le _⟩ (fun H locs hP hS => ?_)
            subst hQQ
            exact x_rv X hr hlocks hP hS (Option.some.inj h) dX2_takeAct_103
          · have h := it_t c16 h
            refine lv_aload_n hx hb dX2_takeAct_80 rfl (lv_at hl 0 rfl) ?_
            refine lv_dup hx hb dX2_takeAct_81 rfl ?_
            refine x_gi X hP (j := 5) (by decide) (dX_6) rfl rfl (by decide) in2 lk34 dX2_takeAct_82 ?_
            refine lv_iconst (v := 1) hx hb dX2_takeAct_85 (by decide) ?_
            refine lv_iadd hx hb dX2_takeAct_86 ?_
            refine lv_topi (fun v19 ev19 => ?_)
            have h := nm_some ev19 h
            refine x_pi X hP hS (j := 5) (by decide) (dX_6) rfl rfl (by decide) in2 tyX2_ok nmX2 lk34 rfl rfl rfl rfl dX2_takeAct_87 (fun σ20 eσ20 H locs hP hS => ?_)
            have h := nm_some eσ20 h
            refine lv_aload_n hx hb dX2_takeAct_90 rfl (lv_at hl 0 rfl) ?_
            refine lv_iconst (v := 0) hx hb dX2_takeAct_91 (by decide) ?_
            refine x_pi X hP hS (j := 6) (by decide) (dX_6) rfl rfl (by decide) in2 tyX2_ok nmX2 lk37 rfl rfl rfl rfl dX2_takeAct_92 (fun σ21 eσ21 H locs hP hS => ?_)
            have h := nm_some eσ21 h
            refine lv_goto (tgt := 103) hx hb dX2_takeAct_95 (by decide) ?_
            subst hQQ
            exact x_rv X hr hlocks hP hS (Option.some.inj h) dX2_takeAct_103
      · have h := it_f c12 h
        refine lv_aload_n hx hb dX2_takeAct_30 rfl (lv_at hl 0 rfl) ?_
        refine lv_dup hx hb dX2_takeAct_31 rfl ?_
        refine x_gi X hP (j := 7) (by decide) (dX_6) rfl rfl (by decide) in2 lk40 dX2_takeAct_32 ?_
        refine lv_iconst (v := 1) hx hb dX2_takeAct_35 (by decide) ?_
        refine lv_isub hx hb dX2_takeAct_36 ?_
        refine lv_topi (fun v22 ev22 => ?_)
        have h := nm_some ev22 h
        refine x_pi X hP hS (j := 7) (by decide) (dX_6) rfl rfl (by decide) in2 tyX2_ok nmX2 lk40 rfl rfl rfl rfl dX2_takeAct_37 (fun σ23 eσ23 H locs hP hS => ?_)
        have h := nm_some eσ23 h
        refine lv_aload_n hx hb dX2_takeAct_40 rfl (lv_at hl 0 rfl) ?_
        refine x_gc X hP (j := 9) (by decide) (dX_6) rfl rfl (by decide) in2 lk48 dX2_takeAct_41 ?_
        obtain ⟨g24, h⟩ := gd_some h
        refine x_gr X hP (j := 4) (fam_lt (inb_lt g24) (by decide)) (dX_44 (inb_lt g24)) rfl rfl (by decide) in6 lk109 dX2_takeAct_44 ?_
        refine lv_aload_n hx hb dX2_takeAct_47 rfl (lv_at hl 0 rfl) ?_
        refine x_gr X hP (j := 8) (by decide) (dX_6) rfl rfl (by decide) in2 lk43 dX2_takeAct_48 ?_
        refine lv_aload_n hx hb dX2_takeAct_51 rfl (lv_at hl 0 rfl) ?_
        refine x_gi X hP (j := 7) (by decide) (dX_6) rfl rfl (by decide) in2 lk40 dX2_takeAct_52 ?_
        obtain ⟨g25, h⟩ := gd_some h
        refine x_ai X hP (by decide) (dX_10) g25 dX2_takeAct_55 ?_
        refine lv_aload_n hx hb dX2_takeAct_56 rfl (lv_at hl 0 rfl) ?_
        refine x_gc X hP (j := 9) (by decide) (dX_6) rfl rfl (by decide) in2 lk48 dX2_takeAct_57 ?_
        refine x_gi X hP (j := 1) (fam_lt (inb_lt g24) (by decide)) (dX_44 (inb_lt g24)) rfl rfl (by decide) in6 lk112 dX2_takeAct_60 ?_
        obtain ⟨g26, h⟩ := gd_some h
        refine x_si X hP hS (fam_lt (inb_lt g24) (by decide)) (dX_68 (inb_lt g24)) g26 dX2_takeAct_63 (fun σ27 eσ27 H locs hP hS => ?_)
        have h := nm_some eσ27 h
        refine lv_goto (tgt := 103) hx hb dX2_takeAct_64 (by decide) ?_
        subst hQQ
        exact x_rv X hr hlocks hP hS (Option.some.inj h) dX2_takeAct_103
  · have h := it_f c1 h
    refine lv_iload_n hx hb dX2_takeAct_4 rfl (lv_at hl 1 rfl) ?_
    refine lv_iconst (v := 4) hx hb dX2_takeAct_5 (by decide) ?_
    refine lv_icmp_gt (tgt := 17) hx hb dX2_takeAct_6 (by decide) (fun c28 => ?_) (fun c28 => ?_)
    · have h := it_t c28 h
      refine lv_iload_n hx hb dX2_takeAct_17 rfl (lv_at hl 1 rfl) ?_
      refine lv_bipush (v := 11) hx hb dX2_takeAct_18 (by decide) ?_
      refine lv_icmp_ne (tgt := 67) hx hb dX2_takeAct_20 (by decide) (fun c29 => ?_) (fun c29 => ?_)
      · have h := it_f c29 h
        refine lv_iload_n hx hb dX2_takeAct_67 rfl (lv_at hl 1 rfl) ?_
        refine lv_bipush (v := 9) hx hb dX2_takeAct_68 (by decide) ?_
        refine lv_icmp_ne (tgt := 98) hx hb dX2_takeAct_70 (by decide) (fun c30 => ?_) (fun c30 => ?_)
        · have h := it_f c30 h
          refine lv_aload_n hx hb dX2_takeAct_98 rfl (lv_at hl 0 rfl) ?_
          refine lv_iconst (v := 1) hx hb dX2_takeAct_99 (by decide) ?_
          obtain ⟨r31, k32, h⟩ := bd_some h
          refine x_Vv (rest := []) X hP hS (k_2_fail l D cA ad z hj n σ 1 k32) (by decide) (dX_6) rfl 1 gX2_takeAct_X2_fail rfl rfl rfl (by decide +kernel) ⟨Nat.le_of_ble_eq_true rfl, Nat.le_of_ble_eq_true rfl⟩ rfl hl.1 rfl (Nat.le_of_ble_eq_true rfl) dX2_takeAct_100 ⟨Nat.zero_le _, Nat.zero_le _⟩ (fun H locs hP hS => ?_)
          subst hQQ
          exact x_rv X hr hlocks hP hS (Option.some.inj h) dX2_takeAct_103
        · have h := it_t c30 h
          refine lv_aload_n hx hb dX2_takeAct_73 rfl (lv_at hl 0 rfl) ?_
          refine x_gi X hP (j := 7) (by decide) (dX_6) rfl rfl (by decide) in2 lk40 dX2_takeAct_74 ?_
          refine lv_if_ne (tgt := 98) hx hb dX2_takeAct_77 (by decide) (fun c33 => ?_) (fun c33 => ?_)
          · have h := it_f c33 h
            refine lv_aload_n hx hb dX2_takeAct_98 rfl (lv_at hl 0 rfl) ?_
            refine lv_iconst (v := 1) hx hb dX2_takeAct_99 (by decide) ?_
            obtain ⟨r34, k35, h⟩ := bd_some h
            refine x_Vv (rest := []) X hP hS (k_2_fail l D cA ad z hj n σ 1 k35) (by decide) (dX_6) rfl 1 gX2_takeAct_X2_fail rfl rfl rfl (by decide +kernel) ⟨Nat.le_of_ble_eq_true rfl, Nat.le_of_ble_eq_true rfl⟩ rfl hl.1 rfl (Nat.le_of_ble_eq_true rfl) dX2_takeAct_100 ⟨Nat.zero_le _, Nat.zero_le _⟩ (fun H locs hP hS => ?_)
            subst hQQ
            exact x_rv X hr hlocks hP hS (Option.some.inj h) dX2_takeAct_103
          · have h := it_t c33 h
            refine lv_aload_n hx hb dX2_takeAct_80 rfl (lv_at hl 0 rfl) ?_
            refine lv_dup hx hb dX2_takeAct_81 rfl ?_
            refine x_gi X hP (j := 5) (by decide) (dX_6) rfl rfl (by decide) in2 lk34 dX2_takeAct_82 ?_
            refine lv_iconst (v := 1) hx hb dX2_takeAct_85 (by decide) ?_
            refine lv_iadd hx hb dX2_takeAct_86 ?_
            refine lv_topi (fun v36 ev36 => ?_)
            have h := nm_some ev36 h
            refine x_pi X hP hS (j := 5) (by decide) (dX_6) rfl rfl (by decide) in2 tyX2_ok nmX2 lk34 rfl rfl rfl rfl dX2_takeAct_87 (fun σ37 eσ37 H locs hP hS => ?_)
            have h := nm_some eσ37 h
            refine lv_aload_n hx hb dX2_takeAct_90 rfl (lv_at hl 0 rfl) ?_
            refine lv_iconst (v := 0) hx hb dX2_takeAct_91 (by decide) ?_
            refine x_pi X hP hS (j := 6) (by decide) (dX_6) rfl rfl (by decide) in2 tyX2_ok nmX2 lk37 rfl rfl rfl rfl dX2_takeAct_92 (fun σ38 eσ38 H locs hP hS => ?_)
            have h := nm_some eσ38 h
            refine lv_goto (tgt := 103) hx hb dX2_takeAct_95 (by decide) ?_
            subst hQQ
            exact x_rv X hr hlocks hP hS (Option.some.inj h) dX2_takeAct_103
      · have h := it_t c29 h
        refine lv_aload_n hx hb dX2_takeAct_23 rfl (lv_at hl 0 rfl) ?_
        refine x_gi X hP (j := 7) (by decide) (dX_6) rfl rfl (by decide) in2 lk40 dX2_takeAct_24 ?_
        refine lv_if_le (tgt := 67) hx hb dX2_takeAct_27 (by decide) (fun c39 => ?_) (fun c39 => ?_)
        · have h := it_t c39 h
          refine lv_iload_n hx hb dX2_takeAct_67 rfl (lv_at hl 1 rfl) ?_
          refine lv_bipush (v := 9) hx hb dX2_takeAct_68 (by decide) ?_
          refine lv_icmp_ne (tgt := 98) hx hb dX2_takeAct_70 (by decide) (fun c40 => ?_) (fun c40 => ?_)
          · have h := it_f c40 h
            refine lv_aload_n hx hb dX2_takeAct_98 rfl (lv_at hl 0 rfl) ?_
            refine lv_iconst (v := 1) hx hb dX2_takeAct_99 (by decide) ?_
            obtain ⟨r41, k42, h⟩ := bd_some h
            refine x_Vv (rest := []) X hP hS (k_2_fail l D cA ad z hj n σ 1 k42) (by decide) (dX_6) rfl 1 gX2_takeAct_X2_fail rfl rfl rfl (by decide +kernel) ⟨Nat.le_of_ble_eq_true rfl, Nat.le_of_ble_eq_true rfl⟩ rfl hl.1 rfl (Nat.le_of_ble_eq_true rfl) dX2_takeAct_100 ⟨Nat.zero_le _, Nat.zero_le _⟩ (fun H locs hP hS => ?_)
            subst hQQ
            exact x_rv X hr hlocks hP hS (Option.some.inj h) dX2_takeAct_103
          · have h := it_t c40 h
            refine lv_aload_n hx hb dX2_takeAct_73 rfl (lv_at hl 0 rfl) ?_
            refine x_gi X hP (j := 7) (by decide) (dX_6) rfl rfl (by decide) in2 lk40 dX2_takeAct_74 ?_
            refine lv_if_ne (tgt := 98) hx hb dX2_takeAct_77 (by decide) (fun c43 => ?_) (fun c43 => ?_)
            · have h := it_f c43 h
              refine lv_aload_n hx hb dX2_takeAct_98 rfl (lv_at hl 0 rfl) ?_
              refine lv_iconst (v := 1) hx hb dX2_takeAct_99 (by decide) ?_
              obtain ⟨r44, k45, h⟩ := bd_some h
              refine x_Vv (rest := []) X hP hS (k_2_fail l D cA ad z hj n σ 1 k45) (by decide) (dX_6) rfl 1 gX2_takeAct_X2_fail rfl rfl rfl (by decide +kernel) ⟨Nat.le_of_ble_eq_true rfl, Nat.le_of_ble_eq_true rfl⟩ rfl hl.1 rfl (Nat.le_of_ble_eq_true rfl) dX2_takeAct_100 ⟨Nat.zero_le _, Nat.zero_le _⟩ (fun H locs hP hS => ?_)
              subst hQQ
              exact x_rv X hr hlocks hP hS (Option.some.inj h) dX2_takeAct_103
            · have h := it_t c43 h
              refine lv_aload_n hx hb dX2_takeAct_80 rfl (lv_at hl 0 rfl) ?_
              refine lv_dup hx hb dX2_takeAct_81 rfl ?_
              refine x_gi X hP (j := 5) (by decide) (dX_6) rfl rfl (by decide) in2 lk34 dX2_takeAct_82 ?_
              refine lv_iconst (v := 1) hx hb dX2_takeAct_85 (by decide) ?_
              refine lv_iadd hx hb dX2_takeAct_86 ?_
              refine lv_topi (fun v46 ev46 => ?_)
              have h := nm_some ev46 h
              refine x_pi X hP hS (j := 5) (by decide) (dX_6) rfl rfl (by decide) in2 tyX2_ok nmX2 lk34 rfl rfl rfl rfl dX2_takeAct_87 (fun σ47 eσ47 H locs hP hS => ?_)
              have h := nm_some eσ47 h
              refine lv_aload_n hx hb dX2_takeAct_90 rfl (lv_at hl 0 rfl) ?_
              refine lv_iconst (v := 0) hx hb dX2_takeAct_91 (by decide) ?_
              refine x_pi X hP hS (j := 6) (by decide) (dX_6) rfl rfl (by decide) in2 tyX2_ok nmX2 lk37 rfl rfl rfl rfl dX2_takeAct_92 (fun σ48 eσ48 H locs hP hS => ?_)
              have h := nm_some eσ48 h
              refine lv_goto (tgt := 103) hx hb dX2_takeAct_95 (by decide) ?_
              subst hQQ
              exact x_rv X hr hlocks hP hS (Option.some.inj h) dX2_takeAct_103
        · have h := it_f c39 h
          refine lv_aload_n hx hb dX2_takeAct_30 rfl (lv_at hl 0 rfl) ?_
          refine lv_dup hx hb dX2_takeAct_31 rfl ?_
          refine x_gi X hP (j := 7) (by decide) (dX_6) rfl rfl (by decide) in2 lk40 dX2_takeAct_32 ?_
          refine lv_iconst (v := 1) hx hb dX2_takeAct_35 (by decide) ?_
          refine lv_isub hx hb dX2_takeAct_36 ?_
          refine lv_topi (fun v49 ev49 => ?_)
          have h := nm_some ev49 h
          refine x_pi X hP hS (j := 7) (by decide) (dX_6) rfl rfl (by decide) in2 tyX2_ok nmX2 lk40 rfl rfl rfl rfl dX2_takeAct_37 (fun σ50 eσ50 H locs hP hS => ?_)
          have h := nm_some eσ50 h
          refine lv_aload_n hx hb dX2_takeAct_40 rfl (lv_at hl 0 rfl) ?_
          refine x_gc X hP (j := 9) (by decide) (dX_6) rfl rfl (by decide) in2 lk48 dX2_takeAct_41 ?_
          obtain ⟨g51, h⟩ := gd_some h
          refine x_gr X hP (j := 4) (fam_lt (inb_lt g51) (by decide)) (dX_44 (inb_lt g51)) rfl rfl (by decide) in6 lk109 dX2_takeAct_44 ?_
          refine lv_aload_n hx hb dX2_takeAct_47 rfl (lv_at hl 0 rfl) ?_
          refine x_gr X hP (j := 8) (by decide) (dX_6) rfl rfl (by decide) in2 lk43 dX2_takeAct_48 ?_
          refine lv_aload_n hx hb dX2_takeAct_51 rfl (lv_at hl 0 rfl) ?_
          refine x_gi X hP (j := 7) (by decide) (dX_6) rfl rfl (by decide) in2 lk40 dX2_takeAct_52 ?_
          obtain ⟨g52, h⟩ := gd_some h
          refine x_ai X hP (by decide) (dX_10) g52 dX2_takeAct_55 ?_
          refine lv_aload_n hx hb dX2_takeAct_56 rfl (lv_at hl 0 rfl) ?_
          refine x_gc X hP (j := 9) (by decide) (dX_6) rfl rfl (by decide) in2 lk48 dX2_takeAct_57 ?_
          refine x_gi X hP (j := 1) (fam_lt (inb_lt g51) (by decide)) (dX_44 (inb_lt g51)) rfl rfl (by decide) in6 lk112 dX2_takeAct_60 ?_
          obtain ⟨g53, h⟩ := gd_some h
          refine x_si X hP hS (fam_lt (inb_lt g51) (by decide)) (dX_68 (inb_lt g51)) g53 dX2_takeAct_63 (fun σ54 eσ54 H locs hP hS => ?_)
          have h := nm_some eσ54 h
          refine lv_goto (tgt := 103) hx hb dX2_takeAct_64 (by decide) ?_
          subst hQQ
          exact x_rv X hr hlocks hP hS (Option.some.inj h) dX2_takeAct_103
    · have h := it_f c28 h
      refine lv_aload_n hx hb dX2_takeAct_9 rfl (lv_at hl 0 rfl) ?_
      refine lv_iload_n hx hb dX2_takeAct_10 rfl (lv_at hl 1 rfl) ?_
      obtain ⟨r55, k56, h⟩ := bd_some h
      refine x_Vv (rest := []) X hP hS (k_2_beginAct l D cA ad z hj n σ a1 k56) (by decide) (dX_6) rfl 1 gX2_takeAct_X2_beginAct rfl rfl rfl (by decide +kernel) ⟨Nat.le_of_ble_eq_true rfl, Nat.le_of_ble_eq_true rfl⟩ rfl hl.1 rfl (Nat.le_of_ble_eq_true rfl) dX2_takeAct_11 ⟨Nat.zero_le _, Nat.zero_le _⟩ (fun H locs hP hS => ?_)
      refine lv_goto (tgt := 103) hx hb dX2_takeAct_14 (by decide) ?_
      subst hQQ
      exact x_rv X hr hlocks hP hS (Option.some.inj h) dX2_takeAct_103
def f_2_canStand (n : Nat) (σ : St) (a1 : Int32) (a2 : Int32) (a3 : Int32) : Option (Int32 × St) :=
  if a1 = 7 then
    if (σ.1 7 5) < a2 then
      (f_2_fail n σ 3).bind fun r3 =>
      if (r3.1 6 3) = 0 then
        some (1, r3)
      else
        some (0, r3)
    else
      if (σ.1 7 5) ≤ a3 then
        if (σ.1 6 3) = 0 then
          some (1, σ)
        else
          some (0, σ)
      else
        (f_2_fail n σ 3).bind fun r8 =>
        if (r8.1 6 3) = 0 then
          some (1, r8)
        else
          some (0, r8)
  else
    (f_2_fail n σ 1).bind fun r11 =>
    if (r11.1 6 3) = 0 then
      some (1, r11)
    else
      some (0, r11)
abbrev rm_2_canStand : Room := { frames := 1, cells := 0, slots := 0, locals := 21 }
set_option maxRecDepth 100000 in
set_option maxHeartbeats 4000000 in
theorem k_2_canStand (l : Launch) (D : va_G) (cA : Nat → ClassId) (ad : Nat → Nat) (z : ZX) (hj : inj 120 ad) (n : Nat) (σ : St) (a1 : Int32) (a2 : Int32) (a3 : Int32)  {res : Int32 × St} (h : f_2_canStand n σ a1 a2 a3 = some res) : MXi l D dX 120 cA ad (EX ad z) yX2_canStand wsX2_canStand rm_2_canStand [.ref (ad 6), .int a1, .int a2, .int a3] σ res := by
  refine Met.ofW (cc := cX2_canStand) (maxL := 4) (ret := (some .boolean)) (by decide) rfl ?_
  intro p e s m args below meth c s₁ B hml hv
  obtain ⟨hargs, hP, hK, hE⟩ := hv
  have hx := B.exec
  have hb := B.bytes
  have hr := B.returns
  have hts := atoms_spec (ws := wsX2_canStand) B.pre
  have hown : s.vm.findClass RX2 = some m.cls := findClass_of_methodNamed B.named
  have hlocks := B.notSynchronized
  have X : Cx p s m args c cX2_canStand 4 RX2 wsX2_canStand D dX 120 cA ad (EX ad z) := ⟨hx, hb, hml, hown, hts, hK, hj, hE, EX_ok ad z⟩
  have hS : va_S (inA 120 ad) s.heap s.heap [] := va_S.rf
  have hl := lv_entry ([.ref (ad 6), .int a1, .int a2, .int a3]) (n := 4) (Nat.le_of_ble_eq_true rfl)
  rw [show entryFrame m args 4 = entryFrame m ([.ref (ad 6), .int a1, .int a2, .int a3] : List Value).toArray 4 by rw [hargs]]
  rw [lg_entry_eq]
  generalize (lg_sl ([.ref (ad 6), .int a1, .int a2, .int a3]) ++ List.replicate (4 - (lg_sl ([.ref (ad 6), .int a1, .int a2, .int a3])).length) Slot.unset).toArray = ls at hl ⊢
  have hl : lv_has ls 4 [(0, .ref (ad 6)), (1, .int a1), (2, .int a2), (3, .int a3)] := hl
  obtain ⟨QQ, hQQ⟩ : ∃ Q, Q = MQ below (va_Qi (fun r u => r = res.1 ∧ u = res.2) (fun u t => va_P D vwCl (ww dX 120 cA ad u) t.heap) (inA 120 ad)) args s 0 0 (inA 120 ad) := ⟨_, rfl⟩
  show W p l e (headSpec wsX2_canStand rm_2_canStand).room s m args below meth c s.heap [] 0 0 (MQ below (va_Qi (fun r u => r = res.1 ∧ u = res.2) (fun u t => va_P D vwCl (ww dX 120 cA ad u) t.heap) (inA 120 ad)) args s 0 0 (inA 120 ad)) _
  rw [← hQQ]
  have in2 : ∀ w ∈ wsX20, w ∈ wsX2_canStand := by decide +kernel
  have in8 : ∀ w ∈ wsX80, w ∈ wsX2_canStand := by decide +kernel
  have lk12 : Cond.fieldLink RX2 12 "CureTown$Book" "tape" "LCureTown$Tape;" ∈ wsX2_canStand := by decide +kernel
  have lk132 : Cond.fieldLink RX2 132 "CureTown$Tape" "number" "I" ∈ wsX2_canStand := by decide +kernel
  have lk28 : Cond.fieldLink RX2 28 "CureTown$Book" "fault" "I" ∈ wsX2_canStand := by decide +kernel
  unfold f_2_canStand at h
  obtain ⟨H, hH⟩ : ∃ H, H = s.heap := ⟨_, rfl⟩
  obtain ⟨locs, hlc⟩ : ∃ q : List Loc, q = [] := ⟨_, rfl⟩
  have hP : va_P D vwCl (ww dX 120 cA ad σ) s.heap := hP
  have hS : va_S (inA 120 ad) s.heap s.heap [] := hS
  rw [← hlc] at hS ⊢
  rw [show W p l e (headSpec wsX2_canStand rm_2_canStand).room s m args below meth c s.heap locs 0 0 QQ = W p l e (headSpec wsX2_canStand rm_2_canStand).room s m args below meth c H locs 0 0 QQ by rw [hH]]
  have hS : va_S (inA 120 ad) s.heap H locs := by rw [hH]; exact hS
  have hP : va_P D vwCl (ww dX 120 cA ad σ) H := by rw [hH]; exact hP
  clear hH hlc
  refine lv_iload_n hx hb dX2_canStand_0 rfl (lv_at hl 1 rfl) ?_
  refine lv_bipush (v := 7) hx hb dX2_canStand_1 (by decide) ?_
  refine lv_icmp_eq (tgt := 14) hx hb dX2_canStand_3 (by decide) (fun c1 => ?_) (fun c1 => ?_)
  · have h := it_t c1 h
    refine lv_aload_n hx hb dX2_canStand_14 rfl (lv_at hl 0 rfl) ?_
    refine x_gr X hP (j := 0) (by decide) (dX_6) rfl rfl (by decide) in2 lk12 dX2_canStand_15 ?_
    refine x_gi X hP (j := 5) (by decide) (dX_7) rfl rfl (by decide) in8 lk132 dX2_canStand_18 ?_
    refine lv_iload_n hx hb dX2_canStand_21 rfl (lv_at hl 2 rfl) ?_
    refine lv_icmp_lt (tgt := 36) hx hb dX2_canStand_22 (by decide) (fun c2 => ?_) (fun c2 => ?_)
    · have h := it_t c2 h
      refine lv_aload_n hx hb dX2_canStand_36 rfl (lv_at hl 0 rfl) ?_
      refine lv_iconst (v := 3) hx hb dX2_canStand_37 (by decide) ?_
      obtain ⟨r3, k4, h⟩ := bd_some h
      refine x_Vv (rest := []) X hP hS (k_2_fail l D cA ad z hj n σ 3 k4) (by decide) (dX_6) rfl 1 gX2_canStand_X2_fail rfl rfl rfl (by decide +kernel) ⟨Nat.le_of_ble_eq_true rfl, Nat.le_of_ble_eq_true rfl⟩ rfl hl.1 rfl (Nat.le_of_ble_eq_true rfl) dX2_canStand_38 ⟨Nat.zero_le _, Nat.zero_le _⟩ (fun H locs hP hS => ?_)
      refine lv_aload_n hx hb dX2_canStand_41 rfl (lv_at hl 0 rfl) ?_
      refine x_gi X hP (j := 3) (by decide) (dX_6) rfl rfl (by decide) in2 lk28 dX2_canStand_42 ?_
      refine lv_if_ne (tgt := 52) hx hb dX2_canStand_45 (by decide) (fun c5 => ?_) (fun c5 => ?_)
      · have h := it_f c5 h
        refine lv_iconst (v := 0) hx hb dX2_canStand_52 (by decide) ?_
        subst hQQ
        exact x_rz X hr hlocks hP hS (by decide +kernel) (Option.some.inj h) dX2_canStand_53
      · have h := it_t c5 h
        refine lv_iconst (v := 1) hx hb dX2_canStand_48 (by decide) ?_
        refine lv_goto (tgt := 53) hx hb dX2_canStand_49 (by decide) ?_
        subst hQQ
        exact x_rz X hr hlocks hP hS (by decide +kernel) (Option.some.inj h) dX2_canStand_53
    · have h := it_f c2 h
      refine lv_aload_n hx hb dX2_canStand_25 rfl (lv_at hl 0 rfl) ?_
      refine x_gr X hP (j := 0) (by decide) (dX_6) rfl rfl (by decide) in2 lk12 dX2_canStand_26 ?_
      refine x_gi X hP (j := 5) (by decide) (dX_7) rfl rfl (by decide) in8 lk132 dX2_canStand_29 ?_
      refine lv_iload_n hx hb dX2_canStand_32 rfl (lv_at hl 3 rfl) ?_
      refine lv_icmp_le (tgt := 41) hx hb dX2_canStand_33 (by decide) (fun c6 => ?_) (fun c6 => ?_)
      · have h := it_t c6 h
        refine lv_aload_n hx hb dX2_canStand_41 rfl (lv_at hl 0 rfl) ?_
        refine x_gi X hP (j := 3) (by decide) (dX_6) rfl rfl (by decide) in2 lk28 dX2_canStand_42 ?_
        refine lv_if_ne (tgt := 52) hx hb dX2_canStand_45 (by decide) (fun c7 => ?_) (fun c7 => ?_)
        · have h := it_f c7 h
          refine lv_iconst (v := 0) hx hb dX2_canStand_52 (by decide) ?_
          subst hQQ
          exact x_rz X hr hlocks hP hS (by decide +kernel) (Option.some.inj h) dX2_canStand_53
        · have h := it_t c7 h
          refine lv_iconst (v := 1) hx hb dX2_canStand_48 (by decide) ?_
          refine lv_goto (tgt := 53) hx hb dX2_canStand_49 (by decide) ?_
          subst hQQ
          exact x_rz X hr hlocks hP hS (by decide +kernel) (Option.some.inj h) dX2_canStand_53
      · have h := it_f c6 h
        refine lv_aload_n hx hb dX2_canStand_36 rfl (lv_at hl 0 rfl) ?_
        refine lv_iconst (v := 3) hx hb dX2_canStand_37 (by decide) ?_
        obtain ⟨r8, k9, h⟩ := bd_some h
        refine x_Vv (rest := []) X hP hS (k_2_fail l D cA ad z hj n σ 3 k9) (by decide) (dX_6) rfl 1 gX2_canStand_X2_fail rfl rfl rfl (by decide +kernel) ⟨Nat.le_of_ble_eq_true rfl, Nat.le_of_ble_eq_true rfl⟩ rfl hl.1 rfl (Nat.le_of_ble_eq_true rfl) dX2_canStand_38 ⟨Nat.zero_le _, Nat.zero_le _⟩ (fun H locs hP hS => ?_)
        refine lv_aload_n hx hb dX2_canStand_41 rfl (lv_at hl 0 rfl) ?_
        refine x_gi X hP (j := 3) (by decide) (dX_6) rfl rfl (by decide) in2 lk28 dX2_canStand_42 ?_
        refine lv_if_ne (tgt := 52) hx hb dX2_canStand_45 (by decide) (fun c10 => ?_) (fun c10 => ?_)
        · have h := it_f c10 h
          refine lv_iconst (v := 0) hx hb dX2_canStand_52 (by decide) ?_
          subst hQQ
          exact x_rz X hr hlocks hP hS (by decide +kernel) (Option.some.inj h) dX2_canStand_53
        · have h := it_t c10 h
          refine lv_iconst (v := 1) hx hb dX2_canStand_48 (by decide) ?_
          refine lv_goto (tgt := 53) hx hb dX2_canStand_49 (by decide) ?_
          subst hQQ
          exact x_rz X hr hlocks hP hS (by decide +kernel) (Option.some.inj h) dX2_canStand_53
  · have h := it_f c1 h
    refine lv_aload_n hx hb dX2_canStand_6 rfl (lv_at hl 0 rfl) ?_
    refine lv_iconst (v := 1) hx hb dX2_canStand_7 (by decide) ?_
    obtain ⟨r11, k12, h⟩ := bd_some h
    refine x_Vv (rest := []) X hP hS (k_2_fail l D cA ad z hj n σ 1 k12) (by decide) (dX_6) rfl 1 gX2_canStand_X2_fail rfl rfl rfl (by decide +kernel) ⟨Nat.le_of_ble_eq_true rfl, Nat.le_of_ble_eq_true rfl⟩ rfl hl.1 rfl (Nat.le_of_ble_eq_true rfl) dX2_canStand_8 ⟨Nat.zero_le _, Nat.zero_le _⟩ (fun H locs hP hS => ?_)
    refine lv_goto (tgt := 41) hx hb dX2_canStand_11 (by decide) ?_
    refine lv_aload_n hx hb dX2_canStand_41 rfl (lv_at hl 0 rfl) ?_
    refine x_gi X hP (j := 3) (by decide) (dX_6) rfl rfl (by decide) in2 lk28 dX2_canStand_42 ?_
    refine lv_if_ne (tgt := 52) hx hb dX2_canStand_45 (by decide) (fun c13 => ?_) (fun c13 => ?_)
    · have h := it_f c13 h
      refine lv_iconst (v := 0) hx hb dX2_canStand_52 (by decide) ?_
      subst hQQ
      exact x_rz X hr hlocks hP hS (by decide +kernel) (Option.some.inj h) dX2_canStand_53
    · have h := it_t c13 h
      refine lv_iconst (v := 1) hx hb dX2_canStand_48 (by decide) ?_
      refine lv_goto (tgt := 53) hx hb dX2_canStand_49 (by decide) ?_
      subst hQQ
      exact x_rz X hr hlocks hP hS (by decide +kernel) (Option.some.inj h) dX2_canStand_53
def f_2_takeFirst (n : Nat) (σ : St) (a1 : Int32) : Option (St) :=
  gd (inb (σ.1 6 9) 8) <| nm ((σ.1 (44 + (σ.1 6 9).toNatClampNeg) 1) - 1) fun v2 =>
  gd (inb v2 30) <| nm ((σ.1 (52 + (σ.1 6 9).toNatClampNeg) v2.toNatClampNeg)) fun v4 =>
  gd (inb v4 5) <| (f_2_canStand n σ a1 (leastF v4.toNatClampNeg) (mostF v4.toNatClampNeg)).bind fun r6 =>
  if r6.1 = 0 then
    some r6.2
  else
    gd (inb (r6.2.1 6 9) 8) <| nm (si r6.2 (60 + (r6.2.1 6 9).toNatClampNeg) (v2.toNatClampNeg) (r6.2.1 7 5)) fun σ10 =>
    if v4 = 1 then
      nm (si σ10 6 6 5) fun σ12 =>
      some σ12
    else if v4 = 4 then
      nm (si σ10 6 6 6) fun σ14 =>
      some σ14
    else 
      nm (si σ10 6 6 3) fun σ15 =>
      some σ15
abbrev rm_2_takeFirst : Room := { frames := 2, cells := 0, slots := 0, locals := 44 }
set_option maxRecDepth 100000 in
set_option maxHeartbeats 4000000 in
theorem k_2_takeFirst (l : Launch) (D : va_G) (cA : Nat → ClassId) (ad : Nat → Nat) (z : ZX) (hj : inj 120 ad) (n : Nat) (σ : St) (a1 : Int32)  {res : St} (h : f_2_takeFirst n σ a1 = some res) : MXv l D dX 120 cA ad (EX ad z) yX2_takeFirst wsX2_takeFirst rm_2_takeFirst [.ref (ad 6), .int a1] σ res := by
  refine Met.ofW (cc := cX2_takeFirst) (maxL := 4) (ret := none) (by decide) rfl ?_
  intro p e s m args below meth c s₁ B hml hv
  obtain ⟨hargs, hP, hK, hE⟩ := hv
  have hx := B.exec
  have hb := B.bytes
  have hr := B.returns
  have hts := atoms_spec (ws := wsX2_takeFirst) B.pre
  have hown : s.vm.findClass RX2 = some m.cls := findClass_of_methodNamed B.named
  have hlocks := B.notSynchronized
  have X : Cx p s m args c cX2_takeFirst 4 RX2 wsX2_takeFirst D dX 120 cA ad (EX ad z) := ⟨hx, hb, hml, hown, hts, hK, hj, hE, EX_ok ad z⟩
  have hS : va_S (inA 120 ad) s.heap s.heap [] := va_S.rf
  have hl := lv_entry ([.ref (ad 6), .int a1]) (n := 4) (Nat.le_of_ble_eq_true rfl)
  rw [show entryFrame m args 4 = entryFrame m ([.ref (ad 6), .int a1] : List Value).toArray 4 by rw [hargs]]
  rw [lg_entry_eq]
  generalize (lg_sl ([.ref (ad 6), .int a1]) ++ List.replicate (4 - (lg_sl ([.ref (ad 6), .int a1])).length) Slot.unset).toArray = ls at hl ⊢
  have hl : lv_has ls 4 [(0, .ref (ad 6)), (1, .int a1)] := hl
  obtain ⟨QQ, hQQ⟩ : ∃ Q, Q = MQ below (va_Qv (fun u => u = res) (fun u t => va_P D vwCl (ww dX 120 cA ad u) t.heap) (inA 120 ad)) args s 0 0 (inA 120 ad) := ⟨_, rfl⟩
  show W p l e (headSpec wsX2_takeFirst rm_2_takeFirst).room s m args below meth c s.heap [] 0 0 (MQ below (va_Qv (fun u => u = res) (fun u t => va_P D vwCl (ww dX 120 cA ad u) t.heap) (inA 120 ad)) args s 0 0 (inA 120 ad)) _
  rw [← hQQ]
  have in2 : ∀ w ∈ wsX20, w ∈ wsX2_takeFirst := by decide +kernel
  have in6 : ∀ w ∈ wsX60, w ∈ wsX2_takeFirst := by decide +kernel
  have in8 : ∀ w ∈ wsX80, w ∈ wsX2_takeFirst := by decide +kernel
  have lk48 : Cond.fieldLink RX2 48 "CureTown$Book" "current" "LCureTown$Regimen;" ∈ wsX2_takeFirst := by decide +kernel
  have lk112 : Cond.fieldLink RX2 112 "CureTown$Regimen" "count" "I" ∈ wsX2_takeFirst := by decide +kernel
  have lk116 : Cond.fieldLink RX2 116 "CureTown$Regimen" "kinds" "[I" ∈ wsX2_takeFirst := by decide +kernel
  have lk129 : Cond.fieldLink RX2 129 "CureTown$Regimen" "firsts" "[I" ∈ wsX2_takeFirst := by decide +kernel
  have lk12 : Cond.fieldLink RX2 12 "CureTown$Book" "tape" "LCureTown$Tape;" ∈ wsX2_takeFirst := by decide +kernel
  have lk132 : Cond.fieldLink RX2 132 "CureTown$Tape" "number" "I" ∈ wsX2_takeFirst := by decide +kernel
  have lk37 : Cond.fieldLink RX2 37 "CureTown$Book" "wants" "I" ∈ wsX2_takeFirst := by decide +kernel
  unfold f_2_takeFirst at h
  obtain ⟨H, hH⟩ : ∃ H, H = s.heap := ⟨_, rfl⟩
  obtain ⟨locs, hlc⟩ : ∃ q : List Loc, q = [] := ⟨_, rfl⟩
  have hP : va_P D vwCl (ww dX 120 cA ad σ) s.heap := hP
  have hS : va_S (inA 120 ad) s.heap s.heap [] := hS
  rw [← hlc] at hS ⊢
  rw [show W p l e (headSpec wsX2_takeFirst rm_2_takeFirst).room s m args below meth c s.heap locs 0 0 QQ = W p l e (headSpec wsX2_takeFirst rm_2_takeFirst).room s m args below meth c H locs 0 0 QQ by rw [hH]]
  have hS : va_S (inA 120 ad) s.heap H locs := by rw [hH]; exact hS
  have hP : va_P D vwCl (ww dX 120 cA ad σ) H := by rw [hH]; exact hP
  clear hH hlc
  refine lv_aload_n hx hb dX2_takeFirst_0 rfl (lv_at hl 0 rfl) ?_
  refine x_gc X hP (j := 9) (by decide) (dX_6) rfl rfl (by decide) in2 lk48 dX2_takeFirst_1 ?_
  obtain ⟨g1, h⟩ := gd_some h
  refine x_gi X hP (j := 1) (fam_lt (inb_lt g1) (by decide)) (dX_44 (inb_lt g1)) rfl rfl (by decide) in6 lk112 dX2_takeFirst_4 ?_
  refine lv_iconst (v := 1) hx hb dX2_takeFirst_7 (by decide) ?_
  refine lv_isub hx hb dX2_takeFirst_8 ?_
  refine lv_topi (fun v2 ev2 => ?_)
  have h := nm_some ev2 h
  refine lv_istore_n (lv' := [(2, .int v2), (0, .ref (ad 6)), (1, .int a1)]) hx hb dX2_takeFirst_9 rfl hl (by decide) rfl (fun ls hl => ?_)
  refine lv_aload_n hx hb dX2_takeFirst_10 rfl (lv_at hl 1 rfl) ?_
  refine x_gc X hP (j := 9) (by decide) (dX_6) rfl rfl (by decide) in2 lk48 dX2_takeFirst_11 ?_
  refine x_gr X hP (j := 2) (fam_lt (inb_lt g1) (by decide)) (dX_44 (inb_lt g1)) rfl rfl (by decide) in6 lk116 dX2_takeFirst_14 ?_
  refine lv_iload_n hx hb dX2_takeFirst_17 rfl (lv_at hl 0 rfl) ?_
  obtain ⟨g3, h⟩ := gd_some h
  refine x_ai X hP (fam_lt (inb_lt g1) (by decide)) (dX_52 (inb_lt g1)) g3 dX2_takeFirst_18 ?_
  refine lv_topi (fun v4 ev4 => ?_)
  have h := nm_some ev4 h
  refine lv_istore_n (lv' := [(3, .int v4), (2, .int v2), (0, .ref (ad 6)), (1, .int a1)]) hx hb dX2_takeFirst_19 rfl hl (by decide) rfl (fun ls hl => ?_)
  refine lv_aload_n hx hb dX2_takeFirst_20 rfl (lv_at hl 2 rfl) ?_
  refine lv_iload_n hx hb dX2_takeFirst_21 rfl (lv_at hl 3 rfl) ?_
  refine va_getsN hx hb hE.2.2.2.1 hS X.2.2.2.1 (va_Nw.use rfl hE.2.1) (fun _ h9 => h9) dX2_takeFirst_22 ?_
  refine lv_iload_n hx hb dX2_takeFirst_25 rfl (lv_at hl 0 rfl) ?_
  obtain ⟨g5, h⟩ := gd_some h
  refine va_ti hx hb hE.2.2.2.2.1 hS (inb_vp g5) rfl dX2_takeFirst_26 ?_
  refine va_getsN hx hb hE.2.2.2.2.2.1 hS X.2.2.2.1 (va_Nw.use rfl hE.2.2.1) (fun _ h9 => h9) dX2_takeFirst_27 ?_
  refine lv_iload_n hx hb dX2_takeFirst_30 rfl (lv_at hl 0 rfl) ?_
  refine va_ti hx hb hE.2.2.2.2.2.2.1 hS (inb_vp g5) rfl dX2_takeFirst_31 ?_
  obtain ⟨r6, k7, h⟩ := bd_some h
  refine x_Vi (rest := []) X hP hS (k_2_canStand l D cA ad z hj n σ a1 (leastF v4.toNatClampNeg) (mostF v4.toNatClampNeg) k7) (by decide) (dX_6) rfl 3 gX2_takeFirst_X2_canStand rfl rfl rfl (by decide +kernel) ⟨Nat.le_of_ble_eq_true rfl, Nat.le_of_ble_eq_true rfl⟩ rfl hl.1 rfl (Nat.le_of_ble_eq_true rfl) dX2_takeFirst_32 ⟨Nat.zero_le _, Nat.zero_le _⟩ (fun H locs hP hS => ?_)
  refine lv_if_ne (tgt := 39) hx hb dX2_takeFirst_35 (by decide) (fun c8 => ?_) (fun c8 => ?_)
  · have h := it_f c8 h
    refine lv_aload_n hx hb dX2_takeFirst_39 rfl (lv_at hl 2 rfl) ?_
    refine x_gc X hP (j := 9) (by decide) (dX_6) rfl rfl (by decide) in2 lk48 dX2_takeFirst_40 ?_
    obtain ⟨g9, h⟩ := gd_some h
    refine x_gr X hP (j := 3) (fam_lt (inb_lt g9) (by decide)) (dX_44 (inb_lt g9)) rfl rfl (by decide) in6 lk129 dX2_takeFirst_43 ?_
    refine lv_iload_n hx hb dX2_takeFirst_46 rfl (lv_at hl 1 rfl) ?_
    refine lv_aload_n hx hb dX2_takeFirst_47 rfl (lv_at hl 2 rfl) ?_
    refine x_gr X hP (j := 0) (by decide) (dX_6) rfl rfl (by decide) in2 lk12 dX2_takeFirst_48 ?_
    refine x_gi X hP (j := 5) (by decide) (dX_7) rfl rfl (by decide) in8 lk132 dX2_takeFirst_51 ?_
    refine x_si X hP hS (fam_lt (inb_lt g9) (by decide)) (dX_60 (inb_lt g9)) g3 dX2_takeFirst_54 (fun σ10 eσ10 H locs hP hS => ?_)
    have h := nm_some eσ10 h
    refine lv_iload_n hx hb dX2_takeFirst_55 rfl (lv_at hl 0 rfl) ?_
    by_cases c11 : v4 = 1
    · have h := it_t c11 h
      refine lv_lookup (off := 28) (tgt := 84) hx hb dX2_takeFirst_56 (by decide) (by rw [c11]; rfl) (by decide) ?_
      refine lv_aload_n hx hb dX2_takeFirst_84 rfl (lv_at hl 2 rfl) ?_
      refine lv_iconst (v := 5) hx hb dX2_takeFirst_85 (by decide) ?_
      refine x_pi X hP hS (j := 6) (by decide) (dX_6) rfl rfl (by decide) in2 tyX2_ok nmX2 lk37 rfl rfl rfl rfl dX2_takeFirst_86 (fun σ12 eσ12 H locs hP hS => ?_)
      have h := nm_some eσ12 h
      refine lv_goto (tgt := 106) hx hb dX2_takeFirst_89 (by decide) ?_
      subst hQQ
      exact x_rv X hr hlocks hP hS (Option.some.inj h) dX2_takeFirst_106
    · have h := it_f c11 h
      by_cases c13 : v4 = 4
      · have h := it_t c13 h
        refine lv_lookup (off := 36) (tgt := 92) hx hb dX2_takeFirst_56 (by decide) (by rw [c13]; rfl) (by decide) ?_
        refine lv_aload_n hx hb dX2_takeFirst_92 rfl (lv_at hl 2 rfl) ?_
        refine lv_bipush (v := 6) hx hb dX2_takeFirst_93 (by decide) ?_
        refine x_pi X hP hS (j := 6) (by decide) (dX_6) rfl rfl (by decide) in2 tyX2_ok nmX2 lk37 rfl rfl rfl rfl dX2_takeFirst_95 (fun σ14 eσ14 H locs hP hS => ?_)
        have h := nm_some eσ14 h
        refine lv_goto (tgt := 106) hx hb dX2_takeFirst_98 (by decide) ?_
        subst hQQ
        exact x_rv X hr hlocks hP hS (Option.some.inj h) dX2_takeFirst_106
      · have h := it_f c13 h
        refine lv_lookup (off := 45) (tgt := 101) hx hb dX2_takeFirst_56 (by decide) (by show Op.lookupswitch.offset [(1, 28), (4, 36)] 45 _ = _; rw [lv_osw (a := 1) c11 (by decide), lv_osw (a := 4) c13 (by decide)]; rfl) (by decide) ?_
        refine lv_aload_n hx hb dX2_takeFirst_101 rfl (lv_at hl 2 rfl) ?_
        refine lv_iconst (v := 3) hx hb dX2_takeFirst_102 (by decide) ?_
        refine x_pi X hP hS (j := 6) (by decide) (dX_6) rfl rfl (by decide) in2 tyX2_ok nmX2 lk37 rfl rfl rfl rfl dX2_takeFirst_103 (fun σ15 eσ15 H locs hP hS => ?_)
        have h := nm_some eσ15 h
        subst hQQ
        exact x_rv X hr hlocks hP hS (Option.some.inj h) dX2_takeFirst_106
  · have h := it_t c8 h
    subst hQQ
    exact x_rv X hr hlocks hP hS (Option.some.inj h) dX2_takeFirst_38
def f_2_takeSecond (n : Nat) (σ : St) (a1 : Int32) : Option (St) :=
  (f_2_canStand n σ a1 1 16).bind fun r1 =>
  if r1.1 = 0 then
    some r1.2
  else
    gd (inb (r1.2.1 6 9) 8) <| nm ((r1.2.1 (44 + (r1.2.1 6 9).toNatClampNeg) 1) - 1) fun v5 =>
    gd (inb v5 30) <| nm (si r1.2 (68 + (r1.2.1 6 9).toNatClampNeg) (v5.toNatClampNeg) (r1.2.1 7 5)) fun σ7 =>
    nm (si σ7 6 6 3) fun σ8 =>
    some σ8
abbrev rm_2_takeSecond : Room := { frames := 2, cells := 0, slots := 0, locals := 44 }
set_option maxRecDepth 100000 in
set_option maxHeartbeats 4000000 in
theorem k_2_takeSecond (l : Launch) (D : va_G) (cA : Nat → ClassId) (ad : Nat → Nat) (z : ZX) (hj : inj 120 ad) (n : Nat) (σ : St) (a1 : Int32)  {res : St} (h : f_2_takeSecond n σ a1 = some res) : MXv l D dX 120 cA ad (EX ad z) yX2_takeSecond wsX2_takeSecond rm_2_takeSecond [.ref (ad 6), .int a1] σ res := by
  refine Met.ofW (cc := cX2_takeSecond) (maxL := 2) (ret := none) (by decide) rfl ?_
  intro p e s m args below meth c s₁ B hml hv
  obtain ⟨hargs, hP, hK, hE⟩ := hv
  have hx := B.exec
  have hb := B.bytes
  have hr := B.returns
  have hts := atoms_spec (ws := wsX2_takeSecond) B.pre
  have hown : s.vm.findClass RX2 = some m.cls := findClass_of_methodNamed B.named
  have hlocks := B.notSynchronized
  have X : Cx p s m args c cX2_takeSecond 2 RX2 wsX2_takeSecond D dX 120 cA ad (EX ad z) := ⟨hx, hb, hml, hown, hts, hK, hj, hE, EX_ok ad z⟩
  have hS : va_S (inA 120 ad) s.heap s.heap [] := va_S.rf
  have hl := lv_entry ([.ref (ad 6), .int a1]) (n := 2) (Nat.le_of_ble_eq_true rfl)
  rw [show entryFrame m args 2 = entryFrame m ([.ref (ad 6), .int a1] : List Value).toArray 2 by rw [hargs]]
  rw [lg_entry_eq]
  generalize (lg_sl ([.ref (ad 6), .int a1]) ++ List.replicate (2 - (lg_sl ([.ref (ad 6), .int a1])).length) Slot.unset).toArray = ls at hl ⊢
  have hl : lv_has ls 2 [(0, .ref (ad 6)), (1, .int a1)] := hl
  obtain ⟨QQ, hQQ⟩ : ∃ Q, Q = MQ below (va_Qv (fun u => u = res) (fun u t => va_P D vwCl (ww dX 120 cA ad u) t.heap) (inA 120 ad)) args s 0 0 (inA 120 ad) := ⟨_, rfl⟩
  show W p l e (headSpec wsX2_takeSecond rm_2_takeSecond).room s m args below meth c s.heap [] 0 0 (MQ below (va_Qv (fun u => u = res) (fun u t => va_P D vwCl (ww dX 120 cA ad u) t.heap) (inA 120 ad)) args s 0 0 (inA 120 ad)) _
  rw [← hQQ]
  have in2 : ∀ w ∈ wsX20, w ∈ wsX2_takeSecond := by decide +kernel
  have in6 : ∀ w ∈ wsX60, w ∈ wsX2_takeSecond := by decide +kernel
  have in8 : ∀ w ∈ wsX80, w ∈ wsX2_takeSecond := by decide +kernel
  have lk48 : Cond.fieldLink RX2 48 "CureTown$Book" "current" "LCureTown$Regimen;" ∈ wsX2_takeSecond := by decide +kernel
  have lk109 : Cond.fieldLink RX2 109 "CureTown$Regimen" "seconds" "[I" ∈ wsX2_takeSecond := by decide +kernel
  have lk112 : Cond.fieldLink RX2 112 "CureTown$Regimen" "count" "I" ∈ wsX2_takeSecond := by decide +kernel
  have lk12 : Cond.fieldLink RX2 12 "CureTown$Book" "tape" "LCureTown$Tape;" ∈ wsX2_takeSecond := by decide +kernel
  have lk132 : Cond.fieldLink RX2 132 "CureTown$Tape" "number" "I" ∈ wsX2_takeSecond := by decide +kernel
  have lk37 : Cond.fieldLink RX2 37 "CureTown$Book" "wants" "I" ∈ wsX2_takeSecond := by decide +kernel
  unfold f_2_takeSecond at h
  obtain ⟨H, hH⟩ : ∃ H, H = s.heap := ⟨_, rfl⟩
  obtain ⟨locs, hlc⟩ : ∃ q : List Loc, q = [] := ⟨_, rfl⟩
  have hP : va_P D vwCl (ww dX 120 cA ad σ) s.heap := hP
  have hS : va_S (inA 120 ad) s.heap s.heap [] := hS
  rw [← hlc] at hS ⊢
  rw [show W p l e (headSpec wsX2_takeSecond rm_2_takeSecond).room s m args below meth c s.heap locs 0 0 QQ = W p l e (headSpec wsX2_takeSecond rm_2_takeSecond).room s m args below meth c H locs 0 0 QQ by rw [hH]]
  have hS : va_S (inA 120 ad) s.heap H locs := by rw [hH]; exact hS
  have hP : va_P D vwCl (ww dX 120 cA ad σ) H := by rw [hH]; exact hP
  clear hH hlc
  refine lv_aload_n hx hb dX2_takeSecond_0 rfl (lv_at hl 0 rfl) ?_
  refine lv_iload_n hx hb dX2_takeSecond_1 rfl (lv_at hl 1 rfl) ?_
  refine lv_iconst (v := 1) hx hb dX2_takeSecond_2 (by decide) ?_
  refine lv_bipush (v := 16) hx hb dX2_takeSecond_3 (by decide) ?_
  obtain ⟨r1, k2, h⟩ := bd_some h
  refine x_Vi (rest := []) X hP hS (k_2_canStand l D cA ad z hj n σ a1 1 16 k2) (by decide) (dX_6) rfl 3 gX2_takeSecond_X2_canStand rfl rfl rfl (by decide +kernel) ⟨Nat.le_of_ble_eq_true rfl, Nat.le_of_ble_eq_true rfl⟩ rfl hl.1 rfl (Nat.le_of_ble_eq_true rfl) dX2_takeSecond_5 ⟨Nat.zero_le _, Nat.zero_le _⟩ (fun H locs hP hS => ?_)
  refine lv_if_eq (tgt := 40) hx hb dX2_takeSecond_8 (by decide) (fun c3 => ?_) (fun c3 => ?_)
  · have h := it_t c3 h
    subst hQQ
    exact x_rv X hr hlocks hP hS (Option.some.inj h) dX2_takeSecond_40
  · have h := it_f c3 h
    refine lv_aload_n hx hb dX2_takeSecond_11 rfl (lv_at hl 0 rfl) ?_
    refine x_gc X hP (j := 9) (by decide) (dX_6) rfl rfl (by decide) in2 lk48 dX2_takeSecond_12 ?_
    obtain ⟨g4, h⟩ := gd_some h
    refine x_gr X hP (j := 4) (fam_lt (inb_lt g4) (by decide)) (dX_44 (inb_lt g4)) rfl rfl (by decide) in6 lk109 dX2_takeSecond_15 ?_
    refine lv_aload_n hx hb dX2_takeSecond_18 rfl (lv_at hl 0 rfl) ?_
    refine x_gc X hP (j := 9) (by decide) (dX_6) rfl rfl (by decide) in2 lk48 dX2_takeSecond_19 ?_
    refine x_gi X hP (j := 1) (fam_lt (inb_lt g4) (by decide)) (dX_44 (inb_lt g4)) rfl rfl (by decide) in6 lk112 dX2_takeSecond_22 ?_
    refine lv_iconst (v := 1) hx hb dX2_takeSecond_25 (by decide) ?_
    refine lv_isub hx hb dX2_takeSecond_26 ?_
    refine lv_topi (fun v5 ev5 => ?_)
    have h := nm_some ev5 h
    refine lv_aload_n hx hb dX2_takeSecond_27 rfl (lv_at hl 0 rfl) ?_
    refine x_gr X hP (j := 0) (by decide) (dX_6) rfl rfl (by decide) in2 lk12 dX2_takeSecond_28 ?_
    refine x_gi X hP (j := 5) (by decide) (dX_7) rfl rfl (by decide) in8 lk132 dX2_takeSecond_31 ?_
    obtain ⟨g6, h⟩ := gd_some h
    refine x_si X hP hS (fam_lt (inb_lt g4) (by decide)) (dX_68 (inb_lt g4)) g6 dX2_takeSecond_34 (fun σ7 eσ7 H locs hP hS => ?_)
    have h := nm_some eσ7 h
    refine lv_aload_n hx hb dX2_takeSecond_35 rfl (lv_at hl 0 rfl) ?_
    refine lv_iconst (v := 3) hx hb dX2_takeSecond_36 (by decide) ?_
    refine x_pi X hP hS (j := 6) (by decide) (dX_6) rfl rfl (by decide) in2 tyX2_ok nmX2 lk37 rfl rfl rfl rfl dX2_takeSecond_37 (fun σ8 eσ8 H locs hP hS => ?_)
    have h := nm_some eσ8 h
    subst hQQ
    exact x_rv X hr hlocks hP hS (Option.some.inj h) dX2_takeSecond_40
def f_2_takeBracket (n : Nat) (σ : St) (a1 : Int32) : Option (St) :=
  if a1 = 10 then
    if (σ.1 6 7) < 5 then
      gd (inb (σ.1 6 9) 8) <| nm ((σ.1 (44 + (σ.1 6 9).toNatClampNeg) 1) - 1) fun v4 =>
      gd (inb (σ.1 6 7) 5) <| nm (si σ 10 ((σ.1 6 7).toNatClampNeg) v4) fun σ6 =>
      nm ((σ6.1 6 7) + 1) fun v7 =>
      nm (si σ6 6 7 v7) fun σ8 =>
      nm (si σ8 6 6 3) fun σ9 =>
      some σ9
    else
      (f_2_fail n σ 4).bind fun r10 =>
      some r10
  else
    (f_2_fail n σ 1).bind fun r12 =>
    some r12
abbrev rm_2_takeBracket : Room := { frames := 1, cells := 0, slots := 0, locals := 21 }
set_option maxRecDepth 100000 in
set_option maxHeartbeats 4000000 in
theorem k_2_takeBracket (l : Launch) (D : va_G) (cA : Nat → ClassId) (ad : Nat → Nat) (z : ZX) (hj : inj 120 ad) (n : Nat) (σ : St) (a1 : Int32)  {res : St} (h : f_2_takeBracket n σ a1 = some res) : MXv l D dX 120 cA ad (EX ad z) yX2_takeBracket wsX2_takeBracket rm_2_takeBracket [.ref (ad 6), .int a1] σ res := by
  refine Met.ofW (cc := cX2_takeBracket) (maxL := 2) (ret := none) (by decide) rfl ?_
  intro p e s m args below meth c s₁ B hml hv
  obtain ⟨hargs, hP, hK, hE⟩ := hv
  have hx := B.exec
  have hb := B.bytes
  have hr := B.returns
  have hts := atoms_spec (ws := wsX2_takeBracket) B.pre
  have hown : s.vm.findClass RX2 = some m.cls := findClass_of_methodNamed B.named
  have hlocks := B.notSynchronized
  have X : Cx p s m args c cX2_takeBracket 2 RX2 wsX2_takeBracket D dX 120 cA ad (EX ad z) := ⟨hx, hb, hml, hown, hts, hK, hj, hE, EX_ok ad z⟩
  have hS : va_S (inA 120 ad) s.heap s.heap [] := va_S.rf
  have hl := lv_entry ([.ref (ad 6), .int a1]) (n := 2) (Nat.le_of_ble_eq_true rfl)
  rw [show entryFrame m args 2 = entryFrame m ([.ref (ad 6), .int a1] : List Value).toArray 2 by rw [hargs]]
  rw [lg_entry_eq]
  generalize (lg_sl ([.ref (ad 6), .int a1]) ++ List.replicate (2 - (lg_sl ([.ref (ad 6), .int a1])).length) Slot.unset).toArray = ls at hl ⊢
  have hl : lv_has ls 2 [(0, .ref (ad 6)), (1, .int a1)] := hl
  obtain ⟨QQ, hQQ⟩ : ∃ Q, Q = MQ below (va_Qv (fun u => u = res) (fun u t => va_P D vwCl (ww dX 120 cA ad u) t.heap) (inA 120 ad)) args s 0 0 (inA 120 ad) := ⟨_, rfl⟩
  show W p l e (headSpec wsX2_takeBracket rm_2_takeBracket).room s m args below meth c s.heap [] 0 0 (MQ below (va_Qv (fun u => u = res) (fun u t => va_P D vwCl (ww dX 120 cA ad u) t.heap) (inA 120 ad)) args s 0 0 (inA 120 ad)) _
  rw [← hQQ]
  have in2 : ∀ w ∈ wsX20, w ∈ wsX2_takeBracket := by decide +kernel
  have in6 : ∀ w ∈ wsX60, w ∈ wsX2_takeBracket := by decide +kernel
  have lk40 : Cond.fieldLink RX2 40 "CureTown$Book" "openCount" "I" ∈ wsX2_takeBracket := by decide +kernel
  have lk43 : Cond.fieldLink RX2 43 "CureTown$Book" "openActs" "[I" ∈ wsX2_takeBracket := by decide +kernel
  have lk48 : Cond.fieldLink RX2 48 "CureTown$Book" "current" "LCureTown$Regimen;" ∈ wsX2_takeBracket := by decide +kernel
  have lk112 : Cond.fieldLink RX2 112 "CureTown$Regimen" "count" "I" ∈ wsX2_takeBracket := by decide +kernel
  have lk37 : Cond.fieldLink RX2 37 "CureTown$Book" "wants" "I" ∈ wsX2_takeBracket := by decide +kernel
  unfold f_2_takeBracket at h
  obtain ⟨H, hH⟩ : ∃ H, H = s.heap := ⟨_, rfl⟩
  obtain ⟨locs, hlc⟩ : ∃ q : List Loc, q = [] := ⟨_, rfl⟩
  have hP : va_P D vwCl (ww dX 120 cA ad σ) s.heap := hP
  have hS : va_S (inA 120 ad) s.heap s.heap [] := hS
  rw [← hlc] at hS ⊢
  rw [show W p l e (headSpec wsX2_takeBracket rm_2_takeBracket).room s m args below meth c s.heap locs 0 0 QQ = W p l e (headSpec wsX2_takeBracket rm_2_takeBracket).room s m args below meth c H locs 0 0 QQ by rw [hH]]
  have hS : va_S (inA 120 ad) s.heap H locs := by rw [hH]; exact hS
  have hP : va_P D vwCl (ww dX 120 cA ad σ) H := by rw [hH]; exact hP
  clear hH hlc
  refine lv_iload_n hx hb dX2_takeBracket_0 rfl (lv_at hl 1 rfl) ?_
  refine lv_bipush (v := 10) hx hb dX2_takeBracket_1 (by decide) ?_
  refine lv_icmp_eq (tgt := 14) hx hb dX2_takeBracket_3 (by decide) (fun c1 => ?_) (fun c1 => ?_)
  · have h := it_t c1 h
    refine lv_aload_n hx hb dX2_takeBracket_14 rfl (lv_at hl 0 rfl) ?_
    refine x_gi X hP (j := 7) (by decide) (dX_6) rfl rfl (by decide) in2 lk40 dX2_takeBracket_15 ?_
    refine lv_iconst (v := 5) hx hb dX2_takeBracket_18 (by decide) ?_
    refine lv_icmp_lt (tgt := 30) hx hb dX2_takeBracket_19 (by decide) (fun c2 => ?_) (fun c2 => ?_)
    · have h := it_t c2 h
      refine lv_aload_n hx hb dX2_takeBracket_30 rfl (lv_at hl 0 rfl) ?_
      refine x_gr X hP (j := 8) (by decide) (dX_6) rfl rfl (by decide) in2 lk43 dX2_takeBracket_31 ?_
      refine lv_aload_n hx hb dX2_takeBracket_34 rfl (lv_at hl 0 rfl) ?_
      refine x_gi X hP (j := 7) (by decide) (dX_6) rfl rfl (by decide) in2 lk40 dX2_takeBracket_35 ?_
      refine lv_aload_n hx hb dX2_takeBracket_38 rfl (lv_at hl 0 rfl) ?_
      refine x_gc X hP (j := 9) (by decide) (dX_6) rfl rfl (by decide) in2 lk48 dX2_takeBracket_39 ?_
      obtain ⟨g3, h⟩ := gd_some h
      refine x_gi X hP (j := 1) (fam_lt (inb_lt g3) (by decide)) (dX_44 (inb_lt g3)) rfl rfl (by decide) in6 lk112 dX2_takeBracket_42 ?_
      refine lv_iconst (v := 1) hx hb dX2_takeBracket_45 (by decide) ?_
      refine lv_isub hx hb dX2_takeBracket_46 ?_
      refine lv_topi (fun v4 ev4 => ?_)
      have h := nm_some ev4 h
      obtain ⟨g5, h⟩ := gd_some h
      refine x_si X hP hS (by decide) (dX_10) g5 dX2_takeBracket_47 (fun σ6 eσ6 H locs hP hS => ?_)
      have h := nm_some eσ6 h
      refine lv_aload_n hx hb dX2_takeBracket_48 rfl (lv_at hl 0 rfl) ?_
      refine lv_dup hx hb dX2_takeBracket_49 rfl ?_
      refine x_gi X hP (j := 7) (by decide) (dX_6) rfl rfl (by decide) in2 lk40 dX2_takeBracket_50 ?_
      refine lv_iconst (v := 1) hx hb dX2_takeBracket_53 (by decide) ?_
      refine lv_iadd hx hb dX2_takeBracket_54 ?_
      refine lv_topi (fun v7 ev7 => ?_)
      have h := nm_some ev7 h
      refine x_pi X hP hS (j := 7) (by decide) (dX_6) rfl rfl (by decide) in2 tyX2_ok nmX2 lk40 rfl rfl rfl rfl dX2_takeBracket_55 (fun σ8 eσ8 H locs hP hS => ?_)
      have h := nm_some eσ8 h
      refine lv_aload_n hx hb dX2_takeBracket_58 rfl (lv_at hl 0 rfl) ?_
      refine lv_iconst (v := 3) hx hb dX2_takeBracket_59 (by decide) ?_
      refine x_pi X hP hS (j := 6) (by decide) (dX_6) rfl rfl (by decide) in2 tyX2_ok nmX2 lk37 rfl rfl rfl rfl dX2_takeBracket_60 (fun σ9 eσ9 H locs hP hS => ?_)
      have h := nm_some eσ9 h
      subst hQQ
      exact x_rv X hr hlocks hP hS (Option.some.inj h) dX2_takeBracket_63
    · have h := it_f c2 h
      refine lv_aload_n hx hb dX2_takeBracket_22 rfl (lv_at hl 0 rfl) ?_
      refine lv_iconst (v := 4) hx hb dX2_takeBracket_23 (by decide) ?_
      obtain ⟨r10, k11, h⟩ := bd_some h
      refine x_Vv (rest := []) X hP hS (k_2_fail l D cA ad z hj n σ 4 k11) (by decide) (dX_6) rfl 1 gX2_takeBracket_X2_fail rfl rfl rfl (by decide +kernel) ⟨Nat.le_of_ble_eq_true rfl, Nat.le_of_ble_eq_true rfl⟩ rfl hl.1 rfl (Nat.le_of_ble_eq_true rfl) dX2_takeBracket_24 ⟨Nat.zero_le _, Nat.zero_le _⟩ (fun H locs hP hS => ?_)
      refine lv_goto (tgt := 63) hx hb dX2_takeBracket_27 (by decide) ?_
      subst hQQ
      exact x_rv X hr hlocks hP hS (Option.some.inj h) dX2_takeBracket_63
  · have h := it_f c1 h
    refine lv_aload_n hx hb dX2_takeBracket_6 rfl (lv_at hl 0 rfl) ?_
    refine lv_iconst (v := 1) hx hb dX2_takeBracket_7 (by decide) ?_
    obtain ⟨r12, k13, h⟩ := bd_some h
    refine x_Vv (rest := []) X hP hS (k_2_fail l D cA ad z hj n σ 1 k13) (by decide) (dX_6) rfl 1 gX2_takeBracket_X2_fail rfl rfl rfl (by decide +kernel) ⟨Nat.le_of_ble_eq_true rfl, Nat.le_of_ble_eq_true rfl⟩ rfl hl.1 rfl (Nat.le_of_ble_eq_true rfl) dX2_takeBracket_8 ⟨Nat.zero_le _, Nat.zero_le _⟩ (fun H locs hP hS => ?_)
    refine lv_goto (tgt := 63) hx hb dX2_takeBracket_11 (by decide) ?_
    subst hQQ
    exact x_rv X hr hlocks hP hS (Option.some.inj h) dX2_takeBracket_63
def f_2_take (n : Nat) (σ : St) (a1 : Int32) : Option (St) :=
  nm ((σ.1 6 6)) fun v1 =>
  if v1 = 0 then
    (f_2_takeCure n σ a1).bind fun r3 =>
    some r3
  else if v1 = 1 then
    (f_2_takeName n σ a1).bind fun r6 =>
    some r6
  else if v1 = 2 then
    (f_2_takeColon n σ a1).bind fun r9 =>
    some r9
  else if v1 = 3 then
    (f_2_takeAct n σ a1).bind fun r12 =>
    some r12
  else if v1 = 4 then
    (f_2_takeFirst n σ a1).bind fun r15 =>
    some r15
  else if v1 = 5 then
    (f_2_takeSecond n σ a1).bind fun r18 =>
    some r18
  else 
    (f_2_takeBracket n σ a1).bind fun r20 =>
    some r20
abbrev rm_2_take : Room := { frames := 3, cells := 0, slots := 0, locals := 67 }
set_option maxRecDepth 100000 in
set_option maxHeartbeats 4000000 in
theorem k_2_take (l : Launch) (D : va_G) (cA : Nat → ClassId) (ad : Nat → Nat) (z : ZX) (hj : inj 120 ad) (n : Nat) (σ : St) (a1 : Int32)  {res : St} (h : f_2_take n σ a1 = some res) : MXv l D dX 120 cA ad (EX ad z) yX2_take wsX2_take rm_2_take [.ref (ad 6), .int a1] σ res := by
  refine Met.ofW (cc := cX2_take) (maxL := 2) (ret := none) (by decide) rfl ?_
  intro p e s m args below meth c s₁ B hml hv
  obtain ⟨hargs, hP, hK, hE⟩ := hv
  have hx := B.exec
  have hb := B.bytes
  have hr := B.returns
  have hts := atoms_spec (ws := wsX2_take) B.pre
  have hown : s.vm.findClass RX2 = some m.cls := findClass_of_methodNamed B.named
  have hlocks := B.notSynchronized
  have X : Cx p s m args c cX2_take 2 RX2 wsX2_take D dX 120 cA ad (EX ad z) := ⟨hx, hb, hml, hown, hts, hK, hj, hE, EX_ok ad z⟩
  have hS : va_S (inA 120 ad) s.heap s.heap [] := va_S.rf
  have hl := lv_entry ([.ref (ad 6), .int a1]) (n := 2) (Nat.le_of_ble_eq_true rfl)
  rw [show entryFrame m args 2 = entryFrame m ([.ref (ad 6), .int a1] : List Value).toArray 2 by rw [hargs]]
  rw [lg_entry_eq]
  generalize (lg_sl ([.ref (ad 6), .int a1]) ++ List.replicate (2 - (lg_sl ([.ref (ad 6), .int a1])).length) Slot.unset).toArray = ls at hl ⊢
  have hl : lv_has ls 2 [(0, .ref (ad 6)), (1, .int a1)] := hl
  obtain ⟨QQ, hQQ⟩ : ∃ Q, Q = MQ below (va_Qv (fun u => u = res) (fun u t => va_P D vwCl (ww dX 120 cA ad u) t.heap) (inA 120 ad)) args s 0 0 (inA 120 ad) := ⟨_, rfl⟩
  show W p l e (headSpec wsX2_take rm_2_take).room s m args below meth c s.heap [] 0 0 (MQ below (va_Qv (fun u => u = res) (fun u t => va_P D vwCl (ww dX 120 cA ad u) t.heap) (inA 120 ad)) args s 0 0 (inA 120 ad)) _
  rw [← hQQ]
  have in2 : ∀ w ∈ wsX20, w ∈ wsX2_take := by decide +kernel
  have lk37 : Cond.fieldLink RX2 37 "CureTown$Book" "wants" "I" ∈ wsX2_take := by decide +kernel
  unfold f_2_take at h
  obtain ⟨H, hH⟩ : ∃ H, H = s.heap := ⟨_, rfl⟩
  obtain ⟨locs, hlc⟩ : ∃ q : List Loc, q = [] := ⟨_, rfl⟩
  have hP : va_P D vwCl (ww dX 120 cA ad σ) s.heap := hP
  have hS : va_S (inA 120 ad) s.heap s.heap [] := hS
  rw [← hlc] at hS ⊢
  rw [show W p l e (headSpec wsX2_take rm_2_take).room s m args below meth c s.heap locs 0 0 QQ = W p l e (headSpec wsX2_take rm_2_take).room s m args below meth c H locs 0 0 QQ by rw [hH]]
  have hS : va_S (inA 120 ad) s.heap H locs := by rw [hH]; exact hS
  have hP : va_P D vwCl (ww dX 120 cA ad σ) H := by rw [hH]; exact hP
  clear hH hlc
  refine lv_aload_n hx hb dX2_take_0 rfl (lv_at hl 0 rfl) ?_
  refine x_gi X hP (j := 6) (by decide) (dX_6) rfl rfl (by decide) in2 lk37 dX2_take_1 ?_
  refine lv_topi (fun v1 ev1 => ?_)
  have h := nm_some ev1 h
  by_cases c2 : v1 = 0
  · have h := it_t c2 h
    refine lv_tableIn (off := 40) (tgt := 44) hx hb dX2_take_4 (by rw [c2]; decide) (by rw [c2]; decide) (by rw [c2]; rfl) (by decide) ?_
    refine lv_aload_n hx hb dX2_take_44 rfl (lv_at hl 0 rfl) ?_
    refine lv_iload_n hx hb dX2_take_45 rfl (lv_at hl 1 rfl) ?_
    obtain ⟨r3, k4, h⟩ := bd_some h
    refine x_Vv (rest := []) X hP hS (k_2_takeCure l D cA ad z hj n σ a1 k4) (by decide) (dX_6) rfl 1 gX2_take_X2_takeCure rfl rfl rfl (by decide +kernel) ⟨Nat.le_of_ble_eq_true rfl, Nat.le_of_ble_eq_true rfl⟩ rfl hl.1 rfl (Nat.le_of_ble_eq_true rfl) dX2_take_46 ⟨Nat.zero_le _, Nat.zero_le _⟩ (fun H locs hP hS => ?_)
    refine lv_goto (tgt := 97) hx hb dX2_take_49 (by decide) ?_
    subst hQQ
    exact x_rv X hr hlocks hP hS (Option.some.inj h) dX2_take_97
  · have h := it_f c2 h
    by_cases c5 : v1 = 1
    · have h := it_t c5 h
      refine lv_tableIn (off := 48) (tgt := 52) hx hb dX2_take_4 (by rw [c5]; decide) (by rw [c5]; decide) (by rw [c5]; rfl) (by decide) ?_
      refine lv_aload_n hx hb dX2_take_52 rfl (lv_at hl 0 rfl) ?_
      refine lv_iload_n hx hb dX2_take_53 rfl (lv_at hl 1 rfl) ?_
      obtain ⟨r6, k7, h⟩ := bd_some h
      refine x_Vv (rest := []) X hP hS (k_2_takeName l D cA ad z hj n σ a1 k7) (by decide) (dX_6) rfl 1 gX2_take_X2_takeName rfl rfl rfl (by decide +kernel) ⟨Nat.le_of_ble_eq_true rfl, Nat.le_of_ble_eq_true rfl⟩ rfl hl.1 rfl (Nat.le_of_ble_eq_true rfl) dX2_take_54 ⟨Nat.zero_le _, Nat.zero_le _⟩ (fun H locs hP hS => ?_)
      refine lv_goto (tgt := 97) hx hb dX2_take_57 (by decide) ?_
      subst hQQ
      exact x_rv X hr hlocks hP hS (Option.some.inj h) dX2_take_97
    · have h := it_f c5 h
      by_cases c8 : v1 = 2
      · have h := it_t c8 h
        refine lv_tableIn (off := 56) (tgt := 60) hx hb dX2_take_4 (by rw [c8]; decide) (by rw [c8]; decide) (by rw [c8]; rfl) (by decide) ?_
        refine lv_aload_n hx hb dX2_take_60 rfl (lv_at hl 0 rfl) ?_
        refine lv_iload_n hx hb dX2_take_61 rfl (lv_at hl 1 rfl) ?_
        obtain ⟨r9, k10, h⟩ := bd_some h
        refine x_Vv (rest := []) X hP hS (k_2_takeColon l D cA ad z hj n σ a1 k10) (by decide) (dX_6) rfl 1 gX2_take_X2_takeColon rfl rfl rfl (by decide +kernel) ⟨Nat.le_of_ble_eq_true rfl, Nat.le_of_ble_eq_true rfl⟩ rfl hl.1 rfl (Nat.le_of_ble_eq_true rfl) dX2_take_62 ⟨Nat.zero_le _, Nat.zero_le _⟩ (fun H locs hP hS => ?_)
        refine lv_goto (tgt := 97) hx hb dX2_take_65 (by decide) ?_
        subst hQQ
        exact x_rv X hr hlocks hP hS (Option.some.inj h) dX2_take_97
      · have h := it_f c8 h
        by_cases c11 : v1 = 3
        · have h := it_t c11 h
          refine lv_tableIn (off := 64) (tgt := 68) hx hb dX2_take_4 (by rw [c11]; decide) (by rw [c11]; decide) (by rw [c11]; rfl) (by decide) ?_
          refine lv_aload_n hx hb dX2_take_68 rfl (lv_at hl 0 rfl) ?_
          refine lv_iload_n hx hb dX2_take_69 rfl (lv_at hl 1 rfl) ?_
          obtain ⟨r12, k13, h⟩ := bd_some h
          refine x_Vv (rest := []) X hP hS (k_2_takeAct l D cA ad z hj n σ a1 k13) (by decide) (dX_6) rfl 1 gX2_take_X2_takeAct rfl rfl rfl (by decide +kernel) ⟨Nat.le_of_ble_eq_true rfl, Nat.le_of_ble_eq_true rfl⟩ rfl hl.1 rfl (Nat.le_of_ble_eq_true rfl) dX2_take_70 ⟨Nat.zero_le _, Nat.zero_le _⟩ (fun H locs hP hS => ?_)
          refine lv_goto (tgt := 97) hx hb dX2_take_73 (by decide) ?_
          subst hQQ
          exact x_rv X hr hlocks hP hS (Option.some.inj h) dX2_take_97
        · have h := it_f c11 h
          by_cases c14 : v1 = 4
          · have h := it_t c14 h
            refine lv_tableIn (off := 72) (tgt := 76) hx hb dX2_take_4 (by rw [c14]; decide) (by rw [c14]; decide) (by rw [c14]; rfl) (by decide) ?_
            refine lv_aload_n hx hb dX2_take_76 rfl (lv_at hl 0 rfl) ?_
            refine lv_iload_n hx hb dX2_take_77 rfl (lv_at hl 1 rfl) ?_
            obtain ⟨r15, k16, h⟩ := bd_some h
            refine x_Vv (rest := []) X hP hS (k_2_takeFirst l D cA ad z hj n σ a1 k16) (by decide) (dX_6) rfl 1 gX2_take_X2_takeFirst rfl rfl rfl (by decide +kernel) ⟨Nat.le_of_ble_eq_true rfl, Nat.le_of_ble_eq_true rfl⟩ rfl hl.1 rfl (Nat.le_of_ble_eq_true rfl) dX2_take_78 ⟨Nat.zero_le _, Nat.zero_le _⟩ (fun H locs hP hS => ?_)
            refine lv_goto (tgt := 97) hx hb dX2_take_81 (by decide) ?_
            subst hQQ
            exact x_rv X hr hlocks hP hS (Option.some.inj h) dX2_take_97
          · have h := it_f c14 h
            by_cases c17 : v1 = 5
            · have h := it_t c17 h
              refine lv_tableIn (off := 80) (tgt := 84) hx hb dX2_take_4 (by rw [c17]; decide) (by rw [c17]; decide) (by rw [c17]; rfl) (by decide) ?_
              refine lv_aload_n hx hb dX2_take_84 rfl (lv_at hl 0 rfl) ?_
              refine lv_iload_n hx hb dX2_take_85 rfl (lv_at hl 1 rfl) ?_
              obtain ⟨r18, k19, h⟩ := bd_some h
              refine x_Vv (rest := []) X hP hS (k_2_takeSecond l D cA ad z hj n σ a1 k19) (by decide) (dX_6) rfl 1 gX2_take_X2_takeSecond rfl rfl rfl (by decide +kernel) ⟨Nat.le_of_ble_eq_true rfl, Nat.le_of_ble_eq_true rfl⟩ rfl hl.1 rfl (Nat.le_of_ble_eq_true rfl) dX2_take_86 ⟨Nat.zero_le _, Nat.zero_le _⟩ (fun H locs hP hS => ?_)
              refine lv_goto (tgt := 97) hx hb dX2_take_89 (by decide) ?_
              subst hQQ
              exact x_rv X hr hlocks hP hS (Option.some.inj h) dX2_take_97
            · have h := it_f c17 h
              refine lv_tableOut (tgt := 92) hx hb dX2_take_4 (tb_out 5 (tb_c c17 <| (tb_c c14 <| (tb_c c11 <| (tb_c c8 <| (tb_c c5 <| (tb_c c2 <| tb_0))))))) (by decide) ?_
              refine lv_aload_n hx hb dX2_take_92 rfl (lv_at hl 0 rfl) ?_
              refine lv_iload_n hx hb dX2_take_93 rfl (lv_at hl 1 rfl) ?_
              obtain ⟨r20, k21, h⟩ := bd_some h
              refine x_Vv (rest := []) X hP hS (k_2_takeBracket l D cA ad z hj n σ a1 k21) (by decide) (dX_6) rfl 1 gX2_take_X2_takeBracket rfl rfl rfl (by decide +kernel) ⟨Nat.le_of_ble_eq_true rfl, Nat.le_of_ble_eq_true rfl⟩ rfl hl.1 rfl (Nat.le_of_ble_eq_true rfl) dX2_take_94 ⟨Nat.zero_le _, Nat.zero_le _⟩ (fun H locs hP hS => ?_)
              subst hQQ
              exact x_rv X hr hlocks hP hS (Option.some.inj h) dX2_take_97
def b_2_readTape_34 (n : Nat)  (t8 : Int32 × Int32 × St) : Option ((Int32 × Int32 × St) ⊕ (Int32 × Int32 × St)) :=
  if 600 < t8.2.1 then
    some (.inr (t8.1, t8.2.1, t8.2.2))
  else
    if t8.1 = 0 then
      some (.inr (t8.1, t8.2.1, t8.2.2))
    else
      (f_8_readToken n t8.2.2 ).bind fun r11 =>
      (f_2_take n r11 (r11.1 7 2)).bind fun r13 =>
      if (r13.1 6 3) = 0 then
        if (r13.1 7 2) = 12 then
          nm (t8.2.1 + 1) fun v18 =>
          some (.inl (0, v18, r13))
        else
          nm (t8.2.1 + 1) fun v19 =>
          some (.inl (1, v19, r13))
      else
        nm (t8.2.1 + 1) fun v16 =>
        some (.inl (0, v16, r13))
def f_2_readTape (n : Nat) (σ : St)  : Option (St) :=
  nm (si σ 6 3 0) fun σ1 =>
  nm (si σ1 6 4 (-1)) fun σ2 =>
  nm (si σ2 6 5 (σ2.1 6 2)) fun σ3 =>
  nm (si σ3 6 6 0) fun σ4 =>
  (f_8_rewind n σ4 ).bind fun r5 =>
  (lq (b_2_readTape_34 n ) n (1, 0, r5)).bind fun t1020 =>
  if (t1020.2.2.1 6 3) = 0 then
    nm (si t1020.2.2 6 2 (t1020.2.2.1 6 5)) fun σ1025 =>
    nm (si σ1025 7 1 0) fun σ1026 =>
    some σ1026
  else
    nm (si t1020.2.2 7 1 0) fun σ1024 =>
    some σ1024
abbrev rm_2_readTape : Room := { frames := 8, cells := 0, slots := 0, locals := 184 }
set_option maxRecDepth 100000 in
set_option maxHeartbeats 4000000 in
theorem k_2_readTape (l : Launch) (D : va_G) (cA : Nat → ClassId) (ad : Nat → Nat) (z : ZX) (hj : inj 120 ad) (n : Nat) (σ : St)   {res : St} (h : f_2_readTape n σ  = some res) : MXv l D dX 120 cA ad (EX ad z) yX2_readTape wsX2_readTape rm_2_readTape [.ref (ad 6)] σ res := by
  refine Met.ofW (cc := cX2_readTape) (maxL := 3) (ret := none) (by decide) rfl ?_
  intro p e s m args below meth c s₁ B hml hv
  obtain ⟨hargs, hP, hK, hE⟩ := hv
  have hx := B.exec
  have hb := B.bytes
  have hr := B.returns
  have hts := atoms_spec (ws := wsX2_readTape) B.pre
  have hown : s.vm.findClass RX2 = some m.cls := findClass_of_methodNamed B.named
  have hlocks := B.notSynchronized
  have X : Cx p s m args c cX2_readTape 3 RX2 wsX2_readTape D dX 120 cA ad (EX ad z) := ⟨hx, hb, hml, hown, hts, hK, hj, hE, EX_ok ad z⟩
  have hS : va_S (inA 120 ad) s.heap s.heap [] := va_S.rf
  have hl := lv_entry ([.ref (ad 6)]) (n := 3) (Nat.le_of_ble_eq_true rfl)
  rw [show entryFrame m args 3 = entryFrame m ([.ref (ad 6)] : List Value).toArray 3 by rw [hargs]]
  rw [lg_entry_eq]
  generalize (lg_sl ([.ref (ad 6)]) ++ List.replicate (3 - (lg_sl ([.ref (ad 6)])).length) Slot.unset).toArray = ls at hl ⊢
  have hl : lv_has ls 3 [(0, .ref (ad 6))] := hl
  obtain ⟨QQ, hQQ⟩ : ∃ Q, Q = MQ below (va_Qv (fun u => u = res) (fun u t => va_P D vwCl (ww dX 120 cA ad u) t.heap) (inA 120 ad)) args s 0 0 (inA 120 ad) := ⟨_, rfl⟩
  show W p l e (headSpec wsX2_readTape rm_2_readTape).room s m args below meth c s.heap [] 0 0 (MQ below (va_Qv (fun u => u = res) (fun u t => va_P D vwCl (ww dX 120 cA ad u) t.heap) (inA 120 ad)) args s 0 0 (inA 120 ad)) _
  rw [← hQQ]
  have in2 : ∀ w ∈ wsX20, w ∈ wsX2_readTape := by decide +kernel
  have in8 : ∀ w ∈ wsX80, w ∈ wsX2_readTape := by decide +kernel
  have lk28 : Cond.fieldLink RX2 28 "CureTown$Book" "fault" "I" ∈ wsX2_readTape := by decide +kernel
  have lk31 : Cond.fieldLink RX2 31 "CureTown$Book" "faultPlace" "I" ∈ wsX2_readTape := by decide +kernel
  have lk24 : Cond.fieldLink RX2 24 "CureTown$Book" "count" "I" ∈ wsX2_readTape := by decide +kernel
  have lk34 : Cond.fieldLink RX2 34 "CureTown$Book" "told" "I" ∈ wsX2_readTape := by decide +kernel
  have lk37 : Cond.fieldLink RX2 37 "CureTown$Book" "wants" "I" ∈ wsX2_readTape := by decide +kernel
  have lk12 : Cond.fieldLink RX2 12 "CureTown$Book" "tape" "LCureTown$Tape;" ∈ wsX2_readTape := by decide +kernel
  have lk58 : Cond.fieldLink RX2 58 "CureTown$Tape" "token" "I" ∈ wsX2_readTape := by decide +kernel
  have lk65 : Cond.fieldLink RX2 65 "CureTown$Tape" "length" "I" ∈ wsX2_readTape := by decide +kernel
  unfold f_2_readTape at h
  obtain ⟨H, hH⟩ : ∃ H, H = s.heap := ⟨_, rfl⟩
  obtain ⟨locs, hlc⟩ : ∃ q : List Loc, q = [] := ⟨_, rfl⟩
  have hP : va_P D vwCl (ww dX 120 cA ad σ) s.heap := hP
  have hS : va_S (inA 120 ad) s.heap s.heap [] := hS
  rw [← hlc] at hS ⊢
  rw [show W p l e (headSpec wsX2_readTape rm_2_readTape).room s m args below meth c s.heap locs 0 0 QQ = W p l e (headSpec wsX2_readTape rm_2_readTape).room s m args below meth c H locs 0 0 QQ by rw [hH]]
  have hS : va_S (inA 120 ad) s.heap H locs := by rw [hH]; exact hS
  have hP : va_P D vwCl (ww dX 120 cA ad σ) H := by rw [hH]; exact hP
  clear hH hlc
  refine lv_aload_n hx hb dX2_readTape_0 rfl (lv_at hl 0 rfl) ?_
  refine lv_iconst (v := 0) hx hb dX2_readTape_1 (by decide) ?_
  refine x_pi X hP hS (j := 3) (by decide) (dX_6) rfl rfl (by decide) in2 tyX2_ok nmX2 lk28 rfl rfl rfl rfl dX2_readTape_2 (fun σ1 eσ1 H locs hP hS => ?_)
  have h := nm_some eσ1 h
  refine lv_aload_n hx hb dX2_readTape_5 rfl (lv_at hl 0 rfl) ?_
  refine lv_iconst (v := (-1)) hx hb dX2_readTape_6 (by decide) ?_
  refine x_pi X hP hS (j := 4) (by decide) (dX_6) rfl rfl (by decide) in2 tyX2_ok nmX2 lk31 rfl rfl rfl rfl dX2_readTape_7 (fun σ2 eσ2 H locs hP hS => ?_)
  have h := nm_some eσ2 h
  refine lv_aload_n hx hb dX2_readTape_10 rfl (lv_at hl 0 rfl) ?_
  refine lv_aload_n hx hb dX2_readTape_11 rfl (lv_at hl 0 rfl) ?_
  refine x_gi X hP (j := 2) (by decide) (dX_6) rfl rfl (by decide) in2 lk24 dX2_readTape_12 ?_
  refine x_pi X hP hS (j := 5) (by decide) (dX_6) rfl rfl (by decide) in2 tyX2_ok nmX2 lk34 rfl rfl rfl rfl dX2_readTape_15 (fun σ3 eσ3 H locs hP hS => ?_)
  have h := nm_some eσ3 h
  refine lv_aload_n hx hb dX2_readTape_18 rfl (lv_at hl 0 rfl) ?_
  refine lv_iconst (v := 0) hx hb dX2_readTape_19 (by decide) ?_
  refine x_pi X hP hS (j := 6) (by decide) (dX_6) rfl rfl (by decide) in2 tyX2_ok nmX2 lk37 rfl rfl rfl rfl dX2_readTape_20 (fun σ4 eσ4 H locs hP hS => ?_)
  have h := nm_some eσ4 h
  refine lv_aload_n hx hb dX2_readTape_23 rfl (lv_at hl 0 rfl) ?_
  refine x_gr X hP (j := 0) (by decide) (dX_6) rfl rfl (by decide) in2 lk12 dX2_readTape_24 ?_
  obtain ⟨r5, k6, h⟩ := bd_some h
  refine x_Vv (rest := []) X hP hS (k_8_rewind l D cA ad z hj n σ4  k6) (by decide) (dX_7) rfl 0 gX2_readTape_X8_rewind rfl rfl rfl (by decide +kernel) ⟨Nat.le_of_ble_eq_true rfl, Nat.le_of_ble_eq_true rfl⟩ rfl hl.1 rfl (Nat.le_of_ble_eq_true rfl) dX2_readTape_27 ⟨Nat.zero_le _, Nat.zero_le _⟩ (fun H locs hP hS => ?_)
  refine lv_iconst (v := 1) hx hb dX2_readTape_30 (by decide) ?_
  refine lv_istore_n (lv' := [(1, .int 1), (0, .ref (ad 6))]) hx hb dX2_readTape_31 rfl hl (by decide) rfl (fun ls hl => ?_)
  refine lv_iconst (v := 0) hx hb dX2_readTape_32 (by decide) ?_
  refine lv_istore_n (lv' := [(2, .int 0), (1, .int 1), (0, .ref (ad 6))]) hx hb dX2_readTape_33 rfl hl (by decide) rfl (fun ls hl => ?_)
  obtain ⟨t1020, o1022, h⟩ := bd_some h
  refine lq_rule (P := fun t8 : Int32 × Int32 × St => ∀ (H : Heap) (locs : List Loc) (ls : Array Slot), va_P D vwCl (ww dX 120 cA ad t8.2.2) H → va_S (inA 120 ad) s.heap H locs → lv_has ls 3 [(0, .ref (ad 6)), (1, .int t8.1), (2, .int t8.2.1)] → W p l e (headSpec wsX2_readTape rm_2_readTape).room s m args below meth c H locs 0 0 QQ (F0 m 34 ls [])) (X := fun t1020 : Int32 × Int32 × St => ∀ (H : Heap) (locs : List Loc) (ls : Array Slot), va_P D vwCl (ww dX 120 cA ad t1020.2.2) H → va_S (inA 120 ad) s.heap H locs → lv_has ls 3 [(0, .ref (ad 6)), (1, .int t1020.1), (2, .int t1020.2.1)] → W p l e (headSpec wsX2_readTape rm_2_readTape).room s m args below meth c H locs 0 0 QQ (F0 m 94 ls [])) ?_ n _ _ o1022 ?_ H locs ls hP hS (lv_sub hl [2, 1, 0] rfl)
  · clear h hP hS hl
    intro t8 rL7 h hCL7 hEL7 H locs ls hP hS hl
    unfold b_2_readTape_34 at h
    refine lv_iload_n hx hb dX2_readTape_34 rfl (lv_at hl 2 rfl) ?_
    refine lv_sipush (v := 600) hx hb dX2_readTape_35 (by decide) ?_
    refine lv_icmp_gt (tgt := 94) hx hb dX2_readTape_38 (by decide) (fun c9 => ?_) (fun c9 => ?_)
    · have h := it_t c9 h
      exact hEL7 _ (Option.some.inj h).symm H locs ls hP hS (lv_sub hl [0, 1, 2] rfl)
    · have h := it_f c9 h
      refine lv_iload_n hx hb dX2_readTape_41 rfl (lv_at hl 1 rfl) ?_
      refine lv_if_eq (tgt := 94) hx hb dX2_readTape_42 (by decide) (fun c10 => ?_) (fun c10 => ?_)
      · have h := it_t c10 h
        exact hEL7 _ (Option.some.inj h).symm H locs ls hP hS (lv_sub hl [0, 1, 2] rfl)
      · have h := it_f c10 h
        refine lv_aload_n hx hb dX2_readTape_45 rfl (lv_at hl 0 rfl) ?_
        refine x_gr X hP (j := 0) (by decide) (dX_6) rfl rfl (by decide) in2 lk12 dX2_readTape_46 ?_
        obtain ⟨r11, k12, h⟩ := bd_some h
        refine x_Vv (rest := []) X hP hS (k_8_readToken l D cA ad z hj n t8.2.2  k12) (by decide) (dX_7) rfl 0 gX2_readTape_X8_readToken rfl rfl rfl (by decide +kernel) ⟨Nat.le_of_ble_eq_true rfl, Nat.le_of_ble_eq_true rfl⟩ rfl hl.1 rfl (Nat.le_of_ble_eq_true rfl) dX2_readTape_49 ⟨Nat.zero_le _, Nat.zero_le _⟩ (fun H locs hP hS => ?_)
        refine lv_aload_n hx hb dX2_readTape_52 rfl (lv_at hl 0 rfl) ?_
        refine lv_aload_n hx hb dX2_readTape_53 rfl (lv_at hl 0 rfl) ?_
        refine x_gr X hP (j := 0) (by decide) (dX_6) rfl rfl (by decide) in2 lk12 dX2_readTape_54 ?_
        refine x_gi X hP (j := 2) (by decide) (dX_7) rfl rfl (by decide) in8 lk58 dX2_readTape_57 ?_
        obtain ⟨r13, k14, h⟩ := bd_some h
        refine x_Vv (rest := []) X hP hS (k_2_take l D cA ad z hj n r11 (r11.1 7 2) k14) (by decide) (dX_6) rfl 1 gX2_readTape_X2_take rfl rfl rfl (by decide +kernel) ⟨Nat.le_of_ble_eq_true rfl, Nat.le_of_ble_eq_true rfl⟩ rfl hl.1 rfl (Nat.le_of_ble_eq_true rfl) dX2_readTape_60 ⟨Nat.zero_le _, Nat.zero_le _⟩ (fun H locs hP hS => ?_)
        refine lv_aload_n hx hb dX2_readTape_63 rfl (lv_at hl 0 rfl) ?_
        refine x_gi X hP (j := 3) (by decide) (dX_6) rfl rfl (by decide) in2 lk28 dX2_readTape_64 ?_
        refine lv_if_ne (tgt := 86) hx hb dX2_readTape_67 (by decide) (fun c15 => ?_) (fun c15 => ?_)
        · have h := it_f c15 h
          refine lv_iconst (v := 0) hx hb dX2_readTape_86 (by decide) ?_
          refine lv_istore_n (lv' := [(1, .int 0), (0, .ref (ad 6)), (2, .int t8.2.1)]) hx hb dX2_readTape_87 rfl hl (by decide) rfl (fun ls hl => ?_)
          obtain ⟨v16, ev16⟩ : ∃ y : Int32, y = t8.2.1 + 1 := ⟨_, rfl⟩
          have h := nm_some ev16 h
          refine lv_iinc (v := v16) (lv' := [(2, .int v16), (1, .int 0), (0, .ref (ad 6))]) hx hb dX2_readTape_88 hl (k := 2) rfl (by rw [ev16]; rfl) (by decide) rfl (fun ls hl => ?_)
          refine lv_goto (tgt := 34) hx hb dX2_readTape_91 (by decide) ?_
          exact hCL7 _ (Option.some.inj h).symm H locs ls hP hS (lv_sub hl [2, 1, 0] rfl)
        · have h := it_t c15 h
          refine lv_aload_n hx hb dX2_readTape_70 rfl (lv_at hl 0 rfl) ?_
          refine x_gr X hP (j := 0) (by decide) (dX_6) rfl rfl (by decide) in2 lk12 dX2_readTape_71 ?_
          refine x_gi X hP (j := 2) (by decide) (dX_7) rfl rfl (by decide) in8 lk58 dX2_readTape_74 ?_
          refine lv_bipush (v := 12) hx hb dX2_readTape_77 (by decide) ?_
          refine lv_icmp_eq (tgt := 86) hx hb dX2_readTape_79 (by decide) (fun c17 => ?_) (fun c17 => ?_)
          · have h := it_t c17 h
            refine lv_iconst (v := 0) hx hb dX2_readTape_86 (by decide) ?_
            refine lv_istore_n (lv' := [(1, .int 0), (0, .ref (ad 6)), (2, .int t8.2.1)]) hx hb dX2_readTape_87 rfl hl (by decide) rfl (fun ls hl => ?_)
            obtain ⟨v18, ev18⟩ : ∃ y : Int32, y = t8.2.1 + 1 := ⟨_, rfl⟩
            have h := nm_some ev18 h
            refine lv_iinc (v := v18) (lv' := [(2, .int v18), (1, .int 0), (0, .ref (ad 6))]) hx hb dX2_readTape_88 hl (k := 2) rfl (by rw [ev18]; rfl) (by decide) rfl (fun ls hl => ?_)
            refine lv_goto (tgt := 34) hx hb dX2_readTape_91 (by decide) ?_
            exact hCL7 _ (Option.some.inj h).symm H locs ls hP hS (lv_sub hl [2, 1, 0] rfl)
          · have h := it_f c17 h
            refine lv_iconst (v := 1) hx hb dX2_readTape_82 (by decide) ?_
            refine lv_goto (tgt := 87) hx hb dX2_readTape_83 (by decide) ?_
            refine lv_istore_n (lv' := [(1, .int 1), (0, .ref (ad 6)), (2, .int t8.2.1)]) hx hb dX2_readTape_87 rfl hl (by decide) rfl (fun ls hl => ?_)
            obtain ⟨v19, ev19⟩ : ∃ y : Int32, y = t8.2.1 + 1 := ⟨_, rfl⟩
            have h := nm_some ev19 h
            refine lv_iinc (v := v19) (lv' := [(2, .int v19), (1, .int 1), (0, .ref (ad 6))]) hx hb dX2_readTape_88 hl (k := 2) rfl (by rw [ev19]; rfl) (by decide) rfl (fun ls hl => ?_)
            refine lv_goto (tgt := 34) hx hb dX2_readTape_91 (by decide) ?_
            exact hCL7 _ (Option.some.inj h).symm H locs ls hP hS (lv_sub hl [2, 1, 0] rfl)
  · intro H locs ls hP hS hl
    refine lv_aload_n hx hb dX2_readTape_94 rfl (lv_at hl 0 rfl) ?_
    refine x_gi X hP (j := 3) (by decide) (dX_6) rfl rfl (by decide) in2 lk28 dX2_readTape_95 ?_
    refine lv_if_ne (tgt := 109) hx hb dX2_readTape_98 (by decide) (fun c1023 => ?_) (fun c1023 => ?_)
    · have h := it_f c1023 h
      refine lv_aload_n hx hb dX2_readTape_109 rfl (lv_at hl 0 rfl) ?_
      refine x_gr X hP (j := 0) (by decide) (dX_6) rfl rfl (by decide) in2 lk12 dX2_readTape_110 ?_
      refine lv_iconst (v := 0) hx hb dX2_readTape_113 (by decide) ?_
      refine x_pi X hP hS (j := 1) (by decide) (dX_7) rfl rfl (by decide) in8 tyX8_ok nmX8 lk65 rfl rfl rfl rfl dX2_readTape_114 (fun σ1024 eσ1024 H locs hP hS => ?_)
      have h := nm_some eσ1024 h
      subst hQQ
      exact x_rv X hr hlocks hP hS (Option.some.inj h) dX2_readTape_117
    · have h := it_t c1023 h
      refine lv_aload_n hx hb dX2_readTape_101 rfl (lv_at hl 0 rfl) ?_
      refine lv_aload_n hx hb dX2_readTape_102 rfl (lv_at hl 0 rfl) ?_
      refine x_gi X hP (j := 5) (by decide) (dX_6) rfl rfl (by decide) in2 lk34 dX2_readTape_103 ?_
      refine x_pi X hP hS (j := 2) (by decide) (dX_6) rfl rfl (by decide) in2 tyX2_ok nmX2 lk24 rfl rfl rfl rfl dX2_readTape_106 (fun σ1025 eσ1025 H locs hP hS => ?_)
      have h := nm_some eσ1025 h
      refine lv_aload_n hx hb dX2_readTape_109 rfl (lv_at hl 0 rfl) ?_
      refine x_gr X hP (j := 0) (by decide) (dX_6) rfl rfl (by decide) in2 lk12 dX2_readTape_110 ?_
      refine lv_iconst (v := 0) hx hb dX2_readTape_113 (by decide) ?_
      refine x_pi X hP hS (j := 1) (by decide) (dX_7) rfl rfl (by decide) in8 tyX8_ok nmX8 lk65 rfl rfl rfl rfl dX2_readTape_114 (fun σ1026 eσ1026 H locs hP hS => ?_)
      have h := nm_some eσ1026 h
      subst hQQ
      exact x_rv X hr hlocks hP hS (Option.some.inj h) dX2_readTape_117
