def f_10_spring (n : Nat) (σ : St) (a1 : Int32) (a2 : Int32) (a3 : Int32) (a4 : Int32) (a5 : Int32) : Option (Int32 × St) :=
  (f_10_isBelow n σ a1 4).bind fun r1 =>
  if r1.1 = 0 then
    some (0, r1.2)
  else
    (f_10_isBelow n r1.2 a2 10).bind fun r4 =>
    if r4.1 = 0 then
      some (0, r4.2)
    else
      (f_10_isBelow n r4.2 a5 10).bind fun r7 =>
      if r7.1 = 0 then
        some (0, r7.2)
      else
        if a3 < 0 then
          some (0, r7.2)
        else
          if a4 < a3 then
            some (0, r7.2)
          else
            if a4 ≤ 48 then
              gd (inb a1 4) <| nm (si r7.2 (22 + a1.toNatClampNeg) 0 a2) fun σ14 =>
              nm (si σ14 (22 + a1.toNatClampNeg) 1 a3) fun σ15 =>
              nm (si σ15 (22 + a1.toNatClampNeg) 2 a4) fun σ16 =>
              nm (si σ16 (22 + a1.toNatClampNeg) 3 a5) fun σ17 =>
              some (1, σ17)
            else
              some (0, r7.2)
abbrev rm_10_spring : Room := { frames := 1, cells := 0, slots := 0, locals := 21 }
set_option maxRecDepth 100000 in
set_option maxHeartbeats 4000000 in
theorem k_10_spring (l : Launch) (D : va_G) (cA : Nat → ClassId) (ad : Nat → Nat) (z : ZX) (hj : inj 120 ad) (n : Nat) (σ : St) (a1 : Int32) (a2 : Int32) (a3 : Int32) (a4 : Int32) (a5 : Int32)  {res : Int32 × St} (h : f_10_spring n σ a1 a2 a3 a4 a5 = some res) : MXi l D dX 120 cA ad (EX ad z) yX10_spring wsX10_spring rm_10_spring [.ref (ad 0), .int a1, .int a2, .int a3, .int a4, .int a5] σ res := by
  refine Met.ofW (cc := cX10_spring) (maxL := 7) (ret := (some .boolean)) (by decide) rfl ?_
  intro p e s m args below meth c s₁ B hml hv
  obtain ⟨hargs, hP, hK, hE⟩ := hv
  have hx := B.exec
  have hb := B.bytes
  have hr := B.returns
  have hts := atoms_spec (ws := wsX10_spring) B.pre
  have hown : s.vm.findClass RX10 = some m.cls := findClass_of_methodNamed B.named
  have hlocks := B.notSynchronized
  have X : Cx p s m args c cX10_spring 7 RX10 wsX10_spring D dX 120 cA ad (EX ad z) := ⟨hx, hb, hml, hown, hts, hK, hj, hE, EX_ok ad z⟩
  have hS : va_S (inA 120 ad) s.heap s.heap [] := va_S.rf
  have hl := lv_entry ([.ref (ad 0), .int a1, .int a2, .int a3, .int a4, .int a5]) (n := 7) (Nat.le_of_ble_eq_true rfl)
  rw [show entryFrame m args 7 = entryFrame m ([.ref (ad 0), .int a1, .int a2, .int a3, .int a4, .int a5] : List Value).toArray 7 by rw [hargs]]
  rw [lg_entry_eq]
  generalize (lg_sl ([.ref (ad 0), .int a1, .int a2, .int a3, .int a4, .int a5]) ++ List.replicate (7 - (lg_sl ([.ref (ad 0), .int a1, .int a2, .int a3, .int a4, .int a5])).length) Slot.unset).toArray = ls at hl ⊢
  have hl : lv_has ls 7 [(0, .ref (ad 0)), (1, .int a1), (2, .int a2), (3, .int a3), (4, .int a4), (5, .int a5)] := hl
  obtain ⟨QQ, hQQ⟩ : ∃ Q, Q = MQ below (va_Qi (fun r u => r = res.1 ∧ u = res.2) (fun u t => va_P D vwCl (ww dX 120 cA ad u) t.heap) (inA 120 ad)) args s 0 0 (inA 120 ad) := ⟨_, rfl⟩
  show W p l e (headSpec wsX10_spring rm_10_spring).room s m args below meth c s.heap [] 0 0 (MQ below (va_Qi (fun r u => r = res.1 ∧ u = res.2) (fun u t => va_P D vwCl (ww dX 120 cA ad u) t.heap) (inA 120 ad)) args s 0 0 (inA 120 ad)) _
  rw [← hQQ]
  have in10 : ∀ w ∈ wsX100, w ∈ wsX10_spring := by decide +kernel
  have in9 : ∀ w ∈ wsX90, w ∈ wsX10_spring := by decide +kernel
  have in7 : ∀ w ∈ wsX70, w ∈ wsX10_spring := by decide +kernel
  have lk10 : Cond.fieldLink RX10 10 "CureTown" "town" "LCureTown$Town;" ∈ wsX10_spring := by decide +kernel
  have lk48 : Cond.fieldLink RX10 48 "CureTown$Town" "springs" "[LCureTown$Spring;" ∈ wsX10_spring := by decide +kernel
  have lk52 : Cond.fieldLink RX10 52 "CureTown$Spring" "glasses" "I" ∈ wsX10_spring := by decide +kernel
  have lk57 : Cond.fieldLink RX10 57 "CureTown$Spring" "from" "I" ∈ wsX10_spring := by decide +kernel
  have lk60 : Cond.fieldLink RX10 60 "CureTown$Spring" "until" "I" ∈ wsX10_spring := by decide +kernel
  have lk63 : Cond.fieldLink RX10 63 "CureTown$Spring" "strength" "I" ∈ wsX10_spring := by decide +kernel
  unfold f_10_spring at h
  obtain ⟨H, hH⟩ : ∃ H, H = s.heap := ⟨_, rfl⟩
  obtain ⟨locs, hlc⟩ : ∃ q : List Loc, q = [] := ⟨_, rfl⟩
  have hP : va_P D vwCl (ww dX 120 cA ad σ) s.heap := hP
  have hS : va_S (inA 120 ad) s.heap s.heap [] := hS
  rw [← hlc] at hS ⊢
  rw [show W p l e (headSpec wsX10_spring rm_10_spring).room s m args below meth c s.heap locs 0 0 QQ = W p l e (headSpec wsX10_spring rm_10_spring).room s m args below meth c H locs 0 0 QQ by rw [hH]]
  have hS : va_S (inA 120 ad) s.heap H locs := by rw [hH]; exact hS
  have hP : va_P D vwCl (ww dX 120 cA ad σ) H := by rw [hH]; exact hP
  clear hH hlc
  refine lv_iload_n hx hb dX10_spring_0 rfl (lv_at hl 1 rfl) ?_
  refine lv_iconst (v := 4) hx hb dX10_spring_1 (by decide) ?_
  obtain ⟨r1, k2, h⟩ := bd_some h
  refine x_Si (rest := []) X hP hS (k_10_isBelow l D cA ad z hj n σ a1 4 k2) 2 gX10_spring_X10_isBelow rfl rfl rfl (by decide +kernel) ⟨Nat.le_of_ble_eq_true rfl, Nat.le_of_ble_eq_true rfl⟩ rfl hl.1 rfl (Nat.le_of_ble_eq_true rfl) dX10_spring_2 ⟨Nat.zero_le _, Nat.zero_le _⟩ (fun H locs hP hS => ?_)
  refine lv_if_eq (tgt := 27) hx hb dX10_spring_5 (by decide) (fun c3 => ?_) (fun c3 => ?_)
  · have h := it_t c3 h
    refine lv_iconst (v := 0) hx hb dX10_spring_27 (by decide) ?_
    subst hQQ
    exact x_rz X hr hlocks hP hS (by decide +kernel) (Option.some.inj h) dX10_spring_28
  · have h := it_f c3 h
    refine lv_iload_n hx hb dX10_spring_8 rfl (lv_at hl 2 rfl) ?_
    refine lv_bipush (v := 10) hx hb dX10_spring_9 (by decide) ?_
    obtain ⟨r4, k5, h⟩ := bd_some h
    refine x_Si (rest := []) X hP hS (k_10_isBelow l D cA ad z hj n r1.2 a2 10 k5) 2 gX10_spring_X10_isBelow rfl rfl rfl (by decide +kernel) ⟨Nat.le_of_ble_eq_true rfl, Nat.le_of_ble_eq_true rfl⟩ rfl hl.1 rfl (Nat.le_of_ble_eq_true rfl) dX10_spring_11 ⟨Nat.zero_le _, Nat.zero_le _⟩ (fun H locs hP hS => ?_)
    refine lv_if_eq (tgt := 27) hx hb dX10_spring_14 (by decide) (fun c6 => ?_) (fun c6 => ?_)
    · have h := it_t c6 h
      refine lv_iconst (v := 0) hx hb dX10_spring_27 (by decide) ?_
      subst hQQ
      exact x_rz X hr hlocks hP hS (by decide +kernel) (Option.some.inj h) dX10_spring_28
    · have h := it_f c6 h
      refine lv_iload hx hb dX10_spring_17 (lv_at hl 5 rfl) ?_
      refine lv_bipush (v := 10) hx hb dX10_spring_19 (by decide) ?_
      obtain ⟨r7, k8, h⟩ := bd_some h
      refine x_Si (rest := []) X hP hS (k_10_isBelow l D cA ad z hj n r4.2 a5 10 k8) 2 gX10_spring_X10_isBelow rfl rfl rfl (by decide +kernel) ⟨Nat.le_of_ble_eq_true rfl, Nat.le_of_ble_eq_true rfl⟩ rfl hl.1 rfl (Nat.le_of_ble_eq_true rfl) dX10_spring_21 ⟨Nat.zero_le _, Nat.zero_le _⟩ (fun H locs hP hS => ?_)
      refine lv_if_ne (tgt := 29) hx hb dX10_spring_24 (by decide) (fun c9 => ?_) (fun c9 => ?_)
      · have h := it_f c9 h
        refine lv_iload_n hx hb dX10_spring_29 rfl (lv_at hl 3 rfl) ?_
        refine lv_if_lt (tgt := 46) hx hb dX10_spring_30 (by decide) (fun c10 => ?_) (fun c10 => ?_)
        · have h := it_t c10 h
          refine lv_iconst (v := 0) hx hb dX10_spring_46 (by decide) ?_
          subst hQQ
          exact x_rz X hr hlocks hP hS (by decide +kernel) (Option.some.inj h) dX10_spring_47
        · have h := it_f c10 h
          refine lv_iload_n hx hb dX10_spring_33 rfl (lv_at hl 3 rfl) ?_
          refine lv_iload hx hb dX10_spring_34 (lv_at hl 4 rfl) ?_
          refine lv_icmp_gt (tgt := 46) hx hb dX10_spring_36 (by decide) (fun c11 => ?_) (fun c11 => ?_)
          · have h := it_t c11 h
            refine lv_iconst (v := 0) hx hb dX10_spring_46 (by decide) ?_
            subst hQQ
            exact x_rz X hr hlocks hP hS (by decide +kernel) (Option.some.inj h) dX10_spring_47
          · have h := it_f c11 h
            refine lv_iload hx hb dX10_spring_39 (lv_at hl 4 rfl) ?_
            refine lv_bipush (v := 48) hx hb dX10_spring_41 (by decide) ?_
            refine lv_icmp_le (tgt := 48) hx hb dX10_spring_43 (by decide) (fun c12 => ?_) (fun c12 => ?_)
            · have h := it_t c12 h
              refine lv_aload_n hx hb dX10_spring_48 rfl (lv_at hl 0 rfl) ?_
              refine x_gr X hP (j := 0) (by decide) (dX_0) rfl rfl (by decide) in10 lk10 dX10_spring_49 ?_
              refine x_gr X hP (j := 0) (by decide) (dX_1) rfl rfl (by decide) in9 lk48 dX10_spring_52 ?_
              refine lv_iload_n hx hb dX10_spring_55 rfl (lv_at hl 1 rfl) ?_
              obtain ⟨g13, h⟩ := gd_some h
              refine x_ar X hP (by decide) (dX_2) g13 dX10_spring_56 ?_
              refine lv_astore (lv' := [(6, .ref (ad (22 + a1.toNatClampNeg))), (0, .ref (ad 0)), (1, .int a1), (2, .int a2), (3, .int a3), (4, .int a4), (5, .int a5)]) hx hb dX10_spring_57 hl (by decide) rfl (fun ls hl => ?_)
              refine lv_aload hx hb dX10_spring_59 (lv_at hl 0 rfl) ?_
              refine lv_iload_n hx hb dX10_spring_61 rfl (lv_at hl 3 rfl) ?_
              refine x_pi X hP hS (j := 0) (fam_lt (inb_lt g13) (by decide)) (dX_22 (inb_lt g13)) rfl rfl (by decide) in7 tyX7_ok nmX7 lk52 rfl rfl rfl rfl dX10_spring_62 (fun σ14 eσ14 H locs hP hS => ?_)
              have h := nm_some eσ14 h
              refine lv_aload hx hb dX10_spring_65 (lv_at hl 0 rfl) ?_
              refine lv_iload_n hx hb dX10_spring_67 rfl (lv_at hl 4 rfl) ?_
              refine x_pi X hP hS (j := 1) (fam_lt (inb_lt g13) (by decide)) (dX_22 (inb_lt g13)) rfl rfl (by decide) in7 tyX7_ok nmX7 lk57 rfl rfl rfl rfl dX10_spring_68 (fun σ15 eσ15 H locs hP hS => ?_)
              have h := nm_some eσ15 h
              refine lv_aload hx hb dX10_spring_71 (lv_at hl 0 rfl) ?_
              refine lv_iload hx hb dX10_spring_73 (lv_at hl 5 rfl) ?_
              refine x_pi X hP hS (j := 2) (fam_lt (inb_lt g13) (by decide)) (dX_22 (inb_lt g13)) rfl rfl (by decide) in7 tyX7_ok nmX7 lk60 rfl rfl rfl rfl dX10_spring_75 (fun σ16 eσ16 H locs hP hS => ?_)
              have h := nm_some eσ16 h
              refine lv_aload hx hb dX10_spring_78 (lv_at hl 0 rfl) ?_
              refine lv_iload hx hb dX10_spring_80 (lv_at hl 6 rfl) ?_
              refine x_pi X hP hS (j := 3) (fam_lt (inb_lt g13) (by decide)) (dX_22 (inb_lt g13)) rfl rfl (by decide) in7 tyX7_ok nmX7 lk63 rfl rfl rfl rfl dX10_spring_82 (fun σ17 eσ17 H locs hP hS => ?_)
              have h := nm_some eσ17 h
              refine lv_iconst (v := 1) hx hb dX10_spring_85 (by decide) ?_
              subst hQQ
              exact x_rz X hr hlocks hP hS (by decide +kernel) (Option.some.inj h) dX10_spring_86
            · have h := it_f c12 h
              refine lv_iconst (v := 0) hx hb dX10_spring_46 (by decide) ?_
              subst hQQ
              exact x_rz X hr hlocks hP hS (by decide +kernel) (Option.some.inj h) dX10_spring_47
      · have h := it_t c9 h
        refine lv_iconst (v := 0) hx hb dX10_spring_27 (by decide) ?_
        subst hQQ
        exact x_rz X hr hlocks hP hS (by decide +kernel) (Option.some.inj h) dX10_spring_28
def f_10_bath (n : Nat) (σ : St) (a1 : Int32) (a2 : Int32) (a3 : Int32) : Option (Int32 × St) :=
  (f_10_isBelow n σ a1 6).bind fun r1 =>
  if r1.1 = 0 then
    some (0, r1.2)
  else
    (f_10_isBelow n r1.2 a2 3).bind fun r4 =>
    if r4.1 = 0 then
      some (0, r4.2)
    else
      gd (inb a1 6) <| nm (si r4.2 (30 + a1.toNatClampNeg) 0 a2) fun σ8 =>
      gd (isb a3) <| nm (si σ8 (30 + a1.toNatClampNeg) 1 a3) fun σ9 =>
      some (1, σ9)
abbrev rm_10_bath : Room := { frames := 1, cells := 0, slots := 0, locals := 21 }
set_option maxRecDepth 100000 in
set_option maxHeartbeats 4000000 in
theorem k_10_bath (l : Launch) (D : va_G) (cA : Nat → ClassId) (ad : Nat → Nat) (z : ZX) (hj : inj 120 ad) (n : Nat) (σ : St) (a1 : Int32) (a2 : Int32) (a3 : Int32)  {res : Int32 × St} (h : f_10_bath n σ a1 a2 a3 = some res) : MXi l D dX 120 cA ad (EX ad z) yX10_bath wsX10_bath rm_10_bath [.ref (ad 0), .int a1, .int a2, .int a3] σ res := by
  refine Met.ofW (cc := cX10_bath) (maxL := 4) (ret := (some .boolean)) (by decide) rfl ?_
  intro p e s m args below meth c s₁ B hml hv
  obtain ⟨hargs, hP, hK, hE⟩ := hv
  have hx := B.exec
  have hb := B.bytes
  have hr := B.returns
  have hts := atoms_spec (ws := wsX10_bath) B.pre
  have hown : s.vm.findClass RX10 = some m.cls := findClass_of_methodNamed B.named
  have hlocks := B.notSynchronized
  have X : Cx p s m args c cX10_bath 4 RX10 wsX10_bath D dX 120 cA ad (EX ad z) := ⟨hx, hb, hml, hown, hts, hK, hj, hE, EX_ok ad z⟩
  have hS : va_S (inA 120 ad) s.heap s.heap [] := va_S.rf
  have hl := lv_entry ([.ref (ad 0), .int a1, .int a2, .int a3]) (n := 4) (Nat.le_of_ble_eq_true rfl)
  rw [show entryFrame m args 4 = entryFrame m ([.ref (ad 0), .int a1, .int a2, .int a3] : List Value).toArray 4 by rw [hargs]]
  rw [lg_entry_eq]
  generalize (lg_sl ([.ref (ad 0), .int a1, .int a2, .int a3]) ++ List.replicate (4 - (lg_sl ([.ref (ad 0), .int a1, .int a2, .int a3])).length) Slot.unset).toArray = ls at hl ⊢
  have hl : lv_has ls 4 [(0, .ref (ad 0)), (1, .int a1), (2, .int a2), (3, .int a3)] := hl
  obtain ⟨QQ, hQQ⟩ : ∃ Q, Q = MQ below (va_Qi (fun r u => r = res.1 ∧ u = res.2) (fun u t => va_P D vwCl (ww dX 120 cA ad u) t.heap) (inA 120 ad)) args s 0 0 (inA 120 ad) := ⟨_, rfl⟩
  show W p l e (headSpec wsX10_bath rm_10_bath).room s m args below meth c s.heap [] 0 0 (MQ below (va_Qi (fun r u => r = res.1 ∧ u = res.2) (fun u t => va_P D vwCl (ww dX 120 cA ad u) t.heap) (inA 120 ad)) args s 0 0 (inA 120 ad)) _
  rw [← hQQ]
  have in10 : ∀ w ∈ wsX100, w ∈ wsX10_bath := by decide +kernel
  have in9 : ∀ w ∈ wsX90, w ∈ wsX10_bath := by decide +kernel
  have in0 : ∀ w ∈ wsX00, w ∈ wsX10_bath := by decide +kernel
  have lk10 : Cond.fieldLink RX10 10 "CureTown" "town" "LCureTown$Town;" ∈ wsX10_bath := by decide +kernel
  have lk66 : Cond.fieldLink RX10 66 "CureTown$Town" "baths" "[LCureTown$Bath;" ∈ wsX10_bath := by decide +kernel
  have lk70 : Cond.fieldLink RX10 70 "CureTown$Bath" "kind" "I" ∈ wsX10_bath := by decide +kernel
  have lk75 : Cond.fieldLink RX10 75 "CureTown$Bath" "isOpen" "Z" ∈ wsX10_bath := by decide +kernel
  unfold f_10_bath at h
  obtain ⟨H, hH⟩ : ∃ H, H = s.heap := ⟨_, rfl⟩
  obtain ⟨locs, hlc⟩ : ∃ q : List Loc, q = [] := ⟨_, rfl⟩
  have hP : va_P D vwCl (ww dX 120 cA ad σ) s.heap := hP
  have hS : va_S (inA 120 ad) s.heap s.heap [] := hS
  rw [← hlc] at hS ⊢
  rw [show W p l e (headSpec wsX10_bath rm_10_bath).room s m args below meth c s.heap locs 0 0 QQ = W p l e (headSpec wsX10_bath rm_10_bath).room s m args below meth c H locs 0 0 QQ by rw [hH]]
  have hS : va_S (inA 120 ad) s.heap H locs := by rw [hH]; exact hS
  have hP : va_P D vwCl (ww dX 120 cA ad σ) H := by rw [hH]; exact hP
  clear hH hlc
  refine lv_iload_n hx hb dX10_bath_0 rfl (lv_at hl 1 rfl) ?_
  refine lv_bipush (v := 6) hx hb dX10_bath_1 (by decide) ?_
  obtain ⟨r1, k2, h⟩ := bd_some h
  refine x_Si (rest := []) X hP hS (k_10_isBelow l D cA ad z hj n σ a1 6 k2) 2 gX10_bath_X10_isBelow rfl rfl rfl (by decide +kernel) ⟨Nat.le_of_ble_eq_true rfl, Nat.le_of_ble_eq_true rfl⟩ rfl hl.1 rfl (Nat.le_of_ble_eq_true rfl) dX10_bath_3 ⟨Nat.zero_le _, Nat.zero_le _⟩ (fun H locs hP hS => ?_)
  refine lv_if_eq (tgt := 17) hx hb dX10_bath_6 (by decide) (fun c3 => ?_) (fun c3 => ?_)
  · have h := it_t c3 h
    refine lv_iconst (v := 0) hx hb dX10_bath_17 (by decide) ?_
    subst hQQ
    exact x_rz X hr hlocks hP hS (by decide +kernel) (Option.some.inj h) dX10_bath_18
  · have h := it_f c3 h
    refine lv_iload_n hx hb dX10_bath_9 rfl (lv_at hl 2 rfl) ?_
    refine lv_iconst (v := 3) hx hb dX10_bath_10 (by decide) ?_
    obtain ⟨r4, k5, h⟩ := bd_some h
    refine x_Si (rest := []) X hP hS (k_10_isBelow l D cA ad z hj n r1.2 a2 3 k5) 2 gX10_bath_X10_isBelow rfl rfl rfl (by decide +kernel) ⟨Nat.le_of_ble_eq_true rfl, Nat.le_of_ble_eq_true rfl⟩ rfl hl.1 rfl (Nat.le_of_ble_eq_true rfl) dX10_bath_11 ⟨Nat.zero_le _, Nat.zero_le _⟩ (fun H locs hP hS => ?_)
    refine lv_if_ne (tgt := 19) hx hb dX10_bath_14 (by decide) (fun c6 => ?_) (fun c6 => ?_)
    · have h := it_f c6 h
      refine lv_aload_n hx hb dX10_bath_19 rfl (lv_at hl 0 rfl) ?_
      refine x_gr X hP (j := 0) (by decide) (dX_0) rfl rfl (by decide) in10 lk10 dX10_bath_20 ?_
      refine x_gr X hP (j := 1) (by decide) (dX_1) rfl rfl (by decide) in9 lk66 dX10_bath_23 ?_
      refine lv_iload_n hx hb dX10_bath_26 rfl (lv_at hl 1 rfl) ?_
      obtain ⟨g7, h⟩ := gd_some h
      refine x_ar X hP (by decide) (dX_3) g7 dX10_bath_27 ?_
      refine lv_iload_n hx hb dX10_bath_28 rfl (lv_at hl 2 rfl) ?_
      refine x_pi X hP hS (j := 0) (fam_lt (inb_lt g7) (by decide)) (dX_30 (inb_lt g7)) rfl rfl (by decide) in0 tyX0_ok nmX0 lk70 rfl rfl rfl rfl dX10_bath_29 (fun σ8 eσ8 H locs hP hS => ?_)
      have h := nm_some eσ8 h
      refine lv_aload_n hx hb dX10_bath_32 rfl (lv_at hl 0 rfl) ?_
      refine x_gr X hP (j := 0) (by decide) (dX_0) rfl rfl (by decide) in10 lk10 dX10_bath_33 ?_
      refine x_gr X hP (j := 1) (by decide) (dX_1) rfl rfl (by decide) in9 lk66 dX10_bath_36 ?_
      refine lv_iload_n hx hb dX10_bath_39 rfl (lv_at hl 1 rfl) ?_
      refine x_ar X hP (by decide) (dX_3) g7 dX10_bath_40 ?_
      refine lv_iload_n hx hb dX10_bath_41 rfl (lv_at hl 3 rfl) ?_
      obtain ⟨g10, h⟩ := gd_some h
      refine x_pi X hP hS (j := 1) (fam_lt (inb_lt g7) (by decide)) (dX_30 (inb_lt g7)) rfl rfl (by decide) in0 tyX0_ok nmX0 lk75 rfl rfl (isb_nar g10) (isb_fit g10) dX10_bath_42 (fun σ9 eσ9 H locs hP hS => ?_)
      have h := nm_some eσ9 h
      refine lv_iconst (v := 1) hx hb dX10_bath_45 (by decide) ?_
      subst hQQ
      exact x_rz X hr hlocks hP hS (by decide +kernel) (Option.some.inj h) dX10_bath_46
    · have h := it_t c6 h
      refine lv_iconst (v := 0) hx hb dX10_bath_17 (by decide) ?_
      subst hQQ
      exact x_rz X hr hlocks hP hS (by decide +kernel) (Option.some.inj h) dX10_bath_18
def f_10_rate (n : Nat) (σ : St) (a1 : Int32) (a2 : Int32) : Option (Int32 × St) :=
  (f_10_isBelow n σ a1 4).bind fun r1 =>
  if r1.1 = 0 then
    some (0, r1.2)
  else
    (f_10_isBelow n r1.2 a2 1000).bind fun r4 =>
    if r4.1 = 0 then
      some (0, r4.2)
    else
      gd (inb a1 4) <| nm (si r4.2 5 (a1.toNatClampNeg) a2) fun σ8 =>
      some (1, σ8)
abbrev rm_10_rate : Room := { frames := 1, cells := 0, slots := 0, locals := 21 }
set_option maxRecDepth 100000 in
set_option maxHeartbeats 4000000 in
theorem k_10_rate (l : Launch) (D : va_G) (cA : Nat → ClassId) (ad : Nat → Nat) (z : ZX) (hj : inj 120 ad) (n : Nat) (σ : St) (a1 : Int32) (a2 : Int32)  {res : Int32 × St} (h : f_10_rate n σ a1 a2 = some res) : MXi l D dX 120 cA ad (EX ad z) yX10_rate wsX10_rate rm_10_rate [.ref (ad 0), .int a1, .int a2] σ res := by
  refine Met.ofW (cc := cX10_rate) (maxL := 3) (ret := (some .boolean)) (by decide) rfl ?_
  intro p e s m args below meth c s₁ B hml hv
  obtain ⟨hargs, hP, hK, hE⟩ := hv
  have hx := B.exec
  have hb := B.bytes
  have hr := B.returns
  have hts := atoms_spec (ws := wsX10_rate) B.pre
  have hown : s.vm.findClass RX10 = some m.cls := findClass_of_methodNamed B.named
  have hlocks := B.notSynchronized
  have X : Cx p s m args c cX10_rate 3 RX10 wsX10_rate D dX 120 cA ad (EX ad z) := ⟨hx, hb, hml, hown, hts, hK, hj, hE, EX_ok ad z⟩
  have hS : va_S (inA 120 ad) s.heap s.heap [] := va_S.rf
  have hl := lv_entry ([.ref (ad 0), .int a1, .int a2]) (n := 3) (Nat.le_of_ble_eq_true rfl)
  rw [show entryFrame m args 3 = entryFrame m ([.ref (ad 0), .int a1, .int a2] : List Value).toArray 3 by rw [hargs]]
  rw [lg_entry_eq]
  generalize (lg_sl ([.ref (ad 0), .int a1, .int a2]) ++ List.replicate (3 - (lg_sl ([.ref (ad 0), .int a1, .int a2])).length) Slot.unset).toArray = ls at hl ⊢
  have hl : lv_has ls 3 [(0, .ref (ad 0)), (1, .int a1), (2, .int a2)] := hl
  obtain ⟨QQ, hQQ⟩ : ∃ Q, Q = MQ below (va_Qi (fun r u => r = res.1 ∧ u = res.2) (fun u t => va_P D vwCl (ww dX 120 cA ad u) t.heap) (inA 120 ad)) args s 0 0 (inA 120 ad) := ⟨_, rfl⟩
  show W p l e (headSpec wsX10_rate rm_10_rate).room s m args below meth c s.heap [] 0 0 (MQ below (va_Qi (fun r u => r = res.1 ∧ u = res.2) (fun u t => va_P D vwCl (ww dX 120 cA ad u) t.heap) (inA 120 ad)) args s 0 0 (inA 120 ad)) _
  rw [← hQQ]
  have in10 : ∀ w ∈ wsX100, w ∈ wsX10_rate := by decide +kernel
  have in9 : ∀ w ∈ wsX90, w ∈ wsX10_rate := by decide +kernel
  have lk10 : Cond.fieldLink RX10 10 "CureTown" "town" "LCureTown$Town;" ∈ wsX10_rate := by decide +kernel
  have lk78 : Cond.fieldLink RX10 78 "CureTown$Town" "rates" "[I" ∈ wsX10_rate := by decide +kernel
  unfold f_10_rate at h
  obtain ⟨H, hH⟩ : ∃ H, H = s.heap := ⟨_, rfl⟩
  obtain ⟨locs, hlc⟩ : ∃ q : List Loc, q = [] := ⟨_, rfl⟩
  have hP : va_P D vwCl (ww dX 120 cA ad σ) s.heap := hP
  have hS : va_S (inA 120 ad) s.heap s.heap [] := hS
  rw [← hlc] at hS ⊢
  rw [show W p l e (headSpec wsX10_rate rm_10_rate).room s m args below meth c s.heap locs 0 0 QQ = W p l e (headSpec wsX10_rate rm_10_rate).room s m args below meth c H locs 0 0 QQ by rw [hH]]
  have hS : va_S (inA 120 ad) s.heap H locs := by rw [hH]; exact hS
  have hP : va_P D vwCl (ww dX 120 cA ad σ) H := by rw [hH]; exact hP
  clear hH hlc
  refine lv_iload_n hx hb dX10_rate_0 rfl (lv_at hl 1 rfl) ?_
  refine lv_iconst (v := 4) hx hb dX10_rate_1 (by decide) ?_
  obtain ⟨r1, k2, h⟩ := bd_some h
  refine x_Si (rest := []) X hP hS (k_10_isBelow l D cA ad z hj n σ a1 4 k2) 2 gX10_rate_X10_isBelow rfl rfl rfl (by decide +kernel) ⟨Nat.le_of_ble_eq_true rfl, Nat.le_of_ble_eq_true rfl⟩ rfl hl.1 rfl (Nat.le_of_ble_eq_true rfl) dX10_rate_2 ⟨Nat.zero_le _, Nat.zero_le _⟩ (fun H locs hP hS => ?_)
  refine lv_if_eq (tgt := 18) hx hb dX10_rate_5 (by decide) (fun c3 => ?_) (fun c3 => ?_)
  · have h := it_t c3 h
    refine lv_iconst (v := 0) hx hb dX10_rate_18 (by decide) ?_
    subst hQQ
    exact x_rz X hr hlocks hP hS (by decide +kernel) (Option.some.inj h) dX10_rate_19
  · have h := it_f c3 h
    refine lv_iload_n hx hb dX10_rate_8 rfl (lv_at hl 2 rfl) ?_
    refine lv_sipush (v := 1000) hx hb dX10_rate_9 (by decide) ?_
    obtain ⟨r4, k5, h⟩ := bd_some h
    refine x_Si (rest := []) X hP hS (k_10_isBelow l D cA ad z hj n r1.2 a2 1000 k5) 2 gX10_rate_X10_isBelow rfl rfl rfl (by decide +kernel) ⟨Nat.le_of_ble_eq_true rfl, Nat.le_of_ble_eq_true rfl⟩ rfl hl.1 rfl (Nat.le_of_ble_eq_true rfl) dX10_rate_12 ⟨Nat.zero_le _, Nat.zero_le _⟩ (fun H locs hP hS => ?_)
    refine lv_if_ne (tgt := 20) hx hb dX10_rate_15 (by decide) (fun c6 => ?_) (fun c6 => ?_)
    · have h := it_f c6 h
      refine lv_aload_n hx hb dX10_rate_20 rfl (lv_at hl 0 rfl) ?_
      refine x_gr X hP (j := 0) (by decide) (dX_0) rfl rfl (by decide) in10 lk10 dX10_rate_21 ?_
      refine x_gr X hP (j := 3) (by decide) (dX_1) rfl rfl (by decide) in9 lk78 dX10_rate_24 ?_
      refine lv_iload_n hx hb dX10_rate_27 rfl (lv_at hl 1 rfl) ?_
      refine lv_iload_n hx hb dX10_rate_28 rfl (lv_at hl 2 rfl) ?_
      obtain ⟨g7, h⟩ := gd_some h
      refine x_si X hP hS (by decide) (dX_5) g7 dX10_rate_29 (fun σ8 eσ8 H locs hP hS => ?_)
      have h := nm_some eσ8 h
      refine lv_iconst (v := 1) hx hb dX10_rate_30 (by decide) ?_
      subst hQQ
      exact x_rz X hr hlocks hP hS (by decide +kernel) (Option.some.inj h) dX10_rate_31
    · have h := it_t c6 h
      refine lv_iconst (v := 0) hx hb dX10_rate_18 (by decide) ?_
      subst hQQ
      exact x_rz X hr hlocks hP hS (by decide +kernel) (Option.some.inj h) dX10_rate_19
def f_10_feed (n : Nat) (σ : St) (a1 : Int32) (a2 : Int32) (a3 : Int32) (a4 : Int32) (a5 : Int32) : Option (Int32 × St) :=
  nm ((σ.1 7 1) + 20) fun v1 =>
  if v1 ≤ 600 then
    (f_8_add n σ a1).bind fun r3 =>
    (f_8_add n r3 a2).bind fun r5 =>
    (f_8_add n r5 a3).bind fun r7 =>
    (f_8_add n r7 a4).bind fun r9 =>
    (f_8_add n r9 a5).bind fun r11 =>
    some ((r11.1 7 1), r11)
  else
    some ((-1), σ)
abbrev rm_10_feed : Room := { frames := 1, cells := 0, slots := 0, locals := 22 }
set_option maxRecDepth 100000 in
set_option maxHeartbeats 4000000 in
theorem k_10_feed (l : Launch) (D : va_G) (cA : Nat → ClassId) (ad : Nat → Nat) (z : ZX) (hj : inj 120 ad) (n : Nat) (σ : St) (a1 : Int32) (a2 : Int32) (a3 : Int32) (a4 : Int32) (a5 : Int32)  {res : Int32 × St} (h : f_10_feed n σ a1 a2 a3 a4 a5 = some res) : MXi l D dX 120 cA ad (EX ad z) yX10_feed wsX10_feed rm_10_feed [.ref (ad 0), .int a1, .int a2, .int a3, .int a4, .int a5] σ res := by
  refine Met.ofW (cc := cX10_feed) (maxL := 7) (ret := (some .int)) (by decide) rfl ?_
  intro p e s m args below meth c s₁ B hml hv
  obtain ⟨hargs, hP, hK, hE⟩ := hv
  have hx := B.exec
  have hb := B.bytes
  have hr := B.returns
  have hts := atoms_spec (ws := wsX10_feed) B.pre
  have hown : s.vm.findClass RX10 = some m.cls := findClass_of_methodNamed B.named
  have hlocks := B.notSynchronized
  have X : Cx p s m args c cX10_feed 7 RX10 wsX10_feed D dX 120 cA ad (EX ad z) := ⟨hx, hb, hml, hown, hts, hK, hj, hE, EX_ok ad z⟩
  have hS : va_S (inA 120 ad) s.heap s.heap [] := va_S.rf
  have hl := lv_entry ([.ref (ad 0), .int a1, .int a2, .int a3, .int a4, .int a5]) (n := 7) (Nat.le_of_ble_eq_true rfl)
  rw [show entryFrame m args 7 = entryFrame m ([.ref (ad 0), .int a1, .int a2, .int a3, .int a4, .int a5] : List Value).toArray 7 by rw [hargs]]
  rw [lg_entry_eq]
  generalize (lg_sl ([.ref (ad 0), .int a1, .int a2, .int a3, .int a4, .int a5]) ++ List.replicate (7 - (lg_sl ([.ref (ad 0), .int a1, .int a2, .int a3, .int a4, .int a5])).length) Slot.unset).toArray = ls at hl ⊢
  have hl : lv_has ls 7 [(0, .ref (ad 0)), (1, .int a1), (2, .int a2), (3, .int a3), (4, .int a4), (5, .int a5)] := hl
  obtain ⟨QQ, hQQ⟩ : ∃ Q, Q = MQ below (va_Qi (fun r u => r = res.1 ∧ u = res.2) (fun u t => va_P D vwCl (ww dX 120 cA ad u) t.heap) (inA 120 ad)) args s 0 0 (inA 120 ad) := ⟨_, rfl⟩
  show W p l e (headSpec wsX10_feed rm_10_feed).room s m args below meth c s.heap [] 0 0 (MQ below (va_Qi (fun r u => r = res.1 ∧ u = res.2) (fun u t => va_P D vwCl (ww dX 120 cA ad u) t.heap) (inA 120 ad)) args s 0 0 (inA 120 ad)) _
  rw [← hQQ]
  have in10 : ∀ w ∈ wsX100, w ∈ wsX10_feed := by decide +kernel
  have in9 : ∀ w ∈ wsX90, w ∈ wsX10_feed := by decide +kernel
  have in2 : ∀ w ∈ wsX20, w ∈ wsX10_feed := by decide +kernel
  have in8 : ∀ w ∈ wsX80, w ∈ wsX10_feed := by decide +kernel
  have lk10 : Cond.fieldLink RX10 10 "CureTown" "town" "LCureTown$Town;" ∈ wsX10_feed := by decide +kernel
  have lk82 : Cond.fieldLink RX10 82 "CureTown$Town" "book" "LCureTown$Book;" ∈ wsX10_feed := by decide +kernel
  have lk86 : Cond.fieldLink RX10 86 "CureTown$Book" "tape" "LCureTown$Tape;" ∈ wsX10_feed := by decide +kernel
  have lk92 : Cond.fieldLink RX10 92 "CureTown$Tape" "length" "I" ∈ wsX10_feed := by decide +kernel
  unfold f_10_feed at h
  obtain ⟨H, hH⟩ : ∃ H, H = s.heap := ⟨_, rfl⟩
  obtain ⟨locs, hlc⟩ : ∃ q : List Loc, q = [] := ⟨_, rfl⟩
  have hP : va_P D vwCl (ww dX 120 cA ad σ) s.heap := hP
  have hS : va_S (inA 120 ad) s.heap s.heap [] := hS
  rw [← hlc] at hS ⊢
  rw [show W p l e (headSpec wsX10_feed rm_10_feed).room s m args below meth c s.heap locs 0 0 QQ = W p l e (headSpec wsX10_feed rm_10_feed).room s m args below meth c H locs 0 0 QQ by rw [hH]]
  have hS : va_S (inA 120 ad) s.heap H locs := by rw [hH]; exact hS
  have hP : va_P D vwCl (ww dX 120 cA ad σ) H := by rw [hH]; exact hP
  clear hH hlc
  refine lv_aload_n hx hb dX10_feed_0 rfl (lv_at hl 0 rfl) ?_
  refine x_gr X hP (j := 0) (by decide) (dX_0) rfl rfl (by decide) in10 lk10 dX10_feed_1 ?_
  refine x_gr X hP (j := 4) (by decide) (dX_1) rfl rfl (by decide) in9 lk82 dX10_feed_4 ?_
  refine x_gr X hP (j := 0) (by decide) (dX_6) rfl rfl (by decide) in2 lk86 dX10_feed_7 ?_
  refine lv_astore (lv' := [(6, .ref (ad 7)), (0, .ref (ad 0)), (1, .int a1), (2, .int a2), (3, .int a3), (4, .int a4), (5, .int a5)]) hx hb dX10_feed_10 hl (by decide) rfl (fun ls hl => ?_)
  refine lv_aload hx hb dX10_feed_12 (lv_at hl 0 rfl) ?_
  refine x_gi X hP (j := 1) (by decide) (dX_7) rfl rfl (by decide) in8 lk92 dX10_feed_14 ?_
  refine lv_bipush (v := 20) hx hb dX10_feed_17 (by decide) ?_
  refine lv_iadd hx hb dX10_feed_19 ?_
  refine lv_topi (fun v1 ev1 => ?_)
  have h := nm_some ev1 h
  refine lv_sipush (v := 600) hx hb dX10_feed_20 (by decide) ?_
  refine lv_icmp_le (tgt := 28) hx hb dX10_feed_23 (by decide) (fun c2 => ?_) (fun c2 => ?_)
  · have h := it_t c2 h
    refine lv_aload hx hb dX10_feed_28 (lv_at hl 0 rfl) ?_
    refine lv_iload_n hx hb dX10_feed_30 rfl (lv_at hl 2 rfl) ?_
    obtain ⟨r3, k4, h⟩ := bd_some h
    refine x_Vv (rest := []) X hP hS (k_8_add l D cA ad z hj n σ a1 k4) (by decide) (dX_7) rfl 1 gX10_feed_X8_add rfl rfl rfl (by decide +kernel) ⟨Nat.le_of_ble_eq_true rfl, Nat.le_of_ble_eq_true rfl⟩ rfl hl.1 rfl (Nat.le_of_ble_eq_true rfl) dX10_feed_31 ⟨Nat.zero_le _, Nat.zero_le _⟩ (fun H locs hP hS => ?_)
    refine lv_aload hx hb dX10_feed_34 (lv_at hl 0 rfl) ?_
    refine lv_iload_n hx hb dX10_feed_36 rfl (lv_at hl 3 rfl) ?_
    obtain ⟨r5, k6, h⟩ := bd_some h
    refine x_Vv (rest := []) X hP hS (k_8_add l D cA ad z hj n r3 a2 k6) (by decide) (dX_7) rfl 1 gX10_feed_X8_add rfl rfl rfl (by decide +kernel) ⟨Nat.le_of_ble_eq_true rfl, Nat.le_of_ble_eq_true rfl⟩ rfl hl.1 rfl (Nat.le_of_ble_eq_true rfl) dX10_feed_37 ⟨Nat.zero_le _, Nat.zero_le _⟩ (fun H locs hP hS => ?_)
    refine lv_aload hx hb dX10_feed_40 (lv_at hl 0 rfl) ?_
    refine lv_iload_n hx hb dX10_feed_42 rfl (lv_at hl 4 rfl) ?_
    obtain ⟨r7, k8, h⟩ := bd_some h
    refine x_Vv (rest := []) X hP hS (k_8_add l D cA ad z hj n r5 a3 k8) (by decide) (dX_7) rfl 1 gX10_feed_X8_add rfl rfl rfl (by decide +kernel) ⟨Nat.le_of_ble_eq_true rfl, Nat.le_of_ble_eq_true rfl⟩ rfl hl.1 rfl (Nat.le_of_ble_eq_true rfl) dX10_feed_43 ⟨Nat.zero_le _, Nat.zero_le _⟩ (fun H locs hP hS => ?_)
    refine lv_aload hx hb dX10_feed_46 (lv_at hl 0 rfl) ?_
    refine lv_iload hx hb dX10_feed_48 (lv_at hl 5 rfl) ?_
    obtain ⟨r9, k10, h⟩ := bd_some h
    refine x_Vv (rest := []) X hP hS (k_8_add l D cA ad z hj n r7 a4 k10) (by decide) (dX_7) rfl 1 gX10_feed_X8_add rfl rfl rfl (by decide +kernel) ⟨Nat.le_of_ble_eq_true rfl, Nat.le_of_ble_eq_true rfl⟩ rfl hl.1 rfl (Nat.le_of_ble_eq_true rfl) dX10_feed_50 ⟨Nat.zero_le _, Nat.zero_le _⟩ (fun H locs hP hS => ?_)
    refine lv_aload hx hb dX10_feed_53 (lv_at hl 0 rfl) ?_
    refine lv_iload hx hb dX10_feed_55 (lv_at hl 6 rfl) ?_
    obtain ⟨r11, k12, h⟩ := bd_some h
    refine x_Vv (rest := []) X hP hS (k_8_add l D cA ad z hj n r9 a5 k12) (by decide) (dX_7) rfl 1 gX10_feed_X8_add rfl rfl rfl (by decide +kernel) ⟨Nat.le_of_ble_eq_true rfl, Nat.le_of_ble_eq_true rfl⟩ rfl hl.1 rfl (Nat.le_of_ble_eq_true rfl) dX10_feed_57 ⟨Nat.zero_le _, Nat.zero_le _⟩ (fun H locs hP hS => ?_)
    refine lv_aload hx hb dX10_feed_60 (lv_at hl 0 rfl) ?_
    refine x_gi X hP (j := 1) (by decide) (dX_7) rfl rfl (by decide) in8 lk92 dX10_feed_62 ?_
    subst hQQ
    exact x_ri (σ0 := (fun _ _ => 0, fun _ _ => 0)) X hr hlocks hP hS (Option.some.inj h) dX10_feed_65
  · have h := it_f c2 h
    refine lv_iconst (v := (-1)) hx hb dX10_feed_26 (by decide) ?_
    subst hQQ
    exact x_ri (σ0 := (fun _ _ => 0, fun _ _ => 0)) X hr hlocks hP hS (Option.some.inj h) dX10_feed_27
def f_10_end (n : Nat) (σ : St) (a1 : Int32) : Option (Int32 × St) :=
  if a1 < 0 then
    some (0, σ)
  else
    if a1 ≤ (σ.1 7 1) then
      nm (si σ 7 1 a1) fun σ3 =>
      some (1, σ3)
    else
      some (0, σ)
abbrev rm_10_end : Room := { frames := 0, cells := 0, slots := 0, locals := 0 }
set_option maxRecDepth 100000 in
set_option maxHeartbeats 4000000 in
theorem k_10_end (l : Launch) (D : va_G) (cA : Nat → ClassId) (ad : Nat → Nat) (z : ZX) (hj : inj 120 ad) (n : Nat) (σ : St) (a1 : Int32)  {res : Int32 × St} (h : f_10_end n σ a1 = some res) : MXi l D dX 120 cA ad (EX ad z) yX10_end wsX10_end rm_10_end [.ref (ad 0), .int a1] σ res := by
  refine Met.ofW (cc := cX10_end) (maxL := 3) (ret := (some .boolean)) (by decide) rfl ?_
  intro p e s m args below meth c s₁ B hml hv
  obtain ⟨hargs, hP, hK, hE⟩ := hv
  have hx := B.exec
  have hb := B.bytes
  have hr := B.returns
  have hts := atoms_spec (ws := wsX10_end) B.pre
  have hown : s.vm.findClass RX10 = some m.cls := findClass_of_methodNamed B.named
  have hlocks := B.notSynchronized
  have X : Cx p s m args c cX10_end 3 RX10 wsX10_end D dX 120 cA ad (EX ad z) := ⟨hx, hb, hml, hown, hts, hK, hj, hE, EX_ok ad z⟩
  have hS : va_S (inA 120 ad) s.heap s.heap [] := va_S.rf
  have hl := lv_entry ([.ref (ad 0), .int a1]) (n := 3) (Nat.le_of_ble_eq_true rfl)
  rw [show entryFrame m args 3 = entryFrame m ([.ref (ad 0), .int a1] : List Value).toArray 3 by rw [hargs]]
  rw [lg_entry_eq]
  generalize (lg_sl ([.ref (ad 0), .int a1]) ++ List.replicate (3 - (lg_sl ([.ref (ad 0), .int a1])).length) Slot.unset).toArray = ls at hl ⊢
  have hl : lv_has ls 3 [(0, .ref (ad 0)), (1, .int a1)] := hl
  obtain ⟨QQ, hQQ⟩ : ∃ Q, Q = MQ below (va_Qi (fun r u => r = res.1 ∧ u = res.2) (fun u t => va_P D vwCl (ww dX 120 cA ad u) t.heap) (inA 120 ad)) args s 0 0 (inA 120 ad) := ⟨_, rfl⟩
  show W p l e (headSpec wsX10_end rm_10_end).room s m args below meth c s.heap [] 0 0 (MQ below (va_Qi (fun r u => r = res.1 ∧ u = res.2) (fun u t => va_P D vwCl (ww dX 120 cA ad u) t.heap) (inA 120 ad)) args s 0 0 (inA 120 ad)) _
  rw [← hQQ]
  have in10 : ∀ w ∈ wsX100, w ∈ wsX10_end := by decide +kernel
  have in9 : ∀ w ∈ wsX90, w ∈ wsX10_end := by decide +kernel
  have in2 : ∀ w ∈ wsX20, w ∈ wsX10_end := by decide +kernel
  have in8 : ∀ w ∈ wsX80, w ∈ wsX10_end := by decide +kernel
  have lk10 : Cond.fieldLink RX10 10 "CureTown" "town" "LCureTown$Town;" ∈ wsX10_end := by decide +kernel
  have lk82 : Cond.fieldLink RX10 82 "CureTown$Town" "book" "LCureTown$Book;" ∈ wsX10_end := by decide +kernel
  have lk86 : Cond.fieldLink RX10 86 "CureTown$Book" "tape" "LCureTown$Tape;" ∈ wsX10_end := by decide +kernel
  have lk92 : Cond.fieldLink RX10 92 "CureTown$Tape" "length" "I" ∈ wsX10_end := by decide +kernel
  unfold f_10_end at h
  obtain ⟨H, hH⟩ : ∃ H, H = s.heap := ⟨_, rfl⟩
  obtain ⟨locs, hlc⟩ : ∃ q : List Loc, q = [] := ⟨_, rfl⟩
  have hP : va_P D vwCl (ww dX 120 cA ad σ) s.heap := hP
  have hS : va_S (inA 120 ad) s.heap s.heap [] := hS
  rw [← hlc] at hS ⊢
  rw [show W p l e (headSpec wsX10_end rm_10_end).room s m args below meth c s.heap locs 0 0 QQ = W p l e (headSpec wsX10_end rm_10_end).room s m args below meth c H locs 0 0 QQ by rw [hH]]
  have hS : va_S (inA 120 ad) s.heap H locs := by rw [hH]; exact hS
  have hP : va_P D vwCl (ww dX 120 cA ad σ) H := by rw [hH]; exact hP
  clear hH hlc
  refine lv_aload_n hx hb dX10_end_0 rfl (lv_at hl 0 rfl) ?_
  refine x_gr X hP (j := 0) (by decide) (dX_0) rfl rfl (by decide) in10 lk10 dX10_end_1 ?_
  refine x_gr X hP (j := 4) (by decide) (dX_1) rfl rfl (by decide) in9 lk82 dX10_end_4 ?_
  refine x_gr X hP (j := 0) (by decide) (dX_6) rfl rfl (by decide) in2 lk86 dX10_end_7 ?_
  refine lv_astore_n (lv' := [(2, .ref (ad 7)), (0, .ref (ad 0)), (1, .int a1)]) hx hb dX10_end_10 rfl hl (by decide) rfl (fun ls hl => ?_)
  refine lv_iload_n hx hb dX10_end_11 rfl (lv_at hl 2 rfl) ?_
  refine lv_if_lt (tgt := 23) hx hb dX10_end_12 (by decide) (fun c1 => ?_) (fun c1 => ?_)
  · have h := it_t c1 h
    refine lv_iconst (v := 0) hx hb dX10_end_23 (by decide) ?_
    subst hQQ
    exact x_rz X hr hlocks hP hS (by decide +kernel) (Option.some.inj h) dX10_end_24
  · have h := it_f c1 h
    refine lv_iload_n hx hb dX10_end_15 rfl (lv_at hl 2 rfl) ?_
    refine lv_aload_n hx hb dX10_end_16 rfl (lv_at hl 0 rfl) ?_
    refine x_gi X hP (j := 1) (by decide) (dX_7) rfl rfl (by decide) in8 lk92 dX10_end_17 ?_
    refine lv_icmp_le (tgt := 25) hx hb dX10_end_20 (by decide) (fun c2 => ?_) (fun c2 => ?_)
    · have h := it_t c2 h
      refine lv_aload_n hx hb dX10_end_25 rfl (lv_at hl 0 rfl) ?_
      refine lv_iload_n hx hb dX10_end_26 rfl (lv_at hl 2 rfl) ?_
      refine x_pi X hP hS (j := 1) (by decide) (dX_7) rfl rfl (by decide) in8 tyX8_ok nmX8 lk92 rfl rfl rfl rfl dX10_end_27 (fun σ3 eσ3 H locs hP hS => ?_)
      have h := nm_some eσ3 h
      refine lv_iconst (v := 1) hx hb dX10_end_30 (by decide) ?_
      subst hQQ
      exact x_rz X hr hlocks hP hS (by decide +kernel) (Option.some.inj h) dX10_end_31
    · have h := it_f c2 h
      refine lv_iconst (v := 0) hx hb dX10_end_23 (by decide) ?_
      subst hQQ
      exact x_rz X hr hlocks hP hS (by decide +kernel) (Option.some.inj h) dX10_end_24
def f_10_load (n : Nat) (σ : St)  : Option (Int32 × St) :=
  (f_2_readTape n σ ).bind fun r1 =>
  if (r1.1 6 3) = 0 then
    some ((r1.1 6 2), r1)
  else
    some ((-1), r1)
abbrev rm_10_load : Room := { frames := 9, cells := 0, slots := 0, locals := 206 }
set_option maxRecDepth 100000 in
set_option maxHeartbeats 4000000 in
theorem k_10_load (l : Launch) (D : va_G) (cA : Nat → ClassId) (ad : Nat → Nat) (z : ZX) (hj : inj 120 ad) (n : Nat) (σ : St)   {res : Int32 × St} (h : f_10_load n σ  = some res) : MXi l D dX 120 cA ad (EX ad z) yX10_load wsX10_load rm_10_load [.ref (ad 0)] σ res := by
  refine Met.ofW (cc := cX10_load) (maxL := 2) (ret := (some .int)) (by decide) rfl ?_
  intro p e s m args below meth c s₁ B hml hv
  obtain ⟨hargs, hP, hK, hE⟩ := hv
  have hx := B.exec
  have hb := B.bytes
  have hr := B.returns
  have hts := atoms_spec (ws := wsX10_load) B.pre
  have hown : s.vm.findClass RX10 = some m.cls := findClass_of_methodNamed B.named
  have hlocks := B.notSynchronized
  have X : Cx p s m args c cX10_load 2 RX10 wsX10_load D dX 120 cA ad (EX ad z) := ⟨hx, hb, hml, hown, hts, hK, hj, hE, EX_ok ad z⟩
  have hS : va_S (inA 120 ad) s.heap s.heap [] := va_S.rf
  have hl := lv_entry ([.ref (ad 0)]) (n := 2) (Nat.le_of_ble_eq_true rfl)
  rw [show entryFrame m args 2 = entryFrame m ([.ref (ad 0)] : List Value).toArray 2 by rw [hargs]]
  rw [lg_entry_eq]
  generalize (lg_sl ([.ref (ad 0)]) ++ List.replicate (2 - (lg_sl ([.ref (ad 0)])).length) Slot.unset).toArray = ls at hl ⊢
  have hl : lv_has ls 2 [(0, .ref (ad 0))] := hl
  obtain ⟨QQ, hQQ⟩ : ∃ Q, Q = MQ below (va_Qi (fun r u => r = res.1 ∧ u = res.2) (fun u t => va_P D vwCl (ww dX 120 cA ad u) t.heap) (inA 120 ad)) args s 0 0 (inA 120 ad) := ⟨_, rfl⟩
  show W p l e (headSpec wsX10_load rm_10_load).room s m args below meth c s.heap [] 0 0 (MQ below (va_Qi (fun r u => r = res.1 ∧ u = res.2) (fun u t => va_P D vwCl (ww dX 120 cA ad u) t.heap) (inA 120 ad)) args s 0 0 (inA 120 ad)) _
  rw [← hQQ]
  have in10 : ∀ w ∈ wsX100, w ∈ wsX10_load := by decide +kernel
  have in9 : ∀ w ∈ wsX90, w ∈ wsX10_load := by decide +kernel
  have in2 : ∀ w ∈ wsX20, w ∈ wsX10_load := by decide +kernel
  have lk10 : Cond.fieldLink RX10 10 "CureTown" "town" "LCureTown$Town;" ∈ wsX10_load := by decide +kernel
  have lk82 : Cond.fieldLink RX10 82 "CureTown$Town" "book" "LCureTown$Book;" ∈ wsX10_load := by decide +kernel
  have lk104 : Cond.fieldLink RX10 104 "CureTown$Book" "fault" "I" ∈ wsX10_load := by decide +kernel
  have lk107 : Cond.fieldLink RX10 107 "CureTown$Book" "count" "I" ∈ wsX10_load := by decide +kernel
  unfold f_10_load at h
  obtain ⟨H, hH⟩ : ∃ H, H = s.heap := ⟨_, rfl⟩
  obtain ⟨locs, hlc⟩ : ∃ q : List Loc, q = [] := ⟨_, rfl⟩
  have hP : va_P D vwCl (ww dX 120 cA ad σ) s.heap := hP
  have hS : va_S (inA 120 ad) s.heap s.heap [] := hS
  rw [← hlc] at hS ⊢
  rw [show W p l e (headSpec wsX10_load rm_10_load).room s m args below meth c s.heap locs 0 0 QQ = W p l e (headSpec wsX10_load rm_10_load).room s m args below meth c H locs 0 0 QQ by rw [hH]]
  have hS : va_S (inA 120 ad) s.heap H locs := by rw [hH]; exact hS
  have hP : va_P D vwCl (ww dX 120 cA ad σ) H := by rw [hH]; exact hP
  clear hH hlc
  refine lv_aload_n hx hb dX10_load_0 rfl (lv_at hl 0 rfl) ?_
  refine x_gr X hP (j := 0) (by decide) (dX_0) rfl rfl (by decide) in10 lk10 dX10_load_1 ?_
  refine x_gr X hP (j := 4) (by decide) (dX_1) rfl rfl (by decide) in9 lk82 dX10_load_4 ?_
  refine lv_astore_n (lv' := [(1, .ref (ad 6)), (0, .ref (ad 0))]) hx hb dX10_load_7 rfl hl (by decide) rfl (fun ls hl => ?_)
  refine lv_aload_n hx hb dX10_load_8 rfl (lv_at hl 0 rfl) ?_
  obtain ⟨r1, k2, h⟩ := bd_some h
  refine x_Vv (rest := []) X hP hS (k_2_readTape l D cA ad z hj n σ  k2) (by decide) (dX_6) rfl 0 gX10_load_X2_readTape rfl rfl rfl (by decide +kernel) ⟨Nat.le_of_ble_eq_true rfl, Nat.le_of_ble_eq_true rfl⟩ rfl hl.1 rfl (Nat.le_of_ble_eq_true rfl) dX10_load_9 ⟨Nat.zero_le _, Nat.zero_le _⟩ (fun H locs hP hS => ?_)
  refine lv_aload_n hx hb dX10_load_12 rfl (lv_at hl 0 rfl) ?_
  refine x_gi X hP (j := 3) (by decide) (dX_6) rfl rfl (by decide) in2 lk104 dX10_load_13 ?_
  refine lv_if_ne (tgt := 26) hx hb dX10_load_16 (by decide) (fun c3 => ?_) (fun c3 => ?_)
  · have h := it_f c3 h
    refine lv_iconst (v := (-1)) hx hb dX10_load_26 (by decide) ?_
    subst hQQ
    exact x_ri (σ0 := (fun _ _ => 0, fun _ _ => 0)) X hr hlocks hP hS (Option.some.inj h) dX10_load_27
  · have h := it_t c3 h
    refine lv_aload_n hx hb dX10_load_19 rfl (lv_at hl 0 rfl) ?_
    refine x_gi X hP (j := 2) (by decide) (dX_6) rfl rfl (by decide) in2 lk107 dX10_load_20 ?_
    refine lv_goto (tgt := 27) hx hb dX10_load_23 (by decide) ?_
    subst hQQ
    exact x_ri (σ0 := (fun _ _ => 0, fun _ _ => 0)) X hr hlocks hP hS (Option.some.inj h) dX10_load_27
def f_10_fault (n : Nat) (σ : St) (a1 : Int32) : Option (Int32 × St) :=
  if a1 = 0 then
    some ((σ.1 6 3), σ)
  else if a1 = 1 then
    some ((σ.1 6 4), σ)
  else 
    some ((-1), σ)
abbrev rm_10_fault : Room := { frames := 0, cells := 0, slots := 0, locals := 0 }
set_option maxRecDepth 100000 in
set_option maxHeartbeats 4000000 in
theorem k_10_fault (l : Launch) (D : va_G) (cA : Nat → ClassId) (ad : Nat → Nat) (z : ZX) (hj : inj 120 ad) (n : Nat) (σ : St) (a1 : Int32)  {res : Int32 × St} (h : f_10_fault n σ a1 = some res) : MXi l D dX 120 cA ad (EX ad z) yX10_fault wsX10_fault rm_10_fault [.ref (ad 0), .int a1] σ res := by
  refine Met.ofW (cc := cX10_fault) (maxL := 2) (ret := (some .int)) (by decide) rfl ?_
  intro p e s m args below meth c s₁ B hml hv
  obtain ⟨hargs, hP, hK, hE⟩ := hv
  have hx := B.exec
  have hb := B.bytes
  have hr := B.returns
  have hts := atoms_spec (ws := wsX10_fault) B.pre
  have hown : s.vm.findClass RX10 = some m.cls := findClass_of_methodNamed B.named
  have hlocks := B.notSynchronized
  have X : Cx p s m args c cX10_fault 2 RX10 wsX10_fault D dX 120 cA ad (EX ad z) := ⟨hx, hb, hml, hown, hts, hK, hj, hE, EX_ok ad z⟩
  have hS : va_S (inA 120 ad) s.heap s.heap [] := va_S.rf
  have hl := lv_entry ([.ref (ad 0), .int a1]) (n := 2) (Nat.le_of_ble_eq_true rfl)
  rw [show entryFrame m args 2 = entryFrame m ([.ref (ad 0), .int a1] : List Value).toArray 2 by rw [hargs]]
  rw [lg_entry_eq]
  generalize (lg_sl ([.ref (ad 0), .int a1]) ++ List.replicate (2 - (lg_sl ([.ref (ad 0), .int a1])).length) Slot.unset).toArray = ls at hl ⊢
  have hl : lv_has ls 2 [(0, .ref (ad 0)), (1, .int a1)] := hl
  obtain ⟨QQ, hQQ⟩ : ∃ Q, Q = MQ below (va_Qi (fun r u => r = res.1 ∧ u = res.2) (fun u t => va_P D vwCl (ww dX 120 cA ad u) t.heap) (inA 120 ad)) args s 0 0 (inA 120 ad) := ⟨_, rfl⟩
  show W p l e (headSpec wsX10_fault rm_10_fault).room s m args below meth c s.heap [] 0 0 (MQ below (va_Qi (fun r u => r = res.1 ∧ u = res.2) (fun u t => va_P D vwCl (ww dX 120 cA ad u) t.heap) (inA 120 ad)) args s 0 0 (inA 120 ad)) _
  rw [← hQQ]
  have in10 : ∀ w ∈ wsX100, w ∈ wsX10_fault := by decide +kernel
  have in9 : ∀ w ∈ wsX90, w ∈ wsX10_fault := by decide +kernel
  have in2 : ∀ w ∈ wsX20, w ∈ wsX10_fault := by decide +kernel
  have lk10 : Cond.fieldLink RX10 10 "CureTown" "town" "LCureTown$Town;" ∈ wsX10_fault := by decide +kernel
  have lk82 : Cond.fieldLink RX10 82 "CureTown$Town" "book" "LCureTown$Book;" ∈ wsX10_fault := by decide +kernel
  have lk104 : Cond.fieldLink RX10 104 "CureTown$Book" "fault" "I" ∈ wsX10_fault := by decide +kernel
  have lk110 : Cond.fieldLink RX10 110 "CureTown$Book" "faultPlace" "I" ∈ wsX10_fault := by decide +kernel
  unfold f_10_fault at h
  obtain ⟨H, hH⟩ : ∃ H, H = s.heap := ⟨_, rfl⟩
  obtain ⟨locs, hlc⟩ : ∃ q : List Loc, q = [] := ⟨_, rfl⟩
  have hP : va_P D vwCl (ww dX 120 cA ad σ) s.heap := hP
  have hS : va_S (inA 120 ad) s.heap s.heap [] := hS
  rw [← hlc] at hS ⊢
  rw [show W p l e (headSpec wsX10_fault rm_10_fault).room s m args below meth c s.heap locs 0 0 QQ = W p l e (headSpec wsX10_fault rm_10_fault).room s m args below meth c H locs 0 0 QQ by rw [hH]]
  have hS : va_S (inA 120 ad) s.heap H locs := by rw [hH]; exact hS
  have hP : va_P D vwCl (ww dX 120 cA ad σ) H := by rw [hH]; exact hP
  clear hH hlc
  refine lv_iload_n hx hb dX10_fault_0 rfl (lv_at hl 1 rfl) ?_
  by_cases c1 : a1 = 0
  · have h := it_t c1 h
    refine lv_lookup (off := 27) (tgt := 28) hx hb dX10_fault_1 (by decide) (by rw [c1]; rfl) (by decide) ?_
    refine lv_aload_n hx hb dX10_fault_28 rfl (lv_at hl 0 rfl) ?_
    refine x_gr X hP (j := 0) (by decide) (dX_0) rfl rfl (by decide) in10 lk10 dX10_fault_29 ?_
    refine x_gr X hP (j := 4) (by decide) (dX_1) rfl rfl (by decide) in9 lk82 dX10_fault_32 ?_
    refine x_gi X hP (j := 3) (by decide) (dX_6) rfl rfl (by decide) in2 lk104 dX10_fault_35 ?_
    subst hQQ
    exact x_ri (σ0 := (fun _ _ => 0, fun _ _ => 0)) X hr hlocks hP hS (Option.some.inj h) dX10_fault_38
  · have h := it_f c1 h
    by_cases c2 : a1 = 1
    · have h := it_t c2 h
      refine lv_lookup (off := 38) (tgt := 39) hx hb dX10_fault_1 (by decide) (by rw [c2]; rfl) (by decide) ?_
      refine lv_aload_n hx hb dX10_fault_39 rfl (lv_at hl 0 rfl) ?_
      refine x_gr X hP (j := 0) (by decide) (dX_0) rfl rfl (by decide) in10 lk10 dX10_fault_40 ?_
      refine x_gr X hP (j := 4) (by decide) (dX_1) rfl rfl (by decide) in9 lk82 dX10_fault_43 ?_
      refine x_gi X hP (j := 4) (by decide) (dX_6) rfl rfl (by decide) in2 lk110 dX10_fault_46 ?_
      subst hQQ
      exact x_ri (σ0 := (fun _ _ => 0, fun _ _ => 0)) X hr hlocks hP hS (Option.some.inj h) dX10_fault_49
    · have h := it_f c2 h
      refine lv_lookup (off := 49) (tgt := 50) hx hb dX10_fault_1 (by decide) (by show Op.lookupswitch.offset [(0, 27), (1, 38)] 49 _ = _; rw [lv_osw (a := 0) c1 (by decide), lv_osw (a := 1) c2 (by decide)]; rfl) (by decide) ?_
      refine lv_iconst (v := (-1)) hx hb dX10_fault_50 (by decide) ?_
      subst hQQ
      exact x_ri (σ0 := (fun _ _ => 0, fun _ _ => 0)) X hr hlocks hP hS (Option.some.inj h) dX10_fault_51
def f_10_guest (n : Nat) (σ : St) (a1 : Int32) (a2 : Int32) (a3 : Int32) (a4 : Int32) (a5 : Int32) : Option (Int32 × St) :=
  (f_10_isBelow n σ a1 4).bind fun r1 =>
  if r1.1 = 0 then
    some ((-1), r1.2)
  else
    (f_10_isBelow n r1.2 a2 (r1.2.1 6 2)).bind fun r4 =>
    if r4.1 = 0 then
      some ((-1), r4.2)
    else
      (f_10_isBelow n r4.2 a5 100).bind fun r7 =>
      if r7.1 = 0 then
        some ((-1), r7.2)
      else
        if a3 < (r7.2.1 0 3) then
          some ((-1), r7.2)
        else
          if a4 ≤ a3 then
            some ((-1), r7.2)
          else
            if 100 < a4 then
              some ((-1), r7.2)
            else
              if (r7.2.1 1 5) < 8 then
                nm ((r7.2.1 1 5)) fun v14 =>
                gd (inb v14 8) <| (f_4_come n r7.2 v14.toNatClampNeg a1 a2 a3 a4 a5).bind fun r16 =>
                nm ((r16.1 1 5) + 1) fun v18 =>
                nm (si r16 1 5 v18) fun σ19 =>
                some (v14, σ19)
              else
                some ((-1), r7.2)
abbrev rm_10_guest : Room := { frames := 1, cells := 0, slots := 0, locals := 25 }
set_option maxRecDepth 100000 in
set_option maxHeartbeats 4000000 in
theorem k_10_guest (l : Launch) (D : va_G) (cA : Nat → ClassId) (ad : Nat → Nat) (z : ZX) (hj : inj 120 ad) (n : Nat) (σ : St) (a1 : Int32) (a2 : Int32) (a3 : Int32) (a4 : Int32) (a5 : Int32)  {res : Int32 × St} (h : f_10_guest n σ a1 a2 a3 a4 a5 = some res) : MXi l D dX 120 cA ad (EX ad z) yX10_guest wsX10_guest rm_10_guest [.ref (ad 0), .int a1, .int a2, .int a3, .int a4, .int a5] σ res := by
  refine Met.ofW (cc := cX10_guest) (maxL := 7) (ret := (some .int)) (by decide) rfl ?_
  intro p e s m args below meth c s₁ B hml hv
  obtain ⟨hargs, hP, hK, hE⟩ := hv
  have hx := B.exec
  have hb := B.bytes
  have hr := B.returns
  have hts := atoms_spec (ws := wsX10_guest) B.pre
  have hown : s.vm.findClass RX10 = some m.cls := findClass_of_methodNamed B.named
  have hlocks := B.notSynchronized
  have X : Cx p s m args c cX10_guest 7 RX10 wsX10_guest D dX 120 cA ad (EX ad z) := ⟨hx, hb, hml, hown, hts, hK, hj, hE, EX_ok ad z⟩
  have hS : va_S (inA 120 ad) s.heap s.heap [] := va_S.rf
  have hl := lv_entry ([.ref (ad 0), .int a1, .int a2, .int a3, .int a4, .int a5]) (n := 7) (Nat.le_of_ble_eq_true rfl)
  rw [show entryFrame m args 7 = entryFrame m ([.ref (ad 0), .int a1, .int a2, .int a3, .int a4, .int a5] : List Value).toArray 7 by rw [hargs]]
  rw [lg_entry_eq]
  generalize (lg_sl ([.ref (ad 0), .int a1, .int a2, .int a3, .int a4, .int a5]) ++ List.replicate (7 - (lg_sl ([.ref (ad 0), .int a1, .int a2, .int a3, .int a4, .int a5])).length) Slot.unset).toArray = ls at hl ⊢
  have hl : lv_has ls 7 [(0, .ref (ad 0)), (1, .int a1), (2, .int a2), (3, .int a3), (4, .int a4), (5, .int a5)] := hl
  obtain ⟨QQ, hQQ⟩ : ∃ Q, Q = MQ below (va_Qi (fun r u => r = res.1 ∧ u = res.2) (fun u t => va_P D vwCl (ww dX 120 cA ad u) t.heap) (inA 120 ad)) args s 0 0 (inA 120 ad) := ⟨_, rfl⟩
  show W p l e (headSpec wsX10_guest rm_10_guest).room s m args below meth c s.heap [] 0 0 (MQ below (va_Qi (fun r u => r = res.1 ∧ u = res.2) (fun u t => va_P D vwCl (ww dX 120 cA ad u) t.heap) (inA 120 ad)) args s 0 0 (inA 120 ad)) _
  rw [← hQQ]
  have in10 : ∀ w ∈ wsX100, w ∈ wsX10_guest := by decide +kernel
  have in9 : ∀ w ∈ wsX90, w ∈ wsX10_guest := by decide +kernel
  have in2 : ∀ w ∈ wsX20, w ∈ wsX10_guest := by decide +kernel
  have lk10 : Cond.fieldLink RX10 10 "CureTown" "town" "LCureTown$Town;" ∈ wsX10_guest := by decide +kernel
  have lk82 : Cond.fieldLink RX10 82 "CureTown$Town" "book" "LCureTown$Book;" ∈ wsX10_guest := by decide +kernel
  have lk107 : Cond.fieldLink RX10 107 "CureTown$Book" "count" "I" ∈ wsX10_guest := by decide +kernel
  have lk30 : Cond.fieldLink RX10 30 "CureTown" "today" "I" ∈ wsX10_guest := by decide +kernel
  have lk113 : Cond.fieldLink RX10 113 "CureTown$Town" "guestCount" "I" ∈ wsX10_guest := by decide +kernel
  have lk116 : Cond.fieldLink RX10 116 "CureTown$Town" "guests" "[LCureTown$Guest;" ∈ wsX10_guest := by decide +kernel
  unfold f_10_guest at h
  obtain ⟨H, hH⟩ : ∃ H, H = s.heap := ⟨_, rfl⟩
  obtain ⟨locs, hlc⟩ : ∃ q : List Loc, q = [] := ⟨_, rfl⟩
  have hP : va_P D vwCl (ww dX 120 cA ad σ) s.heap := hP
  have hS : va_S (inA 120 ad) s.heap s.heap [] := hS
  rw [← hlc] at hS ⊢
  rw [show W p l e (headSpec wsX10_guest rm_10_guest).room s m args below meth c s.heap locs 0 0 QQ = W p l e (headSpec wsX10_guest rm_10_guest).room s m args below meth c H locs 0 0 QQ by rw [hH]]
  have hS : va_S (inA 120 ad) s.heap H locs := by rw [hH]; exact hS
  have hP : va_P D vwCl (ww dX 120 cA ad σ) H := by rw [hH]; exact hP
  clear hH hlc
  refine lv_iload_n hx hb dX10_guest_0 rfl (lv_at hl 1 rfl) ?_
  refine lv_iconst (v := 4) hx hb dX10_guest_1 (by decide) ?_
  obtain ⟨r1, k2, h⟩ := bd_some h
  refine x_Si (rest := []) X hP hS (k_10_isBelow l D cA ad z hj n σ a1 4 k2) 2 gX10_guest_X10_isBelow rfl rfl rfl (by decide +kernel) ⟨Nat.le_of_ble_eq_true rfl, Nat.le_of_ble_eq_true rfl⟩ rfl hl.1 rfl (Nat.le_of_ble_eq_true rfl) dX10_guest_2 ⟨Nat.zero_le _, Nat.zero_le _⟩ (fun H locs hP hS => ?_)
  refine lv_if_eq (tgt := 35) hx hb dX10_guest_5 (by decide) (fun c3 => ?_) (fun c3 => ?_)
  · have h := it_t c3 h
    refine lv_iconst (v := (-1)) hx hb dX10_guest_35 (by decide) ?_
    subst hQQ
    exact x_ri (σ0 := (fun _ _ => 0, fun _ _ => 0)) X hr hlocks hP hS (Option.some.inj h) dX10_guest_36
  · have h := it_f c3 h
    refine lv_iload_n hx hb dX10_guest_8 rfl (lv_at hl 2 rfl) ?_
    refine lv_aload_n hx hb dX10_guest_9 rfl (lv_at hl 0 rfl) ?_
    refine x_gr X hP (j := 0) (by decide) (dX_0) rfl rfl (by decide) in10 lk10 dX10_guest_10 ?_
    refine x_gr X hP (j := 4) (by decide) (dX_1) rfl rfl (by decide) in9 lk82 dX10_guest_13 ?_
    refine x_gi X hP (j := 2) (by decide) (dX_6) rfl rfl (by decide) in2 lk107 dX10_guest_16 ?_
    obtain ⟨r4, k5, h⟩ := bd_some h
    refine x_Si (rest := []) X hP hS (k_10_isBelow l D cA ad z hj n r1.2 a2 (r1.2.1 6 2) k5) 2 gX10_guest_X10_isBelow rfl rfl rfl (by decide +kernel) ⟨Nat.le_of_ble_eq_true rfl, Nat.le_of_ble_eq_true rfl⟩ rfl hl.1 rfl (Nat.le_of_ble_eq_true rfl) dX10_guest_19 ⟨Nat.zero_le _, Nat.zero_le _⟩ (fun H locs hP hS => ?_)
    refine lv_if_eq (tgt := 35) hx hb dX10_guest_22 (by decide) (fun c6 => ?_) (fun c6 => ?_)
    · have h := it_t c6 h
      refine lv_iconst (v := (-1)) hx hb dX10_guest_35 (by decide) ?_
      subst hQQ
      exact x_ri (σ0 := (fun _ _ => 0, fun _ _ => 0)) X hr hlocks hP hS (Option.some.inj h) dX10_guest_36
    · have h := it_f c6 h
      refine lv_iload hx hb dX10_guest_25 (lv_at hl 5 rfl) ?_
      refine lv_bipush (v := 100) hx hb dX10_guest_27 (by decide) ?_
      obtain ⟨r7, k8, h⟩ := bd_some h
      refine x_Si (rest := []) X hP hS (k_10_isBelow l D cA ad z hj n r4.2 a5 100 k8) 2 gX10_guest_X10_isBelow rfl rfl rfl (by decide +kernel) ⟨Nat.le_of_ble_eq_true rfl, Nat.le_of_ble_eq_true rfl⟩ rfl hl.1 rfl (Nat.le_of_ble_eq_true rfl) dX10_guest_29 ⟨Nat.zero_le _, Nat.zero_le _⟩ (fun H locs hP hS => ?_)
      refine lv_if_ne (tgt := 37) hx hb dX10_guest_32 (by decide) (fun c9 => ?_) (fun c9 => ?_)
      · have h := it_f c9 h
        refine lv_iload_n hx hb dX10_guest_37 rfl (lv_at hl 3 rfl) ?_
        refine lv_aload_n hx hb dX10_guest_38 rfl (lv_at hl 0 rfl) ?_
        refine x_gi X hP (j := 3) (by decide) (dX_0) rfl rfl (by decide) in10 lk30 dX10_guest_39 ?_
        refine lv_icmp_lt (tgt := 70) hx hb dX10_guest_42 (by decide) (fun c10 => ?_) (fun c10 => ?_)
        · have h := it_t c10 h
          refine lv_iconst (v := (-1)) hx hb dX10_guest_70 (by decide) ?_
          subst hQQ
          exact x_ri (σ0 := (fun _ _ => 0, fun _ _ => 0)) X hr hlocks hP hS (Option.some.inj h) dX10_guest_71
        · have h := it_f c10 h
          refine lv_iload hx hb dX10_guest_45 (lv_at hl 4 rfl) ?_
          refine lv_iload_n hx hb dX10_guest_47 rfl (lv_at hl 3 rfl) ?_
          refine lv_icmp_le (tgt := 70) hx hb dX10_guest_48 (by decide) (fun c11 => ?_) (fun c11 => ?_)
          · have h := it_t c11 h
            refine lv_iconst (v := (-1)) hx hb dX10_guest_70 (by decide) ?_
            subst hQQ
            exact x_ri (σ0 := (fun _ _ => 0, fun _ _ => 0)) X hr hlocks hP hS (Option.some.inj h) dX10_guest_71
          · have h := it_f c11 h
            refine lv_iload hx hb dX10_guest_51 (lv_at hl 4 rfl) ?_
            refine lv_bipush (v := 100) hx hb dX10_guest_53 (by decide) ?_
            refine lv_icmp_gt (tgt := 70) hx hb dX10_guest_55 (by decide) (fun c12 => ?_) (fun c12 => ?_)
            · have h := it_t c12 h
              refine lv_iconst (v := (-1)) hx hb dX10_guest_70 (by decide) ?_
              subst hQQ
              exact x_ri (σ0 := (fun _ _ => 0, fun _ _ => 0)) X hr hlocks hP hS (Option.some.inj h) dX10_guest_71
            · have h := it_f c12 h
              refine lv_aload_n hx hb dX10_guest_58 rfl (lv_at hl 0 rfl) ?_
              refine x_gr X hP (j := 0) (by decide) (dX_0) rfl rfl (by decide) in10 lk10 dX10_guest_59 ?_
              refine x_gi X hP (j := 5) (by decide) (dX_1) rfl rfl (by decide) in9 lk113 dX10_guest_62 ?_
              refine lv_bipush (v := 8) hx hb dX10_guest_65 (by decide) ?_
              refine lv_icmp_lt (tgt := 72) hx hb dX10_guest_67 (by decide) (fun c13 => ?_) (fun c13 => ?_)
              · have h := it_t c13 h
                refine lv_aload_n hx hb dX10_guest_72 rfl (lv_at hl 0 rfl) ?_
                refine x_gr X hP (j := 0) (by decide) (dX_0) rfl rfl (by decide) in10 lk10 dX10_guest_73 ?_
                refine x_gi X hP (j := 5) (by decide) (dX_1) rfl rfl (by decide) in9 lk113 dX10_guest_76 ?_
                refine lv_topi (fun v14 ev14 => ?_)
                have h := nm_some ev14 h
                refine lv_istore (lv' := [(6, .int v14), (0, .ref (ad 0)), (1, .int a1), (2, .int a2), (3, .int a3), (4, .int a4), (5, .int a5)]) hx hb dX10_guest_79 hl (by decide) rfl (fun ls hl => ?_)
                refine lv_aload_n hx hb dX10_guest_81 rfl (lv_at hl 1 rfl) ?_
                refine x_gr X hP (j := 0) (by decide) (dX_0) rfl rfl (by decide) in10 lk10 dX10_guest_82 ?_
                refine x_gr X hP (j := 2) (by decide) (dX_1) rfl rfl (by decide) in9 lk116 dX10_guest_85 ?_
                refine lv_iload hx hb dX10_guest_88 (lv_at hl 0 rfl) ?_
                obtain ⟨g15, h⟩ := gd_some h
                refine x_ar X hP (by decide) (dX_4) g15 dX10_guest_90 ?_
                refine lv_iload_n hx hb dX10_guest_91 rfl (lv_at hl 2 rfl) ?_
                refine lv_iload_n hx hb dX10_guest_92 rfl (lv_at hl 3 rfl) ?_
                refine lv_iload_n hx hb dX10_guest_93 rfl (lv_at hl 4 rfl) ?_
                refine lv_iload hx hb dX10_guest_94 (lv_at hl 5 rfl) ?_
                refine lv_iload hx hb dX10_guest_96 (lv_at hl 6 rfl) ?_
                obtain ⟨r16, k17, h⟩ := bd_some h
                refine x_Vv (rest := []) X hP hS (k_4_come l D cA ad z hj n r7.2 v14.toNatClampNeg a1 a2 a3 a4 a5 (inb_lt g15) k17) (fam_lt (inb_lt g15) (by decide)) (dX_36 (inb_lt g15)) rfl 5 gX10_guest_X4_come rfl rfl rfl (by decide +kernel) ⟨Nat.le_of_ble_eq_true rfl, Nat.le_of_ble_eq_true rfl⟩ rfl hl.1 rfl (Nat.le_of_ble_eq_true rfl) dX10_guest_98 ⟨Nat.zero_le _, Nat.zero_le _⟩ (fun H locs hP hS => ?_)
                refine lv_aload_n hx hb dX10_guest_101 rfl (lv_at hl 1 rfl) ?_
                refine x_gr X hP (j := 0) (by decide) (dX_0) rfl rfl (by decide) in10 lk10 dX10_guest_102 ?_
                refine lv_dup hx hb dX10_guest_105 rfl ?_
                refine x_gi X hP (j := 5) (by decide) (dX_1) rfl rfl (by decide) in9 lk113 dX10_guest_106 ?_
                refine lv_iconst (v := 1) hx hb dX10_guest_109 (by decide) ?_
                refine lv_iadd hx hb dX10_guest_110 ?_
                refine lv_topi (fun v18 ev18 => ?_)
                have h := nm_some ev18 h
                refine x_pi X hP hS (j := 5) (by decide) (dX_1) rfl rfl (by decide) in9 tyX9_ok nmX9 lk113 rfl rfl rfl rfl dX10_guest_111 (fun σ19 eσ19 H locs hP hS => ?_)
                have h := nm_some eσ19 h
                refine lv_iload hx hb dX10_guest_114 (lv_at hl 0 rfl) ?_
                subst hQQ
                exact x_ri (σ0 := (fun _ _ => 0, fun _ _ => 0)) X hr hlocks hP hS (Option.some.inj h) dX10_guest_116
              · have h := it_f c13 h
                refine lv_iconst (v := (-1)) hx hb dX10_guest_70 (by decide) ?_
                subst hQQ
                exact x_ri (σ0 := (fun _ _ => 0, fun _ _ => 0)) X hr hlocks hP hS (Option.some.inj h) dX10_guest_71
      · have h := it_t c9 h
        refine lv_iconst (v := (-1)) hx hb dX10_guest_35 (by decide) ?_
        subst hQQ
        exact x_ri (σ0 := (fun _ _ => 0, fun _ _ => 0)) X hr hlocks hP hS (Option.some.inj h) dX10_guest_36
def f_10_leave (n : Nat) (σ : St) (a1 : Int32) (a2 : Int32) : Option (Int32 × St) :=
  (f_10_isBelow n σ a1 (σ.1 1 5)).bind fun r1 =>
  if r1.1 = 0 then
    some (0, r1.2)
  else
    gd (inb a1 8) <| if a2 < (r1.2.1 0 3) then
      some (0, r1.2)
    else
      if a2 ≤ (r1.2.1 (36 + a1.toNatClampNeg) 2) then
        some (0, r1.2)
      else
        if a2 ≤ (r1.2.1 (36 + a1.toNatClampNeg) 3) then
          nm (si r1.2 (36 + a1.toNatClampNeg) 3 a2) fun σ8 =>
          some (1, σ8)
        else
          some (0, r1.2)
abbrev rm_10_leave : Room := { frames := 1, cells := 0, slots := 0, locals := 21 }
set_option maxRecDepth 100000 in
set_option maxHeartbeats 4000000 in
theorem k_10_leave (l : Launch) (D : va_G) (cA : Nat → ClassId) (ad : Nat → Nat) (z : ZX) (hj : inj 120 ad) (n : Nat) (σ : St) (a1 : Int32) (a2 : Int32)  {res : Int32 × St} (h : f_10_leave n σ a1 a2 = some res) : MXi l D dX 120 cA ad (EX ad z) yX10_leave wsX10_leave rm_10_leave [.ref (ad 0), .int a1, .int a2] σ res := by
  refine Met.ofW (cc := cX10_leave) (maxL := 4) (ret := (some .boolean)) (by decide) rfl ?_
  intro p e s m args below meth c s₁ B hml hv
  obtain ⟨hargs, hP, hK, hE⟩ := hv
  have hx := B.exec
  have hb := B.bytes
  have hr := B.returns
  have hts := atoms_spec (ws := wsX10_leave) B.pre
  have hown : s.vm.findClass RX10 = some m.cls := findClass_of_methodNamed B.named
  have hlocks := B.notSynchronized
  have X : Cx p s m args c cX10_leave 4 RX10 wsX10_leave D dX 120 cA ad (EX ad z) := ⟨hx, hb, hml, hown, hts, hK, hj, hE, EX_ok ad z⟩
  have hS : va_S (inA 120 ad) s.heap s.heap [] := va_S.rf
  have hl := lv_entry ([.ref (ad 0), .int a1, .int a2]) (n := 4) (Nat.le_of_ble_eq_true rfl)
  rw [show entryFrame m args 4 = entryFrame m ([.ref (ad 0), .int a1, .int a2] : List Value).toArray 4 by rw [hargs]]
  rw [lg_entry_eq]
  generalize (lg_sl ([.ref (ad 0), .int a1, .int a2]) ++ List.replicate (4 - (lg_sl ([.ref (ad 0), .int a1, .int a2])).length) Slot.unset).toArray = ls at hl ⊢
  have hl : lv_has ls 4 [(0, .ref (ad 0)), (1, .int a1), (2, .int a2)] := hl
  obtain ⟨QQ, hQQ⟩ : ∃ Q, Q = MQ below (va_Qi (fun r u => r = res.1 ∧ u = res.2) (fun u t => va_P D vwCl (ww dX 120 cA ad u) t.heap) (inA 120 ad)) args s 0 0 (inA 120 ad) := ⟨_, rfl⟩
  show W p l e (headSpec wsX10_leave rm_10_leave).room s m args below meth c s.heap [] 0 0 (MQ below (va_Qi (fun r u => r = res.1 ∧ u = res.2) (fun u t => va_P D vwCl (ww dX 120 cA ad u) t.heap) (inA 120 ad)) args s 0 0 (inA 120 ad)) _
  rw [← hQQ]
  have in10 : ∀ w ∈ wsX100, w ∈ wsX10_leave := by decide +kernel
  have in9 : ∀ w ∈ wsX90, w ∈ wsX10_leave := by decide +kernel
  have in4 : ∀ w ∈ wsX40, w ∈ wsX10_leave := by decide +kernel
  have lk10 : Cond.fieldLink RX10 10 "CureTown" "town" "LCureTown$Town;" ∈ wsX10_leave := by decide +kernel
  have lk113 : Cond.fieldLink RX10 113 "CureTown$Town" "guestCount" "I" ∈ wsX10_leave := by decide +kernel
  have lk116 : Cond.fieldLink RX10 116 "CureTown$Town" "guests" "[LCureTown$Guest;" ∈ wsX10_leave := by decide +kernel
  have lk30 : Cond.fieldLink RX10 30 "CureTown" "today" "I" ∈ wsX10_leave := by decide +kernel
  have lk126 : Cond.fieldLink RX10 126 "CureTown$Guest" "from" "I" ∈ wsX10_leave := by decide +kernel
  have lk127 : Cond.fieldLink RX10 127 "CureTown$Guest" "to" "I" ∈ wsX10_leave := by decide +kernel
  unfold f_10_leave at h
  obtain ⟨H, hH⟩ : ∃ H, H = s.heap := ⟨_, rfl⟩
  obtain ⟨locs, hlc⟩ : ∃ q : List Loc, q = [] := ⟨_, rfl⟩
  have hP : va_P D vwCl (ww dX 120 cA ad σ) s.heap := hP
  have hS : va_S (inA 120 ad) s.heap s.heap [] := hS
  rw [← hlc] at hS ⊢
  rw [show W p l e (headSpec wsX10_leave rm_10_leave).room s m args below meth c s.heap locs 0 0 QQ = W p l e (headSpec wsX10_leave rm_10_leave).room s m args below meth c H locs 0 0 QQ by rw [hH]]
  have hS : va_S (inA 120 ad) s.heap H locs := by rw [hH]; exact hS
  have hP : va_P D vwCl (ww dX 120 cA ad σ) H := by rw [hH]; exact hP
  clear hH hlc
  refine lv_iload_n hx hb dX10_leave_0 rfl (lv_at hl 1 rfl) ?_
  refine lv_aload_n hx hb dX10_leave_1 rfl (lv_at hl 0 rfl) ?_
  refine x_gr X hP (j := 0) (by decide) (dX_0) rfl rfl (by decide) in10 lk10 dX10_leave_2 ?_
  refine x_gi X hP (j := 5) (by decide) (dX_1) rfl rfl (by decide) in9 lk113 dX10_leave_5 ?_
  obtain ⟨r1, k2, h⟩ := bd_some h
  refine x_Si (rest := []) X hP hS (k_10_isBelow l D cA ad z hj n σ a1 (σ.1 1 5) k2) 2 gX10_leave_X10_isBelow rfl rfl rfl (by decide +kernel) ⟨Nat.le_of_ble_eq_true rfl, Nat.le_of_ble_eq_true rfl⟩ rfl hl.1 rfl (Nat.le_of_ble_eq_true rfl) dX10_leave_8 ⟨Nat.zero_le _, Nat.zero_le _⟩ (fun H locs hP hS => ?_)
  refine lv_if_ne (tgt := 16) hx hb dX10_leave_11 (by decide) (fun c3 => ?_) (fun c3 => ?_)
  · have h := it_f c3 h
    refine lv_aload_n hx hb dX10_leave_16 rfl (lv_at hl 0 rfl) ?_
    refine x_gr X hP (j := 0) (by decide) (dX_0) rfl rfl (by decide) in10 lk10 dX10_leave_17 ?_
    refine x_gr X hP (j := 2) (by decide) (dX_1) rfl rfl (by decide) in9 lk116 dX10_leave_20 ?_
    refine lv_iload_n hx hb dX10_leave_23 rfl (lv_at hl 1 rfl) ?_
    obtain ⟨g4, h⟩ := gd_some h
    refine x_ar X hP (by decide) (dX_4) g4 dX10_leave_24 ?_
    refine lv_astore_n (lv' := [(3, .ref (ad (36 + a1.toNatClampNeg))), (0, .ref (ad 0)), (1, .int a1), (2, .int a2)]) hx hb dX10_leave_25 rfl hl (by decide) rfl (fun ls hl => ?_)
    refine lv_iload_n hx hb dX10_leave_26 rfl (lv_at hl 3 rfl) ?_
    refine lv_aload_n hx hb dX10_leave_27 rfl (lv_at hl 1 rfl) ?_
    refine x_gi X hP (j := 3) (by decide) (dX_0) rfl rfl (by decide) in10 lk30 dX10_leave_28 ?_
    refine lv_icmp_lt (tgt := 50) hx hb dX10_leave_31 (by decide) (fun c5 => ?_) (fun c5 => ?_)
    · have h := it_t c5 h
      refine lv_iconst (v := 0) hx hb dX10_leave_50 (by decide) ?_
      subst hQQ
      exact x_rz X hr hlocks hP hS (by decide +kernel) (Option.some.inj h) dX10_leave_51
    · have h := it_f c5 h
      refine lv_iload_n hx hb dX10_leave_34 rfl (lv_at hl 3 rfl) ?_
      refine lv_aload_n hx hb dX10_leave_35 rfl (lv_at hl 0 rfl) ?_
      refine x_gi X hP (j := 2) (fam_lt (inb_lt g4) (by decide)) (dX_36 (inb_lt g4)) rfl rfl (by decide) in4 lk126 dX10_leave_36 ?_
      refine lv_icmp_le (tgt := 50) hx hb dX10_leave_39 (by decide) (fun c6 => ?_) (fun c6 => ?_)
      · have h := it_t c6 h
        refine lv_iconst (v := 0) hx hb dX10_leave_50 (by decide) ?_
        subst hQQ
        exact x_rz X hr hlocks hP hS (by decide +kernel) (Option.some.inj h) dX10_leave_51
      · have h := it_f c6 h
        refine lv_iload_n hx hb dX10_leave_42 rfl (lv_at hl 3 rfl) ?_
        refine lv_aload_n hx hb dX10_leave_43 rfl (lv_at hl 0 rfl) ?_
        refine x_gi X hP (j := 3) (fam_lt (inb_lt g4) (by decide)) (dX_36 (inb_lt g4)) rfl rfl (by decide) in4 lk127 dX10_leave_44 ?_
        refine lv_icmp_le (tgt := 52) hx hb dX10_leave_47 (by decide) (fun c7 => ?_) (fun c7 => ?_)
        · have h := it_t c7 h
          refine lv_aload_n hx hb dX10_leave_52 rfl (lv_at hl 0 rfl) ?_
          refine lv_iload_n hx hb dX10_leave_53 rfl (lv_at hl 3 rfl) ?_
          refine x_pi X hP hS (j := 3) (fam_lt (inb_lt g4) (by decide)) (dX_36 (inb_lt g4)) rfl rfl (by decide) in4 tyX4_ok nmX4 lk127 rfl rfl rfl rfl dX10_leave_54 (fun σ8 eσ8 H locs hP hS => ?_)
          have h := nm_some eσ8 h
          refine lv_iconst (v := 1) hx hb dX10_leave_57 (by decide) ?_
          subst hQQ
          exact x_rz X hr hlocks hP hS (by decide +kernel) (Option.some.inj h) dX10_leave_58
        · have h := it_f c7 h
          refine lv_iconst (v := 0) hx hb dX10_leave_50 (by decide) ?_
          subst hQQ
          exact x_rz X hr hlocks hP hS (by decide +kernel) (Option.some.inj h) dX10_leave_51
  · have h := it_t c3 h
    refine lv_iconst (v := 0) hx hb dX10_leave_14 (by decide) ?_
    subst hQQ
    exact x_rz X hr hlocks hP hS (by decide +kernel) (Option.some.inj h) dX10_leave_15
def f_10_look (n : Nat) (σ : St) (a1 : Int32) : Option (Int32 × St) :=
  if a1 = 0 then
    some ((σ.1 0 3), σ)
  else if a1 = 1 then
    some ((σ.1 6 2), σ)
  else if a1 = 2 then
    some ((σ.1 1 5), σ)
  else if a1 = 3 then
    (f_9_countThere n σ (σ.1 0 3)).bind fun r5 =>
    some (r5.1, r5.2)
  else if a1 = 4 then
    (f_9_countBottles n σ ).bind fun r8 =>
    some (r8.1, r8.2)
  else if a1 = 5 then
    some ((σ.1 0 5), σ)
  else if a1 = 6 then
    some ((σ.1 0 6), σ)
  else 
    some ((-1), σ)
abbrev rm_10_look : Room := { frames := 3, cells := 0, slots := 0, locals := 66 }
set_option maxRecDepth 100000 in
set_option maxHeartbeats 4000000 in
theorem k_10_look (l : Launch) (D : va_G) (cA : Nat → ClassId) (ad : Nat → Nat) (z : ZX) (hj : inj 120 ad) (n : Nat) (σ : St) (a1 : Int32)  {res : Int32 × St} (h : f_10_look n σ a1 = some res) : MXi l D dX 120 cA ad (EX ad z) yX10_look wsX10_look rm_10_look [.ref (ad 0), .int a1] σ res := by
  refine Met.ofW (cc := cX10_look) (maxL := 2) (ret := (some .int)) (by decide) rfl ?_
  intro p e s m args below meth c s₁ B hml hv
  obtain ⟨hargs, hP, hK, hE⟩ := hv
  have hx := B.exec
  have hb := B.bytes
  have hr := B.returns
  have hts := atoms_spec (ws := wsX10_look) B.pre
  have hown : s.vm.findClass RX10 = some m.cls := findClass_of_methodNamed B.named
  have hlocks := B.notSynchronized
  have X : Cx p s m args c cX10_look 2 RX10 wsX10_look D dX 120 cA ad (EX ad z) := ⟨hx, hb, hml, hown, hts, hK, hj, hE, EX_ok ad z⟩
  have hS : va_S (inA 120 ad) s.heap s.heap [] := va_S.rf
  have hl := lv_entry ([.ref (ad 0), .int a1]) (n := 2) (Nat.le_of_ble_eq_true rfl)
  rw [show entryFrame m args 2 = entryFrame m ([.ref (ad 0), .int a1] : List Value).toArray 2 by rw [hargs]]
  rw [lg_entry_eq]
  generalize (lg_sl ([.ref (ad 0), .int a1]) ++ List.replicate (2 - (lg_sl ([.ref (ad 0), .int a1])).length) Slot.unset).toArray = ls at hl ⊢
  have hl : lv_has ls 2 [(0, .ref (ad 0)), (1, .int a1)] := hl
  obtain ⟨QQ, hQQ⟩ : ∃ Q, Q = MQ below (va_Qi (fun r u => r = res.1 ∧ u = res.2) (fun u t => va_P D vwCl (ww dX 120 cA ad u) t.heap) (inA 120 ad)) args s 0 0 (inA 120 ad) := ⟨_, rfl⟩
  show W p l e (headSpec wsX10_look rm_10_look).room s m args below meth c s.heap [] 0 0 (MQ below (va_Qi (fun r u => r = res.1 ∧ u = res.2) (fun u t => va_P D vwCl (ww dX 120 cA ad u) t.heap) (inA 120 ad)) args s 0 0 (inA 120 ad)) _
  rw [← hQQ]
  have in10 : ∀ w ∈ wsX100, w ∈ wsX10_look := by decide +kernel
  have in9 : ∀ w ∈ wsX90, w ∈ wsX10_look := by decide +kernel
  have in2 : ∀ w ∈ wsX20, w ∈ wsX10_look := by decide +kernel
  have lk30 : Cond.fieldLink RX10 30 "CureTown" "today" "I" ∈ wsX10_look := by decide +kernel
  have lk10 : Cond.fieldLink RX10 10 "CureTown" "town" "LCureTown$Town;" ∈ wsX10_look := by decide +kernel
  have lk82 : Cond.fieldLink RX10 82 "CureTown$Town" "book" "LCureTown$Book;" ∈ wsX10_look := by decide +kernel
  have lk107 : Cond.fieldLink RX10 107 "CureTown$Book" "count" "I" ∈ wsX10_look := by decide +kernel
  have lk113 : Cond.fieldLink RX10 113 "CureTown$Town" "guestCount" "I" ∈ wsX10_look := by decide +kernel
  have lk38 : Cond.fieldLink RX10 38 "CureTown" "bottlesSold" "I" ∈ wsX10_look := by decide +kernel
  have lk41 : Cond.fieldLink RX10 41 "CureTown" "bottlesPoured" "I" ∈ wsX10_look := by decide +kernel
  unfold f_10_look at h
  obtain ⟨H, hH⟩ : ∃ H, H = s.heap := ⟨_, rfl⟩
  obtain ⟨locs, hlc⟩ : ∃ q : List Loc, q = [] := ⟨_, rfl⟩
  have hP : va_P D vwCl (ww dX 120 cA ad σ) s.heap := hP
  have hS : va_S (inA 120 ad) s.heap s.heap [] := hS
  rw [← hlc] at hS ⊢
  rw [show W p l e (headSpec wsX10_look rm_10_look).room s m args below meth c s.heap locs 0 0 QQ = W p l e (headSpec wsX10_look rm_10_look).room s m args below meth c H locs 0 0 QQ by rw [hH]]
  have hS : va_S (inA 120 ad) s.heap H locs := by rw [hH]; exact hS
  have hP : va_P D vwCl (ww dX 120 cA ad σ) H := by rw [hH]; exact hP
  clear hH hlc
  refine lv_iload_n hx hb dX10_look_0 rfl (lv_at hl 1 rfl) ?_
  by_cases c1 : a1 = 0
  · have h := it_t c1 h
    refine lv_tableIn (off := 43) (tgt := 44) hx hb dX10_look_1 (by rw [c1]; decide) (by rw [c1]; decide) (by rw [c1]; rfl) (by decide) ?_
    refine lv_aload_n hx hb dX10_look_44 rfl (lv_at hl 0 rfl) ?_
    refine x_gi X hP (j := 3) (by decide) (dX_0) rfl rfl (by decide) in10 lk30 dX10_look_45 ?_
    subst hQQ
    exact x_ri (σ0 := (fun _ _ => 0, fun _ _ => 0)) X hr hlocks hP hS (Option.some.inj h) dX10_look_48
  · have h := it_f c1 h
    by_cases c2 : a1 = 1
    · have h := it_t c2 h
      refine lv_tableIn (off := 48) (tgt := 49) hx hb dX10_look_1 (by rw [c2]; decide) (by rw [c2]; decide) (by rw [c2]; rfl) (by decide) ?_
      refine lv_aload_n hx hb dX10_look_49 rfl (lv_at hl 0 rfl) ?_
      refine x_gr X hP (j := 0) (by decide) (dX_0) rfl rfl (by decide) in10 lk10 dX10_look_50 ?_
      refine x_gr X hP (j := 4) (by decide) (dX_1) rfl rfl (by decide) in9 lk82 dX10_look_53 ?_
      refine x_gi X hP (j := 2) (by decide) (dX_6) rfl rfl (by decide) in2 lk107 dX10_look_56 ?_
      subst hQQ
      exact x_ri (σ0 := (fun _ _ => 0, fun _ _ => 0)) X hr hlocks hP hS (Option.some.inj h) dX10_look_59
    · have h := it_f c2 h
      by_cases c3 : a1 = 2
      · have h := it_t c3 h
        refine lv_tableIn (off := 59) (tgt := 60) hx hb dX10_look_1 (by rw [c3]; decide) (by rw [c3]; decide) (by rw [c3]; rfl) (by decide) ?_
        refine lv_aload_n hx hb dX10_look_60 rfl (lv_at hl 0 rfl) ?_
        refine x_gr X hP (j := 0) (by decide) (dX_0) rfl rfl (by decide) in10 lk10 dX10_look_61 ?_
        refine x_gi X hP (j := 5) (by decide) (dX_1) rfl rfl (by decide) in9 lk113 dX10_look_64 ?_
        subst hQQ
        exact x_ri (σ0 := (fun _ _ => 0, fun _ _ => 0)) X hr hlocks hP hS (Option.some.inj h) dX10_look_67
      · have h := it_f c3 h
        by_cases c4 : a1 = 3
        · have h := it_t c4 h
          refine lv_tableIn (off := 67) (tgt := 68) hx hb dX10_look_1 (by rw [c4]; decide) (by rw [c4]; decide) (by rw [c4]; rfl) (by decide) ?_
          refine lv_aload_n hx hb dX10_look_68 rfl (lv_at hl 0 rfl) ?_
          refine x_gr X hP (j := 0) (by decide) (dX_0) rfl rfl (by decide) in10 lk10 dX10_look_69 ?_
          refine lv_aload_n hx hb dX10_look_72 rfl (lv_at hl 0 rfl) ?_
          refine x_gi X hP (j := 3) (by decide) (dX_0) rfl rfl (by decide) in10 lk30 dX10_look_73 ?_
          obtain ⟨r5, k6, h⟩ := bd_some h
          refine x_Vi (rest := []) X hP hS (k_9_countThere l D cA ad z hj n σ (σ.1 0 3) k6) (by decide) (dX_1) rfl 1 gX10_look_X9_countThere rfl rfl rfl (by decide +kernel) ⟨Nat.le_of_ble_eq_true rfl, Nat.le_of_ble_eq_true rfl⟩ rfl hl.1 rfl (Nat.le_of_ble_eq_true rfl) dX10_look_76 ⟨Nat.zero_le _, Nat.zero_le _⟩ (fun H locs hP hS => ?_)
          subst hQQ
          exact x_ri (σ0 := (fun _ _ => 0, fun _ _ => 0)) X hr hlocks hP hS (Option.some.inj h) dX10_look_79
        · have h := it_f c4 h
          by_cases c7 : a1 = 4
          · have h := it_t c7 h
            refine lv_tableIn (off := 79) (tgt := 80) hx hb dX10_look_1 (by rw [c7]; decide) (by rw [c7]; decide) (by rw [c7]; rfl) (by decide) ?_
            refine lv_aload_n hx hb dX10_look_80 rfl (lv_at hl 0 rfl) ?_
            refine x_gr X hP (j := 0) (by decide) (dX_0) rfl rfl (by decide) in10 lk10 dX10_look_81 ?_
            obtain ⟨r8, k9, h⟩ := bd_some h
            refine x_Vi (rest := []) X hP hS (k_9_countBottles l D cA ad z hj n σ  k9) (by decide) (dX_1) rfl 0 gX10_look_X9_countBottles rfl rfl rfl (by decide +kernel) ⟨Nat.le_of_ble_eq_true rfl, Nat.le_of_ble_eq_true rfl⟩ rfl hl.1 rfl (Nat.le_of_ble_eq_true rfl) dX10_look_84 ⟨Nat.zero_le _, Nat.zero_le _⟩ (fun H locs hP hS => ?_)
            subst hQQ
            exact x_ri (σ0 := (fun _ _ => 0, fun _ _ => 0)) X hr hlocks hP hS (Option.some.inj h) dX10_look_87
          · have h := it_f c7 h
            by_cases c10 : a1 = 5
            · have h := it_t c10 h
              refine lv_tableIn (off := 87) (tgt := 88) hx hb dX10_look_1 (by rw [c10]; decide) (by rw [c10]; decide) (by rw [c10]; rfl) (by decide) ?_
              refine lv_aload_n hx hb dX10_look_88 rfl (lv_at hl 0 rfl) ?_
              refine x_gi X hP (j := 5) (by decide) (dX_0) rfl rfl (by decide) in10 lk38 dX10_look_89 ?_
              subst hQQ
              exact x_ri (σ0 := (fun _ _ => 0, fun _ _ => 0)) X hr hlocks hP hS (Option.some.inj h) dX10_look_92
            · have h := it_f c10 h
              by_cases c11 : a1 = 6
              · have h := it_t c11 h
                refine lv_tableIn (off := 92) (tgt := 93) hx hb dX10_look_1 (by rw [c11]; decide) (by rw [c11]; decide) (by rw [c11]; rfl) (by decide) ?_
                refine lv_aload_n hx hb dX10_look_93 rfl (lv_at hl 0 rfl) ?_
                refine x_gi X hP (j := 6) (by decide) (dX_0) rfl rfl (by decide) in10 lk41 dX10_look_94 ?_
                subst hQQ
                exact x_ri (σ0 := (fun _ _ => 0, fun _ _ => 0)) X hr hlocks hP hS (Option.some.inj h) dX10_look_97
              · have h := it_f c11 h
                refine lv_tableOut (tgt := 98) hx hb dX10_look_1 (tb_out 6 (tb_c c11 <| (tb_c c10 <| (tb_c c7 <| (tb_c c4 <| (tb_c c3 <| (tb_c c2 <| (tb_c c1 <| tb_0)))))))) (by decide) ?_
                refine lv_iconst (v := (-1)) hx hb dX10_look_98 (by decide) ?_
                subst hQQ
                exact x_ri (σ0 := (fun _ _ => 0, fun _ _ => 0)) X hr hlocks hP hS (Option.some.inj h) dX10_look_99
def f_10_isToCome (n : Nat) (σ : St) (a1 : Int32) : Option (Int32 × St) :=
  if a1 < (σ.1 0 3) then
    some (0, σ)
  else
    if 100 ≤ a1 then
      some (0, σ)
    else
      some (1, σ)
abbrev rm_10_isToCome : Room := { frames := 0, cells := 0, slots := 0, locals := 0 }
set_option maxRecDepth 100000 in
set_option maxHeartbeats 4000000 in
theorem k_10_isToCome (l : Launch) (D : va_G) (cA : Nat → ClassId) (ad : Nat → Nat) (z : ZX) (hj : inj 120 ad) (n : Nat) (σ : St) (a1 : Int32)  {res : Int32 × St} (h : f_10_isToCome n σ a1 = some res) : MXi l D dX 120 cA ad (EX ad z) yX10_isToCome wsX10_isToCome rm_10_isToCome [.ref (ad 0), .int a1] σ res := by
  refine Met.ofW (cc := cX10_isToCome) (maxL := 2) (ret := (some .boolean)) (by decide) rfl ?_
  intro p e s m args below meth c s₁ B hml hv
  obtain ⟨hargs, hP, hK, hE⟩ := hv
  have hx := B.exec
  have hb := B.bytes
  have hr := B.returns
  have hts := atoms_spec (ws := wsX10_isToCome) B.pre
  have hown : s.vm.findClass RX10 = some m.cls := findClass_of_methodNamed B.named
  have hlocks := B.notSynchronized
  have X : Cx p s m args c cX10_isToCome 2 RX10 wsX10_isToCome D dX 120 cA ad (EX ad z) := ⟨hx, hb, hml, hown, hts, hK, hj, hE, EX_ok ad z⟩
  have hS : va_S (inA 120 ad) s.heap s.heap [] := va_S.rf
  have hl := lv_entry ([.ref (ad 0), .int a1]) (n := 2) (Nat.le_of_ble_eq_true rfl)
  rw [show entryFrame m args 2 = entryFrame m ([.ref (ad 0), .int a1] : List Value).toArray 2 by rw [hargs]]
  rw [lg_entry_eq]
  generalize (lg_sl ([.ref (ad 0), .int a1]) ++ List.replicate (2 - (lg_sl ([.ref (ad 0), .int a1])).length) Slot.unset).toArray = ls at hl ⊢
  have hl : lv_has ls 2 [(0, .ref (ad 0)), (1, .int a1)] := hl
  obtain ⟨QQ, hQQ⟩ : ∃ Q, Q = MQ below (va_Qi (fun r u => r = res.1 ∧ u = res.2) (fun u t => va_P D vwCl (ww dX 120 cA ad u) t.heap) (inA 120 ad)) args s 0 0 (inA 120 ad) := ⟨_, rfl⟩
  show W p l e (headSpec wsX10_isToCome rm_10_isToCome).room s m args below meth c s.heap [] 0 0 (MQ below (va_Qi (fun r u => r = res.1 ∧ u = res.2) (fun u t => va_P D vwCl (ww dX 120 cA ad u) t.heap) (inA 120 ad)) args s 0 0 (inA 120 ad)) _
  rw [← hQQ]
  have in10 : ∀ w ∈ wsX100, w ∈ wsX10_isToCome := by decide +kernel
  have lk30 : Cond.fieldLink RX10 30 "CureTown" "today" "I" ∈ wsX10_isToCome := by decide +kernel
  unfold f_10_isToCome at h
  obtain ⟨H, hH⟩ : ∃ H, H = s.heap := ⟨_, rfl⟩
  obtain ⟨locs, hlc⟩ : ∃ q : List Loc, q = [] := ⟨_, rfl⟩
  have hP : va_P D vwCl (ww dX 120 cA ad σ) s.heap := hP
  have hS : va_S (inA 120 ad) s.heap s.heap [] := hS
  rw [← hlc] at hS ⊢
  rw [show W p l e (headSpec wsX10_isToCome rm_10_isToCome).room s m args below meth c s.heap locs 0 0 QQ = W p l e (headSpec wsX10_isToCome rm_10_isToCome).room s m args below meth c H locs 0 0 QQ by rw [hH]]
  have hS : va_S (inA 120 ad) s.heap H locs := by rw [hH]; exact hS
  have hP : va_P D vwCl (ww dX 120 cA ad σ) H := by rw [hH]; exact hP
  clear hH hlc
  refine lv_iload_n hx hb dX10_isToCome_0 rfl (lv_at hl 1 rfl) ?_
  refine lv_aload_n hx hb dX10_isToCome_1 rfl (lv_at hl 0 rfl) ?_
  refine x_gi X hP (j := 3) (by decide) (dX_0) rfl rfl (by decide) in10 lk30 dX10_isToCome_2 ?_
  refine lv_icmp_lt (tgt := 18) hx hb dX10_isToCome_5 (by decide) (fun c1 => ?_) (fun c1 => ?_)
  · have h := it_t c1 h
    refine lv_iconst (v := 0) hx hb dX10_isToCome_18 (by decide) ?_
    subst hQQ
    exact x_rz X hr hlocks hP hS (by decide +kernel) (Option.some.inj h) dX10_isToCome_19
  · have h := it_f c1 h
    refine lv_iload_n hx hb dX10_isToCome_8 rfl (lv_at hl 1 rfl) ?_
    refine lv_bipush (v := 100) hx hb dX10_isToCome_9 (by decide) ?_
    refine lv_icmp_ge (tgt := 18) hx hb dX10_isToCome_11 (by decide) (fun c2 => ?_) (fun c2 => ?_)
    · have h := it_t c2 h
      refine lv_iconst (v := 0) hx hb dX10_isToCome_18 (by decide) ?_
      subst hQQ
      exact x_rz X hr hlocks hP hS (by decide +kernel) (Option.some.inj h) dX10_isToCome_19
    · have h := it_f c2 h
      refine lv_iconst (v := 1) hx hb dX10_isToCome_14 (by decide) ?_
      refine lv_goto (tgt := 19) hx hb dX10_isToCome_15 (by decide) ?_
      subst hQQ
      exact x_rz X hr hlocks hP hS (by decide +kernel) (Option.some.inj h) dX10_isToCome_19
def f_10_plan (n : Nat) (σ : St) (a1 : Int32) (a2 : Int32) (a3 : Int32) : Option (Int32 × St) :=
  (f_10_isToCome n σ a1).bind fun r1 =>
  if r1.1 = 0 then
    some ((-1), r1.2)
  else
    (f_9_isThere n r1.2 a2 a1).bind fun r4 =>
    if r4.1 = 0 then
      some ((-1), r4.2)
    else
      (f_3_layOutByRank n r4.2 a1).bind fun r7 =>
      gd (inb a2 8) <| (f_5_tell n r7 a2.toNatClampNeg a3).bind fun r10 =>
      some (r10.1, r10.2)
abbrev rm_10_plan : Room := { frames := 5, cells := 0, slots := 0, locals := 129 }
set_option maxRecDepth 100000 in
set_option maxHeartbeats 4000000 in
theorem k_10_plan (l : Launch) (D : va_G) (cA : Nat → ClassId) (ad : Nat → Nat) (z : ZX) (hj : inj 120 ad) (n : Nat) (σ : St) (a1 : Int32) (a2 : Int32) (a3 : Int32)  {res : Int32 × St} (h : f_10_plan n σ a1 a2 a3 = some res) : MXi l D dX 120 cA ad (EX ad z) yX10_plan wsX10_plan rm_10_plan [.ref (ad 0), .int a1, .int a2, .int a3] σ res := by
  refine Met.ofW (cc := cX10_plan) (maxL := 4) (ret := (some .int)) (by decide) rfl ?_
  intro p e s m args below meth c s₁ B hml hv
  obtain ⟨hargs, hP, hK, hE⟩ := hv
  have hx := B.exec
  have hb := B.bytes
  have hr := B.returns
  have hts := atoms_spec (ws := wsX10_plan) B.pre
  have hown : s.vm.findClass RX10 = some m.cls := findClass_of_methodNamed B.named
  have hlocks := B.notSynchronized
  have X : Cx p s m args c cX10_plan 4 RX10 wsX10_plan D dX 120 cA ad (EX ad z) := ⟨hx, hb, hml, hown, hts, hK, hj, hE, EX_ok ad z⟩
  have hS : va_S (inA 120 ad) s.heap s.heap [] := va_S.rf
  have hl := lv_entry ([.ref (ad 0), .int a1, .int a2, .int a3]) (n := 4) (Nat.le_of_ble_eq_true rfl)
  rw [show entryFrame m args 4 = entryFrame m ([.ref (ad 0), .int a1, .int a2, .int a3] : List Value).toArray 4 by rw [hargs]]
  rw [lg_entry_eq]
  generalize (lg_sl ([.ref (ad 0), .int a1, .int a2, .int a3]) ++ List.replicate (4 - (lg_sl ([.ref (ad 0), .int a1, .int a2, .int a3])).length) Slot.unset).toArray = ls at hl ⊢
  have hl : lv_has ls 4 [(0, .ref (ad 0)), (1, .int a1), (2, .int a2), (3, .int a3)] := hl
  obtain ⟨QQ, hQQ⟩ : ∃ Q, Q = MQ below (va_Qi (fun r u => r = res.1 ∧ u = res.2) (fun u t => va_P D vwCl (ww dX 120 cA ad u) t.heap) (inA 120 ad)) args s 0 0 (inA 120 ad) := ⟨_, rfl⟩
  show W p l e (headSpec wsX10_plan rm_10_plan).room s m args below meth c s.heap [] 0 0 (MQ below (va_Qi (fun r u => r = res.1 ∧ u = res.2) (fun u t => va_P D vwCl (ww dX 120 cA ad u) t.heap) (inA 120 ad)) args s 0 0 (inA 120 ad)) _
  rw [← hQQ]
  have in10 : ∀ w ∈ wsX100, w ∈ wsX10_plan := by decide +kernel
  have in3 : ∀ w ∈ wsX30, w ∈ wsX10_plan := by decide +kernel
  have lk10 : Cond.fieldLink RX10 10 "CureTown" "town" "LCureTown$Town;" ∈ wsX10_plan := by decide +kernel
  have lk19 : Cond.fieldLink RX10 19 "CureTown" "dayPlan" "LCureTown$DayPlan;" ∈ wsX10_plan := by decide +kernel
  have lk149 : Cond.fieldLink RX10 149 "CureTown$DayPlan" "rows" "[LCureTown$GuestDay;" ∈ wsX10_plan := by decide +kernel
  unfold f_10_plan at h
  obtain ⟨H, hH⟩ : ∃ H, H = s.heap := ⟨_, rfl⟩
  obtain ⟨locs, hlc⟩ : ∃ q : List Loc, q = [] := ⟨_, rfl⟩
  have hP : va_P D vwCl (ww dX 120 cA ad σ) s.heap := hP
  have hS : va_S (inA 120 ad) s.heap s.heap [] := hS
  rw [← hlc] at hS ⊢
  rw [show W p l e (headSpec wsX10_plan rm_10_plan).room s m args below meth c s.heap locs 0 0 QQ = W p l e (headSpec wsX10_plan rm_10_plan).room s m args below meth c H locs 0 0 QQ by rw [hH]]
  have hS : va_S (inA 120 ad) s.heap H locs := by rw [hH]; exact hS
  have hP : va_P D vwCl (ww dX 120 cA ad σ) H := by rw [hH]; exact hP
  clear hH hlc
  refine lv_aload_n hx hb dX10_plan_0 rfl (lv_at hl 0 rfl) ?_
  refine lv_iload_n hx hb dX10_plan_1 rfl (lv_at hl 1 rfl) ?_
  obtain ⟨r1, k2, h⟩ := bd_some h
  refine x_Vi (rest := []) X hP hS (k_10_isToCome l D cA ad z hj n σ a1 k2) (by decide) (dX_0) rfl 1 gX10_plan_X10_isToCome rfl rfl rfl (by decide +kernel) ⟨Nat.le_of_ble_eq_true rfl, Nat.le_of_ble_eq_true rfl⟩ rfl hl.1 rfl (Nat.le_of_ble_eq_true rfl) dX10_plan_2 ⟨Nat.zero_le _, Nat.zero_le _⟩ (fun H locs hP hS => ?_)
  refine lv_if_eq (tgt := 20) hx hb dX10_plan_5 (by decide) (fun c3 => ?_) (fun c3 => ?_)
  · have h := it_t c3 h
    refine lv_iconst (v := (-1)) hx hb dX10_plan_20 (by decide) ?_
    subst hQQ
    exact x_ri (σ0 := (fun _ _ => 0, fun _ _ => 0)) X hr hlocks hP hS (Option.some.inj h) dX10_plan_21
  · have h := it_f c3 h
    refine lv_aload_n hx hb dX10_plan_8 rfl (lv_at hl 0 rfl) ?_
    refine x_gr X hP (j := 0) (by decide) (dX_0) rfl rfl (by decide) in10 lk10 dX10_plan_9 ?_
    refine lv_iload_n hx hb dX10_plan_12 rfl (lv_at hl 2 rfl) ?_
    refine lv_iload_n hx hb dX10_plan_13 rfl (lv_at hl 1 rfl) ?_
    obtain ⟨r4, k5, h⟩ := bd_some h
    refine x_Vi (rest := []) X hP hS (k_9_isThere l D cA ad z hj n r1.2 a2 a1 k5) (by decide) (dX_1) rfl 2 gX10_plan_X9_isThere rfl rfl rfl (by decide +kernel) ⟨Nat.le_of_ble_eq_true rfl, Nat.le_of_ble_eq_true rfl⟩ rfl hl.1 rfl (Nat.le_of_ble_eq_true rfl) dX10_plan_14 ⟨Nat.zero_le _, Nat.zero_le _⟩ (fun H locs hP hS => ?_)
    refine lv_if_ne (tgt := 22) hx hb dX10_plan_17 (by decide) (fun c6 => ?_) (fun c6 => ?_)
    · have h := it_f c6 h
      refine lv_aload_n hx hb dX10_plan_22 rfl (lv_at hl 0 rfl) ?_
      refine x_gr X hP (j := 1) (by decide) (dX_0) rfl rfl (by decide) in10 lk19 dX10_plan_23 ?_
      refine lv_aload_n hx hb dX10_plan_26 rfl (lv_at hl 0 rfl) ?_
      refine x_gr X hP (j := 0) (by decide) (dX_0) rfl rfl (by decide) in10 lk10 dX10_plan_27 ?_
      refine lv_iload_n hx hb dX10_plan_30 rfl (lv_at hl 1 rfl) ?_
      obtain ⟨r7, k8, h⟩ := bd_some h
      refine x_Vv (rest := []) X hP hS (k_3_layOutByRank l D cA ad z hj n r4.2 a1 k8) (by decide) (dX_11) rfl 2 gX10_plan_X3_layOutByRank rfl rfl rfl (by decide +kernel) ⟨Nat.le_of_ble_eq_true rfl, Nat.le_of_ble_eq_true rfl⟩ rfl hl.1 rfl (Nat.le_of_ble_eq_true rfl) dX10_plan_31 ⟨Nat.zero_le _, Nat.zero_le _⟩ (fun H locs hP hS => ?_)
      refine lv_aload_n hx hb dX10_plan_34 rfl (lv_at hl 0 rfl) ?_
      refine x_gr X hP (j := 1) (by decide) (dX_0) rfl rfl (by decide) in10 lk19 dX10_plan_35 ?_
      refine x_gr X hP (j := 0) (by decide) (dX_11) rfl rfl (by decide) in3 lk149 dX10_plan_38 ?_
      refine lv_iload_n hx hb dX10_plan_41 rfl (lv_at hl 2 rfl) ?_
      obtain ⟨g9, h⟩ := gd_some h
      refine x_ar X hP (by decide) (dX_12) g9 dX10_plan_42 ?_
      refine lv_iload_n hx hb dX10_plan_43 rfl (lv_at hl 3 rfl) ?_
      obtain ⟨r10, k11, h⟩ := bd_some h
      refine x_Vi (rest := []) X hP hS (k_5_tell l D cA ad z hj n r7 a2.toNatClampNeg a3 (inb_lt g9) k11) (fam_lt (inb_lt g9) (by decide)) (dX_76 (inb_lt g9)) rfl 1 gX10_plan_X5_tell rfl rfl rfl (by decide +kernel) ⟨Nat.le_of_ble_eq_true rfl, Nat.le_of_ble_eq_true rfl⟩ rfl hl.1 rfl (Nat.le_of_ble_eq_true rfl) dX10_plan_44 ⟨Nat.zero_le _, Nat.zero_le _⟩ (fun H locs hP hS => ?_)
      subst hQQ
      exact x_ri (σ0 := (fun _ _ => 0, fun _ _ => 0)) X hr hlocks hP hS (Option.some.inj h) dX10_plan_47
    · have h := it_t c6 h
      refine lv_iconst (v := (-1)) hx hb dX10_plan_20 (by decide) ?_
      subst hQQ
      exact x_ri (σ0 := (fun _ _ => 0, fun _ _ => 0)) X hr hlocks hP hS (Option.some.inj h) dX10_plan_21
def f_10_taken (n : Nat) (σ : St) (a1 : Int32) (a2 : Int32) (a3 : Int32) : Option (Int32 × St) :=
  (f_10_isToCome n σ a1).bind fun r1 =>
  if r1.1 = 0 then
    some ((-1), r1.2)
  else
    (f_10_isBelow n r1.2 a2 4).bind fun r4 =>
    if r4.1 = 0 then
      some ((-1), r4.2)
    else
      (f_10_isBelow n r4.2 a3 48).bind fun r7 =>
      if r7.1 = 0 then
        some ((-1), r7.2)
      else
        (f_3_layOutByRank n r7.2 a1).bind fun r10 =>
        gd (inb a2 4) <| gd (inb a3 48) <| some ((r10.1 (116 + a2.toNatClampNeg) a3.toNatClampNeg), r10)
abbrev rm_10_taken : Room := { frames := 5, cells := 0, slots := 0, locals := 129 }
set_option maxRecDepth 100000 in
set_option maxHeartbeats 4000000 in
theorem k_10_taken (l : Launch) (D : va_G) (cA : Nat → ClassId) (ad : Nat → Nat) (z : ZX) (hj : inj 120 ad) (n : Nat) (σ : St) (a1 : Int32) (a2 : Int32) (a3 : Int32)  {res : Int32 × St} (h : f_10_taken n σ a1 a2 a3 = some res) : MXi l D dX 120 cA ad (EX ad z) yX10_taken wsX10_taken rm_10_taken [.ref (ad 0), .int a1, .int a2, .int a3] σ res := by
  refine Met.ofW (cc := cX10_taken) (maxL := 4) (ret := (some .int)) (by decide) rfl ?_
  intro p e s m args below meth c s₁ B hml hv
  obtain ⟨hargs, hP, hK, hE⟩ := hv
  have hx := B.exec
  have hb := B.bytes
  have hr := B.returns
  have hts := atoms_spec (ws := wsX10_taken) B.pre
  have hown : s.vm.findClass RX10 = some m.cls := findClass_of_methodNamed B.named
  have hlocks := B.notSynchronized
  have X : Cx p s m args c cX10_taken 4 RX10 wsX10_taken D dX 120 cA ad (EX ad z) := ⟨hx, hb, hml, hown, hts, hK, hj, hE, EX_ok ad z⟩
  have hS : va_S (inA 120 ad) s.heap s.heap [] := va_S.rf
  have hl := lv_entry ([.ref (ad 0), .int a1, .int a2, .int a3]) (n := 4) (Nat.le_of_ble_eq_true rfl)
  rw [show entryFrame m args 4 = entryFrame m ([.ref (ad 0), .int a1, .int a2, .int a3] : List Value).toArray 4 by rw [hargs]]
  rw [lg_entry_eq]
  generalize (lg_sl ([.ref (ad 0), .int a1, .int a2, .int a3]) ++ List.replicate (4 - (lg_sl ([.ref (ad 0), .int a1, .int a2, .int a3])).length) Slot.unset).toArray = ls at hl ⊢
  have hl : lv_has ls 4 [(0, .ref (ad 0)), (1, .int a1), (2, .int a2), (3, .int a3)] := hl
  obtain ⟨QQ, hQQ⟩ : ∃ Q, Q = MQ below (va_Qi (fun r u => r = res.1 ∧ u = res.2) (fun u t => va_P D vwCl (ww dX 120 cA ad u) t.heap) (inA 120 ad)) args s 0 0 (inA 120 ad) := ⟨_, rfl⟩
  show W p l e (headSpec wsX10_taken rm_10_taken).room s m args below meth c s.heap [] 0 0 (MQ below (va_Qi (fun r u => r = res.1 ∧ u = res.2) (fun u t => va_P D vwCl (ww dX 120 cA ad u) t.heap) (inA 120 ad)) args s 0 0 (inA 120 ad)) _
  rw [← hQQ]
  have in10 : ∀ w ∈ wsX100, w ∈ wsX10_taken := by decide +kernel
  have in3 : ∀ w ∈ wsX30, w ∈ wsX10_taken := by decide +kernel
  have lk19 : Cond.fieldLink RX10 19 "CureTown" "dayPlan" "LCureTown$DayPlan;" ∈ wsX10_taken := by decide +kernel
  have lk10 : Cond.fieldLink RX10 10 "CureTown" "town" "LCureTown$Town;" ∈ wsX10_taken := by decide +kernel
  have lk158 : Cond.fieldLink RX10 158 "CureTown$DayPlan" "glassesTaken" "[[I" ∈ wsX10_taken := by decide +kernel
  unfold f_10_taken at h
  obtain ⟨H, hH⟩ : ∃ H, H = s.heap := ⟨_, rfl⟩
  obtain ⟨locs, hlc⟩ : ∃ q : List Loc, q = [] := ⟨_, rfl⟩
  have hP : va_P D vwCl (ww dX 120 cA ad σ) s.heap := hP
  have hS : va_S (inA 120 ad) s.heap s.heap [] := hS
  rw [← hlc] at hS ⊢
  rw [show W p l e (headSpec wsX10_taken rm_10_taken).room s m args below meth c s.heap locs 0 0 QQ = W p l e (headSpec wsX10_taken rm_10_taken).room s m args below meth c H locs 0 0 QQ by rw [hH]]
  have hS : va_S (inA 120 ad) s.heap H locs := by rw [hH]; exact hS
  have hP : va_P D vwCl (ww dX 120 cA ad σ) H := by rw [hH]; exact hP
  clear hH hlc
  refine lv_aload_n hx hb dX10_taken_0 rfl (lv_at hl 0 rfl) ?_
  refine lv_iload_n hx hb dX10_taken_1 rfl (lv_at hl 1 rfl) ?_
  obtain ⟨r1, k2, h⟩ := bd_some h
  refine x_Vi (rest := []) X hP hS (k_10_isToCome l D cA ad z hj n σ a1 k2) (by decide) (dX_0) rfl 1 gX10_taken_X10_isToCome rfl rfl rfl (by decide +kernel) ⟨Nat.le_of_ble_eq_true rfl, Nat.le_of_ble_eq_true rfl⟩ rfl hl.1 rfl (Nat.le_of_ble_eq_true rfl) dX10_taken_2 ⟨Nat.zero_le _, Nat.zero_le _⟩ (fun H locs hP hS => ?_)
  refine lv_if_eq (tgt := 25) hx hb dX10_taken_5 (by decide) (fun c3 => ?_) (fun c3 => ?_)
  · have h := it_t c3 h
    refine lv_iconst (v := (-1)) hx hb dX10_taken_25 (by decide) ?_
    subst hQQ
    exact x_ri (σ0 := (fun _ _ => 0, fun _ _ => 0)) X hr hlocks hP hS (Option.some.inj h) dX10_taken_26
  · have h := it_f c3 h
    refine lv_iload_n hx hb dX10_taken_8 rfl (lv_at hl 2 rfl) ?_
    refine lv_iconst (v := 4) hx hb dX10_taken_9 (by decide) ?_
    obtain ⟨r4, k5, h⟩ := bd_some h
    refine x_Si (rest := []) X hP hS (k_10_isBelow l D cA ad z hj n r1.2 a2 4 k5) 2 gX10_taken_X10_isBelow rfl rfl rfl (by decide +kernel) ⟨Nat.le_of_ble_eq_true rfl, Nat.le_of_ble_eq_true rfl⟩ rfl hl.1 rfl (Nat.le_of_ble_eq_true rfl) dX10_taken_10 ⟨Nat.zero_le _, Nat.zero_le _⟩ (fun H locs hP hS => ?_)
    refine lv_if_eq (tgt := 25) hx hb dX10_taken_13 (by decide) (fun c6 => ?_) (fun c6 => ?_)
    · have h := it_t c6 h
      refine lv_iconst (v := (-1)) hx hb dX10_taken_25 (by decide) ?_
      subst hQQ
      exact x_ri (σ0 := (fun _ _ => 0, fun _ _ => 0)) X hr hlocks hP hS (Option.some.inj h) dX10_taken_26
    · have h := it_f c6 h
      refine lv_iload_n hx hb dX10_taken_16 rfl (lv_at hl 3 rfl) ?_
      refine lv_bipush (v := 48) hx hb dX10_taken_17 (by decide) ?_
      obtain ⟨r7, k8, h⟩ := bd_some h
      refine x_Si (rest := []) X hP hS (k_10_isBelow l D cA ad z hj n r4.2 a3 48 k8) 2 gX10_taken_X10_isBelow rfl rfl rfl (by decide +kernel) ⟨Nat.le_of_ble_eq_true rfl, Nat.le_of_ble_eq_true rfl⟩ rfl hl.1 rfl (Nat.le_of_ble_eq_true rfl) dX10_taken_19 ⟨Nat.zero_le _, Nat.zero_le _⟩ (fun H locs hP hS => ?_)
      refine lv_if_ne (tgt := 27) hx hb dX10_taken_22 (by decide) (fun c9 => ?_) (fun c9 => ?_)
      · have h := it_f c9 h
        refine lv_aload_n hx hb dX10_taken_27 rfl (lv_at hl 0 rfl) ?_
        refine x_gr X hP (j := 1) (by decide) (dX_0) rfl rfl (by decide) in10 lk19 dX10_taken_28 ?_
        refine lv_aload_n hx hb dX10_taken_31 rfl (lv_at hl 0 rfl) ?_
        refine x_gr X hP (j := 0) (by decide) (dX_0) rfl rfl (by decide) in10 lk10 dX10_taken_32 ?_
        refine lv_iload_n hx hb dX10_taken_35 rfl (lv_at hl 1 rfl) ?_
        obtain ⟨r10, k11, h⟩ := bd_some h
        refine x_Vv (rest := []) X hP hS (k_3_layOutByRank l D cA ad z hj n r7.2 a1 k11) (by decide) (dX_11) rfl 2 gX10_taken_X3_layOutByRank rfl rfl rfl (by decide +kernel) ⟨Nat.le_of_ble_eq_true rfl, Nat.le_of_ble_eq_true rfl⟩ rfl hl.1 rfl (Nat.le_of_ble_eq_true rfl) dX10_taken_36 ⟨Nat.zero_le _, Nat.zero_le _⟩ (fun H locs hP hS => ?_)
        refine lv_aload_n hx hb dX10_taken_39 rfl (lv_at hl 0 rfl) ?_
        refine x_gr X hP (j := 1) (by decide) (dX_0) rfl rfl (by decide) in10 lk19 dX10_taken_40 ?_
        refine x_gr X hP (j := 1) (by decide) (dX_11) rfl rfl (by decide) in3 lk158 dX10_taken_43 ?_
        refine lv_iload_n hx hb dX10_taken_46 rfl (lv_at hl 2 rfl) ?_
        obtain ⟨g12, h⟩ := gd_some h
        refine x_arr X hP (by decide) (dX_13) g12 dX10_taken_47 ?_
        refine lv_iload_n hx hb dX10_taken_48 rfl (lv_at hl 3 rfl) ?_
        obtain ⟨g13, h⟩ := gd_some h
        refine x_ai X hP (fam_lt (inb_lt g12) (by decide)) (dX_116 (inb_lt g12)) g13 dX10_taken_49 ?_
        subst hQQ
        exact x_ri (σ0 := (fun _ _ => 0, fun _ _ => 0)) X hr hlocks hP hS (Option.some.inj h) dX10_taken_50
      · have h := it_t c9 h
        refine lv_iconst (v := (-1)) hx hb dX10_taken_25 (by decide) ?_
        subst hQQ
        exact x_ri (σ0 := (fun _ _ => 0, fun _ _ => 0)) X hr hlocks hP hS (Option.some.inj h) dX10_taken_26
def f_10_best (n : Nat) (σ : St) (a1 : Int32) (a2 : Int32) : Option (Int32 × St) :=
  (f_10_isToCome n σ a1).bind fun r1 =>
  if r1.1 = 0 then
    some ((-1), r1.2)
  else
    (f_9_countThere n r1.2 a1).bind fun r4 =>
    if r4.1 ≤ 6 then
      (f_1_run n r4.2 a1).bind fun r7 =>
      (f_1_tell n r7 a2).bind fun r9 =>
      some (r9.1, r9.2)
    else
      some ((-1), r4.2)
abbrev rm_10_best : Room := { frames := 14, cells := 0, slots := 0, locals := 353 }
set_option maxRecDepth 100000 in
set_option maxHeartbeats 4000000 in
theorem k_10_best (l : Launch) (D : va_G) (cA : Nat → ClassId) (ad : Nat → Nat) (z : ZX) (hj : inj 120 ad) (n : Nat) (σ : St) (a1 : Int32) (a2 : Int32)  {res : Int32 × St} (h : f_10_best n σ a1 a2 = some res) : MXi l D dX 120 cA ad (EX ad z) yX10_best wsX10_best rm_10_best [.ref (ad 0), .int a1, .int a2] σ res := by
  refine Met.ofW (cc := cX10_best) (maxL := 3) (ret := (some .int)) (by decide) rfl ?_
  intro p e s m args below meth c s₁ B hml hv
  obtain ⟨hargs, hP, hK, hE⟩ := hv
  have hx := B.exec
  have hb := B.bytes
  have hr := B.returns
  have hts := atoms_spec (ws := wsX10_best) B.pre
  have hown : s.vm.findClass RX10 = some m.cls := findClass_of_methodNamed B.named
  have hlocks := B.notSynchronized
  have X : Cx p s m args c cX10_best 3 RX10 wsX10_best D dX 120 cA ad (EX ad z) := ⟨hx, hb, hml, hown, hts, hK, hj, hE, EX_ok ad z⟩
  have hS : va_S (inA 120 ad) s.heap s.heap [] := va_S.rf
  have hl := lv_entry ([.ref (ad 0), .int a1, .int a2]) (n := 3) (Nat.le_of_ble_eq_true rfl)
  rw [show entryFrame m args 3 = entryFrame m ([.ref (ad 0), .int a1, .int a2] : List Value).toArray 3 by rw [hargs]]
  rw [lg_entry_eq]
  generalize (lg_sl ([.ref (ad 0), .int a1, .int a2]) ++ List.replicate (3 - (lg_sl ([.ref (ad 0), .int a1, .int a2])).length) Slot.unset).toArray = ls at hl ⊢
  have hl : lv_has ls 3 [(0, .ref (ad 0)), (1, .int a1), (2, .int a2)] := hl
  obtain ⟨QQ, hQQ⟩ : ∃ Q, Q = MQ below (va_Qi (fun r u => r = res.1 ∧ u = res.2) (fun u t => va_P D vwCl (ww dX 120 cA ad u) t.heap) (inA 120 ad)) args s 0 0 (inA 120 ad) := ⟨_, rfl⟩
  show W p l e (headSpec wsX10_best rm_10_best).room s m args below meth c s.heap [] 0 0 (MQ below (va_Qi (fun r u => r = res.1 ∧ u = res.2) (fun u t => va_P D vwCl (ww dX 120 cA ad u) t.heap) (inA 120 ad)) args s 0 0 (inA 120 ad)) _
  rw [← hQQ]
  have in10 : ∀ w ∈ wsX100, w ∈ wsX10_best := by decide +kernel
  have lk10 : Cond.fieldLink RX10 10 "CureTown" "town" "LCureTown$Town;" ∈ wsX10_best := by decide +kernel
  have lk26 : Cond.fieldLink RX10 26 "CureTown" "search" "LCureTown$BestSearch;" ∈ wsX10_best := by decide +kernel
  have lk19 : Cond.fieldLink RX10 19 "CureTown" "dayPlan" "LCureTown$DayPlan;" ∈ wsX10_best := by decide +kernel
  unfold f_10_best at h
  obtain ⟨H, hH⟩ : ∃ H, H = s.heap := ⟨_, rfl⟩
  obtain ⟨locs, hlc⟩ : ∃ q : List Loc, q = [] := ⟨_, rfl⟩
  have hP : va_P D vwCl (ww dX 120 cA ad σ) s.heap := hP
  have hS : va_S (inA 120 ad) s.heap s.heap [] := hS
  rw [← hlc] at hS ⊢
  rw [show W p l e (headSpec wsX10_best rm_10_best).room s m args below meth c s.heap locs 0 0 QQ = W p l e (headSpec wsX10_best rm_10_best).room s m args below meth c H locs 0 0 QQ by rw [hH]]
  have hS : va_S (inA 120 ad) s.heap H locs := by rw [hH]; exact hS
  have hP : va_P D vwCl (ww dX 120 cA ad σ) H := by rw [hH]; exact hP
  clear hH hlc
  refine lv_aload_n hx hb dX10_best_0 rfl (lv_at hl 0 rfl) ?_
  refine lv_iload_n hx hb dX10_best_1 rfl (lv_at hl 1 rfl) ?_
  obtain ⟨r1, k2, h⟩ := bd_some h
  refine x_Vi (rest := []) X hP hS (k_10_isToCome l D cA ad z hj n σ a1 k2) (by decide) (dX_0) rfl 1 gX10_best_X10_isToCome rfl rfl rfl (by decide +kernel) ⟨Nat.le_of_ble_eq_true rfl, Nat.le_of_ble_eq_true rfl⟩ rfl hl.1 rfl (Nat.le_of_ble_eq_true rfl) dX10_best_2 ⟨Nat.zero_le _, Nat.zero_le _⟩ (fun H locs hP hS => ?_)
  refine lv_if_eq (tgt := 21) hx hb dX10_best_5 (by decide) (fun c3 => ?_) (fun c3 => ?_)
  · have h := it_t c3 h
    refine lv_iconst (v := (-1)) hx hb dX10_best_21 (by decide) ?_
    subst hQQ
    exact x_ri (σ0 := (fun _ _ => 0, fun _ _ => 0)) X hr hlocks hP hS (Option.some.inj h) dX10_best_22
  · have h := it_f c3 h
    refine lv_aload_n hx hb dX10_best_8 rfl (lv_at hl 0 rfl) ?_
    refine x_gr X hP (j := 0) (by decide) (dX_0) rfl rfl (by decide) in10 lk10 dX10_best_9 ?_
    refine lv_iload_n hx hb dX10_best_12 rfl (lv_at hl 1 rfl) ?_
    obtain ⟨r4, k5, h⟩ := bd_some h
    refine x_Vi (rest := []) X hP hS (k_9_countThere l D cA ad z hj n r1.2 a1 k5) (by decide) (dX_1) rfl 1 gX10_best_X9_countThere rfl rfl rfl (by decide +kernel) ⟨Nat.le_of_ble_eq_true rfl, Nat.le_of_ble_eq_true rfl⟩ rfl hl.1 rfl (Nat.le_of_ble_eq_true rfl) dX10_best_13 ⟨Nat.zero_le _, Nat.zero_le _⟩ (fun H locs hP hS => ?_)
    refine lv_bipush (v := 6) hx hb dX10_best_16 (by decide) ?_
    refine lv_icmp_le (tgt := 23) hx hb dX10_best_18 (by decide) (fun c6 => ?_) (fun c6 => ?_)
    · have h := it_t c6 h
      refine lv_aload_n hx hb dX10_best_23 rfl (lv_at hl 0 rfl) ?_
      refine x_gr X hP (j := 2) (by decide) (dX_0) rfl rfl (by decide) in10 lk26 dX10_best_24 ?_
      refine lv_aload_n hx hb dX10_best_27 rfl (lv_at hl 0 rfl) ?_
      refine x_gr X hP (j := 0) (by decide) (dX_0) rfl rfl (by decide) in10 lk10 dX10_best_28 ?_
      refine lv_aload_n hx hb dX10_best_31 rfl (lv_at hl 0 rfl) ?_
      refine x_gr X hP (j := 1) (by decide) (dX_0) rfl rfl (by decide) in10 lk19 dX10_best_32 ?_
      refine lv_iload_n hx hb dX10_best_35 rfl (lv_at hl 1 rfl) ?_
      obtain ⟨r7, k8, h⟩ := bd_some h
      refine x_Vv (rest := []) X hP hS (k_1_run l D cA ad z hj n r4.2 a1 k8) (by decide) (dX_15) rfl 3 gX10_best_X1_run rfl rfl rfl (by decide +kernel) ⟨Nat.le_of_ble_eq_true rfl, Nat.le_of_ble_eq_true rfl⟩ rfl hl.1 rfl (Nat.le_of_ble_eq_true rfl) dX10_best_36 ⟨Nat.zero_le _, Nat.zero_le _⟩ (fun H locs hP hS => ?_)
      refine lv_aload_n hx hb dX10_best_39 rfl (lv_at hl 0 rfl) ?_
      refine x_gr X hP (j := 2) (by decide) (dX_0) rfl rfl (by decide) in10 lk26 dX10_best_40 ?_
      refine lv_iload_n hx hb dX10_best_43 rfl (lv_at hl 2 rfl) ?_
      obtain ⟨r9, k10, h⟩ := bd_some h
      refine x_Vi (rest := []) X hP hS (k_1_tell l D cA ad z hj n r7 a2 k10) (by decide) (dX_15) rfl 1 gX10_best_X1_tell rfl rfl rfl (by decide +kernel) ⟨Nat.le_of_ble_eq_true rfl, Nat.le_of_ble_eq_true rfl⟩ rfl hl.1 rfl (Nat.le_of_ble_eq_true rfl) dX10_best_44 ⟨Nat.zero_le _, Nat.zero_le _⟩ (fun H locs hP hS => ?_)
      subst hQQ
      exact x_ri (σ0 := (fun _ _ => 0, fun _ _ => 0)) X hr hlocks hP hS (Option.some.inj h) dX10_best_47
    · have h := it_f c6 h
      refine lv_iconst (v := (-1)) hx hb dX10_best_21 (by decide) ?_
      subst hQQ
      exact x_ri (σ0 := (fun _ _ => 0, fun _ _ => 0)) X hr hlocks hP hS (Option.some.inj h) dX10_best_22
def f_10_keep (n : Nat) (σ : St) (a1 : Int32) : Option (Int32 × St) :=
  (f_9_countThere n σ (σ.1 0 3)).bind fun r1 =>
  if r1.1 ≤ 6 then
    gd (isb a1) <| nm (si r1.2 0 4 a1) fun σ4 =>
    some (1, σ4)
  else
    some (0, r1.2)
abbrev rm_10_keep : Room := { frames := 3, cells := 0, slots := 0, locals := 66 }
set_option maxRecDepth 100000 in
set_option maxHeartbeats 4000000 in
theorem k_10_keep (l : Launch) (D : va_G) (cA : Nat → ClassId) (ad : Nat → Nat) (z : ZX) (hj : inj 120 ad) (n : Nat) (σ : St) (a1 : Int32)  {res : Int32 × St} (h : f_10_keep n σ a1 = some res) : MXi l D dX 120 cA ad (EX ad z) yX10_keep wsX10_keep rm_10_keep [.ref (ad 0), .int a1] σ res := by
  refine Met.ofW (cc := cX10_keep) (maxL := 2) (ret := (some .boolean)) (by decide) rfl ?_
  intro p e s m args below meth c s₁ B hml hv
  obtain ⟨hargs, hP, hK, hE⟩ := hv
  have hx := B.exec
  have hb := B.bytes
  have hr := B.returns
  have hts := atoms_spec (ws := wsX10_keep) B.pre
  have hown : s.vm.findClass RX10 = some m.cls := findClass_of_methodNamed B.named
  have hlocks := B.notSynchronized
  have X : Cx p s m args c cX10_keep 2 RX10 wsX10_keep D dX 120 cA ad (EX ad z) := ⟨hx, hb, hml, hown, hts, hK, hj, hE, EX_ok ad z⟩
  have hS : va_S (inA 120 ad) s.heap s.heap [] := va_S.rf
  have hl := lv_entry ([.ref (ad 0), .int a1]) (n := 2) (Nat.le_of_ble_eq_true rfl)
  rw [show entryFrame m args 2 = entryFrame m ([.ref (ad 0), .int a1] : List Value).toArray 2 by rw [hargs]]
  rw [lg_entry_eq]
  generalize (lg_sl ([.ref (ad 0), .int a1]) ++ List.replicate (2 - (lg_sl ([.ref (ad 0), .int a1])).length) Slot.unset).toArray = ls at hl ⊢
  have hl : lv_has ls 2 [(0, .ref (ad 0)), (1, .int a1)] := hl
  obtain ⟨QQ, hQQ⟩ : ∃ Q, Q = MQ below (va_Qi (fun r u => r = res.1 ∧ u = res.2) (fun u t => va_P D vwCl (ww dX 120 cA ad u) t.heap) (inA 120 ad)) args s 0 0 (inA 120 ad) := ⟨_, rfl⟩
  show W p l e (headSpec wsX10_keep rm_10_keep).room s m args below meth c s.heap [] 0 0 (MQ below (va_Qi (fun r u => r = res.1 ∧ u = res.2) (fun u t => va_P D vwCl (ww dX 120 cA ad u) t.heap) (inA 120 ad)) args s 0 0 (inA 120 ad)) _
  rw [← hQQ]
  have in10 : ∀ w ∈ wsX100, w ∈ wsX10_keep := by decide +kernel
  have lk10 : Cond.fieldLink RX10 10 "CureTown" "town" "LCureTown$Town;" ∈ wsX10_keep := by decide +kernel
  have lk30 : Cond.fieldLink RX10 30 "CureTown" "today" "I" ∈ wsX10_keep := by decide +kernel
  have lk34 : Cond.fieldLink RX10 34 "CureTown" "bestIsTold" "Z" ∈ wsX10_keep := by decide +kernel
  unfold f_10_keep at h
  obtain ⟨H, hH⟩ : ∃ H, H = s.heap := ⟨_, rfl⟩
  obtain ⟨locs, hlc⟩ : ∃ q : List Loc, q = [] := ⟨_, rfl⟩
  have hP : va_P D vwCl (ww dX 120 cA ad σ) s.heap := hP
  have hS : va_S (inA 120 ad) s.heap s.heap [] := hS
  rw [← hlc] at hS ⊢
  rw [show W p l e (headSpec wsX10_keep rm_10_keep).room s m args below meth c s.heap locs 0 0 QQ = W p l e (headSpec wsX10_keep rm_10_keep).room s m args below meth c H locs 0 0 QQ by rw [hH]]
  have hS : va_S (inA 120 ad) s.heap H locs := by rw [hH]; exact hS
  have hP : va_P D vwCl (ww dX 120 cA ad σ) H := by rw [hH]; exact hP
  clear hH hlc
  refine lv_aload_n hx hb dX10_keep_0 rfl (lv_at hl 0 rfl) ?_
  refine x_gr X hP (j := 0) (by decide) (dX_0) rfl rfl (by decide) in10 lk10 dX10_keep_1 ?_
  refine lv_aload_n hx hb dX10_keep_4 rfl (lv_at hl 0 rfl) ?_
  refine x_gi X hP (j := 3) (by decide) (dX_0) rfl rfl (by decide) in10 lk30 dX10_keep_5 ?_
  obtain ⟨r1, k2, h⟩ := bd_some h
  refine x_Vi (rest := []) X hP hS (k_9_countThere l D cA ad z hj n σ (σ.1 0 3) k2) (by decide) (dX_1) rfl 1 gX10_keep_X9_countThere rfl rfl rfl (by decide +kernel) ⟨Nat.le_of_ble_eq_true rfl, Nat.le_of_ble_eq_true rfl⟩ rfl hl.1 rfl (Nat.le_of_ble_eq_true rfl) dX10_keep_8 ⟨Nat.zero_le _, Nat.zero_le _⟩ (fun H locs hP hS => ?_)
  refine lv_bipush (v := 6) hx hb dX10_keep_11 (by decide) ?_
  refine lv_icmp_le (tgt := 18) hx hb dX10_keep_13 (by decide) (fun c3 => ?_) (fun c3 => ?_)
  · have h := it_t c3 h
    refine lv_aload_n hx hb dX10_keep_18 rfl (lv_at hl 0 rfl) ?_
    refine lv_iload_n hx hb dX10_keep_19 rfl (lv_at hl 1 rfl) ?_
    obtain ⟨g5, h⟩ := gd_some h
    refine x_pi X hP hS (j := 4) (by decide) (dX_0) rfl rfl (by decide) in10 tyX10_ok nmX10 lk34 rfl rfl (isb_nar g5) (isb_fit g5) dX10_keep_20 (fun σ4 eσ4 H locs hP hS => ?_)
    have h := nm_some eσ4 h
    refine lv_iconst (v := 1) hx hb dX10_keep_23 (by decide) ?_
    subst hQQ
    exact x_rz X hr hlocks hP hS (by decide +kernel) (Option.some.inj h) dX10_keep_24
  · have h := it_f c3 h
    refine lv_iconst (v := 0) hx hb dX10_keep_16 (by decide) ?_
    subst hQQ
    exact x_rz X hr hlocks hP hS (by decide +kernel) (Option.some.inj h) dX10_keep_17
