def f_11_isIn (n : Nat) (σ : St) (a0 : Int32) (a1 : Int32) (a2 : Int32) : Option (Int32 × St) :=
  if a0 < a1 then
    some (0, σ)
  else
    if a2 < a0 then
      some (0, σ)
    else
      some (1, σ)
abbrev rm_11_isIn : Room := { frames := 0, cells := 0, slots := 0, locals := 0 }
set_option maxRecDepth 100000 in
set_option maxHeartbeats 4000000 in
theorem k_11_isIn (l : Launch) (D : va_G) (cA : Nat → ClassId) (ad : Nat → Nat) (hj : inj 41 ad) (n : Nat) (σ : St) (a0 : Int32) (a1 : Int32) (a2 : Int32)  {res : Int32 × St} (h : f_11_isIn n σ a0 a1 a2 = some res) : MXi l D dM 41 cA ad ET yX11_isIn wsX11_isIn rm_11_isIn [.int a0, .int a1, .int a2] σ res := by
  refine Met.ofW (cc := cX11_isIn) (maxL := 3) (ret := (some .boolean)) (by decide) rfl ?_
  intro p e s m args below meth c s₁ B hml hv
  obtain ⟨hargs, hP, hK, hE⟩ := hv
  have hx := B.exec
  have hb := B.bytes
  have hr := B.returns
  have hts := atoms_spec (ws := wsX11_isIn) B.pre
  have hown : s.vm.findClass RX11 = some m.cls := findClass_of_methodNamed B.named
  have hlocks := B.notSynchronized
  have X : Cx p s m args c cX11_isIn 3 RX11 wsX11_isIn D dM 41 cA ad ET := ⟨hx, hb, hml, hown, hts, hK, hj, hE, ET_ok⟩
  have hS : va_S (inA 41 ad) s.heap s.heap [] := va_S.rf
  have hl := lv_entry ([.int a0, .int a1, .int a2]) (n := 3) (Nat.le_of_ble_eq_true rfl)
  rw [show entryFrame m args 3 = entryFrame m ([.int a0, .int a1, .int a2] : List Value).toArray 3 by rw [hargs]]
  rw [lg_entry_eq]
  generalize (lg_sl ([.int a0, .int a1, .int a2]) ++ List.replicate (3 - (lg_sl ([.int a0, .int a1, .int a2])).length) Slot.unset).toArray = ls at hl ⊢
  have hl : lv_has ls 3 [(0, .int a0), (1, .int a1), (2, .int a2)] := hl
  obtain ⟨QQ, hQQ⟩ : ∃ Q, Q = MQ below (va_Qi (fun r u => r = res.1 ∧ u = res.2) (fun u t => va_P D vwCl (ww dM 41 cA ad u) t.heap) (inA 41 ad)) args s 0 0 (inA 41 ad) := ⟨_, rfl⟩
  show W p l e (headSpec wsX11_isIn rm_11_isIn).room s m args below meth c s.heap [] 0 0 (MQ below (va_Qi (fun r u => r = res.1 ∧ u = res.2) (fun u t => va_P D vwCl (ww dM 41 cA ad u) t.heap) (inA 41 ad)) args s 0 0 (inA 41 ad)) _
  rw [← hQQ]
  unfold f_11_isIn at h
  obtain ⟨H, hH⟩ : ∃ H, H = s.heap := ⟨_, rfl⟩
  obtain ⟨locs, hlc⟩ : ∃ q : List Loc, q = [] := ⟨_, rfl⟩
  have hP : va_P D vwCl (ww dM 41 cA ad σ) s.heap := hP
  have hS : va_S (inA 41 ad) s.heap s.heap [] := hS
  rw [← hlc] at hS ⊢
  rw [show W p l e (headSpec wsX11_isIn rm_11_isIn).room s m args below meth c s.heap locs 0 0 QQ = W p l e (headSpec wsX11_isIn rm_11_isIn).room s m args below meth c H locs 0 0 QQ by rw [hH]]
  have hS : va_S (inA 41 ad) s.heap H locs := by rw [hH]; exact hS
  have hP : va_P D vwCl (ww dM 41 cA ad σ) H := by rw [hH]; exact hP
  clear hH hlc
  refine lv_iload_n hx hb dX11_isIn_0 rfl (lv_at hl 0 rfl) ?_
  refine lv_iload_n hx hb dX11_isIn_1 rfl (lv_at hl 1 rfl) ?_
  refine lv_icmp_lt (tgt := 14) hx hb dX11_isIn_2 (by decide) (fun c1 => ?_) (fun c1 => ?_)
  · have h := it_t c1 h
    refine lv_iconst (v := 0) hx hb dX11_isIn_14 (by decide) ?_
    subst hQQ
    exact x_rz X hr hlocks hP hS (by decide +kernel) (Option.some.inj h) dX11_isIn_15
  · have h := it_f c1 h
    refine lv_iload_n hx hb dX11_isIn_5 rfl (lv_at hl 0 rfl) ?_
    refine lv_iload_n hx hb dX11_isIn_6 rfl (lv_at hl 2 rfl) ?_
    refine lv_icmp_gt (tgt := 14) hx hb dX11_isIn_7 (by decide) (fun c2 => ?_) (fun c2 => ?_)
    · have h := it_t c2 h
      refine lv_iconst (v := 0) hx hb dX11_isIn_14 (by decide) ?_
      subst hQQ
      exact x_rz X hr hlocks hP hS (by decide +kernel) (Option.some.inj h) dX11_isIn_15
    · have h := it_f c2 h
      refine lv_iconst (v := 1) hx hb dX11_isIn_10 (by decide) ?_
      refine lv_goto (tgt := 15) hx hb dX11_isIn_11 (by decide) ?_
      subst hQQ
      exact x_rz X hr hlocks hP hS (by decide +kernel) (Option.some.inj h) dX11_isIn_15
def f_11_isSpring (n : Nat) (σ : St) (a0 : Int32) : Option (Int32 × St) :=
  (f_11_isIn n σ a0 0 3).bind fun r1 =>
  gd (isb r1.1) <| some (r1.1, r1.2)
abbrev rm_11_isSpring : Room := { frames := 1, cells := 0, slots := 0, locals := 22 }
set_option maxRecDepth 100000 in
set_option maxHeartbeats 4000000 in
theorem k_11_isSpring (l : Launch) (D : va_G) (cA : Nat → ClassId) (ad : Nat → Nat) (hj : inj 41 ad) (n : Nat) (σ : St) (a0 : Int32)  {res : Int32 × St} (h : f_11_isSpring n σ a0 = some res) : MXi l D dM 41 cA ad ET yX11_isSpring wsX11_isSpring rm_11_isSpring [.int a0] σ res := by
  refine Met.ofW (cc := cX11_isSpring) (maxL := 1) (ret := (some .boolean)) (by decide) rfl ?_
  intro p e s m args below meth c s₁ B hml hv
  obtain ⟨hargs, hP, hK, hE⟩ := hv
  have hx := B.exec
  have hb := B.bytes
  have hr := B.returns
  have hts := atoms_spec (ws := wsX11_isSpring) B.pre
  have hown : s.vm.findClass RX11 = some m.cls := findClass_of_methodNamed B.named
  have hlocks := B.notSynchronized
  have X : Cx p s m args c cX11_isSpring 1 RX11 wsX11_isSpring D dM 41 cA ad ET := ⟨hx, hb, hml, hown, hts, hK, hj, hE, ET_ok⟩
  have hS : va_S (inA 41 ad) s.heap s.heap [] := va_S.rf
  have hl := lv_entry ([.int a0]) (n := 1) (Nat.le_of_ble_eq_true rfl)
  rw [show entryFrame m args 1 = entryFrame m ([.int a0] : List Value).toArray 1 by rw [hargs]]
  rw [lg_entry_eq]
  generalize (lg_sl ([.int a0]) ++ List.replicate (1 - (lg_sl ([.int a0])).length) Slot.unset).toArray = ls at hl ⊢
  have hl : lv_has ls 1 [(0, .int a0)] := hl
  obtain ⟨QQ, hQQ⟩ : ∃ Q, Q = MQ below (va_Qi (fun r u => r = res.1 ∧ u = res.2) (fun u t => va_P D vwCl (ww dM 41 cA ad u) t.heap) (inA 41 ad)) args s 0 0 (inA 41 ad) := ⟨_, rfl⟩
  show W p l e (headSpec wsX11_isSpring rm_11_isSpring).room s m args below meth c s.heap [] 0 0 (MQ below (va_Qi (fun r u => r = res.1 ∧ u = res.2) (fun u t => va_P D vwCl (ww dM 41 cA ad u) t.heap) (inA 41 ad)) args s 0 0 (inA 41 ad)) _
  rw [← hQQ]
  unfold f_11_isSpring at h
  obtain ⟨H, hH⟩ : ∃ H, H = s.heap := ⟨_, rfl⟩
  obtain ⟨locs, hlc⟩ : ∃ q : List Loc, q = [] := ⟨_, rfl⟩
  have hP : va_P D vwCl (ww dM 41 cA ad σ) s.heap := hP
  have hS : va_S (inA 41 ad) s.heap s.heap [] := hS
  rw [← hlc] at hS ⊢
  rw [show W p l e (headSpec wsX11_isSpring rm_11_isSpring).room s m args below meth c s.heap locs 0 0 QQ = W p l e (headSpec wsX11_isSpring rm_11_isSpring).room s m args below meth c H locs 0 0 QQ by rw [hH]]
  have hS : va_S (inA 41 ad) s.heap H locs := by rw [hH]; exact hS
  have hP : va_P D vwCl (ww dM 41 cA ad σ) H := by rw [hH]; exact hP
  clear hH hlc
  refine lv_iload_n hx hb dX11_isSpring_0 rfl (lv_at hl 0 rfl) ?_
  refine lv_iconst (v := 0) hx hb dX11_isSpring_1 (by decide) ?_
  refine lv_iconst (v := 3) hx hb dX11_isSpring_2 (by decide) ?_
  obtain ⟨r1, k2, h⟩ := bd_some h
  refine x_Si (rest := []) X hP hS (k_11_isIn l D cA ad hj n σ a0 0 3 k2) 3 gX11_isSpring_X11_isIn rfl rfl rfl (by decide +kernel) ⟨Nat.le_of_ble_eq_true rfl, Nat.le_of_ble_eq_true rfl⟩ rfl hl.1 rfl (Nat.le_of_ble_eq_true rfl) dX11_isSpring_3 ⟨Nat.zero_le _, Nat.zero_le _⟩ (fun H locs hP hS => ?_)
  obtain ⟨g3, h⟩ := gd_some h
  subst hQQ
  exact x_rz X hr hlocks hP hS (isb_nar g3) (Option.some.inj h) dX11_isSpring_6
def f_11_spring (n : Nat) (σ : St) (a1 : Int32) (a2 : Int32) (a3 : Int32) (a4 : Int32) (a5 : Int32) : Option (Int32 × St) :=
  (f_11_isSpring n σ a1).bind fun r1 =>
  if r1.1 = 0 then
    some (0, r1.2)
  else
    (f_11_isIn n r1.2 a2 0 9).bind fun r4 =>
    if r4.1 = 0 then
      some (0, r4.2)
    else
      (f_11_isIn n r4.2 a4 0 48).bind fun r7 =>
      if r7.1 = 0 then
        some (0, r7.2)
      else
        (f_11_isIn n r7.2 a3 0 a4).bind fun r10 =>
        if r10.1 = 0 then
          some (0, r10.2)
        else
          (f_11_isIn n r10.2 a5 0 9).bind fun r13 =>
          if r13.1 = 0 then
            some (0, r13.2)
          else
            gd (inb a1 4) <| nm (si r13.2 1 (a1.toNatClampNeg) a2) fun σ17 =>
            nm (si σ17 2 (a1.toNatClampNeg) a3) fun σ18 =>
            nm (si σ18 3 (a1.toNatClampNeg) a4) fun σ19 =>
            nm (si σ19 4 (a1.toNatClampNeg) a5) fun σ20 =>
            some (1, σ20)
abbrev rm_11_spring : Room := { frames := 2, cells := 0, slots := 0, locals := 42 }
set_option maxRecDepth 100000 in
set_option maxHeartbeats 4000000 in
theorem k_11_spring (l : Launch) (D : va_G) (cA : Nat → ClassId) (ad : Nat → Nat) (hj : inj 41 ad) (n : Nat) (σ : St) (a1 : Int32) (a2 : Int32) (a3 : Int32) (a4 : Int32) (a5 : Int32)  {res : Int32 × St} (h : f_11_spring n σ a1 a2 a3 a4 a5 = some res) : MXi l D dM 41 cA ad ET yX11_spring wsX11_spring rm_11_spring [.ref (ad 0), .int a1, .int a2, .int a3, .int a4, .int a5] σ res := by
  refine Met.ofW (cc := cX11_spring) (maxL := 6) (ret := (some .boolean)) (by decide) rfl ?_
  intro p e s m args below meth c s₁ B hml hv
  obtain ⟨hargs, hP, hK, hE⟩ := hv
  have hx := B.exec
  have hb := B.bytes
  have hr := B.returns
  have hts := atoms_spec (ws := wsX11_spring) B.pre
  have hown : s.vm.findClass RX11 = some m.cls := findClass_of_methodNamed B.named
  have hlocks := B.notSynchronized
  have X : Cx p s m args c cX11_spring 6 RX11 wsX11_spring D dM 41 cA ad ET := ⟨hx, hb, hml, hown, hts, hK, hj, hE, ET_ok⟩
  have hS : va_S (inA 41 ad) s.heap s.heap [] := va_S.rf
  have hl := lv_entry ([.ref (ad 0), .int a1, .int a2, .int a3, .int a4, .int a5]) (n := 6) (Nat.le_of_ble_eq_true rfl)
  rw [show entryFrame m args 6 = entryFrame m ([.ref (ad 0), .int a1, .int a2, .int a3, .int a4, .int a5] : List Value).toArray 6 by rw [hargs]]
  rw [lg_entry_eq]
  generalize (lg_sl ([.ref (ad 0), .int a1, .int a2, .int a3, .int a4, .int a5]) ++ List.replicate (6 - (lg_sl ([.ref (ad 0), .int a1, .int a2, .int a3, .int a4, .int a5])).length) Slot.unset).toArray = ls at hl ⊢
  have hl : lv_has ls 6 [(0, .ref (ad 0)), (1, .int a1), (2, .int a2), (3, .int a3), (4, .int a4), (5, .int a5)] := hl
  obtain ⟨QQ, hQQ⟩ : ∃ Q, Q = MQ below (va_Qi (fun r u => r = res.1 ∧ u = res.2) (fun u t => va_P D vwCl (ww dM 41 cA ad u) t.heap) (inA 41 ad)) args s 0 0 (inA 41 ad) := ⟨_, rfl⟩
  show W p l e (headSpec wsX11_spring rm_11_spring).room s m args below meth c s.heap [] 0 0 (MQ below (va_Qi (fun r u => r = res.1 ∧ u = res.2) (fun u t => va_P D vwCl (ww dM 41 cA ad u) t.heap) (inA 41 ad)) args s 0 0 (inA 41 ad)) _
  rw [← hQQ]
  have in11 : ∀ w ∈ wsX110, w ∈ wsX11_spring := by decide +kernel
  have lk7 : Cond.fieldLink RX11 7 "CureTownModel" "gives" "[I" ∈ wsX11_spring := by decide +kernel
  have lk13 : Cond.fieldLink RX11 13 "CureTownModel" "begins" "[I" ∈ wsX11_spring := by decide +kernel
  have lk16 : Cond.fieldLink RX11 16 "CureTownModel" "ends" "[I" ∈ wsX11_spring := by decide +kernel
  have lk19 : Cond.fieldLink RX11 19 "CureTownModel" "strength" "[I" ∈ wsX11_spring := by decide +kernel
  unfold f_11_spring at h
  obtain ⟨H, hH⟩ : ∃ H, H = s.heap := ⟨_, rfl⟩
  obtain ⟨locs, hlc⟩ : ∃ q : List Loc, q = [] := ⟨_, rfl⟩
  have hP : va_P D vwCl (ww dM 41 cA ad σ) s.heap := hP
  have hS : va_S (inA 41 ad) s.heap s.heap [] := hS
  rw [← hlc] at hS ⊢
  rw [show W p l e (headSpec wsX11_spring rm_11_spring).room s m args below meth c s.heap locs 0 0 QQ = W p l e (headSpec wsX11_spring rm_11_spring).room s m args below meth c H locs 0 0 QQ by rw [hH]]
  have hS : va_S (inA 41 ad) s.heap H locs := by rw [hH]; exact hS
  have hP : va_P D vwCl (ww dM 41 cA ad σ) H := by rw [hH]; exact hP
  clear hH hlc
  refine lv_iload_n hx hb dX11_spring_0 rfl (lv_at hl 1 rfl) ?_
  obtain ⟨r1, k2, h⟩ := bd_some h
  refine x_Si (rest := []) X hP hS (k_11_isSpring l D cA ad hj n σ a1 k2) 1 gX11_spring_X11_isSpring rfl rfl rfl (by decide +kernel) ⟨Nat.le_of_ble_eq_true rfl, Nat.le_of_ble_eq_true rfl⟩ rfl hl.1 rfl (Nat.le_of_ble_eq_true rfl) dX11_spring_1 ⟨Nat.zero_le _, Nat.zero_le _⟩ (fun H locs hP hS => ?_)
  refine lv_if_eq (tgt := 49) hx hb dX11_spring_4 (by decide) (fun c3 => ?_) (fun c3 => ?_)
  · have h := it_t c3 h
    refine lv_iconst (v := 0) hx hb dX11_spring_49 (by decide) ?_
    subst hQQ
    exact x_rz X hr hlocks hP hS (by decide +kernel) (Option.some.inj h) dX11_spring_50
  · have h := it_f c3 h
    refine lv_iload_n hx hb dX11_spring_7 rfl (lv_at hl 2 rfl) ?_
    refine lv_iconst (v := 0) hx hb dX11_spring_8 (by decide) ?_
    refine lv_bipush (v := 9) hx hb dX11_spring_9 (by decide) ?_
    obtain ⟨r4, k5, h⟩ := bd_some h
    refine x_Si (rest := []) X hP hS (k_11_isIn l D cA ad hj n r1.2 a2 0 9 k5) 3 gX11_spring_X11_isIn rfl rfl rfl (by decide +kernel) ⟨Nat.le_of_ble_eq_true rfl, Nat.le_of_ble_eq_true rfl⟩ rfl hl.1 rfl (Nat.le_of_ble_eq_true rfl) dX11_spring_11 ⟨Nat.zero_le _, Nat.zero_le _⟩ (fun H locs hP hS => ?_)
    refine lv_if_eq (tgt := 49) hx hb dX11_spring_14 (by decide) (fun c6 => ?_) (fun c6 => ?_)
    · have h := it_t c6 h
      refine lv_iconst (v := 0) hx hb dX11_spring_49 (by decide) ?_
      subst hQQ
      exact x_rz X hr hlocks hP hS (by decide +kernel) (Option.some.inj h) dX11_spring_50
    · have h := it_f c6 h
      refine lv_iload hx hb dX11_spring_17 (lv_at hl 4 rfl) ?_
      refine lv_iconst (v := 0) hx hb dX11_spring_19 (by decide) ?_
      refine lv_bipush (v := 48) hx hb dX11_spring_20 (by decide) ?_
      obtain ⟨r7, k8, h⟩ := bd_some h
      refine x_Si (rest := []) X hP hS (k_11_isIn l D cA ad hj n r4.2 a4 0 48 k8) 3 gX11_spring_X11_isIn rfl rfl rfl (by decide +kernel) ⟨Nat.le_of_ble_eq_true rfl, Nat.le_of_ble_eq_true rfl⟩ rfl hl.1 rfl (Nat.le_of_ble_eq_true rfl) dX11_spring_22 ⟨Nat.zero_le _, Nat.zero_le _⟩ (fun H locs hP hS => ?_)
      refine lv_if_eq (tgt := 49) hx hb dX11_spring_25 (by decide) (fun c9 => ?_) (fun c9 => ?_)
      · have h := it_t c9 h
        refine lv_iconst (v := 0) hx hb dX11_spring_49 (by decide) ?_
        subst hQQ
        exact x_rz X hr hlocks hP hS (by decide +kernel) (Option.some.inj h) dX11_spring_50
      · have h := it_f c9 h
        refine lv_iload_n hx hb dX11_spring_28 rfl (lv_at hl 3 rfl) ?_
        refine lv_iconst (v := 0) hx hb dX11_spring_29 (by decide) ?_
        refine lv_iload hx hb dX11_spring_30 (lv_at hl 4 rfl) ?_
        obtain ⟨r10, k11, h⟩ := bd_some h
        refine x_Si (rest := []) X hP hS (k_11_isIn l D cA ad hj n r7.2 a3 0 a4 k11) 3 gX11_spring_X11_isIn rfl rfl rfl (by decide +kernel) ⟨Nat.le_of_ble_eq_true rfl, Nat.le_of_ble_eq_true rfl⟩ rfl hl.1 rfl (Nat.le_of_ble_eq_true rfl) dX11_spring_32 ⟨Nat.zero_le _, Nat.zero_le _⟩ (fun H locs hP hS => ?_)
        refine lv_if_eq (tgt := 49) hx hb dX11_spring_35 (by decide) (fun c12 => ?_) (fun c12 => ?_)
        · have h := it_t c12 h
          refine lv_iconst (v := 0) hx hb dX11_spring_49 (by decide) ?_
          subst hQQ
          exact x_rz X hr hlocks hP hS (by decide +kernel) (Option.some.inj h) dX11_spring_50
        · have h := it_f c12 h
          refine lv_iload hx hb dX11_spring_38 (lv_at hl 5 rfl) ?_
          refine lv_iconst (v := 0) hx hb dX11_spring_40 (by decide) ?_
          refine lv_bipush (v := 9) hx hb dX11_spring_41 (by decide) ?_
          obtain ⟨r13, k14, h⟩ := bd_some h
          refine x_Si (rest := []) X hP hS (k_11_isIn l D cA ad hj n r10.2 a5 0 9 k14) 3 gX11_spring_X11_isIn rfl rfl rfl (by decide +kernel) ⟨Nat.le_of_ble_eq_true rfl, Nat.le_of_ble_eq_true rfl⟩ rfl hl.1 rfl (Nat.le_of_ble_eq_true rfl) dX11_spring_43 ⟨Nat.zero_le _, Nat.zero_le _⟩ (fun H locs hP hS => ?_)
          refine lv_if_ne (tgt := 51) hx hb dX11_spring_46 (by decide) (fun c15 => ?_) (fun c15 => ?_)
          · have h := it_f c15 h
            refine lv_aload_n hx hb dX11_spring_51 rfl (lv_at hl 0 rfl) ?_
            refine x_gr X hP (j := 3) (by decide) (dM_0) rfl rfl (by decide) in11 lk7 dX11_spring_52 ?_
            refine lv_iload_n hx hb dX11_spring_55 rfl (lv_at hl 1 rfl) ?_
            refine lv_iload_n hx hb dX11_spring_56 rfl (lv_at hl 2 rfl) ?_
            obtain ⟨g16, h⟩ := gd_some h
            refine x_si X hP hS (by decide) (dM_1) g16 dX11_spring_57 (fun σ17 eσ17 H locs hP hS => ?_)
            have h := nm_some eσ17 h
            refine lv_aload_n hx hb dX11_spring_58 rfl (lv_at hl 0 rfl) ?_
            refine x_gr X hP (j := 4) (by decide) (dM_0) rfl rfl (by decide) in11 lk13 dX11_spring_59 ?_
            refine lv_iload_n hx hb dX11_spring_62 rfl (lv_at hl 1 rfl) ?_
            refine lv_iload_n hx hb dX11_spring_63 rfl (lv_at hl 3 rfl) ?_
            refine x_si X hP hS (by decide) (dM_2) g16 dX11_spring_64 (fun σ18 eσ18 H locs hP hS => ?_)
            have h := nm_some eσ18 h
            refine lv_aload_n hx hb dX11_spring_65 rfl (lv_at hl 0 rfl) ?_
            refine x_gr X hP (j := 5) (by decide) (dM_0) rfl rfl (by decide) in11 lk16 dX11_spring_66 ?_
            refine lv_iload_n hx hb dX11_spring_69 rfl (lv_at hl 1 rfl) ?_
            refine lv_iload hx hb dX11_spring_70 (lv_at hl 4 rfl) ?_
            refine x_si X hP hS (by decide) (dM_3) g16 dX11_spring_72 (fun σ19 eσ19 H locs hP hS => ?_)
            have h := nm_some eσ19 h
            refine lv_aload_n hx hb dX11_spring_73 rfl (lv_at hl 0 rfl) ?_
            refine x_gr X hP (j := 6) (by decide) (dM_0) rfl rfl (by decide) in11 lk19 dX11_spring_74 ?_
            refine lv_iload_n hx hb dX11_spring_77 rfl (lv_at hl 1 rfl) ?_
            refine lv_iload hx hb dX11_spring_78 (lv_at hl 5 rfl) ?_
            refine x_si X hP hS (by decide) (dM_4) g16 dX11_spring_80 (fun σ20 eσ20 H locs hP hS => ?_)
            have h := nm_some eσ20 h
            refine lv_iconst (v := 1) hx hb dX11_spring_81 (by decide) ?_
            subst hQQ
            exact x_rz X hr hlocks hP hS (by decide +kernel) (Option.some.inj h) dX11_spring_82
          · have h := it_t c15 h
            refine lv_iconst (v := 0) hx hb dX11_spring_49 (by decide) ?_
            subst hQQ
            exact x_rz X hr hlocks hP hS (by decide +kernel) (Option.some.inj h) dX11_spring_50
def f_11_bath (n : Nat) (σ : St) (a1 : Int32) (a2 : Int32) (a3 : Int32) : Option (Int32 × St) :=
  (f_11_isIn n σ a1 0 5).bind fun r1 =>
  if r1.1 = 0 then
    some (0, r1.2)
  else
    (f_11_isIn n r1.2 a2 0 2).bind fun r4 =>
    if r4.1 = 0 then
      some (0, r4.2)
    else
      gd (inb a1 6) <| nm (si r4.2 5 (a1.toNatClampNeg) a2) fun σ8 =>
      gd (isb a3) <| nm (si σ8 7 (a1.toNatClampNeg) a3) fun σ9 =>
      some (1, σ9)
abbrev rm_11_bath : Room := { frames := 1, cells := 0, slots := 0, locals := 22 }
set_option maxRecDepth 100000 in
set_option maxHeartbeats 4000000 in
theorem k_11_bath (l : Launch) (D : va_G) (cA : Nat → ClassId) (ad : Nat → Nat) (hj : inj 41 ad) (n : Nat) (σ : St) (a1 : Int32) (a2 : Int32) (a3 : Int32)  {res : Int32 × St} (h : f_11_bath n σ a1 a2 a3 = some res) : MXi l D dM 41 cA ad ET yX11_bath wsX11_bath rm_11_bath [.ref (ad 0), .int a1, .int a2, .int a3] σ res := by
  refine Met.ofW (cc := cX11_bath) (maxL := 4) (ret := (some .boolean)) (by decide) rfl ?_
  intro p e s m args below meth c s₁ B hml hv
  obtain ⟨hargs, hP, hK, hE⟩ := hv
  have hx := B.exec
  have hb := B.bytes
  have hr := B.returns
  have hts := atoms_spec (ws := wsX11_bath) B.pre
  have hown : s.vm.findClass RX11 = some m.cls := findClass_of_methodNamed B.named
  have hlocks := B.notSynchronized
  have X : Cx p s m args c cX11_bath 4 RX11 wsX11_bath D dM 41 cA ad ET := ⟨hx, hb, hml, hown, hts, hK, hj, hE, ET_ok⟩
  have hS : va_S (inA 41 ad) s.heap s.heap [] := va_S.rf
  have hl := lv_entry ([.ref (ad 0), .int a1, .int a2, .int a3]) (n := 4) (Nat.le_of_ble_eq_true rfl)
  rw [show entryFrame m args 4 = entryFrame m ([.ref (ad 0), .int a1, .int a2, .int a3] : List Value).toArray 4 by rw [hargs]]
  rw [lg_entry_eq]
  generalize (lg_sl ([.ref (ad 0), .int a1, .int a2, .int a3]) ++ List.replicate (4 - (lg_sl ([.ref (ad 0), .int a1, .int a2, .int a3])).length) Slot.unset).toArray = ls at hl ⊢
  have hl : lv_has ls 4 [(0, .ref (ad 0)), (1, .int a1), (2, .int a2), (3, .int a3)] := hl
  obtain ⟨QQ, hQQ⟩ : ∃ Q, Q = MQ below (va_Qi (fun r u => r = res.1 ∧ u = res.2) (fun u t => va_P D vwCl (ww dM 41 cA ad u) t.heap) (inA 41 ad)) args s 0 0 (inA 41 ad) := ⟨_, rfl⟩
  show W p l e (headSpec wsX11_bath rm_11_bath).room s m args below meth c s.heap [] 0 0 (MQ below (va_Qi (fun r u => r = res.1 ∧ u = res.2) (fun u t => va_P D vwCl (ww dM 41 cA ad u) t.heap) (inA 41 ad)) args s 0 0 (inA 41 ad)) _
  rw [← hQQ]
  have in11 : ∀ w ∈ wsX110, w ∈ wsX11_bath := by decide +kernel
  have lk22 : Cond.fieldLink RX11 22 "CureTownModel" "kindOf" "[I" ∈ wsX11_bath := by decide +kernel
  have lk28 : Cond.fieldLink RX11 28 "CureTownModel" "open" "[Z" ∈ wsX11_bath := by decide +kernel
  unfold f_11_bath at h
  obtain ⟨H, hH⟩ : ∃ H, H = s.heap := ⟨_, rfl⟩
  obtain ⟨locs, hlc⟩ : ∃ q : List Loc, q = [] := ⟨_, rfl⟩
  have hP : va_P D vwCl (ww dM 41 cA ad σ) s.heap := hP
  have hS : va_S (inA 41 ad) s.heap s.heap [] := hS
  rw [← hlc] at hS ⊢
  rw [show W p l e (headSpec wsX11_bath rm_11_bath).room s m args below meth c s.heap locs 0 0 QQ = W p l e (headSpec wsX11_bath rm_11_bath).room s m args below meth c H locs 0 0 QQ by rw [hH]]
  have hS : va_S (inA 41 ad) s.heap H locs := by rw [hH]; exact hS
  have hP : va_P D vwCl (ww dM 41 cA ad σ) H := by rw [hH]; exact hP
  clear hH hlc
  refine lv_iload_n hx hb dX11_bath_0 rfl (lv_at hl 1 rfl) ?_
  refine lv_iconst (v := 0) hx hb dX11_bath_1 (by decide) ?_
  refine lv_iconst (v := 5) hx hb dX11_bath_2 (by decide) ?_
  obtain ⟨r1, k2, h⟩ := bd_some h
  refine x_Si (rest := []) X hP hS (k_11_isIn l D cA ad hj n σ a1 0 5 k2) 3 gX11_bath_X11_isIn rfl rfl rfl (by decide +kernel) ⟨Nat.le_of_ble_eq_true rfl, Nat.le_of_ble_eq_true rfl⟩ rfl hl.1 rfl (Nat.le_of_ble_eq_true rfl) dX11_bath_3 ⟨Nat.zero_le _, Nat.zero_le _⟩ (fun H locs hP hS => ?_)
  refine lv_if_eq (tgt := 18) hx hb dX11_bath_6 (by decide) (fun c3 => ?_) (fun c3 => ?_)
  · have h := it_t c3 h
    refine lv_iconst (v := 0) hx hb dX11_bath_18 (by decide) ?_
    subst hQQ
    exact x_rz X hr hlocks hP hS (by decide +kernel) (Option.some.inj h) dX11_bath_19
  · have h := it_f c3 h
    refine lv_iload_n hx hb dX11_bath_9 rfl (lv_at hl 2 rfl) ?_
    refine lv_iconst (v := 0) hx hb dX11_bath_10 (by decide) ?_
    refine lv_iconst (v := 2) hx hb dX11_bath_11 (by decide) ?_
    obtain ⟨r4, k5, h⟩ := bd_some h
    refine x_Si (rest := []) X hP hS (k_11_isIn l D cA ad hj n r1.2 a2 0 2 k5) 3 gX11_bath_X11_isIn rfl rfl rfl (by decide +kernel) ⟨Nat.le_of_ble_eq_true rfl, Nat.le_of_ble_eq_true rfl⟩ rfl hl.1 rfl (Nat.le_of_ble_eq_true rfl) dX11_bath_12 ⟨Nat.zero_le _, Nat.zero_le _⟩ (fun H locs hP hS => ?_)
    refine lv_if_ne (tgt := 20) hx hb dX11_bath_15 (by decide) (fun c6 => ?_) (fun c6 => ?_)
    · have h := it_f c6 h
      refine lv_aload_n hx hb dX11_bath_20 rfl (lv_at hl 0 rfl) ?_
      refine x_gr X hP (j := 7) (by decide) (dM_0) rfl rfl (by decide) in11 lk22 dX11_bath_21 ?_
      refine lv_iload_n hx hb dX11_bath_24 rfl (lv_at hl 1 rfl) ?_
      refine lv_iload_n hx hb dX11_bath_25 rfl (lv_at hl 2 rfl) ?_
      obtain ⟨g7, h⟩ := gd_some h
      refine x_si X hP hS (by decide) (dM_5) g7 dX11_bath_26 (fun σ8 eσ8 H locs hP hS => ?_)
      have h := nm_some eσ8 h
      refine lv_aload_n hx hb dX11_bath_27 rfl (lv_at hl 0 rfl) ?_
      refine x_gr X hP (j := 9) (by decide) (dM_0) rfl rfl (by decide) in11 lk28 dX11_bath_28 ?_
      refine lv_iload_n hx hb dX11_bath_31 rfl (lv_at hl 1 rfl) ?_
      refine lv_iload_n hx hb dX11_bath_32 rfl (lv_at hl 3 rfl) ?_
      obtain ⟨g10, h⟩ := gd_some h
      refine x_sz X hP hS (by decide) (dM_7) g7 g10 dX11_bath_33 (fun σ9 eσ9 H locs hP hS => ?_)
      have h := nm_some eσ9 h
      refine lv_iconst (v := 1) hx hb dX11_bath_34 (by decide) ?_
      subst hQQ
      exact x_rz X hr hlocks hP hS (by decide +kernel) (Option.some.inj h) dX11_bath_35
    · have h := it_t c6 h
      refine lv_iconst (v := 0) hx hb dX11_bath_18 (by decide) ?_
      subst hQQ
      exact x_rz X hr hlocks hP hS (by decide +kernel) (Option.some.inj h) dX11_bath_19
def f_11_rate (n : Nat) (σ : St) (a1 : Int32) (a2 : Int32) : Option (Int32 × St) :=
  (f_11_isIn n σ a1 0 3).bind fun r1 =>
  if r1.1 = 0 then
    some (0, r1.2)
  else
    (f_11_isIn n r1.2 a2 0 999).bind fun r4 =>
    if r4.1 = 0 then
      some (0, r4.2)
    else
      gd (inb a1 4) <| nm (si r4.2 6 (a1.toNatClampNeg) a2) fun σ8 =>
      some (1, σ8)
abbrev rm_11_rate : Room := { frames := 1, cells := 0, slots := 0, locals := 22 }
set_option maxRecDepth 100000 in
set_option maxHeartbeats 4000000 in
theorem k_11_rate (l : Launch) (D : va_G) (cA : Nat → ClassId) (ad : Nat → Nat) (hj : inj 41 ad) (n : Nat) (σ : St) (a1 : Int32) (a2 : Int32)  {res : Int32 × St} (h : f_11_rate n σ a1 a2 = some res) : MXi l D dM 41 cA ad ET yX11_rate wsX11_rate rm_11_rate [.ref (ad 0), .int a1, .int a2] σ res := by
  refine Met.ofW (cc := cX11_rate) (maxL := 3) (ret := (some .boolean)) (by decide) rfl ?_
  intro p e s m args below meth c s₁ B hml hv
  obtain ⟨hargs, hP, hK, hE⟩ := hv
  have hx := B.exec
  have hb := B.bytes
  have hr := B.returns
  have hts := atoms_spec (ws := wsX11_rate) B.pre
  have hown : s.vm.findClass RX11 = some m.cls := findClass_of_methodNamed B.named
  have hlocks := B.notSynchronized
  have X : Cx p s m args c cX11_rate 3 RX11 wsX11_rate D dM 41 cA ad ET := ⟨hx, hb, hml, hown, hts, hK, hj, hE, ET_ok⟩
  have hS : va_S (inA 41 ad) s.heap s.heap [] := va_S.rf
  have hl := lv_entry ([.ref (ad 0), .int a1, .int a2]) (n := 3) (Nat.le_of_ble_eq_true rfl)
  rw [show entryFrame m args 3 = entryFrame m ([.ref (ad 0), .int a1, .int a2] : List Value).toArray 3 by rw [hargs]]
  rw [lg_entry_eq]
  generalize (lg_sl ([.ref (ad 0), .int a1, .int a2]) ++ List.replicate (3 - (lg_sl ([.ref (ad 0), .int a1, .int a2])).length) Slot.unset).toArray = ls at hl ⊢
  have hl : lv_has ls 3 [(0, .ref (ad 0)), (1, .int a1), (2, .int a2)] := hl
  obtain ⟨QQ, hQQ⟩ : ∃ Q, Q = MQ below (va_Qi (fun r u => r = res.1 ∧ u = res.2) (fun u t => va_P D vwCl (ww dM 41 cA ad u) t.heap) (inA 41 ad)) args s 0 0 (inA 41 ad) := ⟨_, rfl⟩
  show W p l e (headSpec wsX11_rate rm_11_rate).room s m args below meth c s.heap [] 0 0 (MQ below (va_Qi (fun r u => r = res.1 ∧ u = res.2) (fun u t => va_P D vwCl (ww dM 41 cA ad u) t.heap) (inA 41 ad)) args s 0 0 (inA 41 ad)) _
  rw [← hQQ]
  have in11 : ∀ w ∈ wsX110, w ∈ wsX11_rate := by decide +kernel
  have lk25 : Cond.fieldLink RX11 25 "CureTownModel" "rate" "[I" ∈ wsX11_rate := by decide +kernel
  unfold f_11_rate at h
  obtain ⟨H, hH⟩ : ∃ H, H = s.heap := ⟨_, rfl⟩
  obtain ⟨locs, hlc⟩ : ∃ q : List Loc, q = [] := ⟨_, rfl⟩
  have hP : va_P D vwCl (ww dM 41 cA ad σ) s.heap := hP
  have hS : va_S (inA 41 ad) s.heap s.heap [] := hS
  rw [← hlc] at hS ⊢
  rw [show W p l e (headSpec wsX11_rate rm_11_rate).room s m args below meth c s.heap locs 0 0 QQ = W p l e (headSpec wsX11_rate rm_11_rate).room s m args below meth c H locs 0 0 QQ by rw [hH]]
  have hS : va_S (inA 41 ad) s.heap H locs := by rw [hH]; exact hS
  have hP : va_P D vwCl (ww dM 41 cA ad σ) H := by rw [hH]; exact hP
  clear hH hlc
  refine lv_iload_n hx hb dX11_rate_0 rfl (lv_at hl 1 rfl) ?_
  refine lv_iconst (v := 0) hx hb dX11_rate_1 (by decide) ?_
  refine lv_iconst (v := 3) hx hb dX11_rate_2 (by decide) ?_
  obtain ⟨r1, k2, h⟩ := bd_some h
  refine x_Si (rest := []) X hP hS (k_11_isIn l D cA ad hj n σ a1 0 3 k2) 3 gX11_rate_X11_isIn rfl rfl rfl (by decide +kernel) ⟨Nat.le_of_ble_eq_true rfl, Nat.le_of_ble_eq_true rfl⟩ rfl hl.1 rfl (Nat.le_of_ble_eq_true rfl) dX11_rate_3 ⟨Nat.zero_le _, Nat.zero_le _⟩ (fun H locs hP hS => ?_)
  refine lv_if_eq (tgt := 20) hx hb dX11_rate_6 (by decide) (fun c3 => ?_) (fun c3 => ?_)
  · have h := it_t c3 h
    refine lv_iconst (v := 0) hx hb dX11_rate_20 (by decide) ?_
    subst hQQ
    exact x_rz X hr hlocks hP hS (by decide +kernel) (Option.some.inj h) dX11_rate_21
  · have h := it_f c3 h
    refine lv_iload_n hx hb dX11_rate_9 rfl (lv_at hl 2 rfl) ?_
    refine lv_iconst (v := 0) hx hb dX11_rate_10 (by decide) ?_
    refine lv_sipush (v := 999) hx hb dX11_rate_11 (by decide) ?_
    obtain ⟨r4, k5, h⟩ := bd_some h
    refine x_Si (rest := []) X hP hS (k_11_isIn l D cA ad hj n r1.2 a2 0 999 k5) 3 gX11_rate_X11_isIn rfl rfl rfl (by decide +kernel) ⟨Nat.le_of_ble_eq_true rfl, Nat.le_of_ble_eq_true rfl⟩ rfl hl.1 rfl (Nat.le_of_ble_eq_true rfl) dX11_rate_14 ⟨Nat.zero_le _, Nat.zero_le _⟩ (fun H locs hP hS => ?_)
    refine lv_if_ne (tgt := 22) hx hb dX11_rate_17 (by decide) (fun c6 => ?_) (fun c6 => ?_)
    · have h := it_f c6 h
      refine lv_aload_n hx hb dX11_rate_22 rfl (lv_at hl 0 rfl) ?_
      refine x_gr X hP (j := 8) (by decide) (dM_0) rfl rfl (by decide) in11 lk25 dX11_rate_23 ?_
      refine lv_iload_n hx hb dX11_rate_26 rfl (lv_at hl 1 rfl) ?_
      refine lv_iload_n hx hb dX11_rate_27 rfl (lv_at hl 2 rfl) ?_
      obtain ⟨g7, h⟩ := gd_some h
      refine x_si X hP hS (by decide) (dM_6) g7 dX11_rate_28 (fun σ8 eσ8 H locs hP hS => ?_)
      have h := nm_some eσ8 h
      refine lv_iconst (v := 1) hx hb dX11_rate_29 (by decide) ?_
      subst hQQ
      exact x_rz X hr hlocks hP hS (by decide +kernel) (Option.some.inj h) dX11_rate_30
    · have h := it_t c6 h
      refine lv_iconst (v := 0) hx hb dX11_rate_20 (by decide) ?_
      subst hQQ
      exact x_rz X hr hlocks hP hS (by decide +kernel) (Option.some.inj h) dX11_rate_21
def j_11_feed_71 (n : Nat) (a1 : Int32) (a2 : Int32) (a3 : Int32) (a4 : Int32) (a5 : Int32) (a6 : Int32) (w0_ : Int32) (σ : St) : Option ((Int32 × St) ⊕ (Int32 × St)) :=
  nm (a6 - a6 / 4 * 4) fun v8 =>
  nm (8 * v8) fun v9 =>
  nm (24 - v9) fun v10 =>
  nm (w0_ >>> (v10 &&& 31)) fun v11 =>
  nm (v11 &&& 255) fun v12 =>
  gd (inb (σ.1 0 18) 600) <| nm (si σ 14 ((σ.1 0 18).toNatClampNeg) v12) fun σ14 =>
  nm ((σ14.1 0 18) + 1) fun v15 =>
  nm (si σ14 0 18 v15) fun σ16 =>
  nm (a6 + 1) fun v17 =>
  some (.inl (v17, σ16))
def b_11_feed_18 (n : Nat) (a1 : Int32) (a2 : Int32) (a3 : Int32) (a4 : Int32) (a5 : Int32) (t4 : Int32 × St) : Option ((Int32 × St) ⊕ (Int32 × St)) :=
  if 20 ≤ t4.1 then
    some (.inr (t4.1, t4.2))
  else
    if 4 ≤ t4.1 then
      if 8 ≤ t4.1 then
        if 12 ≤ t4.1 then
          if 16 ≤ t4.1 then
            j_11_feed_71 n a1 a2 a3 a4 a5 t4.1 a5 t4.2
          else
            j_11_feed_71 n a1 a2 a3 a4 a5 t4.1 a4 t4.2
        else
          j_11_feed_71 n a1 a2 a3 a4 a5 t4.1 a3 t4.2
      else
        j_11_feed_71 n a1 a2 a3 a4 a5 t4.1 a2 t4.2
    else
      j_11_feed_71 n a1 a2 a3 a4 a5 t4.1 a1 t4.2
def f_11_feed (n : Nat) (σ : St) (a1 : Int32) (a2 : Int32) (a3 : Int32) (a4 : Int32) (a5 : Int32) : Option (Int32 × St) :=
  nm ((σ.1 0 18) + 20) fun v1 =>
  if v1 ≤ 600 then
    (lq (b_11_feed_18 n a1 a2 a3 a4 a5) n (0, σ)).bind fun t1032 =>
    some ((t1032.2.1 0 18), t1032.2)
  else
    some ((-1), σ)
abbrev rm_11_feed : Room := { frames := 0, cells := 0, slots := 0, locals := 0 }
set_option maxRecDepth 100000 in
set_option maxHeartbeats 4000000 in
theorem k_11_feed (l : Launch) (D : va_G) (cA : Nat → ClassId) (ad : Nat → Nat) (hj : inj 41 ad) (n : Nat) (σ : St) (a1 : Int32) (a2 : Int32) (a3 : Int32) (a4 : Int32) (a5 : Int32)  {res : Int32 × St} (h : f_11_feed n σ a1 a2 a3 a4 a5 = some res) : MXi l D dM 41 cA ad ET yX11_feed wsX11_feed rm_11_feed [.ref (ad 0), .int a1, .int a2, .int a3, .int a4, .int a5] σ res := by
  refine Met.ofW (cc := cX11_feed) (maxL := 8) (ret := (some .int)) (by decide) rfl ?_
  intro p e s m args below meth c s₁ B hml hv
  obtain ⟨hargs, hP, hK, hE⟩ := hv
  have hx := B.exec
  have hb := B.bytes
  have hr := B.returns
  have hts := atoms_spec (ws := wsX11_feed) B.pre
  have hown : s.vm.findClass RX11 = some m.cls := findClass_of_methodNamed B.named
  have hlocks := B.notSynchronized
  have X : Cx p s m args c cX11_feed 8 RX11 wsX11_feed D dM 41 cA ad ET := ⟨hx, hb, hml, hown, hts, hK, hj, hE, ET_ok⟩
  have hS : va_S (inA 41 ad) s.heap s.heap [] := va_S.rf
  have hl := lv_entry ([.ref (ad 0), .int a1, .int a2, .int a3, .int a4, .int a5]) (n := 8) (Nat.le_of_ble_eq_true rfl)
  rw [show entryFrame m args 8 = entryFrame m ([.ref (ad 0), .int a1, .int a2, .int a3, .int a4, .int a5] : List Value).toArray 8 by rw [hargs]]
  rw [lg_entry_eq]
  generalize (lg_sl ([.ref (ad 0), .int a1, .int a2, .int a3, .int a4, .int a5]) ++ List.replicate (8 - (lg_sl ([.ref (ad 0), .int a1, .int a2, .int a3, .int a4, .int a5])).length) Slot.unset).toArray = ls at hl ⊢
  have hl : lv_has ls 8 [(0, .ref (ad 0)), (1, .int a1), (2, .int a2), (3, .int a3), (4, .int a4), (5, .int a5)] := hl
  obtain ⟨QQ, hQQ⟩ : ∃ Q, Q = MQ below (va_Qi (fun r u => r = res.1 ∧ u = res.2) (fun u t => va_P D vwCl (ww dM 41 cA ad u) t.heap) (inA 41 ad)) args s 0 0 (inA 41 ad) := ⟨_, rfl⟩
  show W p l e (headSpec wsX11_feed rm_11_feed).room s m args below meth c s.heap [] 0 0 (MQ below (va_Qi (fun r u => r = res.1 ∧ u = res.2) (fun u t => va_P D vwCl (ww dM 41 cA ad u) t.heap) (inA 41 ad)) args s 0 0 (inA 41 ad)) _
  rw [← hQQ]
  have in11 : ∀ w ∈ wsX110, w ∈ wsX11_feed := by decide +kernel
  have lk144 : Cond.fieldLink RX11 144 "CureTownModel" "taped" "I" ∈ wsX11_feed := by decide +kernel
  have lk51 : Cond.fieldLink RX11 51 "CureTownModel" "tape" "[I" ∈ wsX11_feed := by decide +kernel
  unfold f_11_feed at h
  obtain ⟨H, hH⟩ : ∃ H, H = s.heap := ⟨_, rfl⟩
  obtain ⟨locs, hlc⟩ : ∃ q : List Loc, q = [] := ⟨_, rfl⟩
  have hP : va_P D vwCl (ww dM 41 cA ad σ) s.heap := hP
  have hS : va_S (inA 41 ad) s.heap s.heap [] := hS
  rw [← hlc] at hS ⊢
  rw [show W p l e (headSpec wsX11_feed rm_11_feed).room s m args below meth c s.heap locs 0 0 QQ = W p l e (headSpec wsX11_feed rm_11_feed).room s m args below meth c H locs 0 0 QQ by rw [hH]]
  have hS : va_S (inA 41 ad) s.heap H locs := by rw [hH]; exact hS
  have hP : va_P D vwCl (ww dM 41 cA ad σ) H := by rw [hH]; exact hP
  clear hH hlc
  refine lv_aload_n hx hb dX11_feed_0 rfl (lv_at hl 0 rfl) ?_
  refine x_gi X hP (j := 18) (by decide) (dM_0) rfl rfl (by decide) in11 lk144 dX11_feed_1 ?_
  refine lv_bipush (v := 20) hx hb dX11_feed_4 (by decide) ?_
  refine lv_iadd hx hb dX11_feed_6 ?_
  refine lv_topi (fun v1 ev1 => ?_)
  have h := nm_some ev1 h
  refine lv_sipush (v := 600) hx hb dX11_feed_7 (by decide) ?_
  refine lv_icmp_le (tgt := 15) hx hb dX11_feed_10 (by decide) (fun c2 => ?_) (fun c2 => ?_)
  · have h := it_t c2 h
    refine lv_iconst (v := 0) hx hb dX11_feed_15 (by decide) ?_
    refine lv_istore (lv' := [(6, .int 0), (0, .ref (ad 0)), (1, .int a1), (2, .int a2), (3, .int a3), (4, .int a4), (5, .int a5)]) hx hb dX11_feed_16 hl (by decide) rfl (fun ls hl => ?_)
    obtain ⟨t1032, o1034, h⟩ := bd_some h
    refine lq_rule (P := fun t4 : Int32 × St => ∀ (H : Heap) (locs : List Loc) (ls : Array Slot), va_P D vwCl (ww dM 41 cA ad t4.2) H → va_S (inA 41 ad) s.heap H locs → lv_has ls 8 [(0, .ref (ad 0)), (1, .int a1), (2, .int a2), (3, .int a3), (4, .int a4), (5, .int a5), (6, .int t4.1)] → W p l e (headSpec wsX11_feed rm_11_feed).room s m args below meth c H locs 0 0 QQ (F0 m 18 ls [])) (X := fun t1032 : Int32 × St => ∀ (H : Heap) (locs : List Loc) (ls : Array Slot), va_P D vwCl (ww dM 41 cA ad t1032.2) H → va_S (inA 41 ad) s.heap H locs → lv_has ls 8 [(0, .ref (ad 0)), (1, .int a1), (2, .int a2), (3, .int a3), (4, .int a4), (5, .int a5), (6, .int t1032.1)] → W p l e (headSpec wsX11_feed rm_11_feed).room s m args below meth c H locs 0 0 QQ (F0 m 115 ls [])) ?_ n _ _ o1034 ?_ H locs ls hP hS (lv_sub hl [1, 2, 3, 4, 5, 6, 0] rfl)
    · clear h hP hS hl
      intro t4 rL3 h hCL3 hEL3 H locs ls hP hS hl
      unfold b_11_feed_18 at h
      refine lv_iload hx hb dX11_feed_18 (lv_at hl 6 rfl) ?_
      refine lv_bipush (v := 20) hx hb dX11_feed_20 (by decide) ?_
      refine lv_icmp_ge (tgt := 115) hx hb dX11_feed_22 (by decide) (fun c5 => ?_) (fun c5 => ?_)
      · have h := it_t c5 h
        exact hEL3 _ (Option.some.inj h).symm H locs ls hP hS (lv_sub hl [0, 1, 2, 3, 4, 5, 6] rfl)
      · have h := it_f c5 h
        refine lv_iload hx hb dX11_feed_25 (lv_at hl 6 rfl) ?_
        refine lv_iconst (v := 4) hx hb dX11_feed_27 (by decide) ?_
        have hJ71 : ∀ (w6 : Int32) (σ7 : St), j_11_feed_71 n a1 a2 a3 a4 a5 t4.1 w6 σ7 = some rL3 → ∀ (H : Heap) (locs : List Loc) (ls : Array Slot), va_P D vwCl (ww dM 41 cA ad σ7) H → va_S (inA 41 ad) s.heap H locs → lv_has ls 8 [(0, .ref (ad 0)), (1, .int a1), (2, .int a2), (3, .int a3), (4, .int a4), (5, .int a5), (6, .int t4.1)] → W p l e (headSpec wsX11_feed rm_11_feed).room s m args below meth c H locs 0 0 QQ (F0 m 71 ls [.int w6]) := by
          clear h hP hS hl
          intro w6 σ7 h H locs ls hP hS hl
          unfold j_11_feed_71 at h
          refine lv_istore (lv' := [(7, .int w6), (0, .ref (ad 0)), (1, .int a1), (2, .int a2), (3, .int a3), (4, .int a4), (5, .int a5), (6, .int t4.1)]) hx hb dX11_feed_71 hl (by decide) rfl (fun ls hl => ?_)
          refine lv_aload_n hx hb dX11_feed_73 rfl (lv_at hl 1 rfl) ?_
          refine x_gr X hP (j := 17) (by decide) (dM_0) rfl rfl (by decide) in11 lk51 dX11_feed_74 ?_
          refine lv_aload_n hx hb dX11_feed_77 rfl (lv_at hl 1 rfl) ?_
          refine x_gi X hP (j := 18) (by decide) (dM_0) rfl rfl (by decide) in11 lk144 dX11_feed_78 ?_
          refine lv_iload hx hb dX11_feed_81 (lv_at hl 0 rfl) ?_
          refine lv_bipush (v := 24) hx hb dX11_feed_83 (by decide) ?_
          refine lv_bipush (v := 8) hx hb dX11_feed_85 (by decide) ?_
          refine lv_iload hx hb dX11_feed_87 (lv_at hl 7 rfl) ?_
          refine lv_iconst (v := 4) hx hb dX11_feed_89 (by decide) ?_
          refine lv_irem hx hb dX11_feed_90 (by decide) ?_
          refine lv_topi (fun v18 ev18 => ?_)
          have h := nm_some ev18 h
          refine lv_imul hx hb dX11_feed_91 ?_
          refine lv_topi (fun v19 ev19 => ?_)
          have h := nm_some ev19 h
          refine lv_isub hx hb dX11_feed_92 ?_
          refine lv_topi (fun v20 ev20 => ?_)
          have h := nm_some ev20 h
          refine lv_ishr hx hb dX11_feed_93 ?_
          refine lv_topi (fun v21 ev21 => ?_)
          have h := nm_some ev21 h
          refine lv_sipush (v := 255) hx hb dX11_feed_94 (by decide) ?_
          refine lv_iand hx hb dX11_feed_97 ?_
          refine lv_topi (fun v22 ev22 => ?_)
          have h := nm_some ev22 h
          obtain ⟨g23, h⟩ := gd_some h
          refine x_si X hP hS (by decide) (dM_14) g23 dX11_feed_98 (fun σ24 eσ24 H locs hP hS => ?_)
          have h := nm_some eσ24 h
          refine lv_aload_n hx hb dX11_feed_99 rfl (lv_at hl 1 rfl) ?_
          refine lv_dup hx hb dX11_feed_100 rfl ?_
          refine x_gi X hP (j := 18) (by decide) (dM_0) rfl rfl (by decide) in11 lk144 dX11_feed_101 ?_
          refine lv_iconst (v := 1) hx hb dX11_feed_104 (by decide) ?_
          refine lv_iadd hx hb dX11_feed_105 ?_
          refine lv_topi (fun v25 ev25 => ?_)
          have h := nm_some ev25 h
          refine x_pi X hP hS (j := 18) (by decide) (dM_0) rfl rfl (by decide) in11 tyX11_ok nmX11 lk144 rfl rfl rfl rfl dX11_feed_106 (fun σ26 eσ26 H locs hP hS => ?_)
          have h := nm_some eσ26 h
          obtain ⟨v27, ev27⟩ : ∃ y : Int32, y = t4.1 + 1 := ⟨_, rfl⟩
          have h := nm_some ev27 h
          refine lv_iinc (v := v27) (lv' := [(6, .int v27), (7, .int w6), (0, .ref (ad 0)), (1, .int a1), (2, .int a2), (3, .int a3), (4, .int a4), (5, .int a5)]) hx hb dX11_feed_109 hl (k := 7) rfl (by rw [ev27]; rfl) (by decide) rfl (fun ls hl => ?_)
          refine lv_goto (tgt := 18) hx hb dX11_feed_112 (by decide) ?_
          exact hCL3 _ (Option.some.inj h).symm H locs ls hP hS (lv_sub hl [2, 3, 4, 5, 6, 7, 0] rfl)
        refine lv_icmp_ge (tgt := 35) hx hb dX11_feed_28 (by decide) (fun c28 => ?_) (fun c28 => ?_)
        · have h := it_t c28 h
          refine lv_iload hx hb dX11_feed_35 (lv_at hl 6 rfl) ?_
          refine lv_bipush (v := 8) hx hb dX11_feed_37 (by decide) ?_
          refine lv_icmp_ge (tgt := 46) hx hb dX11_feed_39 (by decide) (fun c29 => ?_) (fun c29 => ?_)
          · have h := it_t c29 h
            refine lv_iload hx hb dX11_feed_46 (lv_at hl 6 rfl) ?_
            refine lv_bipush (v := 12) hx hb dX11_feed_48 (by decide) ?_
            refine lv_icmp_ge (tgt := 57) hx hb dX11_feed_50 (by decide) (fun c30 => ?_) (fun c30 => ?_)
            · have h := it_t c30 h
              refine lv_iload hx hb dX11_feed_57 (lv_at hl 6 rfl) ?_
              refine lv_bipush (v := 16) hx hb dX11_feed_59 (by decide) ?_
              refine lv_icmp_ge (tgt := 69) hx hb dX11_feed_61 (by decide) (fun c31 => ?_) (fun c31 => ?_)
              · have h := it_t c31 h
                refine lv_iload hx hb dX11_feed_69 (lv_at hl 5 rfl) ?_
                exact hJ71  a5 t4.2 h H locs ls hP hS (lv_sub hl [0, 1, 2, 3, 4, 5, 6] rfl)
              · have h := it_f c31 h
                refine lv_iload hx hb dX11_feed_64 (lv_at hl 4 rfl) ?_
                refine lv_goto (tgt := 71) hx hb dX11_feed_66 (by decide) ?_
                exact hJ71  a4 t4.2 h H locs ls hP hS (lv_sub hl [0, 1, 2, 3, 4, 5, 6] rfl)
            · have h := it_f c30 h
              refine lv_iload_n hx hb dX11_feed_53 rfl (lv_at hl 3 rfl) ?_
              refine lv_goto (tgt := 71) hx hb dX11_feed_54 (by decide) ?_
              exact hJ71  a3 t4.2 h H locs ls hP hS (lv_sub hl [0, 1, 2, 3, 4, 5, 6] rfl)
          · have h := it_f c29 h
            refine lv_iload_n hx hb dX11_feed_42 rfl (lv_at hl 2 rfl) ?_
            refine lv_goto (tgt := 71) hx hb dX11_feed_43 (by decide) ?_
            exact hJ71  a2 t4.2 h H locs ls hP hS (lv_sub hl [0, 1, 2, 3, 4, 5, 6] rfl)
        · have h := it_f c28 h
          refine lv_iload_n hx hb dX11_feed_31 rfl (lv_at hl 1 rfl) ?_
          refine lv_goto (tgt := 71) hx hb dX11_feed_32 (by decide) ?_
          exact hJ71  a1 t4.2 h H locs ls hP hS (lv_sub hl [0, 1, 2, 3, 4, 5, 6] rfl)
    · intro H locs ls hP hS hl
      refine lv_aload_n hx hb dX11_feed_115 rfl (lv_at hl 0 rfl) ?_
      refine x_gi X hP (j := 18) (by decide) (dM_0) rfl rfl (by decide) in11 lk144 dX11_feed_116 ?_
      subst hQQ
      exact x_ri (σ0 := (fun _ _ => 0, fun _ _ => 0)) X hr hlocks hP hS (Option.some.inj h) dX11_feed_119
  · have h := it_f c2 h
    refine lv_iconst (v := (-1)) hx hb dX11_feed_13 (by decide) ?_
    subst hQQ
    exact x_ri (σ0 := (fun _ _ => 0, fun _ _ => 0)) X hr hlocks hP hS (Option.some.inj h) dX11_feed_14
def f_11_end (n : Nat) (σ : St) (a1 : Int32) : Option (Int32 × St) :=
  (f_11_isIn n σ a1 0 (σ.1 0 18)).bind fun r1 =>
  if r1.1 = 0 then
    some (0, r1.2)
  else
    nm (si r1.2 0 18 a1) fun σ4 =>
    some (1, σ4)
abbrev rm_11_end : Room := { frames := 1, cells := 0, slots := 0, locals := 22 }
set_option maxRecDepth 100000 in
set_option maxHeartbeats 4000000 in
theorem k_11_end (l : Launch) (D : va_G) (cA : Nat → ClassId) (ad : Nat → Nat) (hj : inj 41 ad) (n : Nat) (σ : St) (a1 : Int32)  {res : Int32 × St} (h : f_11_end n σ a1 = some res) : MXi l D dM 41 cA ad ET yX11_end wsX11_end rm_11_end [.ref (ad 0), .int a1] σ res := by
  refine Met.ofW (cc := cX11_end) (maxL := 2) (ret := (some .boolean)) (by decide) rfl ?_
  intro p e s m args below meth c s₁ B hml hv
  obtain ⟨hargs, hP, hK, hE⟩ := hv
  have hx := B.exec
  have hb := B.bytes
  have hr := B.returns
  have hts := atoms_spec (ws := wsX11_end) B.pre
  have hown : s.vm.findClass RX11 = some m.cls := findClass_of_methodNamed B.named
  have hlocks := B.notSynchronized
  have X : Cx p s m args c cX11_end 2 RX11 wsX11_end D dM 41 cA ad ET := ⟨hx, hb, hml, hown, hts, hK, hj, hE, ET_ok⟩
  have hS : va_S (inA 41 ad) s.heap s.heap [] := va_S.rf
  have hl := lv_entry ([.ref (ad 0), .int a1]) (n := 2) (Nat.le_of_ble_eq_true rfl)
  rw [show entryFrame m args 2 = entryFrame m ([.ref (ad 0), .int a1] : List Value).toArray 2 by rw [hargs]]
  rw [lg_entry_eq]
  generalize (lg_sl ([.ref (ad 0), .int a1]) ++ List.replicate (2 - (lg_sl ([.ref (ad 0), .int a1])).length) Slot.unset).toArray = ls at hl ⊢
  have hl : lv_has ls 2 [(0, .ref (ad 0)), (1, .int a1)] := hl
  obtain ⟨QQ, hQQ⟩ : ∃ Q, Q = MQ below (va_Qi (fun r u => r = res.1 ∧ u = res.2) (fun u t => va_P D vwCl (ww dM 41 cA ad u) t.heap) (inA 41 ad)) args s 0 0 (inA 41 ad) := ⟨_, rfl⟩
  show W p l e (headSpec wsX11_end rm_11_end).room s m args below meth c s.heap [] 0 0 (MQ below (va_Qi (fun r u => r = res.1 ∧ u = res.2) (fun u t => va_P D vwCl (ww dM 41 cA ad u) t.heap) (inA 41 ad)) args s 0 0 (inA 41 ad)) _
  rw [← hQQ]
  have in11 : ∀ w ∈ wsX110, w ∈ wsX11_end := by decide +kernel
  have lk144 : Cond.fieldLink RX11 144 "CureTownModel" "taped" "I" ∈ wsX11_end := by decide +kernel
  unfold f_11_end at h
  obtain ⟨H, hH⟩ : ∃ H, H = s.heap := ⟨_, rfl⟩
  obtain ⟨locs, hlc⟩ : ∃ q : List Loc, q = [] := ⟨_, rfl⟩
  have hP : va_P D vwCl (ww dM 41 cA ad σ) s.heap := hP
  have hS : va_S (inA 41 ad) s.heap s.heap [] := hS
  rw [← hlc] at hS ⊢
  rw [show W p l e (headSpec wsX11_end rm_11_end).room s m args below meth c s.heap locs 0 0 QQ = W p l e (headSpec wsX11_end rm_11_end).room s m args below meth c H locs 0 0 QQ by rw [hH]]
  have hS : va_S (inA 41 ad) s.heap H locs := by rw [hH]; exact hS
  have hP : va_P D vwCl (ww dM 41 cA ad σ) H := by rw [hH]; exact hP
  clear hH hlc
  refine lv_iload_n hx hb dX11_end_0 rfl (lv_at hl 1 rfl) ?_
  refine lv_iconst (v := 0) hx hb dX11_end_1 (by decide) ?_
  refine lv_aload_n hx hb dX11_end_2 rfl (lv_at hl 0 rfl) ?_
  refine x_gi X hP (j := 18) (by decide) (dM_0) rfl rfl (by decide) in11 lk144 dX11_end_3 ?_
  obtain ⟨r1, k2, h⟩ := bd_some h
  refine x_Si (rest := []) X hP hS (k_11_isIn l D cA ad hj n σ a1 0 (σ.1 0 18) k2) 3 gX11_end_X11_isIn rfl rfl rfl (by decide +kernel) ⟨Nat.le_of_ble_eq_true rfl, Nat.le_of_ble_eq_true rfl⟩ rfl hl.1 rfl (Nat.le_of_ble_eq_true rfl) dX11_end_6 ⟨Nat.zero_le _, Nat.zero_le _⟩ (fun H locs hP hS => ?_)
  refine lv_if_ne (tgt := 14) hx hb dX11_end_9 (by decide) (fun c3 => ?_) (fun c3 => ?_)
  · have h := it_f c3 h
    refine lv_aload_n hx hb dX11_end_14 rfl (lv_at hl 0 rfl) ?_
    refine lv_iload_n hx hb dX11_end_15 rfl (lv_at hl 1 rfl) ?_
    refine x_pi X hP hS (j := 18) (by decide) (dM_0) rfl rfl (by decide) in11 tyX11_ok nmX11 lk144 rfl rfl rfl rfl dX11_end_16 (fun σ4 eσ4 H locs hP hS => ?_)
    have h := nm_some eσ4 h
    refine lv_iconst (v := 1) hx hb dX11_end_19 (by decide) ?_
    subst hQQ
    exact x_rz X hr hlocks hP hS (by decide +kernel) (Option.some.inj h) dX11_end_20
  · have h := it_t c3 h
    refine lv_iconst (v := 0) hx hb dX11_end_12 (by decide) ?_
    subst hQQ
    exact x_rz X hr hlocks hP hS (by decide +kernel) (Option.some.inj h) dX11_end_13
def f_11_see (n : Nat) (σ : St) (a1 : Int32) : Option (Int32 × St) :=
  if (σ.1 0 18) ≤ a1 then
    some ((-1), σ)
  else
    gd (inb a1 600) <| some ((σ.1 14 a1.toNatClampNeg), σ)
abbrev rm_11_see : Room := { frames := 0, cells := 0, slots := 0, locals := 0 }
set_option maxRecDepth 100000 in
set_option maxHeartbeats 4000000 in
theorem k_11_see (l : Launch) (D : va_G) (cA : Nat → ClassId) (ad : Nat → Nat) (hj : inj 41 ad) (n : Nat) (σ : St) (a1 : Int32)  {res : Int32 × St} (h : f_11_see n σ a1 = some res) : MXi l D dM 41 cA ad ET yX11_see wsX11_see rm_11_see [.ref (ad 0), .int a1] σ res := by
  refine Met.ofW (cc := cX11_see) (maxL := 2) (ret := (some .int)) (by decide) rfl ?_
  intro p e s m args below meth c s₁ B hml hv
  obtain ⟨hargs, hP, hK, hE⟩ := hv
  have hx := B.exec
  have hb := B.bytes
  have hr := B.returns
  have hts := atoms_spec (ws := wsX11_see) B.pre
  have hown : s.vm.findClass RX11 = some m.cls := findClass_of_methodNamed B.named
  have hlocks := B.notSynchronized
  have X : Cx p s m args c cX11_see 2 RX11 wsX11_see D dM 41 cA ad ET := ⟨hx, hb, hml, hown, hts, hK, hj, hE, ET_ok⟩
  have hS : va_S (inA 41 ad) s.heap s.heap [] := va_S.rf
  have hl := lv_entry ([.ref (ad 0), .int a1]) (n := 2) (Nat.le_of_ble_eq_true rfl)
  rw [show entryFrame m args 2 = entryFrame m ([.ref (ad 0), .int a1] : List Value).toArray 2 by rw [hargs]]
  rw [lg_entry_eq]
  generalize (lg_sl ([.ref (ad 0), .int a1]) ++ List.replicate (2 - (lg_sl ([.ref (ad 0), .int a1])).length) Slot.unset).toArray = ls at hl ⊢
  have hl : lv_has ls 2 [(0, .ref (ad 0)), (1, .int a1)] := hl
  obtain ⟨QQ, hQQ⟩ : ∃ Q, Q = MQ below (va_Qi (fun r u => r = res.1 ∧ u = res.2) (fun u t => va_P D vwCl (ww dM 41 cA ad u) t.heap) (inA 41 ad)) args s 0 0 (inA 41 ad) := ⟨_, rfl⟩
  show W p l e (headSpec wsX11_see rm_11_see).room s m args below meth c s.heap [] 0 0 (MQ below (va_Qi (fun r u => r = res.1 ∧ u = res.2) (fun u t => va_P D vwCl (ww dM 41 cA ad u) t.heap) (inA 41 ad)) args s 0 0 (inA 41 ad)) _
  rw [← hQQ]
  have in11 : ∀ w ∈ wsX110, w ∈ wsX11_see := by decide +kernel
  have lk144 : Cond.fieldLink RX11 144 "CureTownModel" "taped" "I" ∈ wsX11_see := by decide +kernel
  have lk51 : Cond.fieldLink RX11 51 "CureTownModel" "tape" "[I" ∈ wsX11_see := by decide +kernel
  unfold f_11_see at h
  obtain ⟨H, hH⟩ : ∃ H, H = s.heap := ⟨_, rfl⟩
  obtain ⟨locs, hlc⟩ : ∃ q : List Loc, q = [] := ⟨_, rfl⟩
  have hP : va_P D vwCl (ww dM 41 cA ad σ) s.heap := hP
  have hS : va_S (inA 41 ad) s.heap s.heap [] := hS
  rw [← hlc] at hS ⊢
  rw [show W p l e (headSpec wsX11_see rm_11_see).room s m args below meth c s.heap locs 0 0 QQ = W p l e (headSpec wsX11_see rm_11_see).room s m args below meth c H locs 0 0 QQ by rw [hH]]
  have hS : va_S (inA 41 ad) s.heap H locs := by rw [hH]; exact hS
  have hP : va_P D vwCl (ww dM 41 cA ad σ) H := by rw [hH]; exact hP
  clear hH hlc
  refine lv_iload_n hx hb dX11_see_0 rfl (lv_at hl 1 rfl) ?_
  refine lv_aload_n hx hb dX11_see_1 rfl (lv_at hl 0 rfl) ?_
  refine x_gi X hP (j := 18) (by decide) (dM_0) rfl rfl (by decide) in11 lk144 dX11_see_2 ?_
  refine lv_icmp_ge (tgt := 17) hx hb dX11_see_5 (by decide) (fun c1 => ?_) (fun c1 => ?_)
  · have h := it_t c1 h
    refine lv_iconst (v := (-1)) hx hb dX11_see_17 (by decide) ?_
    subst hQQ
    exact x_ri (σ0 := (fun _ _ => 0, fun _ _ => 0)) X hr hlocks hP hS (Option.some.inj h) dX11_see_18
  · have h := it_f c1 h
    refine lv_aload_n hx hb dX11_see_8 rfl (lv_at hl 0 rfl) ?_
    refine x_gr X hP (j := 17) (by decide) (dM_0) rfl rfl (by decide) in11 lk51 dX11_see_9 ?_
    refine lv_iload_n hx hb dX11_see_12 rfl (lv_at hl 1 rfl) ?_
    obtain ⟨g2, h⟩ := gd_some h
    refine x_ai X hP (by decide) (dM_14) g2 dX11_see_13 ?_
    refine lv_goto (tgt := 18) hx hb dX11_see_14 (by decide) ?_
    subst hQQ
    exact x_ri (σ0 := (fun _ _ => 0, fun _ _ => 0)) X hr hlocks hP hS (Option.some.inj h) dX11_see_18
def f_11_isSmall (n : Nat) (σ : St) (a0 : Int32) : Option (Int32 × St) :=
  (f_11_isIn n σ a0 97 122).bind fun r1 =>
  gd (isb r1.1) <| some (r1.1, r1.2)
abbrev rm_11_isSmall : Room := { frames := 1, cells := 0, slots := 0, locals := 22 }
set_option maxRecDepth 100000 in
set_option maxHeartbeats 4000000 in
theorem k_11_isSmall (l : Launch) (D : va_G) (cA : Nat → ClassId) (ad : Nat → Nat) (hj : inj 41 ad) (n : Nat) (σ : St) (a0 : Int32)  {res : Int32 × St} (h : f_11_isSmall n σ a0 = some res) : MXi l D dM 41 cA ad ET yX11_isSmall wsX11_isSmall rm_11_isSmall [.int a0] σ res := by
  refine Met.ofW (cc := cX11_isSmall) (maxL := 1) (ret := (some .boolean)) (by decide) rfl ?_
  intro p e s m args below meth c s₁ B hml hv
  obtain ⟨hargs, hP, hK, hE⟩ := hv
  have hx := B.exec
  have hb := B.bytes
  have hr := B.returns
  have hts := atoms_spec (ws := wsX11_isSmall) B.pre
  have hown : s.vm.findClass RX11 = some m.cls := findClass_of_methodNamed B.named
  have hlocks := B.notSynchronized
  have X : Cx p s m args c cX11_isSmall 1 RX11 wsX11_isSmall D dM 41 cA ad ET := ⟨hx, hb, hml, hown, hts, hK, hj, hE, ET_ok⟩
  have hS : va_S (inA 41 ad) s.heap s.heap [] := va_S.rf
  have hl := lv_entry ([.int a0]) (n := 1) (Nat.le_of_ble_eq_true rfl)
  rw [show entryFrame m args 1 = entryFrame m ([.int a0] : List Value).toArray 1 by rw [hargs]]
  rw [lg_entry_eq]
  generalize (lg_sl ([.int a0]) ++ List.replicate (1 - (lg_sl ([.int a0])).length) Slot.unset).toArray = ls at hl ⊢
  have hl : lv_has ls 1 [(0, .int a0)] := hl
  obtain ⟨QQ, hQQ⟩ : ∃ Q, Q = MQ below (va_Qi (fun r u => r = res.1 ∧ u = res.2) (fun u t => va_P D vwCl (ww dM 41 cA ad u) t.heap) (inA 41 ad)) args s 0 0 (inA 41 ad) := ⟨_, rfl⟩
  show W p l e (headSpec wsX11_isSmall rm_11_isSmall).room s m args below meth c s.heap [] 0 0 (MQ below (va_Qi (fun r u => r = res.1 ∧ u = res.2) (fun u t => va_P D vwCl (ww dM 41 cA ad u) t.heap) (inA 41 ad)) args s 0 0 (inA 41 ad)) _
  rw [← hQQ]
  unfold f_11_isSmall at h
  obtain ⟨H, hH⟩ : ∃ H, H = s.heap := ⟨_, rfl⟩
  obtain ⟨locs, hlc⟩ : ∃ q : List Loc, q = [] := ⟨_, rfl⟩
  have hP : va_P D vwCl (ww dM 41 cA ad σ) s.heap := hP
  have hS : va_S (inA 41 ad) s.heap s.heap [] := hS
  rw [← hlc] at hS ⊢
  rw [show W p l e (headSpec wsX11_isSmall rm_11_isSmall).room s m args below meth c s.heap locs 0 0 QQ = W p l e (headSpec wsX11_isSmall rm_11_isSmall).room s m args below meth c H locs 0 0 QQ by rw [hH]]
  have hS : va_S (inA 41 ad) s.heap H locs := by rw [hH]; exact hS
  have hP : va_P D vwCl (ww dM 41 cA ad σ) H := by rw [hH]; exact hP
  clear hH hlc
  refine lv_iload_n hx hb dX11_isSmall_0 rfl (lv_at hl 0 rfl) ?_
  refine lv_bipush (v := 97) hx hb dX11_isSmall_1 (by decide) ?_
  refine lv_bipush (v := 122) hx hb dX11_isSmall_3 (by decide) ?_
  obtain ⟨r1, k2, h⟩ := bd_some h
  refine x_Si (rest := []) X hP hS (k_11_isIn l D cA ad hj n σ a0 97 122 k2) 3 gX11_isSmall_X11_isIn rfl rfl rfl (by decide +kernel) ⟨Nat.le_of_ble_eq_true rfl, Nat.le_of_ble_eq_true rfl⟩ rfl hl.1 rfl (Nat.le_of_ble_eq_true rfl) dX11_isSmall_5 ⟨Nat.zero_le _, Nat.zero_le _⟩ (fun H locs hP hS => ?_)
  obtain ⟨g3, h⟩ := gd_some h
  subst hQQ
  exact x_rz X hr hlocks hP hS (isb_nar g3) (Option.some.inj h) dX11_isSmall_8
def f_11_isLetter (n : Nat) (σ : St) (a0 : Int32) : Option (Int32 × St) :=
  (f_11_isSmall n σ a0).bind fun r1 =>
  if r1.1 = 0 then
    (f_11_isIn n r1.2 a0 65 90).bind fun r4 =>
    if r4.1 = 0 then
      some (0, r4.2)
    else
      some (1, r4.2)
  else
    some (1, r1.2)
abbrev rm_11_isLetter : Room := { frames := 2, cells := 0, slots := 0, locals := 42 }
set_option maxRecDepth 100000 in
set_option maxHeartbeats 4000000 in
theorem k_11_isLetter (l : Launch) (D : va_G) (cA : Nat → ClassId) (ad : Nat → Nat) (hj : inj 41 ad) (n : Nat) (σ : St) (a0 : Int32)  {res : Int32 × St} (h : f_11_isLetter n σ a0 = some res) : MXi l D dM 41 cA ad ET yX11_isLetter wsX11_isLetter rm_11_isLetter [.int a0] σ res := by
  refine Met.ofW (cc := cX11_isLetter) (maxL := 1) (ret := (some .boolean)) (by decide) rfl ?_
  intro p e s m args below meth c s₁ B hml hv
  obtain ⟨hargs, hP, hK, hE⟩ := hv
  have hx := B.exec
  have hb := B.bytes
  have hr := B.returns
  have hts := atoms_spec (ws := wsX11_isLetter) B.pre
  have hown : s.vm.findClass RX11 = some m.cls := findClass_of_methodNamed B.named
  have hlocks := B.notSynchronized
  have X : Cx p s m args c cX11_isLetter 1 RX11 wsX11_isLetter D dM 41 cA ad ET := ⟨hx, hb, hml, hown, hts, hK, hj, hE, ET_ok⟩
  have hS : va_S (inA 41 ad) s.heap s.heap [] := va_S.rf
  have hl := lv_entry ([.int a0]) (n := 1) (Nat.le_of_ble_eq_true rfl)
  rw [show entryFrame m args 1 = entryFrame m ([.int a0] : List Value).toArray 1 by rw [hargs]]
  rw [lg_entry_eq]
  generalize (lg_sl ([.int a0]) ++ List.replicate (1 - (lg_sl ([.int a0])).length) Slot.unset).toArray = ls at hl ⊢
  have hl : lv_has ls 1 [(0, .int a0)] := hl
  obtain ⟨QQ, hQQ⟩ : ∃ Q, Q = MQ below (va_Qi (fun r u => r = res.1 ∧ u = res.2) (fun u t => va_P D vwCl (ww dM 41 cA ad u) t.heap) (inA 41 ad)) args s 0 0 (inA 41 ad) := ⟨_, rfl⟩
  show W p l e (headSpec wsX11_isLetter rm_11_isLetter).room s m args below meth c s.heap [] 0 0 (MQ below (va_Qi (fun r u => r = res.1 ∧ u = res.2) (fun u t => va_P D vwCl (ww dM 41 cA ad u) t.heap) (inA 41 ad)) args s 0 0 (inA 41 ad)) _
  rw [← hQQ]
  unfold f_11_isLetter at h
  obtain ⟨H, hH⟩ : ∃ H, H = s.heap := ⟨_, rfl⟩
  obtain ⟨locs, hlc⟩ : ∃ q : List Loc, q = [] := ⟨_, rfl⟩
  have hP : va_P D vwCl (ww dM 41 cA ad σ) s.heap := hP
  have hS : va_S (inA 41 ad) s.heap s.heap [] := hS
  rw [← hlc] at hS ⊢
  rw [show W p l e (headSpec wsX11_isLetter rm_11_isLetter).room s m args below meth c s.heap locs 0 0 QQ = W p l e (headSpec wsX11_isLetter rm_11_isLetter).room s m args below meth c H locs 0 0 QQ by rw [hH]]
  have hS : va_S (inA 41 ad) s.heap H locs := by rw [hH]; exact hS
  have hP : va_P D vwCl (ww dM 41 cA ad σ) H := by rw [hH]; exact hP
  clear hH hlc
  refine lv_iload_n hx hb dX11_isLetter_0 rfl (lv_at hl 0 rfl) ?_
  obtain ⟨r1, k2, h⟩ := bd_some h
  refine x_Si (rest := []) X hP hS (k_11_isSmall l D cA ad hj n σ a0 k2) 1 gX11_isLetter_X11_isSmall rfl rfl rfl (by decide +kernel) ⟨Nat.le_of_ble_eq_true rfl, Nat.le_of_ble_eq_true rfl⟩ rfl hl.1 rfl (Nat.le_of_ble_eq_true rfl) dX11_isLetter_1 ⟨Nat.zero_le _, Nat.zero_le _⟩ (fun H locs hP hS => ?_)
  refine lv_if_ne (tgt := 18) hx hb dX11_isLetter_4 (by decide) (fun c3 => ?_) (fun c3 => ?_)
  · have h := it_f c3 h
    refine lv_iconst (v := 1) hx hb dX11_isLetter_18 (by decide) ?_
    refine lv_goto (tgt := 23) hx hb dX11_isLetter_19 (by decide) ?_
    subst hQQ
    exact x_rz X hr hlocks hP hS (by decide +kernel) (Option.some.inj h) dX11_isLetter_23
  · have h := it_t c3 h
    refine lv_iload_n hx hb dX11_isLetter_7 rfl (lv_at hl 0 rfl) ?_
    refine lv_bipush (v := 65) hx hb dX11_isLetter_8 (by decide) ?_
    refine lv_bipush (v := 90) hx hb dX11_isLetter_10 (by decide) ?_
    obtain ⟨r4, k5, h⟩ := bd_some h
    refine x_Si (rest := []) X hP hS (k_11_isIn l D cA ad hj n r1.2 a0 65 90 k5) 3 gX11_isLetter_X11_isIn rfl rfl rfl (by decide +kernel) ⟨Nat.le_of_ble_eq_true rfl, Nat.le_of_ble_eq_true rfl⟩ rfl hl.1 rfl (Nat.le_of_ble_eq_true rfl) dX11_isLetter_12 ⟨Nat.zero_le _, Nat.zero_le _⟩ (fun H locs hP hS => ?_)
    refine lv_if_eq (tgt := 22) hx hb dX11_isLetter_15 (by decide) (fun c6 => ?_) (fun c6 => ?_)
    · have h := it_t c6 h
      refine lv_iconst (v := 0) hx hb dX11_isLetter_22 (by decide) ?_
      subst hQQ
      exact x_rz X hr hlocks hP hS (by decide +kernel) (Option.some.inj h) dX11_isLetter_23
    · have h := it_f c6 h
      refine lv_iconst (v := 1) hx hb dX11_isLetter_18 (by decide) ?_
      refine lv_goto (tgt := 23) hx hb dX11_isLetter_19 (by decide) ?_
      subst hQQ
      exact x_rz X hr hlocks hP hS (by decide +kernel) (Option.some.inj h) dX11_isLetter_23
def f_11_isDigit (n : Nat) (σ : St) (a0 : Int32) : Option (Int32 × St) :=
  (f_11_isIn n σ a0 48 57).bind fun r1 =>
  gd (isb r1.1) <| some (r1.1, r1.2)
abbrev rm_11_isDigit : Room := { frames := 1, cells := 0, slots := 0, locals := 22 }
set_option maxRecDepth 100000 in
set_option maxHeartbeats 4000000 in
theorem k_11_isDigit (l : Launch) (D : va_G) (cA : Nat → ClassId) (ad : Nat → Nat) (hj : inj 41 ad) (n : Nat) (σ : St) (a0 : Int32)  {res : Int32 × St} (h : f_11_isDigit n σ a0 = some res) : MXi l D dM 41 cA ad ET yX11_isDigit wsX11_isDigit rm_11_isDigit [.int a0] σ res := by
  refine Met.ofW (cc := cX11_isDigit) (maxL := 1) (ret := (some .boolean)) (by decide) rfl ?_
  intro p e s m args below meth c s₁ B hml hv
  obtain ⟨hargs, hP, hK, hE⟩ := hv
  have hx := B.exec
  have hb := B.bytes
  have hr := B.returns
  have hts := atoms_spec (ws := wsX11_isDigit) B.pre
  have hown : s.vm.findClass RX11 = some m.cls := findClass_of_methodNamed B.named
  have hlocks := B.notSynchronized
  have X : Cx p s m args c cX11_isDigit 1 RX11 wsX11_isDigit D dM 41 cA ad ET := ⟨hx, hb, hml, hown, hts, hK, hj, hE, ET_ok⟩
  have hS : va_S (inA 41 ad) s.heap s.heap [] := va_S.rf
  have hl := lv_entry ([.int a0]) (n := 1) (Nat.le_of_ble_eq_true rfl)
  rw [show entryFrame m args 1 = entryFrame m ([.int a0] : List Value).toArray 1 by rw [hargs]]
  rw [lg_entry_eq]
  generalize (lg_sl ([.int a0]) ++ List.replicate (1 - (lg_sl ([.int a0])).length) Slot.unset).toArray = ls at hl ⊢
  have hl : lv_has ls 1 [(0, .int a0)] := hl
  obtain ⟨QQ, hQQ⟩ : ∃ Q, Q = MQ below (va_Qi (fun r u => r = res.1 ∧ u = res.2) (fun u t => va_P D vwCl (ww dM 41 cA ad u) t.heap) (inA 41 ad)) args s 0 0 (inA 41 ad) := ⟨_, rfl⟩
  show W p l e (headSpec wsX11_isDigit rm_11_isDigit).room s m args below meth c s.heap [] 0 0 (MQ below (va_Qi (fun r u => r = res.1 ∧ u = res.2) (fun u t => va_P D vwCl (ww dM 41 cA ad u) t.heap) (inA 41 ad)) args s 0 0 (inA 41 ad)) _
  rw [← hQQ]
  unfold f_11_isDigit at h
  obtain ⟨H, hH⟩ : ∃ H, H = s.heap := ⟨_, rfl⟩
  obtain ⟨locs, hlc⟩ : ∃ q : List Loc, q = [] := ⟨_, rfl⟩
  have hP : va_P D vwCl (ww dM 41 cA ad σ) s.heap := hP
  have hS : va_S (inA 41 ad) s.heap s.heap [] := hS
  rw [← hlc] at hS ⊢
  rw [show W p l e (headSpec wsX11_isDigit rm_11_isDigit).room s m args below meth c s.heap locs 0 0 QQ = W p l e (headSpec wsX11_isDigit rm_11_isDigit).room s m args below meth c H locs 0 0 QQ by rw [hH]]
  have hS : va_S (inA 41 ad) s.heap H locs := by rw [hH]; exact hS
  have hP : va_P D vwCl (ww dM 41 cA ad σ) H := by rw [hH]; exact hP
  clear hH hlc
  refine lv_iload_n hx hb dX11_isDigit_0 rfl (lv_at hl 0 rfl) ?_
  refine lv_bipush (v := 48) hx hb dX11_isDigit_1 (by decide) ?_
  refine lv_bipush (v := 57) hx hb dX11_isDigit_3 (by decide) ?_
  obtain ⟨r1, k2, h⟩ := bd_some h
  refine x_Si (rest := []) X hP hS (k_11_isIn l D cA ad hj n σ a0 48 57 k2) 3 gX11_isDigit_X11_isIn rfl rfl rfl (by decide +kernel) ⟨Nat.le_of_ble_eq_true rfl, Nat.le_of_ble_eq_true rfl⟩ rfl hl.1 rfl (Nat.le_of_ble_eq_true rfl) dX11_isDigit_5 ⟨Nat.zero_le _, Nat.zero_le _⟩ (fun H locs hP hS => ?_)
  obtain ⟨g3, h⟩ := gd_some h
  subst hQQ
  exact x_rz X hr hlocks hP hS (isb_nar g3) (Option.some.inj h) dX11_isDigit_8
def f_11_wordOf (n : Nat) (σ : St) (a0 : Int64) : Option (Int32 × St) :=
  nm (lg_cmp a0 (1668641381)) fun v1 =>
  if v1 = 0 then
    some (4, σ)
  else
    nm (lg_cmp a0 (444199957363)) fun v3 =>
    if v3 = 0 then
      some (10, σ)
    else
      nm (lg_cmp a0 (1650553960)) fun v5 =>
      if v5 = 0 then
        some (11, σ)
      else
        nm (lg_cmp a0 (1919251316)) fun v7 =>
        if v7 = 0 then
          some (12, σ)
        else
          nm (lg_cmp a0 (504364296556)) fun v9 =>
          if v9 = 0 then
            some (13, σ)
          else
            nm (lg_cmp a0 (1700881256)) fun v11 =>
            if v11 = 0 then
              some (14, σ)
            else
              some (2, σ)
abbrev rm_11_wordOf : Room := { frames := 0, cells := 0, slots := 0, locals := 0 }
set_option maxRecDepth 100000 in
set_option maxHeartbeats 4000000 in
theorem k_11_wordOf (l : Launch) (D : va_G) (cA : Nat → ClassId) (ad : Nat → Nat) (hj : inj 41 ad) (n : Nat) (σ : St) (a0 : Int64)  {res : Int32 × St} (h : f_11_wordOf n σ a0 = some res) : MXi l D dM 41 cA ad ET yX11_wordOf wsX11_wordOf rm_11_wordOf [.long a0] σ res := by
  refine Met.ofW (cc := cX11_wordOf) (maxL := 2) (ret := (some .int)) (by decide) rfl ?_
  intro p e s m args below meth c s₁ B hml hv
  obtain ⟨hargs, hP, hK, hE⟩ := hv
  have hx := B.exec
  have hb := B.bytes
  have hr := B.returns
  have hts := atoms_spec (ws := wsX11_wordOf) B.pre
  have hown : s.vm.findClass RX11 = some m.cls := findClass_of_methodNamed B.named
  have hlocks := B.notSynchronized
  have X : Cx p s m args c cX11_wordOf 2 RX11 wsX11_wordOf D dM 41 cA ad ET := ⟨hx, hb, hml, hown, hts, hK, hj, hE, ET_ok⟩
  have hS : va_S (inA 41 ad) s.heap s.heap [] := va_S.rf
  have hl := lv_entry ([.long a0]) (n := 2) (Nat.le_of_ble_eq_true rfl)
  rw [show entryFrame m args 2 = entryFrame m ([.long a0] : List Value).toArray 2 by rw [hargs]]
  rw [lg_entry_eq]
  generalize (lg_sl ([.long a0]) ++ List.replicate (2 - (lg_sl ([.long a0])).length) Slot.unset).toArray = ls at hl ⊢
  have hl : lv_has ls 2 [(0, .long a0)] := hl
  obtain ⟨QQ, hQQ⟩ : ∃ Q, Q = MQ below (va_Qi (fun r u => r = res.1 ∧ u = res.2) (fun u t => va_P D vwCl (ww dM 41 cA ad u) t.heap) (inA 41 ad)) args s 0 0 (inA 41 ad) := ⟨_, rfl⟩
  show W p l e (headSpec wsX11_wordOf rm_11_wordOf).room s m args below meth c s.heap [] 0 0 (MQ below (va_Qi (fun r u => r = res.1 ∧ u = res.2) (fun u t => va_P D vwCl (ww dM 41 cA ad u) t.heap) (inA 41 ad)) args s 0 0 (inA 41 ad)) _
  rw [← hQQ]
  have lc150 : Cond.constantLong RX11 150 (1668641381) ∈ wsX11_wordOf := by decide +kernel
  have lc152 : Cond.constantLong RX11 152 (444199957363) ∈ wsX11_wordOf := by decide +kernel
  have lc154 : Cond.constantLong RX11 154 (1650553960) ∈ wsX11_wordOf := by decide +kernel
  have lc156 : Cond.constantLong RX11 156 (1919251316) ∈ wsX11_wordOf := by decide +kernel
  have lc158 : Cond.constantLong RX11 158 (504364296556) ∈ wsX11_wordOf := by decide +kernel
  have lc160 : Cond.constantLong RX11 160 (1700881256) ∈ wsX11_wordOf := by decide +kernel
  unfold f_11_wordOf at h
  obtain ⟨H, hH⟩ : ∃ H, H = s.heap := ⟨_, rfl⟩
  obtain ⟨locs, hlc⟩ : ∃ q : List Loc, q = [] := ⟨_, rfl⟩
  have hP : va_P D vwCl (ww dM 41 cA ad σ) s.heap := hP
  have hS : va_S (inA 41 ad) s.heap s.heap [] := hS
  rw [← hlc] at hS ⊢
  rw [show W p l e (headSpec wsX11_wordOf rm_11_wordOf).room s m args below meth c s.heap locs 0 0 QQ = W p l e (headSpec wsX11_wordOf rm_11_wordOf).room s m args below meth c H locs 0 0 QQ by rw [hH]]
  have hS : va_S (inA 41 ad) s.heap H locs := by rw [hH]; exact hS
  have hP : va_P D vwCl (ww dM 41 cA ad σ) H := by rw [hH]; exact hP
  clear hH hlc
  refine lv_lload_n hx hb dX11_wordOf_0 rfl (lv_at hl 0 rfl) ?_
  refine lv_ldc2 (own := RX11) (v := (1668641381)) hx hb X.2.2.2.1 (X.2.2.2.2.1 _ lc150) dX11_wordOf_1 ?_
  refine W.lcmp hx hb dX11_wordOf_4 ?_
  refine lv_topi (fun v1 ev1 => ?_)
  have h := nm_some ev1 h
  refine lv_if_ne (tgt := 10) hx hb dX11_wordOf_5 (by decide) (fun c2 => ?_) (fun c2 => ?_)
  · have h := it_f c2 h
    refine lv_lload_n hx hb dX11_wordOf_10 rfl (lv_at hl 0 rfl) ?_
    refine lv_ldc2 (own := RX11) (v := (444199957363)) hx hb X.2.2.2.1 (X.2.2.2.2.1 _ lc152) dX11_wordOf_11 ?_
    refine W.lcmp hx hb dX11_wordOf_14 ?_
    refine lv_topi (fun v3 ev3 => ?_)
    have h := nm_some ev3 h
    refine lv_if_ne (tgt := 21) hx hb dX11_wordOf_15 (by decide) (fun c4 => ?_) (fun c4 => ?_)
    · have h := it_f c4 h
      refine lv_lload_n hx hb dX11_wordOf_21 rfl (lv_at hl 0 rfl) ?_
      refine lv_ldc2 (own := RX11) (v := (1650553960)) hx hb X.2.2.2.1 (X.2.2.2.2.1 _ lc154) dX11_wordOf_22 ?_
      refine W.lcmp hx hb dX11_wordOf_25 ?_
      refine lv_topi (fun v5 ev5 => ?_)
      have h := nm_some ev5 h
      refine lv_if_ne (tgt := 32) hx hb dX11_wordOf_26 (by decide) (fun c6 => ?_) (fun c6 => ?_)
      · have h := it_f c6 h
        refine lv_lload_n hx hb dX11_wordOf_32 rfl (lv_at hl 0 rfl) ?_
        refine lv_ldc2 (own := RX11) (v := (1919251316)) hx hb X.2.2.2.1 (X.2.2.2.2.1 _ lc156) dX11_wordOf_33 ?_
        refine W.lcmp hx hb dX11_wordOf_36 ?_
        refine lv_topi (fun v7 ev7 => ?_)
        have h := nm_some ev7 h
        refine lv_if_ne (tgt := 43) hx hb dX11_wordOf_37 (by decide) (fun c8 => ?_) (fun c8 => ?_)
        · have h := it_f c8 h
          refine lv_lload_n hx hb dX11_wordOf_43 rfl (lv_at hl 0 rfl) ?_
          refine lv_ldc2 (own := RX11) (v := (504364296556)) hx hb X.2.2.2.1 (X.2.2.2.2.1 _ lc158) dX11_wordOf_44 ?_
          refine W.lcmp hx hb dX11_wordOf_47 ?_
          refine lv_topi (fun v9 ev9 => ?_)
          have h := nm_some ev9 h
          refine lv_if_ne (tgt := 54) hx hb dX11_wordOf_48 (by decide) (fun c10 => ?_) (fun c10 => ?_)
          · have h := it_f c10 h
            refine lv_lload_n hx hb dX11_wordOf_54 rfl (lv_at hl 0 rfl) ?_
            refine lv_ldc2 (own := RX11) (v := (1700881256)) hx hb X.2.2.2.1 (X.2.2.2.2.1 _ lc160) dX11_wordOf_55 ?_
            refine W.lcmp hx hb dX11_wordOf_58 ?_
            refine lv_topi (fun v11 ev11 => ?_)
            have h := nm_some ev11 h
            refine lv_if_ne (tgt := 67) hx hb dX11_wordOf_59 (by decide) (fun c12 => ?_) (fun c12 => ?_)
            · have h := it_f c12 h
              refine lv_iconst (v := 2) hx hb dX11_wordOf_67 (by decide) ?_
              subst hQQ
              exact x_ri (σ0 := (fun _ _ => 0, fun _ _ => 0)) X hr hlocks hP hS (Option.some.inj h) dX11_wordOf_68
            · have h := it_t c12 h
              refine lv_bipush (v := 14) hx hb dX11_wordOf_62 (by decide) ?_
              refine lv_goto (tgt := 68) hx hb dX11_wordOf_64 (by decide) ?_
              subst hQQ
              exact x_ri (σ0 := (fun _ _ => 0, fun _ _ => 0)) X hr hlocks hP hS (Option.some.inj h) dX11_wordOf_68
          · have h := it_t c10 h
            refine lv_bipush (v := 13) hx hb dX11_wordOf_51 (by decide) ?_
            subst hQQ
            exact x_ri (σ0 := (fun _ _ => 0, fun _ _ => 0)) X hr hlocks hP hS (Option.some.inj h) dX11_wordOf_53
        · have h := it_t c8 h
          refine lv_bipush (v := 12) hx hb dX11_wordOf_40 (by decide) ?_
          subst hQQ
          exact x_ri (σ0 := (fun _ _ => 0, fun _ _ => 0)) X hr hlocks hP hS (Option.some.inj h) dX11_wordOf_42
      · have h := it_t c6 h
        refine lv_bipush (v := 11) hx hb dX11_wordOf_29 (by decide) ?_
        subst hQQ
        exact x_ri (σ0 := (fun _ _ => 0, fun _ _ => 0)) X hr hlocks hP hS (Option.some.inj h) dX11_wordOf_31
    · have h := it_t c4 h
      refine lv_bipush (v := 10) hx hb dX11_wordOf_18 (by decide) ?_
      subst hQQ
      exact x_ri (σ0 := (fun _ _ => 0, fun _ _ => 0)) X hr hlocks hP hS (Option.some.inj h) dX11_wordOf_20
  · have h := it_t c2 h
    refine lv_iconst (v := 4) hx hb dX11_wordOf_8 (by decide) ?_
    subst hQQ
    exact x_ri (σ0 := (fun _ _ => 0, fun _ _ => 0)) X hr hlocks hP hS (Option.some.inj h) dX11_wordOf_9
def j_11_next0_13 (n : Nat)  (σ : St) : Option ((St) ⊕ (St)) :=
  (f_11_see n σ (σ.1 0 19)).bind fun r6 =>
  if r6.1 = 10 then
    nm ((r6.2.1 0 19) + 1) fun v9 =>
    nm (si r6.2 0 19 v9) fun σ10 =>
    some (.inl σ10)
  else
    some (.inr r6.2)
def b_11_next0_0 (n : Nat)  (t2 : St) : Option ((St) ⊕ (St)) :=
  (f_11_see n t2 (t2.1 0 19)).bind fun r3 =>
  if r3.1 = 32 then
    nm ((r3.2.1 0 19) + 1) fun v17 =>
    nm (si r3.2 0 19 v17) fun σ18 =>
    some (.inl σ18)
  else
    j_11_next0_13 n   r3.2
def j_11_next0_248 (n : Nat) (a2 : Int32) (σ : St) : Option ((Int32 × St) ⊕ (Int32 × St)) :=
  nm (a2 + 1) fun v1052 =>
  nm ((σ.1 0 19) + 1) fun v1053 =>
  nm (si σ 0 19 v1053) fun σ1054 =>
  some (.inl (v1052, σ1054))
def b_11_next0_206 (n : Nat)  (t1045 : Int32 × St) : Option ((Int32 × St) ⊕ (Int32 × St)) :=
  (f_11_see n t1045.2 (t1045.2.1 0 19)).bind fun r1046 =>
  (f_11_isDigit n r1046.2 r1046.1).bind fun r1048 =>
  if r1048.1 = 0 then
    some (.inr (t1045.1, r1048.2))
  else
    if 2 ≤ t1045.1 then
      j_11_next0_248 n t1045.1  r1048.2
    else
      nm (10 * (r1048.2.1 0 22)) fun v1059 =>
      (f_11_see n r1048.2 (r1048.2.1 0 19)).bind fun r1060 =>
      nm (v1059 + r1060.1) fun v1062 =>
      nm (v1062 - 48) fun v1063 =>
      nm (si r1060.2 0 22 v1063) fun σ1064 =>
      j_11_next0_248 n t1045.1  σ1064
def j_11_next0_150 (n : Nat) (a2 : Int32) (a3 : Int32) (σ : St) : Option ((Int32 × Int32 × St) ⊕ (Int32 × Int32 × St)) :=
  nm (a2 + 1) fun v2082 =>
  nm ((σ.1 0 19) + 1) fun v2083 =>
  nm (si σ 0 19 v2083) fun σ2084 =>
  some (.inl (v2082, a3, σ2084))
def j_11_next0_122 (n : Nat) (a2 : Int32) (w0_ : Int32) (σ : St) : Option ((Int32 × Int32 × St) ⊕ (Int32 × Int32 × St)) :=
  if 7 ≤ a2 then
    j_11_next0_150 n a2 w0_  σ
  else
    nm (((σ.2 0 27) : Int64) <<< (Int32.toInt64 8 &&& 63)) fun v2089 =>
    (f_11_see n σ (σ.1 0 19)).bind fun r2090 =>
    nm (Int32.toInt64 r2090.1) fun v2092 =>
    nm ((v2089 : Int64) ||| v2092) fun v2093 =>
    nm (sl r2090.2 0 27 v2093) fun σ2094 =>
    j_11_next0_150 n a2 w0_  σ2094
def b_11_next0_85 (n : Nat)  (t2073 : Int32 × Int32 × St) : Option ((Int32 × Int32 × St) ⊕ (Int32 × Int32 × St)) :=
  (f_11_see n t2073.2.2 (t2073.2.2.1 0 19)).bind fun r2074 =>
  (f_11_isLetter n r2074.2 r2074.1).bind fun r2076 =>
  if r2076.1 = 0 then
    some (.inr (t2073.1, t2073.2.1, r2076.2))
  else
    if t2073.2.1 = 0 then
      j_11_next0_122 n t2073.1 0 r2076.2
    else
      (f_11_see n r2076.2 (r2076.2.1 0 19)).bind fun r2110 =>
      (f_11_isSmall n r2110.2 r2110.1).bind fun r2112 =>
      if r2112.1 = 0 then
        j_11_next0_122 n t2073.1 0 r2112.2
      else
        j_11_next0_122 n t2073.1 1 r2112.2
def f_11_next0 (n : Nat) (σ : St)  : Option (St) :=
  (lq (b_11_next0_0 n ) n σ).bind fun t1019 =>
  nm (si t1019 0 21 (t1019.1 0 19)) fun σ1022 =>
  (f_11_see n σ1022 (σ1022.1 0 19)).bind fun r1023 =>
  if r1023.1 = (-1) then
    nm (si r1023.2 0 20 0) fun σ3125 =>
    some σ3125
  else
    (f_11_isLetter n r1023.2 r1023.1).bind fun r1026 =>
    if r1026.1 = 0 then
      (f_11_isDigit n r1026.2 r1023.1).bind fun r1029 =>
      if r1029.1 = 0 then
        nm ((r1029.2.1 0 19) + 1) fun v1032 =>
        nm (si r1029.2 0 19 v1032) fun σ1033 =>
        if r1023.1 = 58 then
          nm (si σ1033 0 20 r1023.1) fun σ1035 =>
          some σ1035
        else
          if r1023.1 = 59 then
            nm (si σ1033 0 20 r1023.1) fun σ1037 =>
            some σ1037
          else
            if r1023.1 = 40 then
              nm (si σ1033 0 20 r1023.1) fun σ1039 =>
              some σ1039
            else
              if r1023.1 = 41 then
                nm (si σ1033 0 20 r1023.1) fun σ1042 =>
                some σ1042
              else
                nm (si σ1033 0 20 1) fun σ1041 =>
                some σ1041
      else
        nm (si r1029.2 0 22 0) fun σ1043 =>
        (lq (b_11_next0_206 n ) n (0, σ1043)).bind fun t2065 =>
        if 3 ≤ t2065.1 then
          nm (si t2065.2 0 20 1) fun σ2069 =>
          some σ2069
        else
          nm (si t2065.2 0 20 3) fun σ2070 =>
          some σ2070
    else
      nm (sl r1026.2 0 27 0) fun σ2071 =>
      (lq (b_11_next0_85 n ) n (0, 1, σ2071)).bind fun t3115 =>
      if 7 ≤ t3115.1 then
        nm (si t3115.2.2 0 20 1) fun σ3119 =>
        some σ3119
      else
        if t3115.2.1 = 0 then
          nm (si t3115.2.2 0 20 1) fun σ3121 =>
          some σ3121
        else
          (f_11_wordOf n t3115.2.2 (t3115.2.2.2 0 27)).bind fun r3122 =>
          nm (si r3122.2 0 20 r3122.1) fun σ3124 =>
          some σ3124
abbrev rm_11_next0 : Room := { frames := 3, cells := 0, slots := 0, locals := 62 }
set_option maxRecDepth 100000 in
set_option maxHeartbeats 4000000 in
theorem k_11_next0 (l : Launch) (D : va_G) (cA : Nat → ClassId) (ad : Nat → Nat) (hj : inj 41 ad) (n : Nat) (σ : St)   {res : St} (h : f_11_next0 n σ  = some res) : MXv l D dM 41 cA ad ET yX11_next0 wsX11_next0 rm_11_next0 [.ref (ad 0)] σ res := by
  refine Met.ofW (cc := cX11_next0) (maxL := 4) (ret := none) (by decide) rfl ?_
  intro p e s m args below meth c s₁ B hml hv
  obtain ⟨hargs, hP, hK, hE⟩ := hv
  have hx := B.exec
  have hb := B.bytes
  have hr := B.returns
  have hts := atoms_spec (ws := wsX11_next0) B.pre
  have hown : s.vm.findClass RX11 = some m.cls := findClass_of_methodNamed B.named
  have hlocks := B.notSynchronized
  have X : Cx p s m args c cX11_next0 4 RX11 wsX11_next0 D dM 41 cA ad ET := ⟨hx, hb, hml, hown, hts, hK, hj, hE, ET_ok⟩
  have hS : va_S (inA 41 ad) s.heap s.heap [] := va_S.rf
  have hl := lv_entry ([.ref (ad 0)]) (n := 4) (Nat.le_of_ble_eq_true rfl)
  rw [show entryFrame m args 4 = entryFrame m ([.ref (ad 0)] : List Value).toArray 4 by rw [hargs]]
  rw [lg_entry_eq]
  generalize (lg_sl ([.ref (ad 0)]) ++ List.replicate (4 - (lg_sl ([.ref (ad 0)])).length) Slot.unset).toArray = ls at hl ⊢
  have hl : lv_has ls 4 [(0, .ref (ad 0))] := hl
  obtain ⟨QQ, hQQ⟩ : ∃ Q, Q = MQ below (va_Qv (fun u => u = res) (fun u t => va_P D vwCl (ww dM 41 cA ad u) t.heap) (inA 41 ad)) args s 0 0 (inA 41 ad) := ⟨_, rfl⟩
  show W p l e (headSpec wsX11_next0 rm_11_next0).room s m args below meth c s.heap [] 0 0 (MQ below (va_Qv (fun u => u = res) (fun u t => va_P D vwCl (ww dM 41 cA ad u) t.heap) (inA 41 ad)) args s 0 0 (inA 41 ad)) _
  rw [← hQQ]
  have in11 : ∀ w ∈ wsX110, w ∈ wsX11_next0 := by decide +kernel
  have lk162 : Cond.fieldLink RX11 162 "CureTownModel" "at" "I" ∈ wsX11_next0 := by decide +kernel
  have lk169 : Cond.fieldLink RX11 169 "CureTownModel" "tokenAt" "I" ∈ wsX11_next0 := by decide +kernel
  have lk172 : Cond.fieldLink RX11 172 "CureTownModel" "token" "I" ∈ wsX11_next0 := by decide +kernel
  have lk189 : Cond.fieldLink RX11 189 "CureTownModel" "value" "I" ∈ wsX11_next0 := by decide +kernel
  have lk178 : Cond.fieldLink RX11 178 "CureTownModel" "word" "J" ∈ wsX11_next0 := by decide +kernel
  unfold f_11_next0 at h
  obtain ⟨H, hH⟩ : ∃ H, H = s.heap := ⟨_, rfl⟩
  obtain ⟨locs, hlc⟩ : ∃ q : List Loc, q = [] := ⟨_, rfl⟩
  have hP : va_P D vwCl (ww dM 41 cA ad σ) s.heap := hP
  have hS : va_S (inA 41 ad) s.heap s.heap [] := hS
  rw [← hlc] at hS ⊢
  rw [show W p l e (headSpec wsX11_next0 rm_11_next0).room s m args below meth c s.heap locs 0 0 QQ = W p l e (headSpec wsX11_next0 rm_11_next0).room s m args below meth c H locs 0 0 QQ by rw [hH]]
  have hS : va_S (inA 41 ad) s.heap H locs := by rw [hH]; exact hS
  have hP : va_P D vwCl (ww dM 41 cA ad σ) H := by rw [hH]; exact hP
  clear hH hlc
  obtain ⟨t1019, o1021, h⟩ := bd_some h
  refine lq_rule (P := fun t2 : St => ∀ (H : Heap) (locs : List Loc) (ls : Array Slot), va_P D vwCl (ww dM 41 cA ad t2) H → va_S (inA 41 ad) s.heap H locs → lv_has ls 4 [(0, .ref (ad 0))] → W p l e (headSpec wsX11_next0 rm_11_next0).room s m args below meth c H locs 0 0 QQ (F0 m 0 ls [])) (X := fun t1019 : St => ∀ (H : Heap) (locs : List Loc) (ls : Array Slot), va_P D vwCl (ww dM 41 cA ad t1019) H → va_S (inA 41 ad) s.heap H locs → lv_has ls 4 [(0, .ref (ad 0))] → W p l e (headSpec wsX11_next0 rm_11_next0).room s m args below meth c H locs 0 0 QQ (F0 m 39 ls [])) ?_ n _ _ o1021 ?_ H locs ls hP hS (lv_sub hl [0] rfl)
  · clear h hP hS hl
    intro t2 rL1 h hCL1 hEL1 H locs ls hP hS hl
    unfold b_11_next0_0 at h
    refine lv_aload_n hx hb dX11_next0_0 rfl (lv_at hl 0 rfl) ?_
    refine lv_aload_n hx hb dX11_next0_1 rfl (lv_at hl 0 rfl) ?_
    refine x_gi X hP (j := 19) (by decide) (dM_0) rfl rfl (by decide) in11 lk162 dX11_next0_2 ?_
    obtain ⟨r3, k4, h⟩ := bd_some h
    refine x_Vi (rest := []) X hP hS (k_11_see l D cA ad hj n t2 (t2.1 0 19) k4) (by decide) (dM_0) rfl 1 gX11_next0_X11_see rfl rfl rfl (by decide +kernel) ⟨Nat.le_of_ble_eq_true rfl, Nat.le_of_ble_eq_true rfl⟩ rfl hl.1 rfl (Nat.le_of_ble_eq_true rfl) dX11_next0_5 ⟨Nat.zero_le _, Nat.zero_le _⟩ (fun H locs hP hS => ?_)
    refine lv_bipush (v := 32) hx hb dX11_next0_8 (by decide) ?_
    have hJ13 : ∀ (σ5 : St), j_11_next0_13 n  σ5 = some rL1 → ∀ (H : Heap) (locs : List Loc) (ls : Array Slot), va_P D vwCl (ww dM 41 cA ad σ5) H → va_S (inA 41 ad) s.heap H locs → lv_has ls 4 [(0, .ref (ad 0))] → W p l e (headSpec wsX11_next0 rm_11_next0).room s m args below meth c H locs 0 0 QQ (F0 m 13 ls []) := by
      clear h hP hS hl
      intro  σ5 h H locs ls hP hS hl
      unfold j_11_next0_13 at h
      refine lv_aload_n hx hb dX11_next0_13 rfl (lv_at hl 0 rfl) ?_
      refine lv_aload_n hx hb dX11_next0_14 rfl (lv_at hl 0 rfl) ?_
      refine x_gi X hP (j := 19) (by decide) (dM_0) rfl rfl (by decide) in11 lk162 dX11_next0_15 ?_
      obtain ⟨r11, k12, h⟩ := bd_some h
      refine x_Vi (rest := []) X hP hS (k_11_see l D cA ad hj n σ5 (σ5.1 0 19) k12) (by decide) (dM_0) rfl 1 gX11_next0_X11_see rfl rfl rfl (by decide +kernel) ⟨Nat.le_of_ble_eq_true rfl, Nat.le_of_ble_eq_true rfl⟩ rfl hl.1 rfl (Nat.le_of_ble_eq_true rfl) dX11_next0_18 ⟨Nat.zero_le _, Nat.zero_le _⟩ (fun H locs hP hS => ?_)
      refine lv_bipush (v := 10) hx hb dX11_next0_21 (by decide) ?_
      refine lv_icmp_ne (tgt := 39) hx hb dX11_next0_23 (by decide) (fun c13 => ?_) (fun c13 => ?_)
      · have h := it_f c13 h
        exact hEL1 _ (Option.some.inj h).symm H locs ls hP hS (lv_sub hl [0] rfl)
      · have h := it_t c13 h
        refine lv_aload_n hx hb dX11_next0_26 rfl (lv_at hl 0 rfl) ?_
        refine lv_dup hx hb dX11_next0_27 rfl ?_
        refine x_gi X hP (j := 19) (by decide) (dM_0) rfl rfl (by decide) in11 lk162 dX11_next0_28 ?_
        refine lv_iconst (v := 1) hx hb dX11_next0_31 (by decide) ?_
        refine lv_iadd hx hb dX11_next0_32 ?_
        refine lv_topi (fun v14 ev14 => ?_)
        have h := nm_some ev14 h
        refine x_pi X hP hS (j := 19) (by decide) (dM_0) rfl rfl (by decide) in11 tyX11_ok nmX11 lk162 rfl rfl rfl rfl dX11_next0_33 (fun σ15 eσ15 H locs hP hS => ?_)
        have h := nm_some eσ15 h
        refine lv_goto (tgt := 0) hx hb dX11_next0_36 (by decide) ?_
        exact hCL1 _ (Option.some.inj h).symm H locs ls hP hS (lv_sub hl [0] rfl)
    refine lv_icmp_eq (tgt := 26) hx hb dX11_next0_10 (by decide) (fun c16 => ?_) (fun c16 => ?_)
    · have h := it_t c16 h
      refine lv_aload_n hx hb dX11_next0_26 rfl (lv_at hl 0 rfl) ?_
      refine lv_dup hx hb dX11_next0_27 rfl ?_
      refine x_gi X hP (j := 19) (by decide) (dM_0) rfl rfl (by decide) in11 lk162 dX11_next0_28 ?_
      refine lv_iconst (v := 1) hx hb dX11_next0_31 (by decide) ?_
      refine lv_iadd hx hb dX11_next0_32 ?_
      refine lv_topi (fun v17 ev17 => ?_)
      have h := nm_some ev17 h
      refine x_pi X hP hS (j := 19) (by decide) (dM_0) rfl rfl (by decide) in11 tyX11_ok nmX11 lk162 rfl rfl rfl rfl dX11_next0_33 (fun σ18 eσ18 H locs hP hS => ?_)
      have h := nm_some eσ18 h
      refine lv_goto (tgt := 0) hx hb dX11_next0_36 (by decide) ?_
      exact hCL1 _ (Option.some.inj h).symm H locs ls hP hS (lv_sub hl [0] rfl)
    · have h := it_f c16 h
      exact hJ13   r3.2 h H locs ls hP hS (lv_sub hl [0] rfl)
  · intro H locs ls hP hS hl
    refine lv_aload_n hx hb dX11_next0_39 rfl (lv_at hl 0 rfl) ?_
    refine lv_aload_n hx hb dX11_next0_40 rfl (lv_at hl 0 rfl) ?_
    refine x_gi X hP (j := 19) (by decide) (dM_0) rfl rfl (by decide) in11 lk162 dX11_next0_41 ?_
    refine x_pi X hP hS (j := 21) (by decide) (dM_0) rfl rfl (by decide) in11 tyX11_ok nmX11 lk169 rfl rfl rfl rfl dX11_next0_44 (fun σ1022 eσ1022 H locs hP hS => ?_)
    have h := nm_some eσ1022 h
    refine lv_aload_n hx hb dX11_next0_47 rfl (lv_at hl 0 rfl) ?_
    refine lv_aload_n hx hb dX11_next0_48 rfl (lv_at hl 0 rfl) ?_
    refine x_gi X hP (j := 19) (by decide) (dM_0) rfl rfl (by decide) in11 lk162 dX11_next0_49 ?_
    obtain ⟨r1023, k1024, h⟩ := bd_some h
    refine x_Vi (rest := []) X hP hS (k_11_see l D cA ad hj n σ1022 (σ1022.1 0 19) k1024) (by decide) (dM_0) rfl 1 gX11_next0_X11_see rfl rfl rfl (by decide +kernel) ⟨Nat.le_of_ble_eq_true rfl, Nat.le_of_ble_eq_true rfl⟩ rfl hl.1 rfl (Nat.le_of_ble_eq_true rfl) dX11_next0_52 ⟨Nat.zero_le _, Nat.zero_le _⟩ (fun H locs hP hS => ?_)
    refine lv_istore_n (lv' := [(1, .int r1023.1), (0, .ref (ad 0))]) hx hb dX11_next0_55 rfl hl (by decide) rfl (fun ls hl => ?_)
    refine lv_iconst (v := 0) hx hb dX11_next0_56 (by decide) ?_
    refine lv_istore_n (lv' := [(2, .int 0), (1, .int r1023.1), (0, .ref (ad 0))]) hx hb dX11_next0_57 rfl hl (by decide) rfl (fun ls hl => ?_)
    refine lv_iconst (v := 1) hx hb dX11_next0_58 (by decide) ?_
    refine lv_istore_n (lv' := [(3, .int 1), (2, .int 0), (1, .int r1023.1), (0, .ref (ad 0))]) hx hb dX11_next0_59 rfl hl (by decide) rfl (fun ls hl => ?_)
    refine lv_iload_n hx hb dX11_next0_60 rfl (lv_at hl 2 rfl) ?_
    refine lv_iconst (v := (-1)) hx hb dX11_next0_61 (by decide) ?_
    refine lv_icmp_ne (tgt := 73) hx hb dX11_next0_62 (by decide) (fun c1025 => ?_) (fun c1025 => ?_)
    · have h := it_f c1025 h
      refine lv_iload_n hx hb dX11_next0_73 rfl (lv_at hl 2 rfl) ?_
      obtain ⟨r1026, k1027, h⟩ := bd_some h
      refine x_Si (rest := []) X hP hS (k_11_isLetter l D cA ad hj n r1023.2 r1023.1 k1027) 1 gX11_next0_X11_isLetter rfl rfl rfl (by decide +kernel) ⟨Nat.le_of_ble_eq_true rfl, Nat.le_of_ble_eq_true rfl⟩ rfl hl.1 rfl (Nat.le_of_ble_eq_true rfl) dX11_next0_74 ⟨Nat.zero_le _, Nat.zero_le _⟩ (fun H locs hP hS => ?_)
      refine lv_if_eq (tgt := 194) hx hb dX11_next0_77 (by decide) (fun c1028 => ?_) (fun c1028 => ?_)
      · have h := it_t c1028 h
        refine lv_iload_n hx hb dX11_next0_194 rfl (lv_at hl 2 rfl) ?_
        obtain ⟨r1029, k1030, h⟩ := bd_some h
        refine x_Si (rest := []) X hP hS (k_11_isDigit l D cA ad hj n r1026.2 r1023.1 k1030) 1 gX11_next0_X11_isDigit rfl rfl rfl (by decide +kernel) ⟨Nat.le_of_ble_eq_true rfl, Nat.le_of_ble_eq_true rfl⟩ rfl hl.1 rfl (Nat.le_of_ble_eq_true rfl) dX11_next0_195 ⟨Nat.zero_le _, Nat.zero_le _⟩ (fun H locs hP hS => ?_)
        refine lv_if_eq (tgt := 281) hx hb dX11_next0_198 (by decide) (fun c1031 => ?_) (fun c1031 => ?_)
        · have h := it_t c1031 h
          refine lv_aload_n hx hb dX11_next0_281 rfl (lv_at hl 3 rfl) ?_
          refine lv_dup hx hb dX11_next0_282 rfl ?_
          refine x_gi X hP (j := 19) (by decide) (dM_0) rfl rfl (by decide) in11 lk162 dX11_next0_283 ?_
          refine lv_iconst (v := 1) hx hb dX11_next0_286 (by decide) ?_
          refine lv_iadd hx hb dX11_next0_287 ?_
          refine lv_topi (fun v1032 ev1032 => ?_)
          have h := nm_some ev1032 h
          refine x_pi X hP hS (j := 19) (by decide) (dM_0) rfl rfl (by decide) in11 tyX11_ok nmX11 lk162 rfl rfl rfl rfl dX11_next0_288 (fun σ1033 eσ1033 H locs hP hS => ?_)
          have h := nm_some eσ1033 h
          refine lv_aload_n hx hb dX11_next0_291 rfl (lv_at hl 3 rfl) ?_
          refine lv_iload_n hx hb dX11_next0_292 rfl (lv_at hl 2 rfl) ?_
          refine lv_bipush (v := 58) hx hb dX11_next0_293 (by decide) ?_
          refine lv_icmp_eq (tgt := 316) hx hb dX11_next0_295 (by decide) (fun c1034 => ?_) (fun c1034 => ?_)
          · have h := it_t c1034 h
            refine lv_iload_n hx hb dX11_next0_316 rfl (lv_at hl 2 rfl) ?_
            refine lv_goto (tgt := 321) hx hb dX11_next0_317 (by decide) ?_
            refine x_pi X hP hS (j := 20) (by decide) (dM_0) rfl rfl (by decide) in11 tyX11_ok nmX11 lk172 rfl rfl rfl rfl dX11_next0_321 (fun σ1035 eσ1035 H locs hP hS => ?_)
            have h := nm_some eσ1035 h
            subst hQQ
            exact x_rv X hr hlocks hP hS (Option.some.inj h) dX11_next0_324
          · have h := it_f c1034 h
            refine lv_iload_n hx hb dX11_next0_298 rfl (lv_at hl 2 rfl) ?_
            refine lv_bipush (v := 59) hx hb dX11_next0_299 (by decide) ?_
            refine lv_icmp_eq (tgt := 316) hx hb dX11_next0_301 (by decide) (fun c1036 => ?_) (fun c1036 => ?_)
            · have h := it_t c1036 h
              refine lv_iload_n hx hb dX11_next0_316 rfl (lv_at hl 2 rfl) ?_
              refine lv_goto (tgt := 321) hx hb dX11_next0_317 (by decide) ?_
              refine x_pi X hP hS (j := 20) (by decide) (dM_0) rfl rfl (by decide) in11 tyX11_ok nmX11 lk172 rfl rfl rfl rfl dX11_next0_321 (fun σ1037 eσ1037 H locs hP hS => ?_)
              have h := nm_some eσ1037 h
              subst hQQ
              exact x_rv X hr hlocks hP hS (Option.some.inj h) dX11_next0_324
            · have h := it_f c1036 h
              refine lv_iload_n hx hb dX11_next0_304 rfl (lv_at hl 2 rfl) ?_
              refine lv_bipush (v := 40) hx hb dX11_next0_305 (by decide) ?_
              refine lv_icmp_eq (tgt := 316) hx hb dX11_next0_307 (by decide) (fun c1038 => ?_) (fun c1038 => ?_)
              · have h := it_t c1038 h
                refine lv_iload_n hx hb dX11_next0_316 rfl (lv_at hl 2 rfl) ?_
                refine lv_goto (tgt := 321) hx hb dX11_next0_317 (by decide) ?_
                refine x_pi X hP hS (j := 20) (by decide) (dM_0) rfl rfl (by decide) in11 tyX11_ok nmX11 lk172 rfl rfl rfl rfl dX11_next0_321 (fun σ1039 eσ1039 H locs hP hS => ?_)
                have h := nm_some eσ1039 h
                subst hQQ
                exact x_rv X hr hlocks hP hS (Option.some.inj h) dX11_next0_324
              · have h := it_f c1038 h
                refine lv_iload_n hx hb dX11_next0_310 rfl (lv_at hl 2 rfl) ?_
                refine lv_bipush (v := 41) hx hb dX11_next0_311 (by decide) ?_
                refine lv_icmp_ne (tgt := 320) hx hb dX11_next0_313 (by decide) (fun c1040 => ?_) (fun c1040 => ?_)
                · have h := it_f c1040 h
                  refine lv_iconst (v := 1) hx hb dX11_next0_320 (by decide) ?_
                  refine x_pi X hP hS (j := 20) (by decide) (dM_0) rfl rfl (by decide) in11 tyX11_ok nmX11 lk172 rfl rfl rfl rfl dX11_next0_321 (fun σ1041 eσ1041 H locs hP hS => ?_)
                  have h := nm_some eσ1041 h
                  subst hQQ
                  exact x_rv X hr hlocks hP hS (Option.some.inj h) dX11_next0_324
                · have h := it_t c1040 h
                  refine lv_iload_n hx hb dX11_next0_316 rfl (lv_at hl 2 rfl) ?_
                  refine lv_goto (tgt := 321) hx hb dX11_next0_317 (by decide) ?_
                  refine x_pi X hP hS (j := 20) (by decide) (dM_0) rfl rfl (by decide) in11 tyX11_ok nmX11 lk172 rfl rfl rfl rfl dX11_next0_321 (fun σ1042 eσ1042 H locs hP hS => ?_)
                  have h := nm_some eσ1042 h
                  subst hQQ
                  exact x_rv X hr hlocks hP hS (Option.some.inj h) dX11_next0_324
        · have h := it_f c1031 h
          refine lv_aload_n hx hb dX11_next0_201 rfl (lv_at hl 3 rfl) ?_
          refine lv_iconst (v := 0) hx hb dX11_next0_202 (by decide) ?_
          refine x_pi X hP hS (j := 22) (by decide) (dM_0) rfl rfl (by decide) in11 tyX11_ok nmX11 lk189 rfl rfl rfl rfl dX11_next0_203 (fun σ1043 eσ1043 H locs hP hS => ?_)
          have h := nm_some eσ1043 h
          obtain ⟨t2065, o2067, h⟩ := bd_some h
          refine lq_rule (P := fun t1045 : Int32 × St => ∀ (H : Heap) (locs : List Loc) (ls : Array Slot), va_P D vwCl (ww dM 41 cA ad t1045.2) H → va_S (inA 41 ad) s.heap H locs → lv_has ls 4 [(0, .ref (ad 0)), (2, .int t1045.1)] → W p l e (headSpec wsX11_next0 rm_11_next0).room s m args below meth c H locs 0 0 QQ (F0 m 206 ls [])) (X := fun t2065 : Int32 × St => ∀ (H : Heap) (locs : List Loc) (ls : Array Slot), va_P D vwCl (ww dM 41 cA ad t2065.2) H → va_S (inA 41 ad) s.heap H locs → lv_has ls 4 [(0, .ref (ad 0)), (2, .int t2065.1)] → W p l e (headSpec wsX11_next0 rm_11_next0).room s m args below meth c H locs 0 0 QQ (F0 m 264 ls [])) ?_ n _ _ o2067 ?_ H locs ls hP hS (lv_sub hl [3, 1] rfl)
          · clear h hP hS hl
            intro t1045 rL1044 h hCL1044 hEL1044 H locs ls hP hS hl
            unfold b_11_next0_206 at h
            refine lv_aload_n hx hb dX11_next0_206 rfl (lv_at hl 0 rfl) ?_
            refine lv_aload_n hx hb dX11_next0_207 rfl (lv_at hl 0 rfl) ?_
            refine x_gi X hP (j := 19) (by decide) (dM_0) rfl rfl (by decide) in11 lk162 dX11_next0_208 ?_
            obtain ⟨r1046, k1047, h⟩ := bd_some h
            refine x_Vi (rest := []) X hP hS (k_11_see l D cA ad hj n t1045.2 (t1045.2.1 0 19) k1047) (by decide) (dM_0) rfl 1 gX11_next0_X11_see rfl rfl rfl (by decide +kernel) ⟨Nat.le_of_ble_eq_true rfl, Nat.le_of_ble_eq_true rfl⟩ rfl hl.1 rfl (Nat.le_of_ble_eq_true rfl) dX11_next0_211 ⟨Nat.zero_le _, Nat.zero_le _⟩ (fun H locs hP hS => ?_)
            obtain ⟨r1048, k1049, h⟩ := bd_some h
            refine x_Si (rest := []) X hP hS (k_11_isDigit l D cA ad hj n r1046.2 r1046.1 k1049) 1 gX11_next0_X11_isDigit rfl rfl rfl (by decide +kernel) ⟨Nat.le_of_ble_eq_true rfl, Nat.le_of_ble_eq_true rfl⟩ rfl hl.1 rfl (Nat.le_of_ble_eq_true rfl) dX11_next0_214 ⟨Nat.zero_le _, Nat.zero_le _⟩ (fun H locs hP hS => ?_)
            refine lv_if_eq (tgt := 264) hx hb dX11_next0_217 (by decide) (fun c1050 => ?_) (fun c1050 => ?_)
            · have h := it_t c1050 h
              exact hEL1044 _ (Option.some.inj h).symm H locs ls hP hS (lv_sub hl [0, 1] rfl)
            · have h := it_f c1050 h
              refine lv_iload_n hx hb dX11_next0_220 rfl (lv_at hl 1 rfl) ?_
              refine lv_iconst (v := 2) hx hb dX11_next0_221 (by decide) ?_
              have hJ248 : ∀ (σ1051 : St), j_11_next0_248 n t1045.1 σ1051 = some rL1044 → ∀ (H : Heap) (locs : List Loc) (ls : Array Slot), va_P D vwCl (ww dM 41 cA ad σ1051) H → va_S (inA 41 ad) s.heap H locs → lv_has ls 4 [(0, .ref (ad 0)), (2, .int t1045.1)] → W p l e (headSpec wsX11_next0 rm_11_next0).room s m args below meth c H locs 0 0 QQ (F0 m 248 ls []) := by
                clear h hP hS hl
                intro  σ1051 h H locs ls hP hS hl
                unfold j_11_next0_248 at h
                obtain ⟨v1055, ev1055⟩ : ∃ y : Int32, y = t1045.1 + 1 := ⟨_, rfl⟩
                have h := nm_some ev1055 h
                refine lv_iinc (v := v1055) (lv' := [(2, .int v1055), (0, .ref (ad 0))]) hx hb dX11_next0_248 hl (k := 1) rfl (by rw [ev1055]; rfl) (by decide) rfl (fun ls hl => ?_)
                refine lv_aload_n hx hb dX11_next0_251 rfl (lv_at hl 1 rfl) ?_
                refine lv_dup hx hb dX11_next0_252 rfl ?_
                refine x_gi X hP (j := 19) (by decide) (dM_0) rfl rfl (by decide) in11 lk162 dX11_next0_253 ?_
                refine lv_iconst (v := 1) hx hb dX11_next0_256 (by decide) ?_
                refine lv_iadd hx hb dX11_next0_257 ?_
                refine lv_topi (fun v1056 ev1056 => ?_)
                have h := nm_some ev1056 h
                refine x_pi X hP hS (j := 19) (by decide) (dM_0) rfl rfl (by decide) in11 tyX11_ok nmX11 lk162 rfl rfl rfl rfl dX11_next0_258 (fun σ1057 eσ1057 H locs hP hS => ?_)
                have h := nm_some eσ1057 h
                refine lv_goto (tgt := 206) hx hb dX11_next0_261 (by decide) ?_
                exact hCL1044 _ (Option.some.inj h).symm H locs ls hP hS (lv_sub hl [1, 0] rfl)
              refine lv_icmp_ge (tgt := 248) hx hb dX11_next0_222 (by decide) (fun c1058 => ?_) (fun c1058 => ?_)
              · have h := it_t c1058 h
                exact hJ248   r1048.2 h H locs ls hP hS (lv_sub hl [0, 1] rfl)
              · have h := it_f c1058 h
                refine lv_aload_n hx hb dX11_next0_225 rfl (lv_at hl 0 rfl) ?_
                refine lv_bipush (v := 10) hx hb dX11_next0_226 (by decide) ?_
                refine lv_aload_n hx hb dX11_next0_228 rfl (lv_at hl 0 rfl) ?_
                refine x_gi X hP (j := 22) (by decide) (dM_0) rfl rfl (by decide) in11 lk189 dX11_next0_229 ?_
                refine lv_imul hx hb dX11_next0_232 ?_
                refine lv_topi (fun v1059 ev1059 => ?_)
                have h := nm_some ev1059 h
                refine lv_aload_n hx hb dX11_next0_233 rfl (lv_at hl 0 rfl) ?_
                refine lv_aload_n hx hb dX11_next0_234 rfl (lv_at hl 0 rfl) ?_
                refine x_gi X hP (j := 19) (by decide) (dM_0) rfl rfl (by decide) in11 lk162 dX11_next0_235 ?_
                obtain ⟨r1060, k1061, h⟩ := bd_some h
                refine x_Vi (rest := [.int v1059, .ref (ad 0)]) X hP hS (k_11_see l D cA ad hj n r1048.2 (r1048.2.1 0 19) k1061) (by decide) (dM_0) rfl 1 gX11_next0_X11_see rfl rfl rfl (by decide +kernel) ⟨Nat.le_of_ble_eq_true rfl, Nat.le_of_ble_eq_true rfl⟩ rfl hl.1 rfl (Nat.le_of_ble_eq_true rfl) dX11_next0_238 ⟨Nat.zero_le _, Nat.zero_le _⟩ (fun H locs hP hS => ?_)
                refine lv_iadd hx hb dX11_next0_241 ?_
                refine lv_topi (fun v1062 ev1062 => ?_)
                have h := nm_some ev1062 h
                refine lv_bipush (v := 48) hx hb dX11_next0_242 (by decide) ?_
                refine lv_isub hx hb dX11_next0_244 ?_
                refine lv_topi (fun v1063 ev1063 => ?_)
                have h := nm_some ev1063 h
                refine x_pi X hP hS (j := 22) (by decide) (dM_0) rfl rfl (by decide) in11 tyX11_ok nmX11 lk189 rfl rfl rfl rfl dX11_next0_245 (fun σ1064 eσ1064 H locs hP hS => ?_)
                have h := nm_some eσ1064 h
                exact hJ248   σ1064 h H locs ls hP hS (lv_sub hl [0, 1] rfl)
          · intro H locs ls hP hS hl
            refine lv_aload_n hx hb dX11_next0_264 rfl (lv_at hl 0 rfl) ?_
            refine lv_iload_n hx hb dX11_next0_265 rfl (lv_at hl 1 rfl) ?_
            refine lv_iconst (v := 3) hx hb dX11_next0_266 (by decide) ?_
            refine lv_icmp_ge (tgt := 274) hx hb dX11_next0_267 (by decide) (fun c2068 => ?_) (fun c2068 => ?_)
            · have h := it_t c2068 h
              refine lv_iconst (v := 1) hx hb dX11_next0_274 (by decide) ?_
              refine x_pi X hP hS (j := 20) (by decide) (dM_0) rfl rfl (by decide) in11 tyX11_ok nmX11 lk172 rfl rfl rfl rfl dX11_next0_275 (fun σ2069 eσ2069 H locs hP hS => ?_)
              have h := nm_some eσ2069 h
              refine lv_goto (tgt := 324) hx hb dX11_next0_278 (by decide) ?_
              subst hQQ
              exact x_rv X hr hlocks hP hS (Option.some.inj h) dX11_next0_324
            · have h := it_f c2068 h
              refine lv_iconst (v := 3) hx hb dX11_next0_270 (by decide) ?_
              refine lv_goto (tgt := 275) hx hb dX11_next0_271 (by decide) ?_
              refine x_pi X hP hS (j := 20) (by decide) (dM_0) rfl rfl (by decide) in11 tyX11_ok nmX11 lk172 rfl rfl rfl rfl dX11_next0_275 (fun σ2070 eσ2070 H locs hP hS => ?_)
              have h := nm_some eσ2070 h
              refine lv_goto (tgt := 324) hx hb dX11_next0_278 (by decide) ?_
              subst hQQ
              exact x_rv X hr hlocks hP hS (Option.some.inj h) dX11_next0_324
      · have h := it_f c1028 h
        refine lv_aload_n hx hb dX11_next0_80 rfl (lv_at hl 3 rfl) ?_
        refine lv_lconst (v := 0) hx hb dX11_next0_81 (by decide) ?_
        refine x_pl X hP hS (j := 27) (by decide) (dM_0) rfl rfl (by decide) in11 tyX11_ok nmX11 lk178 rfl rfl dX11_next0_82 (fun σ2071 eσ2071 H locs hP hS => ?_)
        have h := nm_some eσ2071 h
        obtain ⟨t3115, o3117, h⟩ := bd_some h
        refine lq_rule (P := fun t2073 : Int32 × Int32 × St => ∀ (H : Heap) (locs : List Loc) (ls : Array Slot), va_P D vwCl (ww dM 41 cA ad t2073.2.2) H → va_S (inA 41 ad) s.heap H locs → lv_has ls 4 [(0, .ref (ad 0)), (2, .int t2073.1), (3, .int t2073.2.1)] → W p l e (headSpec wsX11_next0 rm_11_next0).room s m args below meth c H locs 0 0 QQ (F0 m 85 ls [])) (X := fun t3115 : Int32 × Int32 × St => ∀ (H : Heap) (locs : List Loc) (ls : Array Slot), va_P D vwCl (ww dM 41 cA ad t3115.2.2) H → va_S (inA 41 ad) s.heap H locs → lv_has ls 4 [(0, .ref (ad 0)), (2, .int t3115.1), (3, .int t3115.2.1)] → W p l e (headSpec wsX11_next0 rm_11_next0).room s m args below meth c H locs 0 0 QQ (F0 m 166 ls [])) ?_ n _ _ o3117 ?_ H locs ls hP hS (lv_sub hl [3, 1, 0] rfl)
        · clear h hP hS hl
          intro t2073 rL2072 h hCL2072 hEL2072 H locs ls hP hS hl
          unfold b_11_next0_85 at h
          refine lv_aload_n hx hb dX11_next0_85 rfl (lv_at hl 0 rfl) ?_
          refine lv_aload_n hx hb dX11_next0_86 rfl (lv_at hl 0 rfl) ?_
          refine x_gi X hP (j := 19) (by decide) (dM_0) rfl rfl (by decide) in11 lk162 dX11_next0_87 ?_
          obtain ⟨r2074, k2075, h⟩ := bd_some h
          refine x_Vi (rest := []) X hP hS (k_11_see l D cA ad hj n t2073.2.2 (t2073.2.2.1 0 19) k2075) (by decide) (dM_0) rfl 1 gX11_next0_X11_see rfl rfl rfl (by decide +kernel) ⟨Nat.le_of_ble_eq_true rfl, Nat.le_of_ble_eq_true rfl⟩ rfl hl.1 rfl (Nat.le_of_ble_eq_true rfl) dX11_next0_90 ⟨Nat.zero_le _, Nat.zero_le _⟩ (fun H locs hP hS => ?_)
          obtain ⟨r2076, k2077, h⟩ := bd_some h
          refine x_Si (rest := []) X hP hS (k_11_isLetter l D cA ad hj n r2074.2 r2074.1 k2077) 1 gX11_next0_X11_isLetter rfl rfl rfl (by decide +kernel) ⟨Nat.le_of_ble_eq_true rfl, Nat.le_of_ble_eq_true rfl⟩ rfl hl.1 rfl (Nat.le_of_ble_eq_true rfl) dX11_next0_93 ⟨Nat.zero_le _, Nat.zero_le _⟩ (fun H locs hP hS => ?_)
          refine lv_if_eq (tgt := 166) hx hb dX11_next0_96 (by decide) (fun c2078 => ?_) (fun c2078 => ?_)
          · have h := it_t c2078 h
            exact hEL2072 _ (Option.some.inj h).symm H locs ls hP hS (lv_sub hl [0, 1, 2] rfl)
          · have h := it_f c2078 h
            refine lv_iload_n hx hb dX11_next0_99 rfl (lv_at hl 2 rfl) ?_
            have hJ122 : ∀ (w2079 : Int32) (σ2080 : St), j_11_next0_122 n t2073.1 w2079 σ2080 = some rL2072 → ∀ (H : Heap) (locs : List Loc) (ls : Array Slot), va_P D vwCl (ww dM 41 cA ad σ2080) H → va_S (inA 41 ad) s.heap H locs → lv_has ls 4 [(0, .ref (ad 0)), (2, .int t2073.1)] → W p l e (headSpec wsX11_next0 rm_11_next0).room s m args below meth c H locs 0 0 QQ (F0 m 122 ls [.int w2079]) := by
              clear h hP hS hl
              intro w2079 σ2080 h H locs ls hP hS hl
              unfold j_11_next0_122 at h
              refine lv_istore_n (lv' := [(3, .int w2079), (0, .ref (ad 0)), (2, .int t2073.1)]) hx hb dX11_next0_122 rfl hl (by decide) rfl (fun ls hl => ?_)
              refine lv_iload_n hx hb dX11_next0_123 rfl (lv_at hl 2 rfl) ?_
              refine lv_bipush (v := 7) hx hb dX11_next0_124 (by decide) ?_
              have hJ150 : ∀ (σ2095 : St), j_11_next0_150 n t2073.1 w2079 σ2095 = some rL2072 → ∀ (H : Heap) (locs : List Loc) (ls : Array Slot), va_P D vwCl (ww dM 41 cA ad σ2095) H → va_S (inA 41 ad) s.heap H locs → lv_has ls 4 [(0, .ref (ad 0)), (2, .int t2073.1), (3, .int w2079)] → W p l e (headSpec wsX11_next0 rm_11_next0).room s m args below meth c H locs 0 0 QQ (F0 m 150 ls []) := by
                clear h hP hS hl
                intro  σ2095 h H locs ls hP hS hl
                unfold j_11_next0_150 at h
                obtain ⟨v2099, ev2099⟩ : ∃ y : Int32, y = t2073.1 + 1 := ⟨_, rfl⟩
                have h := nm_some ev2099 h
                refine lv_iinc (v := v2099) (lv' := [(2, .int v2099), (0, .ref (ad 0)), (3, .int w2079)]) hx hb dX11_next0_150 hl (k := 1) rfl (by rw [ev2099]; rfl) (by decide) rfl (fun ls hl => ?_)
                refine lv_aload_n hx hb dX11_next0_153 rfl (lv_at hl 1 rfl) ?_
                refine lv_dup hx hb dX11_next0_154 rfl ?_
                refine x_gi X hP (j := 19) (by decide) (dM_0) rfl rfl (by decide) in11 lk162 dX11_next0_155 ?_
                refine lv_iconst (v := 1) hx hb dX11_next0_158 (by decide) ?_
                refine lv_iadd hx hb dX11_next0_159 ?_
                refine lv_topi (fun v2100 ev2100 => ?_)
                have h := nm_some ev2100 h
                refine x_pi X hP hS (j := 19) (by decide) (dM_0) rfl rfl (by decide) in11 tyX11_ok nmX11 lk162 rfl rfl rfl rfl dX11_next0_160 (fun σ2101 eσ2101 H locs hP hS => ?_)
                have h := nm_some eσ2101 h
                refine lv_goto (tgt := 85) hx hb dX11_next0_163 (by decide) ?_
                exact hCL2072 _ (Option.some.inj h).symm H locs ls hP hS (lv_sub hl [1, 0, 2] rfl)
              refine lv_icmp_ge (tgt := 150) hx hb dX11_next0_126 (by decide) (fun c2102 => ?_) (fun c2102 => ?_)
              · have h := it_t c2102 h
                exact hJ150   σ2080 h H locs ls hP hS (lv_sub hl [1, 2, 0] rfl)
              · have h := it_f c2102 h
                refine lv_aload_n hx hb dX11_next0_129 rfl (lv_at hl 1 rfl) ?_
                refine lv_aload_n hx hb dX11_next0_130 rfl (lv_at hl 1 rfl) ?_
                refine x_gl X hP (j := 27) (by decide) (dM_0) rfl rfl (by decide) in11 lk178 dX11_next0_131 ?_
                refine lv_bipush (v := 8) hx hb dX11_next0_134 (by decide) ?_
                refine lv_lshl hx hb dX11_next0_136 rfl ?_
                refine lv_topl (fun v2103 ev2103 => ?_)
                have h := nm_some ev2103 h
                refine lv_aload_n hx hb dX11_next0_137 rfl (lv_at hl 1 rfl) ?_
                refine lv_aload_n hx hb dX11_next0_138 rfl (lv_at hl 1 rfl) ?_
                refine x_gi X hP (j := 19) (by decide) (dM_0) rfl rfl (by decide) in11 lk162 dX11_next0_139 ?_
                obtain ⟨r2104, k2105, h⟩ := bd_some h
                refine x_Vi (rest := [.long v2103, .ref (ad 0)]) X hP hS (k_11_see l D cA ad hj n σ2080 (σ2080.1 0 19) k2105) (by decide) (dM_0) rfl 1 gX11_next0_X11_see rfl rfl rfl (by decide +kernel) ⟨Nat.le_of_ble_eq_true rfl, Nat.le_of_ble_eq_true rfl⟩ rfl hl.1 rfl (Nat.le_of_ble_eq_true rfl) dX11_next0_142 ⟨Nat.zero_le _, Nat.zero_le _⟩ (fun H locs hP hS => ?_)
                refine lv_i2l hx hb dX11_next0_145 rfl ?_
                refine lv_topl (fun v2106 ev2106 => ?_)
                have h := nm_some ev2106 h
                refine lv_lor hx hb dX11_next0_146 ?_
                refine lv_topl (fun v2107 ev2107 => ?_)
                have h := nm_some ev2107 h
                refine x_pl X hP hS (j := 27) (by decide) (dM_0) rfl rfl (by decide) in11 tyX11_ok nmX11 lk178 rfl rfl dX11_next0_147 (fun σ2108 eσ2108 H locs hP hS => ?_)
                have h := nm_some eσ2108 h
                exact hJ150   σ2108 h H locs ls hP hS (lv_sub hl [1, 2, 0] rfl)
            refine lv_if_eq (tgt := 121) hx hb dX11_next0_100 (by decide) (fun c2109 => ?_) (fun c2109 => ?_)
            · have h := it_t c2109 h
              refine lv_iconst (v := 0) hx hb dX11_next0_121 (by decide) ?_
              exact hJ122  0 r2076.2 h H locs ls hP hS (lv_sub hl [0, 1] rfl)
            · have h := it_f c2109 h
              refine lv_aload_n hx hb dX11_next0_103 rfl (lv_at hl 0 rfl) ?_
              refine lv_aload_n hx hb dX11_next0_104 rfl (lv_at hl 0 rfl) ?_
              refine x_gi X hP (j := 19) (by decide) (dM_0) rfl rfl (by decide) in11 lk162 dX11_next0_105 ?_
              obtain ⟨r2110, k2111, h⟩ := bd_some h
              refine x_Vi (rest := []) X hP hS (k_11_see l D cA ad hj n r2076.2 (r2076.2.1 0 19) k2111) (by decide) (dM_0) rfl 1 gX11_next0_X11_see rfl rfl rfl (by decide +kernel) ⟨Nat.le_of_ble_eq_true rfl, Nat.le_of_ble_eq_true rfl⟩ rfl hl.1 rfl (Nat.le_of_ble_eq_true rfl) dX11_next0_108 ⟨Nat.zero_le _, Nat.zero_le _⟩ (fun H locs hP hS => ?_)
              obtain ⟨r2112, k2113, h⟩ := bd_some h
              refine x_Si (rest := []) X hP hS (k_11_isSmall l D cA ad hj n r2110.2 r2110.1 k2113) 1 gX11_next0_X11_isSmall rfl rfl rfl (by decide +kernel) ⟨Nat.le_of_ble_eq_true rfl, Nat.le_of_ble_eq_true rfl⟩ rfl hl.1 rfl (Nat.le_of_ble_eq_true rfl) dX11_next0_111 ⟨Nat.zero_le _, Nat.zero_le _⟩ (fun H locs hP hS => ?_)
              refine lv_if_eq (tgt := 121) hx hb dX11_next0_114 (by decide) (fun c2114 => ?_) (fun c2114 => ?_)
              · have h := it_t c2114 h
                refine lv_iconst (v := 0) hx hb dX11_next0_121 (by decide) ?_
                exact hJ122  0 r2112.2 h H locs ls hP hS (lv_sub hl [0, 1] rfl)
              · have h := it_f c2114 h
                refine lv_iconst (v := 1) hx hb dX11_next0_117 (by decide) ?_
                refine lv_goto (tgt := 122) hx hb dX11_next0_118 (by decide) ?_
                exact hJ122  1 r2112.2 h H locs ls hP hS (lv_sub hl [0, 1] rfl)
        · intro H locs ls hP hS hl
          refine lv_aload_n hx hb dX11_next0_166 rfl (lv_at hl 0 rfl) ?_
          refine lv_iload_n hx hb dX11_next0_167 rfl (lv_at hl 1 rfl) ?_
          refine lv_bipush (v := 7) hx hb dX11_next0_168 (by decide) ?_
          refine lv_icmp_ge (tgt := 187) hx hb dX11_next0_170 (by decide) (fun c3118 => ?_) (fun c3118 => ?_)
          · have h := it_t c3118 h
            refine lv_iconst (v := 1) hx hb dX11_next0_187 (by decide) ?_
            refine x_pi X hP hS (j := 20) (by decide) (dM_0) rfl rfl (by decide) in11 tyX11_ok nmX11 lk172 rfl rfl rfl rfl dX11_next0_188 (fun σ3119 eσ3119 H locs hP hS => ?_)
            have h := nm_some eσ3119 h
            refine lv_goto (tgt := 324) hx hb dX11_next0_191 (by decide) ?_
            subst hQQ
            exact x_rv X hr hlocks hP hS (Option.some.inj h) dX11_next0_324
          · have h := it_f c3118 h
            refine lv_iload_n hx hb dX11_next0_173 rfl (lv_at hl 2 rfl) ?_
            refine lv_if_eq (tgt := 187) hx hb dX11_next0_174 (by decide) (fun c3120 => ?_) (fun c3120 => ?_)
            · have h := it_t c3120 h
              refine lv_iconst (v := 1) hx hb dX11_next0_187 (by decide) ?_
              refine x_pi X hP hS (j := 20) (by decide) (dM_0) rfl rfl (by decide) in11 tyX11_ok nmX11 lk172 rfl rfl rfl rfl dX11_next0_188 (fun σ3121 eσ3121 H locs hP hS => ?_)
              have h := nm_some eσ3121 h
              refine lv_goto (tgt := 324) hx hb dX11_next0_191 (by decide) ?_
              subst hQQ
              exact x_rv X hr hlocks hP hS (Option.some.inj h) dX11_next0_324
            · have h := it_f c3120 h
              refine lv_aload_n hx hb dX11_next0_177 rfl (lv_at hl 0 rfl) ?_
              refine x_gl X hP (j := 27) (by decide) (dM_0) rfl rfl (by decide) in11 lk178 dX11_next0_178 ?_
              obtain ⟨r3122, k3123, h⟩ := bd_some h
              refine x_Si (rest := [.ref (ad 0)]) X hP hS (k_11_wordOf l D cA ad hj n t3115.2.2 (t3115.2.2.2 0 27) k3123) 1 gX11_next0_X11_wordOf rfl rfl rfl (by decide +kernel) ⟨Nat.le_of_ble_eq_true rfl, Nat.le_of_ble_eq_true rfl⟩ rfl hl.1 rfl (Nat.le_of_ble_eq_true rfl) dX11_next0_181 ⟨Nat.zero_le _, Nat.zero_le _⟩ (fun H locs hP hS => ?_)
              refine lv_goto (tgt := 188) hx hb dX11_next0_184 (by decide) ?_
              refine x_pi X hP hS (j := 20) (by decide) (dM_0) rfl rfl (by decide) in11 tyX11_ok nmX11 lk172 rfl rfl rfl rfl dX11_next0_188 (fun σ3124 eσ3124 H locs hP hS => ?_)
              have h := nm_some eσ3124 h
              refine lv_goto (tgt := 324) hx hb dX11_next0_191 (by decide) ?_
              subst hQQ
              exact x_rv X hr hlocks hP hS (Option.some.inj h) dX11_next0_324
    · have h := it_t c1025 h
      refine lv_aload_n hx hb dX11_next0_65 rfl (lv_at hl 3 rfl) ?_
      refine lv_iconst (v := 0) hx hb dX11_next0_66 (by decide) ?_
      refine x_pi X hP hS (j := 20) (by decide) (dM_0) rfl rfl (by decide) in11 tyX11_ok nmX11 lk172 rfl rfl rfl rfl dX11_next0_67 (fun σ3125 eσ3125 H locs hP hS => ?_)
      have h := nm_some eσ3125 h
      refine lv_goto (tgt := 324) hx hb dX11_next0_70 (by decide) ?_
      subst hQQ
      exact x_rv X hr hlocks hP hS (Option.some.inj h) dX11_next0_324
