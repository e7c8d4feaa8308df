def f_11_bad (n : Nat) (σ : St) (a1 : Int32) : Option (Int32 × St) :=
  nm (si σ 0 23 a1) fun σ1 =>
  nm (si σ1 0 24 (σ1.1 0 21)) fun σ2 =>
  some (0, σ2)
abbrev rm_11_bad : Room := { frames := 0, cells := 0, slots := 0, locals := 0 }
set_option maxRecDepth 100000 in
set_option maxHeartbeats 4000000 in
theorem k_11_bad (l : Launch) (D : va_G) (cA : Nat → ClassId) (ad : Nat → Nat) (hj : inj 41 ad) (n : Nat) (σ : St) (a1 : Int32)  {res : Int32 × St} (h : f_11_bad n σ a1 = some res) : MXi l D dM 41 cA ad ET yX11_bad wsX11_bad rm_11_bad [.ref (ad 0), .int a1] σ res := by
  refine Met.ofW (cc := cX11_bad) (maxL := 2) (ret := (some .boolean)) (by decide) rfl ?_
  intro p e s m args below meth c s₁ B hml hv
  obtain ⟨hargs, hP, hK, hE⟩ := hv
  have hx := B.exec
  have hb := B.bytes
  have hr := B.returns
  have hts := atoms_spec (ws := wsX11_bad) B.pre
  have hown : s.vm.findClass RX11 = some m.cls := findClass_of_methodNamed B.named
  have hlocks := B.notSynchronized
  have X : Cx p s m args c cX11_bad 2 RX11 wsX11_bad D dM 41 cA ad ET := ⟨hx, hb, hml, hown, hts, hK, hj, hE, ET_ok⟩
  have hS : va_S (inA 41 ad) s.heap s.heap [] := va_S.rf
  have hl := lv_entry ([.ref (ad 0), .int a1]) (n := 2) (Nat.le_of_ble_eq_true rfl)
  rw [show entryFrame m args 2 = entryFrame m ([.ref (ad 0), .int a1] : List Value).toArray 2 by rw [hargs]]
  rw [lg_entry_eq]
  generalize (lg_sl ([.ref (ad 0), .int a1]) ++ List.replicate (2 - (lg_sl ([.ref (ad 0), .int a1])).length) Slot.unset).toArray = ls at hl ⊢
  have hl : lv_has ls 2 [(0, .ref (ad 0)), (1, .int a1)] := hl
  obtain ⟨QQ, hQQ⟩ : ∃ Q, Q = MQ below (va_Qi (fun r u => r = res.1 ∧ u = res.2) (fun u t => va_P D vwCl (ww dM 41 cA ad u) t.heap) (inA 41 ad)) args s 0 0 (inA 41 ad) := ⟨_, rfl⟩
  show W p l e (headSpec wsX11_bad rm_11_bad).room s m args below meth c s.heap [] 0 0 (MQ below (va_Qi (fun r u => r = res.1 ∧ u = res.2) (fun u t => va_P D vwCl (ww dM 41 cA ad u) t.heap) (inA 41 ad)) args s 0 0 (inA 41 ad)) _
  rw [← hQQ]
  have in11 : ∀ w ∈ wsX110, w ∈ wsX11_bad := by decide +kernel
  have lk192 : Cond.fieldLink RX11 192 "CureTownModel" "wrong" "I" ∈ wsX11_bad := by decide +kernel
  have lk169 : Cond.fieldLink RX11 169 "CureTownModel" "tokenAt" "I" ∈ wsX11_bad := by decide +kernel
  have lk195 : Cond.fieldLink RX11 195 "CureTownModel" "wrongAt" "I" ∈ wsX11_bad := by decide +kernel
  unfold f_11_bad at h
  obtain ⟨H, hH⟩ : ∃ H, H = s.heap := ⟨_, rfl⟩
  obtain ⟨locs, hlc⟩ : ∃ q : List Loc, q = [] := ⟨_, rfl⟩
  have hP : va_P D vwCl (ww dM 41 cA ad σ) s.heap := hP
  have hS : va_S (inA 41 ad) s.heap s.heap [] := hS
  rw [← hlc] at hS ⊢
  rw [show W p l e (headSpec wsX11_bad rm_11_bad).room s m args below meth c s.heap locs 0 0 QQ = W p l e (headSpec wsX11_bad rm_11_bad).room s m args below meth c H locs 0 0 QQ by rw [hH]]
  have hS : va_S (inA 41 ad) s.heap H locs := by rw [hH]; exact hS
  have hP : va_P D vwCl (ww dM 41 cA ad σ) H := by rw [hH]; exact hP
  clear hH hlc
  refine lv_aload_n hx hb dX11_bad_0 rfl (lv_at hl 0 rfl) ?_
  refine lv_iload_n hx hb dX11_bad_1 rfl (lv_at hl 1 rfl) ?_
  refine x_pi X hP hS (j := 23) (by decide) (dM_0) rfl rfl (by decide) in11 tyX11_ok nmX11 lk192 rfl rfl rfl rfl dX11_bad_2 (fun σ1 eσ1 H locs hP hS => ?_)
  have h := nm_some eσ1 h
  refine lv_aload_n hx hb dX11_bad_5 rfl (lv_at hl 0 rfl) ?_
  refine lv_aload_n hx hb dX11_bad_6 rfl (lv_at hl 0 rfl) ?_
  refine x_gi X hP (j := 21) (by decide) (dM_0) rfl rfl (by decide) in11 lk169 dX11_bad_7 ?_
  refine x_pi X hP hS (j := 24) (by decide) (dM_0) rfl rfl (by decide) in11 tyX11_ok nmX11 lk195 rfl rfl rfl rfl dX11_bad_10 (fun σ2 eσ2 H locs hP hS => ?_)
  have h := nm_some eσ2 h
  refine lv_iconst (v := 0) hx hb dX11_bad_13 (by decide) ?_
  subst hQQ
  exact x_rz X hr hlocks hP hS (by decide +kernel) (Option.some.inj h) dX11_bad_14
def f_11_need (n : Nat) (σ : St) (a1 : Int32) : Option (Int32 × St) :=
  if (σ.1 0 20) = a1 then
    (f_11_next0 n σ ).bind fun r2 =>
    some (1, r2)
  else
    (f_11_bad n σ 1).bind fun r4 =>
    gd (isb r4.1) <| some (r4.1, r4.2)
abbrev rm_11_need : Room := { frames := 4, cells := 0, slots := 0, locals := 85 }
set_option maxRecDepth 100000 in
set_option maxHeartbeats 4000000 in
theorem k_11_need (l : Launch) (D : va_G) (cA : Nat → ClassId) (ad : Nat → Nat) (hj : inj 41 ad) (n : Nat) (σ : St) (a1 : Int32)  {res : Int32 × St} (h : f_11_need n σ a1 = some res) : MXi l D dM 41 cA ad ET yX11_need wsX11_need rm_11_need [.ref (ad 0), .int a1] σ res := by
  refine Met.ofW (cc := cX11_need) (maxL := 2) (ret := (some .boolean)) (by decide) rfl ?_
  intro p e s m args below meth c s₁ B hml hv
  obtain ⟨hargs, hP, hK, hE⟩ := hv
  have hx := B.exec
  have hb := B.bytes
  have hr := B.returns
  have hts := atoms_spec (ws := wsX11_need) B.pre
  have hown : s.vm.findClass RX11 = some m.cls := findClass_of_methodNamed B.named
  have hlocks := B.notSynchronized
  have X : Cx p s m args c cX11_need 2 RX11 wsX11_need D dM 41 cA ad ET := ⟨hx, hb, hml, hown, hts, hK, hj, hE, ET_ok⟩
  have hS : va_S (inA 41 ad) s.heap s.heap [] := va_S.rf
  have hl := lv_entry ([.ref (ad 0), .int a1]) (n := 2) (Nat.le_of_ble_eq_true rfl)
  rw [show entryFrame m args 2 = entryFrame m ([.ref (ad 0), .int a1] : List Value).toArray 2 by rw [hargs]]
  rw [lg_entry_eq]
  generalize (lg_sl ([.ref (ad 0), .int a1]) ++ List.replicate (2 - (lg_sl ([.ref (ad 0), .int a1])).length) Slot.unset).toArray = ls at hl ⊢
  have hl : lv_has ls 2 [(0, .ref (ad 0)), (1, .int a1)] := hl
  obtain ⟨QQ, hQQ⟩ : ∃ Q, Q = MQ below (va_Qi (fun r u => r = res.1 ∧ u = res.2) (fun u t => va_P D vwCl (ww dM 41 cA ad u) t.heap) (inA 41 ad)) args s 0 0 (inA 41 ad) := ⟨_, rfl⟩
  show W p l e (headSpec wsX11_need rm_11_need).room s m args below meth c s.heap [] 0 0 (MQ below (va_Qi (fun r u => r = res.1 ∧ u = res.2) (fun u t => va_P D vwCl (ww dM 41 cA ad u) t.heap) (inA 41 ad)) args s 0 0 (inA 41 ad)) _
  rw [← hQQ]
  have in11 : ∀ w ∈ wsX110, w ∈ wsX11_need := by decide +kernel
  have lk172 : Cond.fieldLink RX11 172 "CureTownModel" "token" "I" ∈ wsX11_need := by decide +kernel
  unfold f_11_need at h
  obtain ⟨H, hH⟩ : ∃ H, H = s.heap := ⟨_, rfl⟩
  obtain ⟨locs, hlc⟩ : ∃ q : List Loc, q = [] := ⟨_, rfl⟩
  have hP : va_P D vwCl (ww dM 41 cA ad σ) s.heap := hP
  have hS : va_S (inA 41 ad) s.heap s.heap [] := hS
  rw [← hlc] at hS ⊢
  rw [show W p l e (headSpec wsX11_need rm_11_need).room s m args below meth c s.heap locs 0 0 QQ = W p l e (headSpec wsX11_need rm_11_need).room s m args below meth c H locs 0 0 QQ by rw [hH]]
  have hS : va_S (inA 41 ad) s.heap H locs := by rw [hH]; exact hS
  have hP : va_P D vwCl (ww dM 41 cA ad σ) H := by rw [hH]; exact hP
  clear hH hlc
  refine lv_aload_n hx hb dX11_need_0 rfl (lv_at hl 0 rfl) ?_
  refine x_gi X hP (j := 20) (by decide) (dM_0) rfl rfl (by decide) in11 lk172 dX11_need_1 ?_
  refine lv_iload_n hx hb dX11_need_4 rfl (lv_at hl 1 rfl) ?_
  refine lv_icmp_eq (tgt := 14) hx hb dX11_need_5 (by decide) (fun c1 => ?_) (fun c1 => ?_)
  · have h := it_t c1 h
    refine lv_aload_n hx hb dX11_need_14 rfl (lv_at hl 0 rfl) ?_
    obtain ⟨r2, k3, h⟩ := bd_some h
    refine x_Vv (rest := []) X hP hS (k_11_next0 l D cA ad hj n σ  k3) (by decide) (dM_0) rfl 0 gX11_need_X11_next0 rfl rfl rfl (by decide +kernel) ⟨Nat.le_of_ble_eq_true rfl, Nat.le_of_ble_eq_true rfl⟩ rfl hl.1 rfl (Nat.le_of_ble_eq_true rfl) dX11_need_15 ⟨Nat.zero_le _, Nat.zero_le _⟩ (fun H locs hP hS => ?_)
    refine lv_iconst (v := 1) hx hb dX11_need_18 (by decide) ?_
    subst hQQ
    exact x_rz X hr hlocks hP hS (by decide +kernel) (Option.some.inj h) dX11_need_19
  · have h := it_f c1 h
    refine lv_aload_n hx hb dX11_need_8 rfl (lv_at hl 0 rfl) ?_
    refine lv_iconst (v := 1) hx hb dX11_need_9 (by decide) ?_
    obtain ⟨r4, k5, h⟩ := bd_some h
    refine x_Vi (rest := []) X hP hS (k_11_bad l D cA ad hj n σ 1 k5) (by decide) (dM_0) rfl 1 gX11_need_X11_bad rfl rfl rfl (by decide +kernel) ⟨Nat.le_of_ble_eq_true rfl, Nat.le_of_ble_eq_true rfl⟩ rfl hl.1 rfl (Nat.le_of_ble_eq_true rfl) dX11_need_10 ⟨Nat.zero_le _, Nat.zero_le _⟩ (fun H locs hP hS => ?_)
    obtain ⟨g6, h⟩ := gd_some h
    subst hQQ
    exact x_rz X hr hlocks hP hS (isb_nar g6) (Option.some.inj h) dX11_need_13
def f_11_number (n : Nat) (σ : St) (a1 : Int32) (a2 : Int32) : Option (Int32 × St) :=
  if (σ.1 0 20) = 3 then
    (f_11_isIn n σ (σ.1 0 22) a1 a2).bind fun r2 =>
    if ¬ r2.1 = 0 then
      nm (si r2.2 0 28 (r2.2.1 0 22)) fun σ5 =>
      (f_11_next0 n σ5 ).bind fun r6 =>
      some (1, r6)
    else
      (f_11_bad n r2.2 3).bind fun r8 =>
      gd (isb r8.1) <| some (r8.1, r8.2)
  else
    (f_11_bad n σ 1).bind fun r11 =>
    gd (isb r11.1) <| some (r11.1, r11.2)
abbrev rm_11_number : Room := { frames := 4, cells := 0, slots := 0, locals := 85 }
set_option maxRecDepth 100000 in
set_option maxHeartbeats 4000000 in
theorem k_11_number (l : Launch) (D : va_G) (cA : Nat → ClassId) (ad : Nat → Nat) (hj : inj 41 ad) (n : Nat) (σ : St) (a1 : Int32) (a2 : Int32)  {res : Int32 × St} (h : f_11_number n σ a1 a2 = some res) : MXi l D dM 41 cA ad ET yX11_number wsX11_number rm_11_number [.ref (ad 0), .int a1, .int a2] σ res := by
  refine Met.ofW (cc := cX11_number) (maxL := 3) (ret := (some .boolean)) (by decide) rfl ?_
  intro p e s m args below meth c s₁ B hml hv
  obtain ⟨hargs, hP, hK, hE⟩ := hv
  have hx := B.exec
  have hb := B.bytes
  have hr := B.returns
  have hts := atoms_spec (ws := wsX11_number) B.pre
  have hown : s.vm.findClass RX11 = some m.cls := findClass_of_methodNamed B.named
  have hlocks := B.notSynchronized
  have X : Cx p s m args c cX11_number 3 RX11 wsX11_number D dM 41 cA ad ET := ⟨hx, hb, hml, hown, hts, hK, hj, hE, ET_ok⟩
  have hS : va_S (inA 41 ad) s.heap s.heap [] := va_S.rf
  have hl := lv_entry ([.ref (ad 0), .int a1, .int a2]) (n := 3) (Nat.le_of_ble_eq_true rfl)
  rw [show entryFrame m args 3 = entryFrame m ([.ref (ad 0), .int a1, .int a2] : List Value).toArray 3 by rw [hargs]]
  rw [lg_entry_eq]
  generalize (lg_sl ([.ref (ad 0), .int a1, .int a2]) ++ List.replicate (3 - (lg_sl ([.ref (ad 0), .int a1, .int a2])).length) Slot.unset).toArray = ls at hl ⊢
  have hl : lv_has ls 3 [(0, .ref (ad 0)), (1, .int a1), (2, .int a2)] := hl
  obtain ⟨QQ, hQQ⟩ : ∃ Q, Q = MQ below (va_Qi (fun r u => r = res.1 ∧ u = res.2) (fun u t => va_P D vwCl (ww dM 41 cA ad u) t.heap) (inA 41 ad)) args s 0 0 (inA 41 ad) := ⟨_, rfl⟩
  show W p l e (headSpec wsX11_number rm_11_number).room s m args below meth c s.heap [] 0 0 (MQ below (va_Qi (fun r u => r = res.1 ∧ u = res.2) (fun u t => va_P D vwCl (ww dM 41 cA ad u) t.heap) (inA 41 ad)) args s 0 0 (inA 41 ad)) _
  rw [← hQQ]
  have in11 : ∀ w ∈ wsX110, w ∈ wsX11_number := by decide +kernel
  have lk172 : Cond.fieldLink RX11 172 "CureTownModel" "token" "I" ∈ wsX11_number := by decide +kernel
  have lk189 : Cond.fieldLink RX11 189 "CureTownModel" "value" "I" ∈ wsX11_number := by decide +kernel
  have lk204 : Cond.fieldLink RX11 204 "CureTownModel" "got" "I" ∈ wsX11_number := by decide +kernel
  unfold f_11_number at h
  obtain ⟨H, hH⟩ : ∃ H, H = s.heap := ⟨_, rfl⟩
  obtain ⟨locs, hlc⟩ : ∃ q : List Loc, q = [] := ⟨_, rfl⟩
  have hP : va_P D vwCl (ww dM 41 cA ad σ) s.heap := hP
  have hS : va_S (inA 41 ad) s.heap s.heap [] := hS
  rw [← hlc] at hS ⊢
  rw [show W p l e (headSpec wsX11_number rm_11_number).room s m args below meth c s.heap locs 0 0 QQ = W p l e (headSpec wsX11_number rm_11_number).room s m args below meth c H locs 0 0 QQ by rw [hH]]
  have hS : va_S (inA 41 ad) s.heap H locs := by rw [hH]; exact hS
  have hP : va_P D vwCl (ww dM 41 cA ad σ) H := by rw [hH]; exact hP
  clear hH hlc
  refine lv_aload_n hx hb dX11_number_0 rfl (lv_at hl 0 rfl) ?_
  refine x_gi X hP (j := 20) (by decide) (dM_0) rfl rfl (by decide) in11 lk172 dX11_number_1 ?_
  refine lv_iconst (v := 3) hx hb dX11_number_4 (by decide) ?_
  refine lv_icmp_eq (tgt := 14) hx hb dX11_number_5 (by decide) (fun c1 => ?_) (fun c1 => ?_)
  · have h := it_t c1 h
    refine lv_aload_n hx hb dX11_number_14 rfl (lv_at hl 0 rfl) ?_
    refine x_gi X hP (j := 22) (by decide) (dM_0) rfl rfl (by decide) in11 lk189 dX11_number_15 ?_
    refine lv_iload_n hx hb dX11_number_18 rfl (lv_at hl 1 rfl) ?_
    refine lv_iload_n hx hb dX11_number_19 rfl (lv_at hl 2 rfl) ?_
    obtain ⟨r2, k3, h⟩ := bd_some h
    refine x_Si (rest := []) X hP hS (k_11_isIn l D cA ad hj n σ (σ.1 0 22) a1 a2 k3) 3 gX11_number_X11_isIn rfl rfl rfl (by decide +kernel) ⟨Nat.le_of_ble_eq_true rfl, Nat.le_of_ble_eq_true rfl⟩ rfl hl.1 rfl (Nat.le_of_ble_eq_true rfl) dX11_number_20 ⟨Nat.zero_le _, Nat.zero_le _⟩ (fun H locs hP hS => ?_)
    refine lv_if_ne (tgt := 32) hx hb dX11_number_23 (by decide) (fun c4 => ?_) (fun c4 => ?_)
    · have h := it_t c4 h
      refine lv_aload_n hx hb dX11_number_32 rfl (lv_at hl 0 rfl) ?_
      refine lv_aload_n hx hb dX11_number_33 rfl (lv_at hl 0 rfl) ?_
      refine x_gi X hP (j := 22) (by decide) (dM_0) rfl rfl (by decide) in11 lk189 dX11_number_34 ?_
      refine x_pi X hP hS (j := 28) (by decide) (dM_0) rfl rfl (by decide) in11 tyX11_ok nmX11 lk204 rfl rfl rfl rfl dX11_number_37 (fun σ5 eσ5 H locs hP hS => ?_)
      have h := nm_some eσ5 h
      refine lv_aload_n hx hb dX11_number_40 rfl (lv_at hl 0 rfl) ?_
      obtain ⟨r6, k7, h⟩ := bd_some h
      refine x_Vv (rest := []) X hP hS (k_11_next0 l D cA ad hj n σ5  k7) (by decide) (dM_0) rfl 0 gX11_number_X11_next0 rfl rfl rfl (by decide +kernel) ⟨Nat.le_of_ble_eq_true rfl, Nat.le_of_ble_eq_true rfl⟩ rfl hl.1 rfl (Nat.le_of_ble_eq_true rfl) dX11_number_41 ⟨Nat.zero_le _, Nat.zero_le _⟩ (fun H locs hP hS => ?_)
      refine lv_iconst (v := 1) hx hb dX11_number_44 (by decide) ?_
      subst hQQ
      exact x_rz X hr hlocks hP hS (by decide +kernel) (Option.some.inj h) dX11_number_45
    · have h := it_f c4 h
      refine lv_aload_n hx hb dX11_number_26 rfl (lv_at hl 0 rfl) ?_
      refine lv_iconst (v := 3) hx hb dX11_number_27 (by decide) ?_
      obtain ⟨r8, k9, h⟩ := bd_some h
      refine x_Vi (rest := []) X hP hS (k_11_bad l D cA ad hj n r2.2 3 k9) (by decide) (dM_0) rfl 1 gX11_number_X11_bad rfl rfl rfl (by decide +kernel) ⟨Nat.le_of_ble_eq_true rfl, Nat.le_of_ble_eq_true rfl⟩ rfl hl.1 rfl (Nat.le_of_ble_eq_true rfl) dX11_number_28 ⟨Nat.zero_le _, Nat.zero_le _⟩ (fun H locs hP hS => ?_)
      obtain ⟨g10, h⟩ := gd_some h
      subst hQQ
      exact x_rz X hr hlocks hP hS (isb_nar g10) (Option.some.inj h) dX11_number_31
  · have h := it_f c1 h
    refine lv_aload_n hx hb dX11_number_8 rfl (lv_at hl 0 rfl) ?_
    refine lv_iconst (v := 1) hx hb dX11_number_9 (by decide) ?_
    obtain ⟨r11, k12, h⟩ := bd_some h
    refine x_Vi (rest := []) X hP hS (k_11_bad l D cA ad hj n σ 1 k12) (by decide) (dM_0) rfl 1 gX11_number_X11_bad rfl rfl rfl (by decide +kernel) ⟨Nat.le_of_ble_eq_true rfl, Nat.le_of_ble_eq_true rfl⟩ rfl hl.1 rfl (Nat.le_of_ble_eq_true rfl) dX11_number_10 ⟨Nat.zero_le _, Nat.zero_le _⟩ (fun H locs hP hS => ?_)
    obtain ⟨g13, h⟩ := gd_some h
    subst hQQ
    exact x_rz X hr hlocks hP hS (isb_nar g13) (Option.some.inj h) dX11_number_13
def b_11_isThere_4 (n : Nat)  (t2 : Int32 × Int32 × St) : Option ((Int32 × Int32 × St) ⊕ (Int32 × Int32 × St)) :=
  if (t2.2.2.1 0 2) ≤ t2.2.1 then
    some (.inr (t2.1, t2.2.1, t2.2.2))
  else
    if ¬ t2.1 = 0 then
      nm (t2.2.1 + 1) fun v5 =>
      some (.inl (1, v5, t2.2.2))
    else
      gd (inb t2.2.1 8) <| nm (lg_cmp (t2.2.2.2 8 t2.2.1.toNatClampNeg) (t2.2.2.2 0 27)) fun v7 =>
      if ¬ v7 = 0 then
        nm (t2.2.1 + 1) fun v9 =>
        some (.inl (0, v9, t2.2.2))
      else
        nm (t2.2.1 + 1) fun v10 =>
        some (.inl (1, v10, t2.2.2))
def b_11_isThere_44 (n : Nat)  (t1015 : Int32 × Int32 × St) : Option ((Int32 × Int32 × St) ⊕ (Int32 × Int32 × St)) :=
  if (t1015.2.2.1 0 16) ≤ t1015.2.1 then
    some (.inr (t1015.1, t1015.2.1, t1015.2.2))
  else
    if ¬ t1015.1 = 0 then
      nm (t1015.2.1 + 1) fun v1018 =>
      some (.inl (1, v1018, t1015.2.2))
    else
      gd (inb t1015.2.1 8) <| nm (lg_cmp (t1015.2.2.2 9 t1015.2.1.toNatClampNeg) (t1015.2.2.2 0 27)) fun v1020 =>
      if ¬ v1020 = 0 then
        nm (t1015.2.1 + 1) fun v1022 =>
        some (.inl (0, v1022, t1015.2.2))
      else
        nm (t1015.2.1 + 1) fun v1023 =>
        some (.inl (1, v1023, t1015.2.2))
def f_11_isThere (n : Nat) (σ : St)  : Option (Int32 × St) :=
  (lq (b_11_isThere_4 n ) n (0, 0, σ)).bind fun t1011 =>
  (lq (b_11_isThere_44 n ) n (t1011.1, 0, t1011.2.2)).bind fun t2024 =>
  gd (isb t2024.1) <| some (t2024.1, t2024.2.2)
abbrev rm_11_isThere : Room := { frames := 0, cells := 0, slots := 0, locals := 0 }
set_option maxRecDepth 100000 in
set_option maxHeartbeats 4000000 in
theorem k_11_isThere (l : Launch) (D : va_G) (cA : Nat → ClassId) (ad : Nat → Nat) (hj : inj 41 ad) (n : Nat) (σ : St)   {res : Int32 × St} (h : f_11_isThere n σ  = some res) : MXi l D dM 41 cA ad ET yX11_isThere wsX11_isThere rm_11_isThere [.ref (ad 0)] σ res := by
  refine Met.ofW (cc := cX11_isThere) (maxL := 3) (ret := (some .boolean)) (by decide) rfl ?_
  intro p e s m args below meth c s₁ B hml hv
  obtain ⟨hargs, hP, hK, hE⟩ := hv
  have hx := B.exec
  have hb := B.bytes
  have hr := B.returns
  have hts := atoms_spec (ws := wsX11_isThere) B.pre
  have hown : s.vm.findClass RX11 = some m.cls := findClass_of_methodNamed B.named
  have hlocks := B.notSynchronized
  have X : Cx p s m args c cX11_isThere 3 RX11 wsX11_isThere D dM 41 cA ad ET := ⟨hx, hb, hml, hown, hts, hK, hj, hE, ET_ok⟩
  have hS : va_S (inA 41 ad) s.heap s.heap [] := va_S.rf
  have hl := lv_entry ([.ref (ad 0)]) (n := 3) (Nat.le_of_ble_eq_true rfl)
  rw [show entryFrame m args 3 = entryFrame m ([.ref (ad 0)] : List Value).toArray 3 by rw [hargs]]
  rw [lg_entry_eq]
  generalize (lg_sl ([.ref (ad 0)]) ++ List.replicate (3 - (lg_sl ([.ref (ad 0)])).length) Slot.unset).toArray = ls at hl ⊢
  have hl : lv_has ls 3 [(0, .ref (ad 0))] := hl
  obtain ⟨QQ, hQQ⟩ : ∃ Q, Q = MQ below (va_Qi (fun r u => r = res.1 ∧ u = res.2) (fun u t => va_P D vwCl (ww dM 41 cA ad u) t.heap) (inA 41 ad)) args s 0 0 (inA 41 ad) := ⟨_, rfl⟩
  show W p l e (headSpec wsX11_isThere rm_11_isThere).room s m args below meth c s.heap [] 0 0 (MQ below (va_Qi (fun r u => r = res.1 ∧ u = res.2) (fun u t => va_P D vwCl (ww dM 41 cA ad u) t.heap) (inA 41 ad)) args s 0 0 (inA 41 ad)) _
  rw [← hQQ]
  have in11 : ∀ w ∈ wsX110, w ∈ wsX11_isThere := by decide +kernel
  have lk207 : Cond.fieldLink RX11 207 "CureTownModel" "regimens" "I" ∈ wsX11_isThere := by decide +kernel
  have lk32 : Cond.fieldLink RX11 32 "CureTownModel" "name" "[J" ∈ wsX11_isThere := by decide +kernel
  have lk178 : Cond.fieldLink RX11 178 "CureTownModel" "word" "J" ∈ wsX11_isThere := by decide +kernel
  have lk210 : Cond.fieldLink RX11 210 "CureTownModel" "freshRegimens" "I" ∈ wsX11_isThere := by decide +kernel
  have lk36 : Cond.fieldLink RX11 36 "CureTownModel" "freshName" "[J" ∈ wsX11_isThere := by decide +kernel
  unfold f_11_isThere at h
  obtain ⟨H, hH⟩ : ∃ H, H = s.heap := ⟨_, rfl⟩
  obtain ⟨locs, hlc⟩ : ∃ q : List Loc, q = [] := ⟨_, rfl⟩
  have hP : va_P D vwCl (ww dM 41 cA ad σ) s.heap := hP
  have hS : va_S (inA 41 ad) s.heap s.heap [] := hS
  rw [← hlc] at hS ⊢
  rw [show W p l e (headSpec wsX11_isThere rm_11_isThere).room s m args below meth c s.heap locs 0 0 QQ = W p l e (headSpec wsX11_isThere rm_11_isThere).room s m args below meth c H locs 0 0 QQ by rw [hH]]
  have hS : va_S (inA 41 ad) s.heap H locs := by rw [hH]; exact hS
  have hP : va_P D vwCl (ww dM 41 cA ad σ) H := by rw [hH]; exact hP
  clear hH hlc
  refine lv_iconst (v := 0) hx hb dX11_isThere_0 (by decide) ?_
  refine lv_istore_n (lv' := [(1, .int 0), (0, .ref (ad 0))]) hx hb dX11_isThere_1 rfl hl (by decide) rfl (fun ls hl => ?_)
  refine lv_iconst (v := 0) hx hb dX11_isThere_2 (by decide) ?_
  refine lv_istore_n (lv' := [(2, .int 0), (1, .int 0), (0, .ref (ad 0))]) hx hb dX11_isThere_3 rfl hl (by decide) rfl (fun ls hl => ?_)
  obtain ⟨t1011, o1013, h⟩ := bd_some h
  refine lq_rule (P := fun t2 : Int32 × Int32 × St => ∀ (H : Heap) (locs : List Loc) (ls : Array Slot), va_P D vwCl (ww dM 41 cA ad t2.2.2) H → va_S (inA 41 ad) s.heap H locs → lv_has ls 3 [(0, .ref (ad 0)), (1, .int t2.1), (2, .int t2.2.1)] → W p l e (headSpec wsX11_isThere rm_11_isThere).room s m args below meth c H locs 0 0 QQ (F0 m 4 ls [])) (X := fun t1011 : Int32 × Int32 × St => ∀ (H : Heap) (locs : List Loc) (ls : Array Slot), va_P D vwCl (ww dM 41 cA ad t1011.2.2) H → va_S (inA 41 ad) s.heap H locs → lv_has ls 3 [(0, .ref (ad 0)), (1, .int t1011.1), (2, .int t1011.2.1)] → W p l e (headSpec wsX11_isThere rm_11_isThere).room s m args below meth c H locs 0 0 QQ (F0 m 42 ls [])) ?_ n _ _ o1013 ?_ H locs ls hP hS (lv_sub hl [2, 1, 0] rfl)
  · clear h hP hS hl
    intro t2 rL1 h hCL1 hEL1 H locs ls hP hS hl
    unfold b_11_isThere_4 at h
    refine lv_iload_n hx hb dX11_isThere_4 rfl (lv_at hl 2 rfl) ?_
    refine lv_aload_n hx hb dX11_isThere_5 rfl (lv_at hl 0 rfl) ?_
    refine x_gi X hP (j := 2) (by decide) (dM_0) rfl rfl (by decide) in11 lk207 dX11_isThere_6 ?_
    refine lv_icmp_ge (tgt := 42) hx hb dX11_isThere_9 (by decide) (fun c3 => ?_) (fun c3 => ?_)
    · have h := it_t c3 h
      exact hEL1 _ (Option.some.inj h).symm H locs ls hP hS (lv_sub hl [0, 1, 2] rfl)
    · have h := it_f c3 h
      refine lv_iload_n hx hb dX11_isThere_12 rfl (lv_at hl 1 rfl) ?_
      refine lv_if_ne (tgt := 30) hx hb dX11_isThere_13 (by decide) (fun c4 => ?_) (fun c4 => ?_)
      · have h := it_t c4 h
        refine lv_iconst (v := 1) hx hb dX11_isThere_30 (by decide) ?_
        refine lv_goto (tgt := 35) hx hb dX11_isThere_31 (by decide) ?_
        refine lv_istore_n (lv' := [(1, .int 1), (0, .ref (ad 0)), (2, .int t2.2.1)]) hx hb dX11_isThere_35 rfl hl (by decide) rfl (fun ls hl => ?_)
        obtain ⟨v5, ev5⟩ : ∃ y : Int32, y = t2.2.1 + 1 := ⟨_, rfl⟩
        have h := nm_some ev5 h
        refine lv_iinc (v := v5) (lv' := [(2, .int v5), (1, .int 1), (0, .ref (ad 0))]) hx hb dX11_isThere_36 hl (k := 2) rfl (by rw [ev5]; rfl) (by decide) rfl (fun ls hl => ?_)
        refine lv_goto (tgt := 4) hx hb dX11_isThere_39 (by decide) ?_
        exact hCL1 _ (Option.some.inj h).symm H locs ls hP hS (lv_sub hl [2, 1, 0] rfl)
      · have h := it_f c4 h
        refine lv_aload_n hx hb dX11_isThere_16 rfl (lv_at hl 0 rfl) ?_
        refine x_gr X hP (j := 10) (by decide) (dM_0) rfl rfl (by decide) in11 lk32 dX11_isThere_17 ?_
        refine lv_iload_n hx hb dX11_isThere_20 rfl (lv_at hl 2 rfl) ?_
        obtain ⟨g6, h⟩ := gd_some h
        refine x_al X hP (by decide) (dM_8) g6 dX11_isThere_21 ?_
        refine lv_aload_n hx hb dX11_isThere_22 rfl (lv_at hl 0 rfl) ?_
        refine x_gl X hP (j := 27) (by decide) (dM_0) rfl rfl (by decide) in11 lk178 dX11_isThere_23 ?_
        refine W.lcmp hx hb dX11_isThere_26 ?_
        refine lv_topi (fun v7 ev7 => ?_)
        have h := nm_some ev7 h
        refine lv_if_ne (tgt := 34) hx hb dX11_isThere_27 (by decide) (fun c8 => ?_) (fun c8 => ?_)
        · have h := it_t c8 h
          refine lv_iconst (v := 0) hx hb dX11_isThere_34 (by decide) ?_
          refine lv_istore_n (lv' := [(1, .int 0), (0, .ref (ad 0)), (2, .int t2.2.1)]) hx hb dX11_isThere_35 rfl hl (by decide) rfl (fun ls hl => ?_)
          obtain ⟨v9, ev9⟩ : ∃ y : Int32, y = t2.2.1 + 1 := ⟨_, rfl⟩
          have h := nm_some ev9 h
          refine lv_iinc (v := v9) (lv' := [(2, .int v9), (1, .int 0), (0, .ref (ad 0))]) hx hb dX11_isThere_36 hl (k := 2) rfl (by rw [ev9]; rfl) (by decide) rfl (fun ls hl => ?_)
          refine lv_goto (tgt := 4) hx hb dX11_isThere_39 (by decide) ?_
          exact hCL1 _ (Option.some.inj h).symm H locs ls hP hS (lv_sub hl [2, 1, 0] rfl)
        · have h := it_f c8 h
          refine lv_iconst (v := 1) hx hb dX11_isThere_30 (by decide) ?_
          refine lv_goto (tgt := 35) hx hb dX11_isThere_31 (by decide) ?_
          refine lv_istore_n (lv' := [(1, .int 1), (0, .ref (ad 0)), (2, .int t2.2.1)]) hx hb dX11_isThere_35 rfl hl (by decide) rfl (fun ls hl => ?_)
          obtain ⟨v10, ev10⟩ : ∃ y : Int32, y = t2.2.1 + 1 := ⟨_, rfl⟩
          have h := nm_some ev10 h
          refine lv_iinc (v := v10) (lv' := [(2, .int v10), (1, .int 1), (0, .ref (ad 0))]) hx hb dX11_isThere_36 hl (k := 2) rfl (by rw [ev10]; rfl) (by decide) rfl (fun ls hl => ?_)
          refine lv_goto (tgt := 4) hx hb dX11_isThere_39 (by decide) ?_
          exact hCL1 _ (Option.some.inj h).symm H locs ls hP hS (lv_sub hl [2, 1, 0] rfl)
  · intro H locs ls hP hS hl
    refine lv_iconst (v := 0) hx hb dX11_isThere_42 (by decide) ?_
    refine lv_istore_n (lv' := [(2, .int 0), (0, .ref (ad 0)), (1, .int t1011.1)]) hx hb dX11_isThere_43 rfl hl (by decide) rfl (fun ls hl => ?_)
    obtain ⟨t2024, o2026, h⟩ := bd_some h
    refine lq_rule (P := fun t1015 : Int32 × Int32 × St => ∀ (H : Heap) (locs : List Loc) (ls : Array Slot), va_P D vwCl (ww dM 41 cA ad t1015.2.2) H → va_S (inA 41 ad) s.heap H locs → lv_has ls 3 [(0, .ref (ad 0)), (1, .int t1015.1), (2, .int t1015.2.1)] → W p l e (headSpec wsX11_isThere rm_11_isThere).room s m args below meth c H locs 0 0 QQ (F0 m 44 ls [])) (X := fun t2024 : Int32 × Int32 × St => ∀ (H : Heap) (locs : List Loc) (ls : Array Slot), va_P D vwCl (ww dM 41 cA ad t2024.2.2) H → va_S (inA 41 ad) s.heap H locs → lv_has ls 3 [(0, .ref (ad 0)), (1, .int t2024.1), (2, .int t2024.2.1)] → W p l e (headSpec wsX11_isThere rm_11_isThere).room s m args below meth c H locs 0 0 QQ (F0 m 82 ls [])) ?_ n _ _ o2026 ?_ H locs ls hP hS (lv_sub hl [1, 2, 0] rfl)
    · clear h hP hS hl
      intro t1015 rL1014 h hCL1014 hEL1014 H locs ls hP hS hl
      unfold b_11_isThere_44 at h
      refine lv_iload_n hx hb dX11_isThere_44 rfl (lv_at hl 2 rfl) ?_
      refine lv_aload_n hx hb dX11_isThere_45 rfl (lv_at hl 0 rfl) ?_
      refine x_gi X hP (j := 16) (by decide) (dM_0) rfl rfl (by decide) in11 lk210 dX11_isThere_46 ?_
      refine lv_icmp_ge (tgt := 82) hx hb dX11_isThere_49 (by decide) (fun c1016 => ?_) (fun c1016 => ?_)
      · have h := it_t c1016 h
        exact hEL1014 _ (Option.some.inj h).symm H locs ls hP hS (lv_sub hl [0, 1, 2] rfl)
      · have h := it_f c1016 h
        refine lv_iload_n hx hb dX11_isThere_52 rfl (lv_at hl 1 rfl) ?_
        refine lv_if_ne (tgt := 70) hx hb dX11_isThere_53 (by decide) (fun c1017 => ?_) (fun c1017 => ?_)
        · have h := it_t c1017 h
          refine lv_iconst (v := 1) hx hb dX11_isThere_70 (by decide) ?_
          refine lv_goto (tgt := 75) hx hb dX11_isThere_71 (by decide) ?_
          refine lv_istore_n (lv' := [(1, .int 1), (0, .ref (ad 0)), (2, .int t1015.2.1)]) hx hb dX11_isThere_75 rfl hl (by decide) rfl (fun ls hl => ?_)
          obtain ⟨v1018, ev1018⟩ : ∃ y : Int32, y = t1015.2.1 + 1 := ⟨_, rfl⟩
          have h := nm_some ev1018 h
          refine lv_iinc (v := v1018) (lv' := [(2, .int v1018), (1, .int 1), (0, .ref (ad 0))]) hx hb dX11_isThere_76 hl (k := 2) rfl (by rw [ev1018]; rfl) (by decide) rfl (fun ls hl => ?_)
          refine lv_goto (tgt := 44) hx hb dX11_isThere_79 (by decide) ?_
          exact hCL1014 _ (Option.some.inj h).symm H locs ls hP hS (lv_sub hl [2, 1, 0] rfl)
        · have h := it_f c1017 h
          refine lv_aload_n hx hb dX11_isThere_56 rfl (lv_at hl 0 rfl) ?_
          refine x_gr X hP (j := 11) (by decide) (dM_0) rfl rfl (by decide) in11 lk36 dX11_isThere_57 ?_
          refine lv_iload_n hx hb dX11_isThere_60 rfl (lv_at hl 2 rfl) ?_
          obtain ⟨g1019, h⟩ := gd_some h
          refine x_al X hP (by decide) (dM_9) g1019 dX11_isThere_61 ?_
          refine lv_aload_n hx hb dX11_isThere_62 rfl (lv_at hl 0 rfl) ?_
          refine x_gl X hP (j := 27) (by decide) (dM_0) rfl rfl (by decide) in11 lk178 dX11_isThere_63 ?_
          refine W.lcmp hx hb dX11_isThere_66 ?_
          refine lv_topi (fun v1020 ev1020 => ?_)
          have h := nm_some ev1020 h
          refine lv_if_ne (tgt := 74) hx hb dX11_isThere_67 (by decide) (fun c1021 => ?_) (fun c1021 => ?_)
          · have h := it_t c1021 h
            refine lv_iconst (v := 0) hx hb dX11_isThere_74 (by decide) ?_
            refine lv_istore_n (lv' := [(1, .int 0), (0, .ref (ad 0)), (2, .int t1015.2.1)]) hx hb dX11_isThere_75 rfl hl (by decide) rfl (fun ls hl => ?_)
            obtain ⟨v1022, ev1022⟩ : ∃ y : Int32, y = t1015.2.1 + 1 := ⟨_, rfl⟩
            have h := nm_some ev1022 h
            refine lv_iinc (v := v1022) (lv' := [(2, .int v1022), (1, .int 0), (0, .ref (ad 0))]) hx hb dX11_isThere_76 hl (k := 2) rfl (by rw [ev1022]; rfl) (by decide) rfl (fun ls hl => ?_)
            refine lv_goto (tgt := 44) hx hb dX11_isThere_79 (by decide) ?_
            exact hCL1014 _ (Option.some.inj h).symm H locs ls hP hS (lv_sub hl [2, 1, 0] rfl)
          · have h := it_f c1021 h
            refine lv_iconst (v := 1) hx hb dX11_isThere_70 (by decide) ?_
            refine lv_goto (tgt := 75) hx hb dX11_isThere_71 (by decide) ?_
            refine lv_istore_n (lv' := [(1, .int 1), (0, .ref (ad 0)), (2, .int t1015.2.1)]) hx hb dX11_isThere_75 rfl hl (by decide) rfl (fun ls hl => ?_)
            obtain ⟨v1023, ev1023⟩ : ∃ y : Int32, y = t1015.2.1 + 1 := ⟨_, rfl⟩
            have h := nm_some ev1023 h
            refine lv_iinc (v := v1023) (lv' := [(2, .int v1023), (1, .int 1), (0, .ref (ad 0))]) hx hb dX11_isThere_76 hl (k := 2) rfl (by rw [ev1023]; rfl) (by decide) rfl (fun ls hl => ?_)
            refine lv_goto (tgt := 44) hx hb dX11_isThere_79 (by decide) ?_
            exact hCL1014 _ (Option.some.inj h).symm H locs ls hP hS (lv_sub hl [2, 1, 0] rfl)
    · intro H locs ls hP hS hl
      refine lv_iload_n hx hb dX11_isThere_82 rfl (lv_at hl 1 rfl) ?_
      obtain ⟨g2027, h⟩ := gd_some h
      subst hQQ
      exact x_rz X hr hlocks hP hS (isb_nar g2027) (Option.some.inj h) dX11_isThere_83
def j_11_aCure_384 (n : Nat) (a1 : Int32) (a2 : Int32) (a3 : Int32) (a4 : Int32) (σ : St) : Option ((Int32 × St) ⊕ ((Int32 × St) ⊕ (Int32 × St))) :=
  if a4 = 4 then
    if (σ.1 0 20) = 40 then
      if ¬ a2 = 5 then
        gd (inb a2 5) <| nm (si σ 15 (a2.toNatClampNeg) a3) fun σ78 =>
        nm (a2 + 1) fun v79 =>
        (f_11_next0 n σ78 ).bind fun r80 =>
        some (.inl (v79, r80))
      else
        (f_11_bad n σ 4).bind fun r82 =>
        gd (isb r82.1) <| some (.inr (.inl (r82.1, r82.2)))
    else
      (f_11_bad n σ 1).bind fun r85 =>
      gd (isb r85.1) <| some (.inr (.inl (r85.1, r85.2)))
  else
    some (.inl (a2, σ))
def j_11_aCure_305 (n : Nat) (a1 : Int32) (a2 : Int32) (a3 : Int32) (a4 : Int32) (w0_ : Int32) (w1_ : Int32) (σ : St) : Option ((Int32 × St) ⊕ ((Int32 × St) ⊕ (Int32 × St))) :=
  (f_11_number n σ w1_ w0_).bind fun r55 =>
  if ¬ r55.1 = 0 then
    nm (90 * a1) fun v58 =>
    nm (3 * a3) fun v59 =>
    nm (v58 + v59) fun v60 =>
    gd (inb v60 720) <| nm (si r55.2 13 (v60.toNatClampNeg) a4) fun σ62 =>
    nm (90 * a1) fun v63 =>
    nm (3 * a3) fun v64 =>
    nm (v63 + v64) fun v65 =>
    nm (v65 + 1) fun v66 =>
    gd (inb v66 720) <| nm (si σ62 13 (v66.toNatClampNeg) (σ62.1 0 28)) fun σ68 =>
    if ¬ a4 = 1 then
      j_11_aCure_384 n a1 a2 a3 a4  σ68
    else
      (f_11_number n σ68 1 16).bind fun r103 =>
      if ¬ r103.1 = 0 then
        nm (90 * a1) fun v106 =>
        nm (3 * a3) fun v107 =>
        nm (v106 + v107) fun v108 =>
        nm (v108 + 2) fun v109 =>
        gd (inb v109 720) <| nm (si r103.2 13 (v109.toNatClampNeg) (r103.2.1 0 28)) fun σ111 =>
        j_11_aCure_384 n a1 a2 a3 a4  σ111
      else
        some (.inr (.inl (0, r103.2)))
  else
    some (.inr (.inl (0, r55.2)))
def j_11_aCure_262 (n : Nat) (a1 : Int32) (a2 : Int32) (a3 : Int32) (a4 : Int32) (w0_ : Int32) (σ : St) : Option ((Int32 × St) ⊕ ((Int32 × St) ⊕ (Int32 × St))) :=
  if ¬ a4 = 0 then
    if ¬ a4 = 1 then
      if ¬ a4 = 2 then
        if ¬ a4 = 3 then
          j_11_aCure_305 n a1 a2 a3 a4 9 w0_ σ
        else
          j_11_aCure_305 n a1 a2 a3 a4 47 w0_ σ
      else
        j_11_aCure_305 n a1 a2 a3 a4 16 w0_ σ
    else
      j_11_aCure_305 n a1 a2 a3 a4 2 w0_ σ
  else
    j_11_aCure_305 n a1 a2 a3 a4 3 w0_ σ
def j_11_aCure_173 (n : Nat) (a1 : Int32) (a2 : Int32) (σ : St) : Option ((Int32 × St) ⊕ ((Int32 × St) ⊕ (Int32 × St))) :=
  if (σ.1 0 20) < 10 then
    (f_11_bad n σ 1).bind fun r30 =>
    gd (isb r30.1) <| some (.inr (.inl (r30.1, r30.2)))
  else
    if (σ.1 0 20) ≤ 14 then
      gd (inb a1 8) <| if ¬ (σ.1 12 a1.toNatClampNeg) = 30 then
        nm ((σ.1 12 a1.toNatClampNeg)) fun v36 =>
        nm ((σ.1 0 20) - 10) fun v37 =>
        nm ((σ.1 12 a1.toNatClampNeg) + 1) fun v38 =>
        nm (si σ 12 (a1.toNatClampNeg) v38) fun σ39 =>
        (f_11_next0 n σ39 ).bind fun r40 =>
        if v37 = 2 then
          j_11_aCure_262 n a1 a2 v36 v37 1 r40
        else
          if ¬ v37 = 4 then
            j_11_aCure_262 n a1 a2 v36 v37 0 r40
          else
            j_11_aCure_262 n a1 a2 v36 v37 1 r40
      else
        (f_11_bad n σ 4).bind fun r300 =>
        gd (isb r300.1) <| some (.inr (.inl (r300.1, r300.2)))
    else
      (f_11_bad n σ 1).bind fun r303 =>
      gd (isb r303.1) <| some (.inr (.inl (r303.1, r303.2)))
def j_11_aCure_124 (n : Nat) (a1 : Int32) (a2 : Int32) (σ : St) : Option ((Int32 × St) ⊕ ((Int32 × St) ⊕ (Int32 × St))) :=
  if a2 ≤ 0 then
    j_11_aCure_173 n a1 a2  σ
  else
    if ¬ (σ.1 0 20) = 41 then
      j_11_aCure_173 n a1 a2  σ
    else
      nm (a2 + (-1)) fun v585 =>
      nm (90 * a1) fun v586 =>
      gd (inb v585 5) <| nm (3 * (σ.1 15 v585.toNatClampNeg)) fun v588 =>
      nm (v586 + v588) fun v589 =>
      nm (v589 + 2) fun v590 =>
      gd (inb a1 8) <| gd (inb v590 720) <| nm (si σ 13 (v590.toNatClampNeg) (σ.1 12 a1.toNatClampNeg)) fun σ593 =>
      (f_11_next0 n σ593 ).bind fun r594 =>
      some (.inl (v585, r594))
def b_11_aCure_111 (n : Nat) (a1 : Int32) (t22 : Int32 × St) : Option ((Int32 × St) ⊕ ((Int32 × St) ⊕ (Int32 × St))) :=
  if 0 < t22.1 then
    j_11_aCure_124 n a1 t22.1  t22.2
  else
    if (t22.2.1 0 20) = 59 then
      some (.inr (.inr (t22.1, t22.2)))
    else
      j_11_aCure_124 n a1 t22.1  t22.2
def f_11_aCure (n : Nat) (σ : St)  : Option (Int32 × St) :=
  if (σ.1 0 20) = 4 then
    nm ((σ.1 0 16)) fun v2 =>
    nm ((σ.1 0 2) + v2) fun v3 =>
    if ¬ v3 = 8 then
      (f_11_next0 n σ ).bind fun r5 =>
      if (r5.1 0 20) = 2 then
        (f_11_isThere n r5 ).bind fun r8 =>
        if r8.1 = 0 then
          gd (inb v2 8) <| nm (sl r8.2 9 (v2.toNatClampNeg) (r8.2.2 0 27)) fun σ12 =>
          nm (si σ12 12 (v2.toNatClampNeg) 0) fun σ13 =>
          nm ((σ13.1 0 16) + 1) fun v14 =>
          nm (si σ13 0 16 v14) fun σ15 =>
          (f_11_next0 n σ15 ).bind fun r16 =>
          (f_11_need n r16 58).bind fun r18 =>
          if ¬ r18.1 = 0 then
            (lq (b_11_aCure_111 n v2) n (0, r18.2)).bind <| Sum.elim (fun rr => some rr) fun t2168 =>
            (f_11_next0 n t2168.2 ).bind fun r2171 =>
            some (1, r2171)
          else
            some (0, r18.2)
        else
          (f_11_bad n r8.2 2).bind fun r2173 =>
          gd (isb r2173.1) <| some (r2173.1, r2173.2)
      else
        (f_11_bad n r5 1).bind fun r2176 =>
        gd (isb r2176.1) <| some (r2176.1, r2176.2)
    else
      (f_11_bad n σ 4).bind fun r2179 =>
      gd (isb r2179.1) <| some (r2179.1, r2179.2)
  else
    (f_11_bad n σ 1).bind fun r2182 =>
    gd (isb r2182.1) <| some (r2182.1, r2182.2)
abbrev rm_11_aCure : Room := { frames := 5, cells := 0, slots := 0, locals := 107 }
set_option maxRecDepth 100000 in
set_option maxHeartbeats 4000000 in
theorem k_11_aCure (l : Launch) (D : va_G) (cA : Nat → ClassId) (ad : Nat → Nat) (hj : inj 41 ad) (n : Nat) (σ : St)   {res : Int32 × St} (h : f_11_aCure n σ  = some res) : MXi l D dM 41 cA ad ET yX11_aCure wsX11_aCure rm_11_aCure [.ref (ad 0)] σ res := by
  refine Met.ofW (cc := cX11_aCure) (maxL := 5) (ret := (some .boolean)) (by decide) rfl ?_
  intro p e s m args below meth c s₁ B hml hv
  obtain ⟨hargs, hP, hK, hE⟩ := hv
  have hx := B.exec
  have hb := B.bytes
  have hr := B.returns
  have hts := atoms_spec (ws := wsX11_aCure) B.pre
  have hown : s.vm.findClass RX11 = some m.cls := findClass_of_methodNamed B.named
  have hlocks := B.notSynchronized
  have X : Cx p s m args c cX11_aCure 5 RX11 wsX11_aCure D dM 41 cA ad ET := ⟨hx, hb, hml, hown, hts, hK, hj, hE, ET_ok⟩
  have hS : va_S (inA 41 ad) s.heap s.heap [] := va_S.rf
  have hl := lv_entry ([.ref (ad 0)]) (n := 5) (Nat.le_of_ble_eq_true rfl)
  rw [show entryFrame m args 5 = entryFrame m ([.ref (ad 0)] : List Value).toArray 5 by rw [hargs]]
  rw [lg_entry_eq]
  generalize (lg_sl ([.ref (ad 0)]) ++ List.replicate (5 - (lg_sl ([.ref (ad 0)])).length) Slot.unset).toArray = ls at hl ⊢
  have hl : lv_has ls 5 [(0, .ref (ad 0))] := hl
  obtain ⟨QQ, hQQ⟩ : ∃ Q, Q = MQ below (va_Qi (fun r u => r = res.1 ∧ u = res.2) (fun u t => va_P D vwCl (ww dM 41 cA ad u) t.heap) (inA 41 ad)) args s 0 0 (inA 41 ad) := ⟨_, rfl⟩
  show W p l e (headSpec wsX11_aCure rm_11_aCure).room s m args below meth c s.heap [] 0 0 (MQ below (va_Qi (fun r u => r = res.1 ∧ u = res.2) (fun u t => va_P D vwCl (ww dM 41 cA ad u) t.heap) (inA 41 ad)) args s 0 0 (inA 41 ad)) _
  rw [← hQQ]
  have in11 : ∀ w ∈ wsX110, w ∈ wsX11_aCure := by decide +kernel
  have lk172 : Cond.fieldLink RX11 172 "CureTownModel" "token" "I" ∈ wsX11_aCure := by decide +kernel
  have lk210 : Cond.fieldLink RX11 210 "CureTownModel" "freshRegimens" "I" ∈ wsX11_aCure := by decide +kernel
  have lk207 : Cond.fieldLink RX11 207 "CureTownModel" "regimens" "I" ∈ wsX11_aCure := by decide +kernel
  have lk36 : Cond.fieldLink RX11 36 "CureTownModel" "freshName" "[J" ∈ wsX11_aCure := by decide +kernel
  have lk178 : Cond.fieldLink RX11 178 "CureTownModel" "word" "J" ∈ wsX11_aCure := by decide +kernel
  have lk45 : Cond.fieldLink RX11 45 "CureTownModel" "freshMany" "[I" ∈ wsX11_aCure := by decide +kernel
  have lk48 : Cond.fieldLink RX11 48 "CureTownModel" "fresh" "[I" ∈ wsX11_aCure := by decide +kernel
  have lk204 : Cond.fieldLink RX11 204 "CureTownModel" "got" "I" ∈ wsX11_aCure := by decide +kernel
  have lk58 : Cond.fieldLink RX11 58 "CureTownModel" "bracket" "[I" ∈ wsX11_aCure := by decide +kernel
  unfold f_11_aCure at h
  obtain ⟨H, hH⟩ : ∃ H, H = s.heap := ⟨_, rfl⟩
  obtain ⟨locs, hlc⟩ : ∃ q : List Loc, q = [] := ⟨_, rfl⟩
  have hP : va_P D vwCl (ww dM 41 cA ad σ) s.heap := hP
  have hS : va_S (inA 41 ad) s.heap s.heap [] := hS
  rw [← hlc] at hS ⊢
  rw [show W p l e (headSpec wsX11_aCure rm_11_aCure).room s m args below meth c s.heap locs 0 0 QQ = W p l e (headSpec wsX11_aCure rm_11_aCure).room s m args below meth c H locs 0 0 QQ by rw [hH]]
  have hS : va_S (inA 41 ad) s.heap H locs := by rw [hH]; exact hS
  have hP : va_P D vwCl (ww dM 41 cA ad σ) H := by rw [hH]; exact hP
  clear hH hlc
  refine lv_aload_n hx hb dX11_aCure_0 rfl (lv_at hl 0 rfl) ?_
  refine x_gi X hP (j := 20) (by decide) (dM_0) rfl rfl (by decide) in11 lk172 dX11_aCure_1 ?_
  refine lv_iconst (v := 4) hx hb dX11_aCure_4 (by decide) ?_
  refine lv_icmp_eq (tgt := 14) hx hb dX11_aCure_5 (by decide) (fun c1 => ?_) (fun c1 => ?_)
  · have h := it_t c1 h
    refine lv_aload_n hx hb dX11_aCure_14 rfl (lv_at hl 0 rfl) ?_
    refine x_gi X hP (j := 16) (by decide) (dM_0) rfl rfl (by decide) in11 lk210 dX11_aCure_15 ?_
    refine lv_topi (fun v2 ev2 => ?_)
    have h := nm_some ev2 h
    refine lv_istore_n (lv' := [(1, .int v2), (0, .ref (ad 0))]) hx hb dX11_aCure_18 rfl hl (by decide) rfl (fun ls hl => ?_)
    refine lv_aload_n hx hb dX11_aCure_19 rfl (lv_at hl 1 rfl) ?_
    refine x_gi X hP (j := 2) (by decide) (dM_0) rfl rfl (by decide) in11 lk207 dX11_aCure_20 ?_
    refine lv_iload_n hx hb dX11_aCure_23 rfl (lv_at hl 0 rfl) ?_
    refine lv_iadd hx hb dX11_aCure_24 ?_
    refine lv_topi (fun v3 ev3 => ?_)
    have h := nm_some ev3 h
    refine lv_bipush (v := 8) hx hb dX11_aCure_25 (by decide) ?_
    refine lv_icmp_ne (tgt := 36) hx hb dX11_aCure_27 (by decide) (fun c4 => ?_) (fun c4 => ?_)
    · have h := it_t c4 h
      refine lv_aload_n hx hb dX11_aCure_36 rfl (lv_at hl 1 rfl) ?_
      obtain ⟨r5, k6, h⟩ := bd_some h
      refine x_Vv (rest := []) X hP hS (k_11_next0 l D cA ad hj n σ  k6) (by decide) (dM_0) rfl 0 gX11_aCure_X11_next0 rfl rfl rfl (by decide +kernel) ⟨Nat.le_of_ble_eq_true rfl, Nat.le_of_ble_eq_true rfl⟩ rfl hl.1 rfl (Nat.le_of_ble_eq_true rfl) dX11_aCure_37 ⟨Nat.zero_le _, Nat.zero_le _⟩ (fun H locs hP hS => ?_)
      refine lv_aload_n hx hb dX11_aCure_40 rfl (lv_at hl 1 rfl) ?_
      refine x_gi X hP (j := 20) (by decide) (dM_0) rfl rfl (by decide) in11 lk172 dX11_aCure_41 ?_
      refine lv_iconst (v := 2) hx hb dX11_aCure_44 (by decide) ?_
      refine lv_icmp_eq (tgt := 54) hx hb dX11_aCure_45 (by decide) (fun c7 => ?_) (fun c7 => ?_)
      · have h := it_t c7 h
        refine lv_aload_n hx hb dX11_aCure_54 rfl (lv_at hl 1 rfl) ?_
        obtain ⟨r8, k9, h⟩ := bd_some h
        refine x_Vi (rest := []) X hP hS (k_11_isThere l D cA ad hj n r5  k9) (by decide) (dM_0) rfl 0 gX11_aCure_X11_isThere rfl rfl rfl (by decide +kernel) ⟨Nat.le_of_ble_eq_true rfl, Nat.le_of_ble_eq_true rfl⟩ rfl hl.1 rfl (Nat.le_of_ble_eq_true rfl) dX11_aCure_55 ⟨Nat.zero_le _, Nat.zero_le _⟩ (fun H locs hP hS => ?_)
        refine lv_if_eq (tgt := 67) hx hb dX11_aCure_58 (by decide) (fun c10 => ?_) (fun c10 => ?_)
        · have h := it_t c10 h
          refine lv_aload_n hx hb dX11_aCure_67 rfl (lv_at hl 1 rfl) ?_
          refine x_gr X hP (j := 11) (by decide) (dM_0) rfl rfl (by decide) in11 lk36 dX11_aCure_68 ?_
          refine lv_iload_n hx hb dX11_aCure_71 rfl (lv_at hl 0 rfl) ?_
          refine lv_aload_n hx hb dX11_aCure_72 rfl (lv_at hl 1 rfl) ?_
          refine x_gl X hP (j := 27) (by decide) (dM_0) rfl rfl (by decide) in11 lk178 dX11_aCure_73 ?_
          obtain ⟨g11, h⟩ := gd_some h
          refine x_sl X hP hS (by decide) (dM_9) g11 dX11_aCure_76 (fun σ12 eσ12 H locs hP hS => ?_)
          have h := nm_some eσ12 h
          refine lv_aload_n hx hb dX11_aCure_77 rfl (lv_at hl 1 rfl) ?_
          refine x_gr X hP (j := 14) (by decide) (dM_0) rfl rfl (by decide) in11 lk45 dX11_aCure_78 ?_
          refine lv_iload_n hx hb dX11_aCure_81 rfl (lv_at hl 0 rfl) ?_
          refine lv_iconst (v := 0) hx hb dX11_aCure_82 (by decide) ?_
          refine x_si X hP hS (by decide) (dM_12) g11 dX11_aCure_83 (fun σ13 eσ13 H locs hP hS => ?_)
          have h := nm_some eσ13 h
          refine lv_aload_n hx hb dX11_aCure_84 rfl (lv_at hl 1 rfl) ?_
          refine lv_dup hx hb dX11_aCure_85 rfl ?_
          refine x_gi X hP (j := 16) (by decide) (dM_0) rfl rfl (by decide) in11 lk210 dX11_aCure_86 ?_
          refine lv_iconst (v := 1) hx hb dX11_aCure_89 (by decide) ?_
          refine lv_iadd hx hb dX11_aCure_90 ?_
          refine lv_topi (fun v14 ev14 => ?_)
          have h := nm_some ev14 h
          refine x_pi X hP hS (j := 16) (by decide) (dM_0) rfl rfl (by decide) in11 tyX11_ok nmX11 lk210 rfl rfl rfl rfl dX11_aCure_91 (fun σ15 eσ15 H locs hP hS => ?_)
          have h := nm_some eσ15 h
          refine lv_aload_n hx hb dX11_aCure_94 rfl (lv_at hl 1 rfl) ?_
          obtain ⟨r16, k17, h⟩ := bd_some h
          refine x_Vv (rest := []) X hP hS (k_11_next0 l D cA ad hj n σ15  k17) (by decide) (dM_0) rfl 0 gX11_aCure_X11_next0 rfl rfl rfl (by decide +kernel) ⟨Nat.le_of_ble_eq_true rfl, Nat.le_of_ble_eq_true rfl⟩ rfl hl.1 rfl (Nat.le_of_ble_eq_true rfl) dX11_aCure_95 ⟨Nat.zero_le _, Nat.zero_le _⟩ (fun H locs hP hS => ?_)
          refine lv_aload_n hx hb dX11_aCure_98 rfl (lv_at hl 1 rfl) ?_
          refine lv_bipush (v := 58) hx hb dX11_aCure_99 (by decide) ?_
          obtain ⟨r18, k19, h⟩ := bd_some h
          refine x_Vi (rest := []) X hP hS (k_11_need l D cA ad hj n r16 58 k19) (by decide) (dM_0) rfl 1 gX11_aCure_X11_need rfl rfl rfl (by decide +kernel) ⟨Nat.le_of_ble_eq_true rfl, Nat.le_of_ble_eq_true rfl⟩ rfl hl.1 rfl (Nat.le_of_ble_eq_true rfl) dX11_aCure_101 ⟨Nat.zero_le _, Nat.zero_le _⟩ (fun H locs hP hS => ?_)
          refine lv_if_ne (tgt := 109) hx hb dX11_aCure_104 (by decide) (fun c20 => ?_) (fun c20 => ?_)
          · have h := it_t c20 h
            refine lv_iconst (v := 0) hx hb dX11_aCure_109 (by decide) ?_
            refine lv_istore_n (lv' := [(2, .int 0), (1, .int v2), (0, .ref (ad 0))]) hx hb dX11_aCure_110 rfl hl (by decide) rfl (fun ls hl => ?_)
            obtain ⟨y2169, o2170, h⟩ := bd_some h
            refine lq_rule (P := fun t22 : Int32 × St => ∀ (H : Heap) (locs : List Loc) (ls : Array Slot), va_P D vwCl (ww dM 41 cA ad t22.2) H → va_S (inA 41 ad) s.heap H locs → lv_has ls 5 [(0, .ref (ad 0)), (1, .int v2), (2, .int t22.1)] → W p l e (headSpec wsX11_aCure rm_11_aCure).room s m args below meth c H locs 0 0 QQ (F0 m 111 ls [])) (X := fun y2169 : (Int32 × St) ⊕ (Int32 × St) => Sum.elim (fun rr => rr = res) (fun t2168 => ∀ (H : Heap) (locs : List Loc) (ls : Array Slot), va_P D vwCl (ww dM 41 cA ad t2168.2) H → va_S (inA 41 ad) s.heap H locs → lv_has ls 5 [(0, .ref (ad 0)), (1, .int v2), (2, .int t2168.1)] → W p l e (headSpec wsX11_aCure rm_11_aCure).room s m args below meth c H locs 0 0 QQ (F0 m 436 ls [])) y2169) ?_ n _ _ o2170 ?_ H locs ls hP hS (lv_sub hl [2, 1, 0] rfl)
            · clear h hP hS hl
              intro t22 rL21 h hCL21 hEL21 H locs ls hP hS hl
              unfold b_11_aCure_111 at h
              refine lv_iload_n hx hb dX11_aCure_111 rfl (lv_at hl 2 rfl) ?_
              have hJ124 : ∀ (q23 : Int32) (q24 : Int32) (σ25 : St), j_11_aCure_124 n q23 q24 σ25 = some rL21 → ∀ (H : Heap) (locs : List Loc) (ls : Array Slot), va_P D vwCl (ww dM 41 cA ad σ25) H → va_S (inA 41 ad) s.heap H locs → lv_has ls 5 [(0, .ref (ad 0)), (1, .int q23), (2, .int q24)] → W p l e (headSpec wsX11_aCure rm_11_aCure).room s m args below meth c H locs 0 0 QQ (F0 m 124 ls []) := by
                clear h hP hS hl
                intro q23 q24 σ25 h H locs ls hP hS hl
                unfold j_11_aCure_124 at h
                refine lv_iload_n hx hb dX11_aCure_124 rfl (lv_at hl 2 rfl) ?_
                have hJ173 : ∀ (q596 : Int32) (q597 : Int32) (σ598 : St), j_11_aCure_173 n q596 q597 σ598 = some rL21 → ∀ (H : Heap) (locs : List Loc) (ls : Array Slot), va_P D vwCl (ww dM 41 cA ad σ598) H → va_S (inA 41 ad) s.heap H locs → lv_has ls 5 [(0, .ref (ad 0)), (1, .int q596), (2, .int q597)] → W p l e (headSpec wsX11_aCure rm_11_aCure).room s m args below meth c H locs 0 0 QQ (F0 m 173 ls []) := by
                  clear h hP hS hl
                  intro q596 q597 σ598 h H locs ls hP hS hl
                  unfold j_11_aCure_173 at h
                  refine lv_aload_n hx hb dX11_aCure_173 rfl (lv_at hl 0 rfl) ?_
                  refine x_gi X hP (j := 20) (by decide) (dM_0) rfl rfl (by decide) in11 lk172 dX11_aCure_174 ?_
                  refine lv_bipush (v := 10) hx hb dX11_aCure_177 (by decide) ?_
                  refine lv_icmp_lt (tgt := 191) hx hb dX11_aCure_179 (by decide) (fun c876 => ?_) (fun c876 => ?_)
                  · have h := it_t c876 h
                    refine lv_aload_n hx hb dX11_aCure_191 rfl (lv_at hl 0 rfl) ?_
                    refine lv_iconst (v := 1) hx hb dX11_aCure_192 (by decide) ?_
                    obtain ⟨r877, k878, h⟩ := bd_some h
                    refine x_Vi (rest := []) X hP hS (k_11_bad l D cA ad hj n σ598 1 k878) (by decide) (dM_0) rfl 1 gX11_aCure_X11_bad rfl rfl rfl (by decide +kernel) ⟨Nat.le_of_ble_eq_true rfl, Nat.le_of_ble_eq_true rfl⟩ rfl hl.1 rfl (Nat.le_of_ble_eq_true rfl) dX11_aCure_193 ⟨Nat.zero_le _, Nat.zero_le _⟩ (fun H locs hP hS => ?_)
                    obtain ⟨g879, h⟩ := gd_some h
                    subst hQQ
                    exact x_rz X hr hlocks hP hS (isb_nar g879) (hEL21 _ (Option.some.inj h).symm) dX11_aCure_196
                  · have h := it_f c876 h
                    refine lv_aload_n hx hb dX11_aCure_182 rfl (lv_at hl 0 rfl) ?_
                    refine x_gi X hP (j := 20) (by decide) (dM_0) rfl rfl (by decide) in11 lk172 dX11_aCure_183 ?_
                    refine lv_bipush (v := 14) hx hb dX11_aCure_186 (by decide) ?_
                    refine lv_icmp_le (tgt := 197) hx hb dX11_aCure_188 (by decide) (fun c880 => ?_) (fun c880 => ?_)
                    · have h := it_t c880 h
                      refine lv_aload_n hx hb dX11_aCure_197 rfl (lv_at hl 0 rfl) ?_
                      refine x_gr X hP (j := 14) (by decide) (dM_0) rfl rfl (by decide) in11 lk45 dX11_aCure_198 ?_
                      refine lv_iload_n hx hb dX11_aCure_201 rfl (lv_at hl 1 rfl) ?_
                      obtain ⟨g881, h⟩ := gd_some h
                      refine x_ai X hP (by decide) (dM_12) g881 dX11_aCure_202 ?_
                      refine lv_bipush (v := 30) hx hb dX11_aCure_203 (by decide) ?_
                      refine lv_icmp_ne (tgt := 214) hx hb dX11_aCure_205 (by decide) (fun c882 => ?_) (fun c882 => ?_)
                      · have h := it_t c882 h
                        refine lv_aload_n hx hb dX11_aCure_214 rfl (lv_at hl 0 rfl) ?_
                        refine x_gr X hP (j := 14) (by decide) (dM_0) rfl rfl (by decide) in11 lk45 dX11_aCure_215 ?_
                        refine lv_iload_n hx hb dX11_aCure_218 rfl (lv_at hl 1 rfl) ?_
                        refine x_ai X hP (by decide) (dM_12) g881 dX11_aCure_219 ?_
                        refine lv_topi (fun v883 ev883 => ?_)
                        have h := nm_some ev883 h
                        refine lv_istore_n (lv' := [(3, .int v883), (0, .ref (ad 0)), (1, .int q596), (2, .int q597)]) hx hb dX11_aCure_220 rfl hl (by decide) rfl (fun ls hl => ?_)
                        refine lv_aload_n hx hb dX11_aCure_221 rfl (lv_at hl 1 rfl) ?_
                        refine x_gi X hP (j := 20) (by decide) (dM_0) rfl rfl (by decide) in11 lk172 dX11_aCure_222 ?_
                        refine lv_bipush (v := 10) hx hb dX11_aCure_225 (by decide) ?_
                        refine lv_isub hx hb dX11_aCure_227 ?_
                        refine lv_topi (fun v884 ev884 => ?_)
                        have h := nm_some ev884 h
                        refine lv_istore (lv' := [(4, .int v884), (3, .int v883), (0, .ref (ad 0)), (1, .int q596), (2, .int q597)]) hx hb dX11_aCure_228 hl (by decide) rfl (fun ls hl => ?_)
                        refine lv_aload_n hx hb dX11_aCure_230 rfl (lv_at hl 2 rfl) ?_
                        refine x_gr X hP (j := 14) (by decide) (dM_0) rfl rfl (by decide) in11 lk45 dX11_aCure_231 ?_
                        refine lv_iload_n hx hb dX11_aCure_234 rfl (lv_at hl 3 rfl) ?_
                        refine lv_dup2_11 hx hb dX11_aCure_235 rfl rfl ?_
                        refine x_ai X hP (by decide) (dM_12) g881 dX11_aCure_236 ?_
                        refine lv_iconst (v := 1) hx hb dX11_aCure_237 (by decide) ?_
                        refine lv_iadd hx hb dX11_aCure_238 ?_
                        refine lv_topi (fun v885 ev885 => ?_)
                        have h := nm_some ev885 h
                        refine x_si X hP hS (by decide) (dM_12) g881 dX11_aCure_239 (fun σ886 eσ886 H locs hP hS => ?_)
                        have h := nm_some eσ886 h
                        refine lv_aload_n hx hb dX11_aCure_240 rfl (lv_at hl 2 rfl) ?_
                        obtain ⟨r887, k888, h⟩ := bd_some h
                        refine x_Vv (rest := []) X hP hS (k_11_next0 l D cA ad hj n σ886  k888) (by decide) (dM_0) rfl 0 gX11_aCure_X11_next0 rfl rfl rfl (by decide +kernel) ⟨Nat.le_of_ble_eq_true rfl, Nat.le_of_ble_eq_true rfl⟩ rfl hl.1 rfl (Nat.le_of_ble_eq_true rfl) dX11_aCure_241 ⟨Nat.zero_le _, Nat.zero_le _⟩ (fun H locs hP hS => ?_)
                        refine lv_aload_n hx hb dX11_aCure_244 rfl (lv_at hl 2 rfl) ?_
                        refine lv_iload hx hb dX11_aCure_245 (lv_at hl 0 rfl) ?_
                        refine lv_iconst (v := 2) hx hb dX11_aCure_247 (by decide) ?_
                        have hJ262 : ∀ (q889 : Int32) (q890 : Int32) (q891 : Int32) (q892 : Int32) (w893 : Int32) (σ894 : St), j_11_aCure_262 n q889 q890 q891 q892 w893 σ894 = some rL21 → ∀ (H : Heap) (locs : List Loc) (ls : Array Slot), va_P D vwCl (ww dM 41 cA ad σ894) H → va_S (inA 41 ad) s.heap H locs → lv_has ls 5 [(0, .ref (ad 0)), (1, .int q889), (2, .int q890), (3, .int q891), (4, .int q892)] → W p l e (headSpec wsX11_aCure rm_11_aCure).room s m args below meth c H locs 0 0 QQ (F0 m 262 ls [.int w893, .ref (ad 0)]) := by
                          clear h hP hS hl
                          intro q889 q890 q891 q892 w893 σ894 h H locs ls hP hS hl
                          unfold j_11_aCure_262 at h
                          refine lv_iload hx hb dX11_aCure_262 (lv_at hl 4 rfl) ?_
                          have hJ305 : ∀ (q1020 : Int32) (q1021 : Int32) (q1022 : Int32) (q1023 : Int32) (w1024 : Int32) (w1025 : Int32) (σ1026 : St), j_11_aCure_305 n q1020 q1021 q1022 q1023 w1024 w1025 σ1026 = some rL21 → ∀ (H : Heap) (locs : List Loc) (ls : Array Slot), va_P D vwCl (ww dM 41 cA ad σ1026) H → va_S (inA 41 ad) s.heap H locs → lv_has ls 5 [(0, .ref (ad 0)), (1, .int q1020), (2, .int q1021), (3, .int q1022), (4, .int q1023)] → W p l e (headSpec wsX11_aCure rm_11_aCure).room s m args below meth c H locs 0 0 QQ (F0 m 305 ls [.int w1024, .int w1025, .ref (ad 0)]) := by
                            clear h hP hS hl
                            intro q1020 q1021 q1022 q1023 w1024 w1025 σ1026 h H locs ls hP hS hl
                            unfold j_11_aCure_305 at h
                            obtain ⟨r1084, k1085, h⟩ := bd_some h
                            refine x_Vi (rest := []) X hP hS (k_11_number l D cA ad hj n σ1026 w1025 w1024 k1085) (by decide) (dM_0) rfl 2 gX11_aCure_X11_number rfl rfl rfl (by decide +kernel) ⟨Nat.le_of_ble_eq_true rfl, Nat.le_of_ble_eq_true rfl⟩ rfl hl.1 rfl (Nat.le_of_ble_eq_true rfl) dX11_aCure_305 ⟨Nat.zero_le _, Nat.zero_le _⟩ (fun H locs hP hS => ?_)
                            refine lv_if_ne (tgt := 313) hx hb dX11_aCure_308 (by decide) (fun c1086 => ?_) (fun c1086 => ?_)
                            · have h := it_t c1086 h
                              refine lv_aload_n hx hb dX11_aCure_313 rfl (lv_at hl 0 rfl) ?_
                              refine x_gr X hP (j := 15) (by decide) (dM_0) rfl rfl (by decide) in11 lk48 dX11_aCure_314 ?_
                              refine lv_bipush (v := 90) hx hb dX11_aCure_317 (by decide) ?_
                              refine lv_iload_n hx hb dX11_aCure_319 rfl (lv_at hl 1 rfl) ?_
                              refine lv_imul hx hb dX11_aCure_320 ?_
                              refine lv_topi (fun v1087 ev1087 => ?_)
                              have h := nm_some ev1087 h
                              refine lv_iconst (v := 3) hx hb dX11_aCure_321 (by decide) ?_
                              refine lv_iload_n hx hb dX11_aCure_322 rfl (lv_at hl 3 rfl) ?_
                              refine lv_imul hx hb dX11_aCure_323 ?_
                              refine lv_topi (fun v1088 ev1088 => ?_)
                              have h := nm_some ev1088 h
                              refine lv_iadd hx hb dX11_aCure_324 ?_
                              refine lv_topi (fun v1089 ev1089 => ?_)
                              have h := nm_some ev1089 h
                              refine lv_iload hx hb dX11_aCure_325 (lv_at hl 4 rfl) ?_
                              obtain ⟨g1090, h⟩ := gd_some h
                              refine x_si X hP hS (by decide) (dM_13) g1090 dX11_aCure_327 (fun σ1091 eσ1091 H locs hP hS => ?_)
                              have h := nm_some eσ1091 h
                              refine lv_aload_n hx hb dX11_aCure_328 rfl (lv_at hl 0 rfl) ?_
                              refine x_gr X hP (j := 15) (by decide) (dM_0) rfl rfl (by decide) in11 lk48 dX11_aCure_329 ?_
                              refine lv_bipush (v := 90) hx hb dX11_aCure_332 (by decide) ?_
                              refine lv_iload_n hx hb dX11_aCure_334 rfl (lv_at hl 1 rfl) ?_
                              refine lv_imul hx hb dX11_aCure_335 ?_
                              refine lv_topi (fun v1092 ev1092 => ?_)
                              have h := nm_some ev1092 h
                              refine lv_iconst (v := 3) hx hb dX11_aCure_336 (by decide) ?_
                              refine lv_iload_n hx hb dX11_aCure_337 rfl (lv_at hl 3 rfl) ?_
                              refine lv_imul hx hb dX11_aCure_338 ?_
                              refine lv_topi (fun v1093 ev1093 => ?_)
                              have h := nm_some ev1093 h
                              refine lv_iadd hx hb dX11_aCure_339 ?_
                              refine lv_topi (fun v1094 ev1094 => ?_)
                              have h := nm_some ev1094 h
                              refine lv_iconst (v := 1) hx hb dX11_aCure_340 (by decide) ?_
                              refine lv_iadd hx hb dX11_aCure_341 ?_
                              refine lv_topi (fun v1095 ev1095 => ?_)
                              have h := nm_some ev1095 h
                              refine lv_aload_n hx hb dX11_aCure_342 rfl (lv_at hl 0 rfl) ?_
                              refine x_gi X hP (j := 28) (by decide) (dM_0) rfl rfl (by decide) in11 lk204 dX11_aCure_343 ?_
                              obtain ⟨g1096, h⟩ := gd_some h
                              refine x_si X hP hS (by decide) (dM_13) g1096 dX11_aCure_346 (fun σ1097 eσ1097 H locs hP hS => ?_)
                              have h := nm_some eσ1097 h
                              refine lv_iload hx hb dX11_aCure_347 (lv_at hl 4 rfl) ?_
                              refine lv_iconst (v := 1) hx hb dX11_aCure_349 (by decide) ?_
                              have hJ384 : ∀ (q1098 : Int32) (q1099 : Int32) (q1100 : Int32) (q1101 : Int32) (σ1102 : St), j_11_aCure_384 n q1098 q1099 q1100 q1101 σ1102 = some rL21 → ∀ (H : Heap) (locs : List Loc) (ls : Array Slot), va_P D vwCl (ww dM 41 cA ad σ1102) H → va_S (inA 41 ad) s.heap H locs → lv_has ls 5 [(0, .ref (ad 0)), (1, .int q1098), (2, .int q1099), (3, .int q1100), (4, .int q1101)] → W p l e (headSpec wsX11_aCure rm_11_aCure).room s m args below meth c H locs 0 0 QQ (F0 m 384 ls []) := by
                                clear h hP hS hl
                                intro q1098 q1099 q1100 q1101 σ1102 h H locs ls hP hS hl
                                unfold j_11_aCure_384 at h
                                refine lv_iload hx hb dX11_aCure_384 (lv_at hl 4 rfl) ?_
                                refine lv_iconst (v := 4) hx hb dX11_aCure_386 (by decide) ?_
                                refine lv_icmp_eq (tgt := 393) hx hb dX11_aCure_387 (by decide) (fun c1117 => ?_) (fun c1117 => ?_)
                                · have h := it_t c1117 h
                                  refine lv_aload_n hx hb dX11_aCure_393 rfl (lv_at hl 0 rfl) ?_
                                  refine x_gi X hP (j := 20) (by decide) (dM_0) rfl rfl (by decide) in11 lk172 dX11_aCure_394 ?_
                                  refine lv_bipush (v := 40) hx hb dX11_aCure_397 (by decide) ?_
                                  refine lv_icmp_eq (tgt := 408) hx hb dX11_aCure_399 (by decide) (fun c1118 => ?_) (fun c1118 => ?_)
                                  · have h := it_t c1118 h
                                    refine lv_iload_n hx hb dX11_aCure_408 rfl (lv_at hl 2 rfl) ?_
                                    refine lv_iconst (v := 5) hx hb dX11_aCure_409 (by decide) ?_
                                    refine lv_icmp_ne (tgt := 419) hx hb dX11_aCure_410 (by decide) (fun c1119 => ?_) (fun c1119 => ?_)
                                    · have h := it_t c1119 h
                                      refine lv_aload_n hx hb dX11_aCure_419 rfl (lv_at hl 0 rfl) ?_
                                      refine x_gr X hP (j := 29) (by decide) (dM_0) rfl rfl (by decide) in11 lk58 dX11_aCure_420 ?_
                                      refine lv_iload_n hx hb dX11_aCure_423 rfl (lv_at hl 2 rfl) ?_
                                      refine lv_iload_n hx hb dX11_aCure_424 rfl (lv_at hl 3 rfl) ?_
                                      obtain ⟨g1120, h⟩ := gd_some h
                                      refine x_si X hP hS (by decide) (dM_15) g1120 dX11_aCure_425 (fun σ1121 eσ1121 H locs hP hS => ?_)
                                      have h := nm_some eσ1121 h
                                      obtain ⟨v1122, ev1122⟩ : ∃ y : Int32, y = q1099 + 1 := ⟨_, rfl⟩
                                      have h := nm_some ev1122 h
                                      refine lv_iinc (v := v1122) (lv' := [(2, .int v1122), (0, .ref (ad 0)), (1, .int q1098), (3, .int q1100), (4, .int q1101)]) hx hb dX11_aCure_426 hl (k := 2) rfl (by rw [ev1122]; rfl) (by decide) rfl (fun ls hl => ?_)
                                      refine lv_aload_n hx hb dX11_aCure_429 rfl (lv_at hl 1 rfl) ?_
                                      obtain ⟨r1123, k1124, h⟩ := bd_some h
                                      refine x_Vv (rest := []) X hP hS (k_11_next0 l D cA ad hj n σ1121  k1124) (by decide) (dM_0) rfl 0 gX11_aCure_X11_next0 rfl rfl rfl (by decide +kernel) ⟨Nat.le_of_ble_eq_true rfl, Nat.le_of_ble_eq_true rfl⟩ rfl hl.1 rfl (Nat.le_of_ble_eq_true rfl) dX11_aCure_430 ⟨Nat.zero_le _, Nat.zero_le _⟩ (fun H locs hP hS => ?_)
                                      refine lv_goto (tgt := 111) hx hb dX11_aCure_433 (by decide) ?_
                                      exact hCL21 _ (Option.some.inj h).symm H locs ls hP hS (lv_sub hl [1, 2, 0] rfl)
                                    · have h := it_f c1119 h
                                      refine lv_aload_n hx hb dX11_aCure_413 rfl (lv_at hl 0 rfl) ?_
                                      refine lv_iconst (v := 4) hx hb dX11_aCure_414 (by decide) ?_
                                      obtain ⟨r1125, k1126, h⟩ := bd_some h
                                      refine x_Vi (rest := []) X hP hS (k_11_bad l D cA ad hj n σ1102 4 k1126) (by decide) (dM_0) rfl 1 gX11_aCure_X11_bad rfl rfl rfl (by decide +kernel) ⟨Nat.le_of_ble_eq_true rfl, Nat.le_of_ble_eq_true rfl⟩ rfl hl.1 rfl (Nat.le_of_ble_eq_true rfl) dX11_aCure_415 ⟨Nat.zero_le _, Nat.zero_le _⟩ (fun H locs hP hS => ?_)
                                      obtain ⟨g1127, h⟩ := gd_some h
                                      subst hQQ
                                      exact x_rz X hr hlocks hP hS (isb_nar g1127) (hEL21 _ (Option.some.inj h).symm) dX11_aCure_418
                                  · have h := it_f c1118 h
                                    refine lv_aload_n hx hb dX11_aCure_402 rfl (lv_at hl 0 rfl) ?_
                                    refine lv_iconst (v := 1) hx hb dX11_aCure_403 (by decide) ?_
                                    obtain ⟨r1128, k1129, h⟩ := bd_some h
                                    refine x_Vi (rest := []) X hP hS (k_11_bad l D cA ad hj n σ1102 1 k1129) (by decide) (dM_0) rfl 1 gX11_aCure_X11_bad rfl rfl rfl (by decide +kernel) ⟨Nat.le_of_ble_eq_true rfl, Nat.le_of_ble_eq_true rfl⟩ rfl hl.1 rfl (Nat.le_of_ble_eq_true rfl) dX11_aCure_404 ⟨Nat.zero_le _, Nat.zero_le _⟩ (fun H locs hP hS => ?_)
                                    obtain ⟨g1130, h⟩ := gd_some h
                                    subst hQQ
                                    exact x_rz X hr hlocks hP hS (isb_nar g1130) (hEL21 _ (Option.some.inj h).symm) dX11_aCure_407
                                · have h := it_f c1117 h
                                  refine lv_goto (tgt := 111) hx hb dX11_aCure_390 (by decide) ?_
                                  exact hCL21 _ (Option.some.inj h).symm H locs ls hP hS (lv_sub hl [0, 1, 2] rfl)
                              refine lv_icmp_ne (tgt := 384) hx hb dX11_aCure_350 (by decide) (fun c1131 => ?_) (fun c1131 => ?_)
                              · have h := it_t c1131 h
                                exact hJ384 q1020 q1021 q1022 q1023  σ1097 h H locs ls hP hS (lv_sub hl [0, 1, 2, 3, 4] rfl)
                              · have h := it_f c1131 h
                                refine lv_aload_n hx hb dX11_aCure_353 rfl (lv_at hl 0 rfl) ?_
                                refine lv_iconst (v := 1) hx hb dX11_aCure_354 (by decide) ?_
                                refine lv_bipush (v := 16) hx hb dX11_aCure_355 (by decide) ?_
                                obtain ⟨r1132, k1133, h⟩ := bd_some h
                                refine x_Vi (rest := []) X hP hS (k_11_number l D cA ad hj n σ1097 1 16 k1133) (by decide) (dM_0) rfl 2 gX11_aCure_X11_number rfl rfl rfl (by decide +kernel) ⟨Nat.le_of_ble_eq_true rfl, Nat.le_of_ble_eq_true rfl⟩ rfl hl.1 rfl (Nat.le_of_ble_eq_true rfl) dX11_aCure_357 ⟨Nat.zero_le _, Nat.zero_le _⟩ (fun H locs hP hS => ?_)
                                refine lv_if_ne (tgt := 365) hx hb dX11_aCure_360 (by decide) (fun c1134 => ?_) (fun c1134 => ?_)
                                · have h := it_t c1134 h
                                  refine lv_aload_n hx hb dX11_aCure_365 rfl (lv_at hl 0 rfl) ?_
                                  refine x_gr X hP (j := 15) (by decide) (dM_0) rfl rfl (by decide) in11 lk48 dX11_aCure_366 ?_
                                  refine lv_bipush (v := 90) hx hb dX11_aCure_369 (by decide) ?_
                                  refine lv_iload_n hx hb dX11_aCure_371 rfl (lv_at hl 1 rfl) ?_
                                  refine lv_imul hx hb dX11_aCure_372 ?_
                                  refine lv_topi (fun v1135 ev1135 => ?_)
                                  have h := nm_some ev1135 h
                                  refine lv_iconst (v := 3) hx hb dX11_aCure_373 (by decide) ?_
                                  refine lv_iload_n hx hb dX11_aCure_374 rfl (lv_at hl 3 rfl) ?_
                                  refine lv_imul hx hb dX11_aCure_375 ?_
                                  refine lv_topi (fun v1136 ev1136 => ?_)
                                  have h := nm_some ev1136 h
                                  refine lv_iadd hx hb dX11_aCure_376 ?_
                                  refine lv_topi (fun v1137 ev1137 => ?_)
                                  have h := nm_some ev1137 h
                                  refine lv_iconst (v := 2) hx hb dX11_aCure_377 (by decide) ?_
                                  refine lv_iadd hx hb dX11_aCure_378 ?_
                                  refine lv_topi (fun v1138 ev1138 => ?_)
                                  have h := nm_some ev1138 h
                                  refine lv_aload_n hx hb dX11_aCure_379 rfl (lv_at hl 0 rfl) ?_
                                  refine x_gi X hP (j := 28) (by decide) (dM_0) rfl rfl (by decide) in11 lk204 dX11_aCure_380 ?_
                                  obtain ⟨g1139, h⟩ := gd_some h
                                  refine x_si X hP hS (by decide) (dM_13) g1139 dX11_aCure_383 (fun σ1140 eσ1140 H locs hP hS => ?_)
                                  have h := nm_some eσ1140 h
                                  exact hJ384 q1020 q1021 q1022 q1023  σ1140 h H locs ls hP hS (lv_sub hl [0, 1, 2, 3, 4] rfl)
                                · have h := it_f c1134 h
                                  refine lv_iconst (v := 0) hx hb dX11_aCure_363 (by decide) ?_
                                  subst hQQ
                                  exact x_rz X hr hlocks hP hS (by decide +kernel) (hEL21 _ (Option.some.inj h).symm) dX11_aCure_364
                            · have h := it_f c1086 h
                              refine lv_iconst (v := 0) hx hb dX11_aCure_311 (by decide) ?_
                              subst hQQ
                              exact x_rz X hr hlocks hP hS (by decide +kernel) (hEL21 _ (Option.some.inj h).symm) dX11_aCure_312
                          refine lv_if_ne (tgt := 271) hx hb dX11_aCure_264 (by decide) (fun c1141 => ?_) (fun c1141 => ?_)
                          · have h := it_t c1141 h
                            refine lv_iload hx hb dX11_aCure_271 (lv_at hl 4 rfl) ?_
                            refine lv_iconst (v := 1) hx hb dX11_aCure_273 (by decide) ?_
                            refine lv_icmp_ne (tgt := 281) hx hb dX11_aCure_274 (by decide) (fun c1142 => ?_) (fun c1142 => ?_)
                            · have h := it_t c1142 h
                              refine lv_iload hx hb dX11_aCure_281 (lv_at hl 4 rfl) ?_
                              refine lv_iconst (v := 2) hx hb dX11_aCure_283 (by decide) ?_
                              refine lv_icmp_ne (tgt := 292) hx hb dX11_aCure_284 (by decide) (fun c1143 => ?_) (fun c1143 => ?_)
                              · have h := it_t c1143 h
                                refine lv_iload hx hb dX11_aCure_292 (lv_at hl 4 rfl) ?_
                                refine lv_iconst (v := 3) hx hb dX11_aCure_294 (by decide) ?_
                                refine lv_icmp_ne (tgt := 303) hx hb dX11_aCure_295 (by decide) (fun c1144 => ?_) (fun c1144 => ?_)
                                · have h := it_t c1144 h
                                  refine lv_bipush (v := 9) hx hb dX11_aCure_303 (by decide) ?_
                                  exact hJ305 q889 q890 q891 q892 9 w893 σ894 h H locs ls hP hS (lv_sub hl [0, 1, 2, 3, 4] rfl)
                                · have h := it_f c1144 h
                                  refine lv_bipush (v := 47) hx hb dX11_aCure_298 (by decide) ?_
                                  refine lv_goto (tgt := 305) hx hb dX11_aCure_300 (by decide) ?_
                                  exact hJ305 q889 q890 q891 q892 47 w893 σ894 h H locs ls hP hS (lv_sub hl [0, 1, 2, 3, 4] rfl)
                              · have h := it_f c1143 h
                                refine lv_bipush (v := 16) hx hb dX11_aCure_287 (by decide) ?_
                                refine lv_goto (tgt := 305) hx hb dX11_aCure_289 (by decide) ?_
                                exact hJ305 q889 q890 q891 q892 16 w893 σ894 h H locs ls hP hS (lv_sub hl [0, 1, 2, 3, 4] rfl)
                            · have h := it_f c1142 h
                              refine lv_iconst (v := 2) hx hb dX11_aCure_277 (by decide) ?_
                              refine lv_goto (tgt := 305) hx hb dX11_aCure_278 (by decide) ?_
                              exact hJ305 q889 q890 q891 q892 2 w893 σ894 h H locs ls hP hS (lv_sub hl [0, 1, 2, 3, 4] rfl)
                          · have h := it_f c1141 h
                            refine lv_iconst (v := 3) hx hb dX11_aCure_267 (by decide) ?_
                            refine lv_goto (tgt := 305) hx hb dX11_aCure_268 (by decide) ?_
                            exact hJ305 q889 q890 q891 q892 3 w893 σ894 h H locs ls hP hS (lv_sub hl [0, 1, 2, 3, 4] rfl)
                        refine lv_icmp_eq (tgt := 257) hx hb dX11_aCure_248 (by decide) (fun c1145 => ?_) (fun c1145 => ?_)
                        · have h := it_t c1145 h
                          refine lv_iconst (v := 1) hx hb dX11_aCure_257 (by decide) ?_
                          refine lv_goto (tgt := 262) hx hb dX11_aCure_258 (by decide) ?_
                          exact hJ262 q596 q597 v883 v884 1 r887 h H locs ls hP hS (lv_sub hl [2, 3, 4, 1, 0] rfl)
                        · have h := it_f c1145 h
                          refine lv_iload hx hb dX11_aCure_251 (lv_at hl 0 rfl) ?_
                          refine lv_iconst (v := 4) hx hb dX11_aCure_253 (by decide) ?_
                          refine lv_icmp_ne (tgt := 261) hx hb dX11_aCure_254 (by decide) (fun c1146 => ?_) (fun c1146 => ?_)
                          · have h := it_t c1146 h
                            refine lv_iconst (v := 0) hx hb dX11_aCure_261 (by decide) ?_
                            exact hJ262 q596 q597 v883 v884 0 r887 h H locs ls hP hS (lv_sub hl [2, 3, 4, 1, 0] rfl)
                          · have h := it_f c1146 h
                            refine lv_iconst (v := 1) hx hb dX11_aCure_257 (by decide) ?_
                            refine lv_goto (tgt := 262) hx hb dX11_aCure_258 (by decide) ?_
                            exact hJ262 q596 q597 v883 v884 1 r887 h H locs ls hP hS (lv_sub hl [2, 3, 4, 1, 0] rfl)
                      · have h := it_f c882 h
                        refine lv_aload_n hx hb dX11_aCure_208 rfl (lv_at hl 0 rfl) ?_
                        refine lv_iconst (v := 4) hx hb dX11_aCure_209 (by decide) ?_
                        obtain ⟨r1147, k1148, h⟩ := bd_some h
                        refine x_Vi (rest := []) X hP hS (k_11_bad l D cA ad hj n σ598 4 k1148) (by decide) (dM_0) rfl 1 gX11_aCure_X11_bad rfl rfl rfl (by decide +kernel) ⟨Nat.le_of_ble_eq_true rfl, Nat.le_of_ble_eq_true rfl⟩ rfl hl.1 rfl (Nat.le_of_ble_eq_true rfl) dX11_aCure_210 ⟨Nat.zero_le _, Nat.zero_le _⟩ (fun H locs hP hS => ?_)
                        obtain ⟨g1149, h⟩ := gd_some h
                        subst hQQ
                        exact x_rz X hr hlocks hP hS (isb_nar g1149) (hEL21 _ (Option.some.inj h).symm) dX11_aCure_213
                    · have h := it_f c880 h
                      refine lv_aload_n hx hb dX11_aCure_191 rfl (lv_at hl 0 rfl) ?_
                      refine lv_iconst (v := 1) hx hb dX11_aCure_192 (by decide) ?_
                      obtain ⟨r1150, k1151, h⟩ := bd_some h
                      refine x_Vi (rest := []) X hP hS (k_11_bad l D cA ad hj n σ598 1 k1151) (by decide) (dM_0) rfl 1 gX11_aCure_X11_bad rfl rfl rfl (by decide +kernel) ⟨Nat.le_of_ble_eq_true rfl, Nat.le_of_ble_eq_true rfl⟩ rfl hl.1 rfl (Nat.le_of_ble_eq_true rfl) dX11_aCure_193 ⟨Nat.zero_le _, Nat.zero_le _⟩ (fun H locs hP hS => ?_)
                      obtain ⟨g1152, h⟩ := gd_some h
                      subst hQQ
                      exact x_rz X hr hlocks hP hS (isb_nar g1152) (hEL21 _ (Option.some.inj h).symm) dX11_aCure_196
                refine lv_if_le (tgt := 173) hx hb dX11_aCure_125 (by decide) (fun c1153 => ?_) (fun c1153 => ?_)
                · have h := it_t c1153 h
                  exact hJ173 q23 q24  σ25 h H locs ls hP hS (lv_sub hl [0, 1, 2] rfl)
                · have h := it_f c1153 h
                  refine lv_aload_n hx hb dX11_aCure_128 rfl (lv_at hl 0 rfl) ?_
                  refine x_gi X hP (j := 20) (by decide) (dM_0) rfl rfl (by decide) in11 lk172 dX11_aCure_129 ?_
                  refine lv_bipush (v := 41) hx hb dX11_aCure_132 (by decide) ?_
                  refine lv_icmp_ne (tgt := 173) hx hb dX11_aCure_134 (by decide) (fun c1154 => ?_) (fun c1154 => ?_)
                  · have h := it_t c1154 h
                    exact hJ173 q23 q24  σ25 h H locs ls hP hS (lv_sub hl [0, 1, 2] rfl)
                  · have h := it_f c1154 h
                    obtain ⟨v1155, ev1155⟩ : ∃ y : Int32, y = q24 + (-1) := ⟨_, rfl⟩
                    have h := nm_some ev1155 h
                    refine lv_iinc (v := v1155) (lv' := [(2, .int v1155), (0, .ref (ad 0)), (1, .int q23)]) hx hb dX11_aCure_137 hl (k := 2) rfl (by rw [ev1155]; rfl) (by decide) rfl (fun ls hl => ?_)
                    refine lv_aload_n hx hb dX11_aCure_140 rfl (lv_at hl 1 rfl) ?_
                    refine x_gr X hP (j := 15) (by decide) (dM_0) rfl rfl (by decide) in11 lk48 dX11_aCure_141 ?_
                    refine lv_bipush (v := 90) hx hb dX11_aCure_144 (by decide) ?_
                    refine lv_iload_n hx hb dX11_aCure_146 rfl (lv_at hl 2 rfl) ?_
                    refine lv_imul hx hb dX11_aCure_147 ?_
                    refine lv_topi (fun v1156 ev1156 => ?_)
                    have h := nm_some ev1156 h
                    refine lv_iconst (v := 3) hx hb dX11_aCure_148 (by decide) ?_
                    refine lv_aload_n hx hb dX11_aCure_149 rfl (lv_at hl 1 rfl) ?_
                    refine x_gr X hP (j := 29) (by decide) (dM_0) rfl rfl (by decide) in11 lk58 dX11_aCure_150 ?_
                    refine lv_iload_n hx hb dX11_aCure_153 rfl (lv_at hl 0 rfl) ?_
                    obtain ⟨g1157, h⟩ := gd_some h
                    refine x_ai X hP (by decide) (dM_15) g1157 dX11_aCure_154 ?_
                    refine lv_imul hx hb dX11_aCure_155 ?_
                    refine lv_topi (fun v1158 ev1158 => ?_)
                    have h := nm_some ev1158 h
                    refine lv_iadd hx hb dX11_aCure_156 ?_
                    refine lv_topi (fun v1159 ev1159 => ?_)
                    have h := nm_some ev1159 h
                    refine lv_iconst (v := 2) hx hb dX11_aCure_157 (by decide) ?_
                    refine lv_iadd hx hb dX11_aCure_158 ?_
                    refine lv_topi (fun v1160 ev1160 => ?_)
                    have h := nm_some ev1160 h
                    refine lv_aload_n hx hb dX11_aCure_159 rfl (lv_at hl 1 rfl) ?_
                    refine x_gr X hP (j := 14) (by decide) (dM_0) rfl rfl (by decide) in11 lk45 dX11_aCure_160 ?_
                    refine lv_iload_n hx hb dX11_aCure_163 rfl (lv_at hl 2 rfl) ?_
                    obtain ⟨g1161, h⟩ := gd_some h
                    refine x_ai X hP (by decide) (dM_12) g1161 dX11_aCure_164 ?_
                    obtain ⟨g1162, h⟩ := gd_some h
                    refine x_si X hP hS (by decide) (dM_13) g1162 dX11_aCure_165 (fun σ1163 eσ1163 H locs hP hS => ?_)
                    have h := nm_some eσ1163 h
                    refine lv_aload_n hx hb dX11_aCure_166 rfl (lv_at hl 1 rfl) ?_
                    obtain ⟨r1164, k1165, h⟩ := bd_some h
                    refine x_Vv (rest := []) X hP hS (k_11_next0 l D cA ad hj n σ1163  k1165) (by decide) (dM_0) rfl 0 gX11_aCure_X11_next0 rfl rfl rfl (by decide +kernel) ⟨Nat.le_of_ble_eq_true rfl, Nat.le_of_ble_eq_true rfl⟩ rfl hl.1 rfl (Nat.le_of_ble_eq_true rfl) dX11_aCure_167 ⟨Nat.zero_le _, Nat.zero_le _⟩ (fun H locs hP hS => ?_)
                    refine lv_goto (tgt := 111) hx hb dX11_aCure_170 (by decide) ?_
                    exact hCL21 _ (Option.some.inj h).symm H locs ls hP hS (lv_sub hl [1, 2, 0] rfl)
              refine lv_if_gt (tgt := 124) hx hb dX11_aCure_112 (by decide) (fun c1166 => ?_) (fun c1166 => ?_)
              · have h := it_t c1166 h
                exact hJ124 v2 t22.1  t22.2 h H locs ls hP hS (lv_sub hl [0, 1, 2] rfl)
              · have h := it_f c1166 h
                refine lv_aload_n hx hb dX11_aCure_115 rfl (lv_at hl 0 rfl) ?_
                refine x_gi X hP (j := 20) (by decide) (dM_0) rfl rfl (by decide) in11 lk172 dX11_aCure_116 ?_
                refine lv_bipush (v := 59) hx hb dX11_aCure_119 (by decide) ?_
                refine lv_icmp_eq (tgt := 436) hx hb dX11_aCure_121 (by decide) (fun c1167 => ?_) (fun c1167 => ?_)
                · have h := it_t c1167 h
                  exact hEL21 _ (Option.some.inj h).symm H locs ls hP hS (lv_sub hl [0, 1, 2] rfl)
                · have h := it_f c1167 h
                  exact hJ124 v2 t22.1  t22.2 h H locs ls hP hS (lv_sub hl [0, 1, 2] rfl)
            · rcases y2169 with rr | t2168
              · have h := el_l h
                exact (Option.some.inj h)
              · have h := el_r h
                intro H locs ls hP hS hl
                refine lv_aload_n hx hb dX11_aCure_436 rfl (lv_at hl 0 rfl) ?_
                obtain ⟨r2171, k2172, h⟩ := bd_some h
                refine x_Vv (rest := []) X hP hS (k_11_next0 l D cA ad hj n t2168.2  k2172) (by decide) (dM_0) rfl 0 gX11_aCure_X11_next0 rfl rfl rfl (by decide +kernel) ⟨Nat.le_of_ble_eq_true rfl, Nat.le_of_ble_eq_true rfl⟩ rfl hl.1 rfl (Nat.le_of_ble_eq_true rfl) dX11_aCure_437 ⟨Nat.zero_le _, Nat.zero_le _⟩ (fun H locs hP hS => ?_)
                refine lv_iconst (v := 1) hx hb dX11_aCure_440 (by decide) ?_
                subst hQQ
                exact x_rz X hr hlocks hP hS (by decide +kernel) (Option.some.inj h) dX11_aCure_441
          · have h := it_f c20 h
            refine lv_iconst (v := 0) hx hb dX11_aCure_107 (by decide) ?_
            subst hQQ
            exact x_rz X hr hlocks hP hS (by decide +kernel) (Option.some.inj h) dX11_aCure_108
        · have h := it_f c10 h
          refine lv_aload_n hx hb dX11_aCure_61 rfl (lv_at hl 1 rfl) ?_
          refine lv_iconst (v := 2) hx hb dX11_aCure_62 (by decide) ?_
          obtain ⟨r2173, k2174, h⟩ := bd_some h
          refine x_Vi (rest := []) X hP hS (k_11_bad l D cA ad hj n r8.2 2 k2174) (by decide) (dM_0) rfl 1 gX11_aCure_X11_bad rfl rfl rfl (by decide +kernel) ⟨Nat.le_of_ble_eq_true rfl, Nat.le_of_ble_eq_true rfl⟩ rfl hl.1 rfl (Nat.le_of_ble_eq_true rfl) dX11_aCure_63 ⟨Nat.zero_le _, Nat.zero_le _⟩ (fun H locs hP hS => ?_)
          obtain ⟨g2175, h⟩ := gd_some h
          subst hQQ
          exact x_rz X hr hlocks hP hS (isb_nar g2175) (Option.some.inj h) dX11_aCure_66
      · have h := it_f c7 h
        refine lv_aload_n hx hb dX11_aCure_48 rfl (lv_at hl 1 rfl) ?_
        refine lv_iconst (v := 1) hx hb dX11_aCure_49 (by decide) ?_
        obtain ⟨r2176, k2177, h⟩ := bd_some h
        refine x_Vi (rest := []) X hP hS (k_11_bad l D cA ad hj n r5 1 k2177) (by decide) (dM_0) rfl 1 gX11_aCure_X11_bad rfl rfl rfl (by decide +kernel) ⟨Nat.le_of_ble_eq_true rfl, Nat.le_of_ble_eq_true rfl⟩ rfl hl.1 rfl (Nat.le_of_ble_eq_true rfl) dX11_aCure_50 ⟨Nat.zero_le _, Nat.zero_le _⟩ (fun H locs hP hS => ?_)
        obtain ⟨g2178, h⟩ := gd_some h
        subst hQQ
        exact x_rz X hr hlocks hP hS (isb_nar g2178) (Option.some.inj h) dX11_aCure_53
    · have h := it_f c4 h
      refine lv_aload_n hx hb dX11_aCure_30 rfl (lv_at hl 1 rfl) ?_
      refine lv_iconst (v := 4) hx hb dX11_aCure_31 (by decide) ?_
      obtain ⟨r2179, k2180, h⟩ := bd_some h
      refine x_Vi (rest := []) X hP hS (k_11_bad l D cA ad hj n σ 4 k2180) (by decide) (dM_0) rfl 1 gX11_aCure_X11_bad rfl rfl rfl (by decide +kernel) ⟨Nat.le_of_ble_eq_true rfl, Nat.le_of_ble_eq_true rfl⟩ rfl hl.1 rfl (Nat.le_of_ble_eq_true rfl) dX11_aCure_32 ⟨Nat.zero_le _, Nat.zero_le _⟩ (fun H locs hP hS => ?_)
      obtain ⟨g2181, h⟩ := gd_some h
      subst hQQ
      exact x_rz X hr hlocks hP hS (isb_nar g2181) (Option.some.inj h) dX11_aCure_35
  · have h := it_f c1 h
    refine lv_aload_n hx hb dX11_aCure_8 rfl (lv_at hl 0 rfl) ?_
    refine lv_iconst (v := 1) hx hb dX11_aCure_9 (by decide) ?_
    obtain ⟨r2182, k2183, h⟩ := bd_some h
    refine x_Vi (rest := []) X hP hS (k_11_bad l D cA ad hj n σ 1 k2183) (by decide) (dM_0) rfl 1 gX11_aCure_X11_bad rfl rfl rfl (by decide +kernel) ⟨Nat.le_of_ble_eq_true rfl, Nat.le_of_ble_eq_true rfl⟩ rfl hl.1 rfl (Nat.le_of_ble_eq_true rfl) dX11_aCure_10 ⟨Nat.zero_le _, Nat.zero_le _⟩ (fun H locs hP hS => ?_)
    obtain ⟨g2184, h⟩ := gd_some h
    subst hQQ
    exact x_rz X hr hlocks hP hS (isb_nar g2184) (Option.some.inj h) dX11_aCure_13
def b_11_load_21 (n : Nat)  (t7 : Int32 × St) : Option ((Int32 × St) ⊕ (Int32 × St)) :=
  if t7.1 = 0 then
    some (.inr (t7.1, t7.2))
  else
    if (t7.2.1 0 20) = 0 then
      some (.inr (t7.1, t7.2))
    else
      (f_11_aCure n t7.2 ).bind fun r10 =>
      some (.inl (r10.1, r10.2))
def b_11_load_117 (n : Nat) (a2 : Int32) (t1031 : Int32 × St) : Option ((Int32 × St) ⊕ (Int32 × St)) :=
  if 90 ≤ t1031.1 then
    some (.inr (t1031.1, t1031.2))
  else
    nm (90 * (t1031.2.1 0 2)) fun v1033 =>
    nm (v1033 + t1031.1) fun v1034 =>
    nm (90 * a2) fun v1035 =>
    nm (v1035 + t1031.1) fun v1036 =>
    gd (inb v1036 720) <| gd (inb v1034 720) <| nm (si t1031.2 11 (v1034.toNatClampNeg) (t1031.2.1 13 v1036.toNatClampNeg)) fun σ1039 =>
    nm (t1031.1 + 1) fun v1040 =>
    some (.inl (v1040, σ1039))
def b_11_load_77 (n : Nat)  (t1023 : Int32 × St) : Option ((Int32 × St) ⊕ (Int32 × St)) :=
  if (t1023.2.1 0 16) ≤ t1023.1 then
    some (.inr (t1023.1, t1023.2))
  else
    gd (inb t1023.1 8) <| gd (inb (t1023.2.1 0 2) 8) <| nm (sl t1023.2 8 ((t1023.2.1 0 2).toNatClampNeg) (t1023.2.2 9 t1023.1.toNatClampNeg)) fun σ1027 =>
    gd (inb (σ1027.1 0 2) 8) <| nm (si σ1027 10 ((σ1027.1 0 2).toNatClampNeg) (σ1027.1 12 t1023.1.toNatClampNeg)) fun σ1029 =>
    (lq (b_11_load_117 n t1023.1) n (0, σ1029)).bind fun t2041 =>
    nm ((t2041.2.1 0 2) + 1) fun v2044 =>
    nm (si t2041.2 0 2 v2044) fun σ2045 =>
    nm (t1023.1 + 1) fun v2046 =>
    some (.inl (v2046, σ2045))
def j_11_load_66 (n : Nat) (a1 : Int32) (w0_ : Int32) (σ : St) : Option (Int32 × St) :=
  nm (si σ 0 26 w0_) fun σ1020 =>
  if ¬ a1 = 0 then
    (lq (b_11_load_77 n ) n (0, σ1020)).bind fun t3047 =>
    some ((t3047.2.1 0 2), t3047.2)
  else
    some ((-1), σ1020)
def f_11_load (n : Nat) (σ : St)  : Option (Int32 × St) :=
  nm (si σ 0 23 0) fun σ1 =>
  nm (si σ1 0 19 0) fun σ2 =>
  nm (si σ2 0 16 0) fun σ3 =>
  (f_11_next0 n σ3 ).bind fun r4 =>
  (lq (b_11_load_21 n ) n (1, r4)).bind fun t1012 =>
  nm (si t1012.2 0 18 0) fun σ1015 =>
  nm (si σ1015 0 25 (σ1015.1 0 23)) fun σ1016 =>
  if t1012.1 = 0 then
    j_11_load_66 n t1012.1 (σ1016.1 0 24) σ1016
  else
    j_11_load_66 n t1012.1 (-1) σ1016
abbrev rm_11_load : Room := { frames := 6, cells := 0, slots := 0, locals := 131 }
set_option maxRecDepth 100000 in
set_option maxHeartbeats 4000000 in
theorem k_11_load (l : Launch) (D : va_G) (cA : Nat → ClassId) (ad : Nat → Nat) (hj : inj 41 ad) (n : Nat) (σ : St)   {res : Int32 × St} (h : f_11_load n σ  = some res) : MXi l D dM 41 cA ad ET yX11_load wsX11_load rm_11_load [.ref (ad 0)] σ res := by
  refine Met.ofW (cc := cX11_load) (maxL := 4) (ret := (some .int)) (by decide) rfl ?_
  intro p e s m args below meth c s₁ B hml hv
  obtain ⟨hargs, hP, hK, hE⟩ := hv
  have hx := B.exec
  have hb := B.bytes
  have hr := B.returns
  have hts := atoms_spec (ws := wsX11_load) B.pre
  have hown : s.vm.findClass RX11 = some m.cls := findClass_of_methodNamed B.named
  have hlocks := B.notSynchronized
  have X : Cx p s m args c cX11_load 4 RX11 wsX11_load D dM 41 cA ad ET := ⟨hx, hb, hml, hown, hts, hK, hj, hE, ET_ok⟩
  have hS : va_S (inA 41 ad) s.heap s.heap [] := va_S.rf
  have hl := lv_entry ([.ref (ad 0)]) (n := 4) (Nat.le_of_ble_eq_true rfl)
  rw [show entryFrame m args 4 = entryFrame m ([.ref (ad 0)] : List Value).toArray 4 by rw [hargs]]
  rw [lg_entry_eq]
  generalize (lg_sl ([.ref (ad 0)]) ++ List.replicate (4 - (lg_sl ([.ref (ad 0)])).length) Slot.unset).toArray = ls at hl ⊢
  have hl : lv_has ls 4 [(0, .ref (ad 0))] := hl
  obtain ⟨QQ, hQQ⟩ : ∃ Q, Q = MQ below (va_Qi (fun r u => r = res.1 ∧ u = res.2) (fun u t => va_P D vwCl (ww dM 41 cA ad u) t.heap) (inA 41 ad)) args s 0 0 (inA 41 ad) := ⟨_, rfl⟩
  show W p l e (headSpec wsX11_load rm_11_load).room s m args below meth c s.heap [] 0 0 (MQ below (va_Qi (fun r u => r = res.1 ∧ u = res.2) (fun u t => va_P D vwCl (ww dM 41 cA ad u) t.heap) (inA 41 ad)) args s 0 0 (inA 41 ad)) _
  rw [← hQQ]
  have in11 : ∀ w ∈ wsX110, w ∈ wsX11_load := by decide +kernel
  have lk192 : Cond.fieldLink RX11 192 "CureTownModel" "wrong" "I" ∈ wsX11_load := by decide +kernel
  have lk162 : Cond.fieldLink RX11 162 "CureTownModel" "at" "I" ∈ wsX11_load := by decide +kernel
  have lk210 : Cond.fieldLink RX11 210 "CureTownModel" "freshRegimens" "I" ∈ wsX11_load := by decide +kernel
  have lk172 : Cond.fieldLink RX11 172 "CureTownModel" "token" "I" ∈ wsX11_load := by decide +kernel
  have lk144 : Cond.fieldLink RX11 144 "CureTownModel" "taped" "I" ∈ wsX11_load := by decide +kernel
  have lk227 : Cond.fieldLink RX11 227 "CureTownModel" "faultKind" "I" ∈ wsX11_load := by decide +kernel
  have lk54 : Cond.fieldLink RX11 54 "CureTownModel" "faultPlace" "I" ∈ wsX11_load := by decide +kernel
  have lk32 : Cond.fieldLink RX11 32 "CureTownModel" "name" "[J" ∈ wsX11_load := by decide +kernel
  have lk207 : Cond.fieldLink RX11 207 "CureTownModel" "regimens" "I" ∈ wsX11_load := by decide +kernel
  have lk36 : Cond.fieldLink RX11 36 "CureTownModel" "freshName" "[J" ∈ wsX11_load := by decide +kernel
  have lk39 : Cond.fieldLink RX11 39 "CureTownModel" "many" "[I" ∈ wsX11_load := by decide +kernel
  have lk45 : Cond.fieldLink RX11 45 "CureTownModel" "freshMany" "[I" ∈ wsX11_load := by decide +kernel
  have lk42 : Cond.fieldLink RX11 42 "CureTownModel" "step" "[I" ∈ wsX11_load := by decide +kernel
  have lk48 : Cond.fieldLink RX11 48 "CureTownModel" "fresh" "[I" ∈ wsX11_load := by decide +kernel
  have lk195 : Cond.fieldLink RX11 195 "CureTownModel" "wrongAt" "I" ∈ wsX11_load := by decide +kernel
  unfold f_11_load at h
  obtain ⟨H, hH⟩ : ∃ H, H = s.heap := ⟨_, rfl⟩
  obtain ⟨locs, hlc⟩ : ∃ q : List Loc, q = [] := ⟨_, rfl⟩
  have hP : va_P D vwCl (ww dM 41 cA ad σ) s.heap := hP
  have hS : va_S (inA 41 ad) s.heap s.heap [] := hS
  rw [← hlc] at hS ⊢
  rw [show W p l e (headSpec wsX11_load rm_11_load).room s m args below meth c s.heap locs 0 0 QQ = W p l e (headSpec wsX11_load rm_11_load).room s m args below meth c H locs 0 0 QQ by rw [hH]]
  have hS : va_S (inA 41 ad) s.heap H locs := by rw [hH]; exact hS
  have hP : va_P D vwCl (ww dM 41 cA ad σ) H := by rw [hH]; exact hP
  clear hH hlc
  refine lv_aload_n hx hb dX11_load_0 rfl (lv_at hl 0 rfl) ?_
  refine lv_iconst (v := 0) hx hb dX11_load_1 (by decide) ?_
  refine x_pi X hP hS (j := 23) (by decide) (dM_0) rfl rfl (by decide) in11 tyX11_ok nmX11 lk192 rfl rfl rfl rfl dX11_load_2 (fun σ1 eσ1 H locs hP hS => ?_)
  have h := nm_some eσ1 h
  refine lv_aload_n hx hb dX11_load_5 rfl (lv_at hl 0 rfl) ?_
  refine lv_iconst (v := 0) hx hb dX11_load_6 (by decide) ?_
  refine x_pi X hP hS (j := 19) (by decide) (dM_0) rfl rfl (by decide) in11 tyX11_ok nmX11 lk162 rfl rfl rfl rfl dX11_load_7 (fun σ2 eσ2 H locs hP hS => ?_)
  have h := nm_some eσ2 h
  refine lv_aload_n hx hb dX11_load_10 rfl (lv_at hl 0 rfl) ?_
  refine lv_iconst (v := 0) hx hb dX11_load_11 (by decide) ?_
  refine x_pi X hP hS (j := 16) (by decide) (dM_0) rfl rfl (by decide) in11 tyX11_ok nmX11 lk210 rfl rfl rfl rfl dX11_load_12 (fun σ3 eσ3 H locs hP hS => ?_)
  have h := nm_some eσ3 h
  refine lv_aload_n hx hb dX11_load_15 rfl (lv_at hl 0 rfl) ?_
  obtain ⟨r4, k5, h⟩ := bd_some h
  refine x_Vv (rest := []) X hP hS (k_11_next0 l D cA ad hj n σ3  k5) (by decide) (dM_0) rfl 0 gX11_load_X11_next0 rfl rfl rfl (by decide +kernel) ⟨Nat.le_of_ble_eq_true rfl, Nat.le_of_ble_eq_true rfl⟩ rfl hl.1 rfl (Nat.le_of_ble_eq_true rfl) dX11_load_16 ⟨Nat.zero_le _, Nat.zero_le _⟩ (fun H locs hP hS => ?_)
  refine lv_iconst (v := 1) hx hb dX11_load_19 (by decide) ?_
  refine lv_istore_n (lv' := [(1, .int 1), (0, .ref (ad 0))]) hx hb dX11_load_20 rfl hl (by decide) rfl (fun ls hl => ?_)
  obtain ⟨t1012, o1014, h⟩ := bd_some h
  refine lq_rule (P := fun t7 : Int32 × St => ∀ (H : Heap) (locs : List Loc) (ls : Array Slot), va_P D vwCl (ww dM 41 cA ad t7.2) H → va_S (inA 41 ad) s.heap H locs → lv_has ls 4 [(0, .ref (ad 0)), (1, .int t7.1)] → W p l e (headSpec wsX11_load rm_11_load).room s m args below meth c H locs 0 0 QQ (F0 m 21 ls [])) (X := fun t1012 : Int32 × St => ∀ (H : Heap) (locs : List Loc) (ls : Array Slot), va_P D vwCl (ww dM 41 cA ad t1012.2) H → va_S (inA 41 ad) s.heap H locs → lv_has ls 4 [(0, .ref (ad 0)), (1, .int t1012.1)] → W p l e (headSpec wsX11_load rm_11_load).room s m args below meth c H locs 0 0 QQ (F0 m 40 ls [])) ?_ n _ _ o1014 ?_ H locs ls hP hS (lv_sub hl [1, 0] rfl)
  · clear h hP hS hl
    intro t7 rL6 h hCL6 hEL6 H locs ls hP hS hl
    unfold b_11_load_21 at h
    refine lv_iload_n hx hb dX11_load_21 rfl (lv_at hl 1 rfl) ?_
    refine lv_if_eq (tgt := 40) hx hb dX11_load_22 (by decide) (fun c8 => ?_) (fun c8 => ?_)
    · have h := it_t c8 h
      exact hEL6 _ (Option.some.inj h).symm H locs ls hP hS (lv_sub hl [0, 1] rfl)
    · have h := it_f c8 h
      refine lv_aload_n hx hb dX11_load_25 rfl (lv_at hl 0 rfl) ?_
      refine x_gi X hP (j := 20) (by decide) (dM_0) rfl rfl (by decide) in11 lk172 dX11_load_26 ?_
      refine lv_if_eq (tgt := 40) hx hb dX11_load_29 (by decide) (fun c9 => ?_) (fun c9 => ?_)
      · have h := it_t c9 h
        exact hEL6 _ (Option.some.inj h).symm H locs ls hP hS (lv_sub hl [0, 1] rfl)
      · have h := it_f c9 h
        refine lv_aload_n hx hb dX11_load_32 rfl (lv_at hl 0 rfl) ?_
        obtain ⟨r10, k11, h⟩ := bd_some h
        refine x_Vi (rest := []) X hP hS (k_11_aCure l D cA ad hj n t7.2  k11) (by decide) (dM_0) rfl 0 gX11_load_X11_aCure rfl rfl rfl (by decide +kernel) ⟨Nat.le_of_ble_eq_true rfl, Nat.le_of_ble_eq_true rfl⟩ rfl hl.1 rfl (Nat.le_of_ble_eq_true rfl) dX11_load_33 ⟨Nat.zero_le _, Nat.zero_le _⟩ (fun H locs hP hS => ?_)
        refine lv_istore_n (lv' := [(1, .int r10.1), (0, .ref (ad 0))]) hx hb dX11_load_36 rfl hl (by decide) rfl (fun ls hl => ?_)
        refine lv_goto (tgt := 21) hx hb dX11_load_37 (by decide) ?_
        exact hCL6 _ (Option.some.inj h).symm H locs ls hP hS (lv_sub hl [1, 0] rfl)
  · intro H locs ls hP hS hl
    refine lv_aload_n hx hb dX11_load_40 rfl (lv_at hl 0 rfl) ?_
    refine lv_iconst (v := 0) hx hb dX11_load_41 (by decide) ?_
    refine x_pi X hP hS (j := 18) (by decide) (dM_0) rfl rfl (by decide) in11 tyX11_ok nmX11 lk144 rfl rfl rfl rfl dX11_load_42 (fun σ1015 eσ1015 H locs hP hS => ?_)
    have h := nm_some eσ1015 h
    refine lv_aload_n hx hb dX11_load_45 rfl (lv_at hl 0 rfl) ?_
    refine lv_aload_n hx hb dX11_load_46 rfl (lv_at hl 0 rfl) ?_
    refine x_gi X hP (j := 23) (by decide) (dM_0) rfl rfl (by decide) in11 lk192 dX11_load_47 ?_
    refine x_pi X hP hS (j := 25) (by decide) (dM_0) rfl rfl (by decide) in11 tyX11_ok nmX11 lk227 rfl rfl rfl rfl dX11_load_50 (fun σ1016 eσ1016 H locs hP hS => ?_)
    have h := nm_some eσ1016 h
    refine lv_aload_n hx hb dX11_load_53 rfl (lv_at hl 0 rfl) ?_
    refine lv_iload_n hx hb dX11_load_54 rfl (lv_at hl 1 rfl) ?_
    have hJ66 : ∀ (q1017 : Int32) (w1018 : Int32) (σ1019 : St), j_11_load_66 n q1017 w1018 σ1019 = some res → ∀ (H : Heap) (locs : List Loc) (ls : Array Slot), va_P D vwCl (ww dM 41 cA ad σ1019) H → va_S (inA 41 ad) s.heap H locs → lv_has ls 4 [(0, .ref (ad 0)), (1, .int q1017)] → W p l e (headSpec wsX11_load rm_11_load).room s m args below meth c H locs 0 0 QQ (F0 m 66 ls [.int w1018, .ref (ad 0)]) := by
      clear h hP hS hl
      intro q1017 w1018 σ1019 h H locs ls hP hS hl
      unfold j_11_load_66 at h
      refine x_pi X hP hS (j := 26) (by decide) (dM_0) rfl rfl (by decide) in11 tyX11_ok nmX11 lk54 rfl rfl rfl rfl dX11_load_66 (fun σ3050 eσ3050 H locs hP hS => ?_)
      have h := nm_some eσ3050 h
      refine lv_iload_n hx hb dX11_load_69 rfl (lv_at hl 1 rfl) ?_
      refine lv_if_ne (tgt := 75) hx hb dX11_load_70 (by decide) (fun c3051 => ?_) (fun c3051 => ?_)
      · have h := it_t c3051 h
        refine lv_iconst (v := 0) hx hb dX11_load_75 (by decide) ?_
        refine lv_istore_n (lv' := [(2, .int 0), (0, .ref (ad 0)), (1, .int q1017)]) hx hb dX11_load_76 rfl hl (by decide) rfl (fun ls hl => ?_)
        obtain ⟨t5077, o5079, h⟩ := bd_some h
        refine lq_rule (P := fun t3053 : Int32 × St => ∀ (H : Heap) (locs : List Loc) (ls : Array Slot), va_P D vwCl (ww dM 41 cA ad t3053.2) H → va_S (inA 41 ad) s.heap H locs → lv_has ls 4 [(0, .ref (ad 0)), (2, .int t3053.1)] → W p l e (headSpec wsX11_load rm_11_load).room s m args below meth c H locs 0 0 QQ (F0 m 77 ls [])) (X := fun t5077 : Int32 × St => ∀ (H : Heap) (locs : List Loc) (ls : Array Slot), va_P D vwCl (ww dM 41 cA ad t5077.2) H → va_S (inA 41 ad) s.heap H locs → lv_has ls 4 [(0, .ref (ad 0)), (2, .int t5077.1)] → W p l e (headSpec wsX11_load rm_11_load).room s m args below meth c H locs 0 0 QQ (F0 m 170 ls [])) ?_ n _ _ o5079 ?_ H locs ls hP hS (lv_sub hl [1, 0] rfl)
        · clear h hP hS hl
          intro t3053 rL3052 h hCL3052 hEL3052 H locs ls hP hS hl
          unfold b_11_load_77 at h
          refine lv_iload_n hx hb dX11_load_77 rfl (lv_at hl 1 rfl) ?_
          refine lv_aload_n hx hb dX11_load_78 rfl (lv_at hl 0 rfl) ?_
          refine x_gi X hP (j := 16) (by decide) (dM_0) rfl rfl (by decide) in11 lk210 dX11_load_79 ?_
          refine lv_icmp_ge (tgt := 170) hx hb dX11_load_82 (by decide) (fun c3054 => ?_) (fun c3054 => ?_)
          · have h := it_t c3054 h
            exact hEL3052 _ (Option.some.inj h).symm H locs ls hP hS (lv_sub hl [0, 1] rfl)
          · have h := it_f c3054 h
            refine lv_aload_n hx hb dX11_load_85 rfl (lv_at hl 0 rfl) ?_
            refine x_gr X hP (j := 10) (by decide) (dM_0) rfl rfl (by decide) in11 lk32 dX11_load_86 ?_
            refine lv_aload_n hx hb dX11_load_89 rfl (lv_at hl 0 rfl) ?_
            refine x_gi X hP (j := 2) (by decide) (dM_0) rfl rfl (by decide) in11 lk207 dX11_load_90 ?_
            refine lv_aload_n hx hb dX11_load_93 rfl (lv_at hl 0 rfl) ?_
            refine x_gr X hP (j := 11) (by decide) (dM_0) rfl rfl (by decide) in11 lk36 dX11_load_94 ?_
            refine lv_iload_n hx hb dX11_load_97 rfl (lv_at hl 1 rfl) ?_
            obtain ⟨g3055, h⟩ := gd_some h
            refine x_al X hP (by decide) (dM_9) g3055 dX11_load_98 ?_
            obtain ⟨g3056, h⟩ := gd_some h
            refine x_sl X hP hS (by decide) (dM_8) g3056 dX11_load_99 (fun σ3057 eσ3057 H locs hP hS => ?_)
            have h := nm_some eσ3057 h
            refine lv_aload_n hx hb dX11_load_100 rfl (lv_at hl 0 rfl) ?_
            refine x_gr X hP (j := 12) (by decide) (dM_0) rfl rfl (by decide) in11 lk39 dX11_load_101 ?_
            refine lv_aload_n hx hb dX11_load_104 rfl (lv_at hl 0 rfl) ?_
            refine x_gi X hP (j := 2) (by decide) (dM_0) rfl rfl (by decide) in11 lk207 dX11_load_105 ?_
            refine lv_aload_n hx hb dX11_load_108 rfl (lv_at hl 0 rfl) ?_
            refine x_gr X hP (j := 14) (by decide) (dM_0) rfl rfl (by decide) in11 lk45 dX11_load_109 ?_
            refine lv_iload_n hx hb dX11_load_112 rfl (lv_at hl 1 rfl) ?_
            refine x_ai X hP (by decide) (dM_12) g3055 dX11_load_113 ?_
            obtain ⟨g3058, h⟩ := gd_some h
            refine x_si X hP hS (by decide) (dM_10) g3058 dX11_load_114 (fun σ3059 eσ3059 H locs hP hS => ?_)
            have h := nm_some eσ3059 h
            refine lv_iconst (v := 0) hx hb dX11_load_115 (by decide) ?_
            refine lv_istore_n (lv' := [(3, .int 0), (0, .ref (ad 0)), (2, .int t3053.1)]) hx hb dX11_load_116 rfl hl (by decide) rfl (fun ls hl => ?_)
            obtain ⟨t4071, o4073, h⟩ := bd_some h
            refine lq_rule (P := fun t3061 : Int32 × St => ∀ (H : Heap) (locs : List Loc) (ls : Array Slot), va_P D vwCl (ww dM 41 cA ad t3061.2) H → va_S (inA 41 ad) s.heap H locs → lv_has ls 4 [(0, .ref (ad 0)), (2, .int t3053.1), (3, .int t3061.1)] → W p l e (headSpec wsX11_load rm_11_load).room s m args below meth c H locs 0 0 QQ (F0 m 117 ls [])) (X := fun t4071 : Int32 × St => ∀ (H : Heap) (locs : List Loc) (ls : Array Slot), va_P D vwCl (ww dM 41 cA ad t4071.2) H → va_S (inA 41 ad) s.heap H locs → lv_has ls 4 [(0, .ref (ad 0)), (2, .int t3053.1), (3, .int t4071.1)] → W p l e (headSpec wsX11_load rm_11_load).room s m args below meth c H locs 0 0 QQ (F0 m 154 ls [])) ?_ n _ _ o4073 ?_ H locs ls hP hS (lv_sub hl [1, 2, 0] rfl)
            · clear h hP hS hl
              intro t3061 rL3060 h hCL3060 hEL3060 H locs ls hP hS hl
              unfold b_11_load_117 at h
              refine lv_iload_n hx hb dX11_load_117 rfl (lv_at hl 2 rfl) ?_
              refine lv_bipush (v := 90) hx hb dX11_load_118 (by decide) ?_
              refine lv_icmp_ge (tgt := 154) hx hb dX11_load_120 (by decide) (fun c3062 => ?_) (fun c3062 => ?_)
              · have h := it_t c3062 h
                exact hEL3060 _ (Option.some.inj h).symm H locs ls hP hS (lv_sub hl [0, 1, 2] rfl)
              · have h := it_f c3062 h
                refine lv_aload_n hx hb dX11_load_123 rfl (lv_at hl 0 rfl) ?_
                refine x_gr X hP (j := 13) (by decide) (dM_0) rfl rfl (by decide) in11 lk42 dX11_load_124 ?_
                refine lv_bipush (v := 90) hx hb dX11_load_127 (by decide) ?_
                refine lv_aload_n hx hb dX11_load_129 rfl (lv_at hl 0 rfl) ?_
                refine x_gi X hP (j := 2) (by decide) (dM_0) rfl rfl (by decide) in11 lk207 dX11_load_130 ?_
                refine lv_imul hx hb dX11_load_133 ?_
                refine lv_topi (fun v3063 ev3063 => ?_)
                have h := nm_some ev3063 h
                refine lv_iload_n hx hb dX11_load_134 rfl (lv_at hl 2 rfl) ?_
                refine lv_iadd hx hb dX11_load_135 ?_
                refine lv_topi (fun v3064 ev3064 => ?_)
                have h := nm_some ev3064 h
                refine lv_aload_n hx hb dX11_load_136 rfl (lv_at hl 0 rfl) ?_
                refine x_gr X hP (j := 15) (by decide) (dM_0) rfl rfl (by decide) in11 lk48 dX11_load_137 ?_
                refine lv_bipush (v := 90) hx hb dX11_load_140 (by decide) ?_
                refine lv_iload_n hx hb dX11_load_142 rfl (lv_at hl 1 rfl) ?_
                refine lv_imul hx hb dX11_load_143 ?_
                refine lv_topi (fun v3065 ev3065 => ?_)
                have h := nm_some ev3065 h
                refine lv_iload_n hx hb dX11_load_144 rfl (lv_at hl 2 rfl) ?_
                refine lv_iadd hx hb dX11_load_145 ?_
                refine lv_topi (fun v3066 ev3066 => ?_)
                have h := nm_some ev3066 h
                obtain ⟨g3067, h⟩ := gd_some h
                refine x_ai X hP (by decide) (dM_13) g3067 dX11_load_146 ?_
                obtain ⟨g3068, h⟩ := gd_some h
                refine x_si X hP hS (by decide) (dM_11) g3068 dX11_load_147 (fun σ3069 eσ3069 H locs hP hS => ?_)
                have h := nm_some eσ3069 h
                obtain ⟨v3070, ev3070⟩ : ∃ y : Int32, y = t3061.1 + 1 := ⟨_, rfl⟩
                have h := nm_some ev3070 h
                refine lv_iinc (v := v3070) (lv' := [(3, .int v3070), (0, .ref (ad 0)), (2, .int t3053.1)]) hx hb dX11_load_148 hl (k := 2) rfl (by rw [ev3070]; rfl) (by decide) rfl (fun ls hl => ?_)
                refine lv_goto (tgt := 117) hx hb dX11_load_151 (by decide) ?_
                exact hCL3060 _ (Option.some.inj h).symm H locs ls hP hS (lv_sub hl [1, 2, 0] rfl)
            · intro H locs ls hP hS hl
              refine lv_aload_n hx hb dX11_load_154 rfl (lv_at hl 0 rfl) ?_
              refine lv_dup hx hb dX11_load_155 rfl ?_
              refine x_gi X hP (j := 2) (by decide) (dM_0) rfl rfl (by decide) in11 lk207 dX11_load_156 ?_
              refine lv_iconst (v := 1) hx hb dX11_load_159 (by decide) ?_
              refine lv_iadd hx hb dX11_load_160 ?_
              refine lv_topi (fun v4074 ev4074 => ?_)
              have h := nm_some ev4074 h
              refine x_pi X hP hS (j := 2) (by decide) (dM_0) rfl rfl (by decide) in11 tyX11_ok nmX11 lk207 rfl rfl rfl rfl dX11_load_161 (fun σ4075 eσ4075 H locs hP hS => ?_)
              have h := nm_some eσ4075 h
              obtain ⟨v4076, ev4076⟩ : ∃ y : Int32, y = t3053.1 + 1 := ⟨_, rfl⟩
              have h := nm_some ev4076 h
              refine lv_iinc (v := v4076) (lv' := [(2, .int v4076), (0, .ref (ad 0)), (3, .int t4071.1)]) hx hb dX11_load_164 hl (k := 1) rfl (by rw [ev4076]; rfl) (by decide) rfl (fun ls hl => ?_)
              refine lv_goto (tgt := 77) hx hb dX11_load_167 (by decide) ?_
              exact hCL3052 _ (Option.some.inj h).symm H locs ls hP hS (lv_sub hl [1, 0] rfl)
        · intro H locs ls hP hS hl
          refine lv_aload_n hx hb dX11_load_170 rfl (lv_at hl 0 rfl) ?_
          refine x_gi X hP (j := 2) (by decide) (dM_0) rfl rfl (by decide) in11 lk207 dX11_load_171 ?_
          subst hQQ
          exact x_ri X hr hlocks hP hS (Option.some.inj h) dX11_load_174
      · have h := it_f c3051 h
        refine lv_iconst (v := (-1)) hx hb dX11_load_73 (by decide) ?_
        subst hQQ
        exact x_ri X hr hlocks hP hS (Option.some.inj h) dX11_load_74
    refine lv_if_eq (tgt := 62) hx hb dX11_load_55 (by decide) (fun c5080 => ?_) (fun c5080 => ?_)
    · have h := it_t c5080 h
      refine lv_aload_n hx hb dX11_load_62 rfl (lv_at hl 0 rfl) ?_
      refine x_gi X hP (j := 24) (by decide) (dM_0) rfl rfl (by decide) in11 lk195 dX11_load_63 ?_
      exact hJ66 t1012.1 (σ1016.1 0 24) σ1016 h H locs ls hP hS (lv_sub hl [0, 1] rfl)
    · have h := it_f c5080 h
      refine lv_iconst (v := (-1)) hx hb dX11_load_58 (by decide) ?_
      refine lv_goto (tgt := 66) hx hb dX11_load_59 (by decide) ?_
      exact hJ66 t1012.1 (-1) σ1016 h H locs ls hP hS (lv_sub hl [0, 1] rfl)
def f_11_fault (n : Nat) (σ : St) (a1 : Int32) : Option (Int32 × St) :=
  if ¬ a1 = 0 then
    if ¬ a1 = 1 then
      some ((-1), σ)
    else
      some ((σ.1 0 26), σ)
  else
    some ((σ.1 0 25), σ)
abbrev rm_11_fault : Room := { frames := 0, cells := 0, slots := 0, locals := 0 }
set_option maxRecDepth 100000 in
set_option maxHeartbeats 4000000 in
theorem k_11_fault (l : Launch) (D : va_G) (cA : Nat → ClassId) (ad : Nat → Nat) (hj : inj 41 ad) (n : Nat) (σ : St) (a1 : Int32)  {res : Int32 × St} (h : f_11_fault n σ a1 = some res) : MXi l D dM 41 cA ad ET yX11_fault wsX11_fault rm_11_fault [.ref (ad 0), .int a1] σ res := by
  refine Met.ofW (cc := cX11_fault) (maxL := 2) (ret := (some .int)) (by decide) rfl ?_
  intro p e s m args below meth c s₁ B hml hv
  obtain ⟨hargs, hP, hK, hE⟩ := hv
  have hx := B.exec
  have hb := B.bytes
  have hr := B.returns
  have hts := atoms_spec (ws := wsX11_fault) B.pre
  have hown : s.vm.findClass RX11 = some m.cls := findClass_of_methodNamed B.named
  have hlocks := B.notSynchronized
  have X : Cx p s m args c cX11_fault 2 RX11 wsX11_fault D dM 41 cA ad ET := ⟨hx, hb, hml, hown, hts, hK, hj, hE, ET_ok⟩
  have hS : va_S (inA 41 ad) s.heap s.heap [] := va_S.rf
  have hl := lv_entry ([.ref (ad 0), .int a1]) (n := 2) (Nat.le_of_ble_eq_true rfl)
  rw [show entryFrame m args 2 = entryFrame m ([.ref (ad 0), .int a1] : List Value).toArray 2 by rw [hargs]]
  rw [lg_entry_eq]
  generalize (lg_sl ([.ref (ad 0), .int a1]) ++ List.replicate (2 - (lg_sl ([.ref (ad 0), .int a1])).length) Slot.unset).toArray = ls at hl ⊢
  have hl : lv_has ls 2 [(0, .ref (ad 0)), (1, .int a1)] := hl
  obtain ⟨QQ, hQQ⟩ : ∃ Q, Q = MQ below (va_Qi (fun r u => r = res.1 ∧ u = res.2) (fun u t => va_P D vwCl (ww dM 41 cA ad u) t.heap) (inA 41 ad)) args s 0 0 (inA 41 ad) := ⟨_, rfl⟩
  show W p l e (headSpec wsX11_fault rm_11_fault).room s m args below meth c s.heap [] 0 0 (MQ below (va_Qi (fun r u => r = res.1 ∧ u = res.2) (fun u t => va_P D vwCl (ww dM 41 cA ad u) t.heap) (inA 41 ad)) args s 0 0 (inA 41 ad)) _
  rw [← hQQ]
  have in11 : ∀ w ∈ wsX110, w ∈ wsX11_fault := by decide +kernel
  have lk54 : Cond.fieldLink RX11 54 "CureTownModel" "faultPlace" "I" ∈ wsX11_fault := by decide +kernel
  have lk227 : Cond.fieldLink RX11 227 "CureTownModel" "faultKind" "I" ∈ wsX11_fault := by decide +kernel
  unfold f_11_fault at h
  obtain ⟨H, hH⟩ : ∃ H, H = s.heap := ⟨_, rfl⟩
  obtain ⟨locs, hlc⟩ : ∃ q : List Loc, q = [] := ⟨_, rfl⟩
  have hP : va_P D vwCl (ww dM 41 cA ad σ) s.heap := hP
  have hS : va_S (inA 41 ad) s.heap s.heap [] := hS
  rw [← hlc] at hS ⊢
  rw [show W p l e (headSpec wsX11_fault rm_11_fault).room s m args below meth c s.heap locs 0 0 QQ = W p l e (headSpec wsX11_fault rm_11_fault).room s m args below meth c H locs 0 0 QQ by rw [hH]]
  have hS : va_S (inA 41 ad) s.heap H locs := by rw [hH]; exact hS
  have hP : va_P D vwCl (ww dM 41 cA ad σ) H := by rw [hH]; exact hP
  clear hH hlc
  refine lv_iload_n hx hb dX11_fault_0 rfl (lv_at hl 1 rfl) ?_
  refine lv_if_ne (tgt := 11) hx hb dX11_fault_1 (by decide) (fun c1 => ?_) (fun c1 => ?_)
  · have h := it_t c1 h
    refine lv_iload_n hx hb dX11_fault_11 rfl (lv_at hl 1 rfl) ?_
    refine lv_iconst (v := 1) hx hb dX11_fault_12 (by decide) ?_
    refine lv_icmp_ne (tgt := 23) hx hb dX11_fault_13 (by decide) (fun c2 => ?_) (fun c2 => ?_)
    · have h := it_t c2 h
      refine lv_iconst (v := (-1)) hx hb dX11_fault_23 (by decide) ?_
      subst hQQ
      exact x_ri X hr hlocks hP hS (Option.some.inj h) dX11_fault_24
    · have h := it_f c2 h
      refine lv_aload_n hx hb dX11_fault_16 rfl (lv_at hl 0 rfl) ?_
      refine x_gi X hP (j := 26) (by decide) (dM_0) rfl rfl (by decide) in11 lk54 dX11_fault_17 ?_
      refine lv_goto (tgt := 24) hx hb dX11_fault_20 (by decide) ?_
      subst hQQ
      exact x_ri X hr hlocks hP hS (Option.some.inj h) dX11_fault_24
  · have h := it_f c1 h
    refine lv_aload_n hx hb dX11_fault_4 rfl (lv_at hl 0 rfl) ?_
    refine x_gi X hP (j := 25) (by decide) (dM_0) rfl rfl (by decide) in11 lk227 dX11_fault_5 ?_
    refine lv_goto (tgt := 24) hx hb dX11_fault_8 (by decide) ?_
    subst hQQ
    exact x_ri X hr hlocks hP hS (Option.some.inj h) dX11_fault_24
def f_11_guest (n : Nat) (σ : St) (a1 : Int32) (a2 : Int32) (a3 : Int32) (a4 : Int32) (a5 : Int32) : Option (Int32 × St) :=
  (f_11_isIn n σ a1 0 3).bind fun r1 =>
  if r1.1 = 0 then
    some ((-1), r1.2)
  else
    nm ((r1.2.1 0 2) - 1) fun v4 =>
    (f_11_isIn n r1.2 a2 0 v4).bind fun r5 =>
    if r5.1 = 0 then
      some ((-1), r5.2)
    else
      (f_11_isIn n r5.2 a3 (r5.2.1 0 0) 99).bind fun r8 =>
      if r8.1 = 0 then
        some ((-1), r8.2)
      else
        nm (a3 + 1) fun v11 =>
        (f_11_isIn n r8.2 a4 v11 100).bind fun r12 =>
        if r12.1 = 0 then
          some ((-1), r12.2)
        else
          (f_11_isIn n r12.2 a5 0 99).bind fun r15 =>
          if r15.1 = 0 then
            some ((-1), r15.2)
          else
            if ¬ (r15.2.1 0 1) = 8 then
              nm ((r15.2.1 0 1)) fun v19 =>
              nm ((r15.2.1 0 1) + 1) fun v20 =>
              nm (si r15.2 0 1 v20) fun σ21 =>
              gd (inb v19 8) <| nm (si σ21 16 (v19.toNatClampNeg) a1) fun σ23 =>
              nm (si σ23 17 (v19.toNatClampNeg) a2) fun σ24 =>
              nm (si σ24 18 (v19.toNatClampNeg) a3) fun σ25 =>
              nm (si σ25 19 (v19.toNatClampNeg) a4) fun σ26 =>
              nm (si σ26 20 (v19.toNatClampNeg) a5) fun σ27 =>
              some (v19, σ27)
            else
              some ((-1), r15.2)
abbrev rm_11_guest : Room := { frames := 1, cells := 0, slots := 0, locals := 22 }
set_option maxRecDepth 100000 in
set_option maxHeartbeats 4000000 in
theorem k_11_guest (l : Launch) (D : va_G) (cA : Nat → ClassId) (ad : Nat → Nat) (hj : inj 41 ad) (n : Nat) (σ : St) (a1 : Int32) (a2 : Int32) (a3 : Int32) (a4 : Int32) (a5 : Int32)  {res : Int32 × St} (h : f_11_guest n σ a1 a2 a3 a4 a5 = some res) : MXi l D dM 41 cA ad ET yX11_guest wsX11_guest rm_11_guest [.ref (ad 0), .int a1, .int a2, .int a3, .int a4, .int a5] σ res := by
  refine Met.ofW (cc := cX11_guest) (maxL := 7) (ret := (some .int)) (by decide) rfl ?_
  intro p e s m args below meth c s₁ B hml hv
  obtain ⟨hargs, hP, hK, hE⟩ := hv
  have hx := B.exec
  have hb := B.bytes
  have hr := B.returns
  have hts := atoms_spec (ws := wsX11_guest) B.pre
  have hown : s.vm.findClass RX11 = some m.cls := findClass_of_methodNamed B.named
  have hlocks := B.notSynchronized
  have X : Cx p s m args c cX11_guest 7 RX11 wsX11_guest D dM 41 cA ad ET := ⟨hx, hb, hml, hown, hts, hK, hj, hE, ET_ok⟩
  have hS : va_S (inA 41 ad) s.heap s.heap [] := va_S.rf
  have hl := lv_entry ([.ref (ad 0), .int a1, .int a2, .int a3, .int a4, .int a5]) (n := 7) (Nat.le_of_ble_eq_true rfl)
  rw [show entryFrame m args 7 = entryFrame m ([.ref (ad 0), .int a1, .int a2, .int a3, .int a4, .int a5] : List Value).toArray 7 by rw [hargs]]
  rw [lg_entry_eq]
  generalize (lg_sl ([.ref (ad 0), .int a1, .int a2, .int a3, .int a4, .int a5]) ++ List.replicate (7 - (lg_sl ([.ref (ad 0), .int a1, .int a2, .int a3, .int a4, .int a5])).length) Slot.unset).toArray = ls at hl ⊢
  have hl : lv_has ls 7 [(0, .ref (ad 0)), (1, .int a1), (2, .int a2), (3, .int a3), (4, .int a4), (5, .int a5)] := hl
  obtain ⟨QQ, hQQ⟩ : ∃ Q, Q = MQ below (va_Qi (fun r u => r = res.1 ∧ u = res.2) (fun u t => va_P D vwCl (ww dM 41 cA ad u) t.heap) (inA 41 ad)) args s 0 0 (inA 41 ad) := ⟨_, rfl⟩
  show W p l e (headSpec wsX11_guest rm_11_guest).room s m args below meth c s.heap [] 0 0 (MQ below (va_Qi (fun r u => r = res.1 ∧ u = res.2) (fun u t => va_P D vwCl (ww dM 41 cA ad u) t.heap) (inA 41 ad)) args s 0 0 (inA 41 ad)) _
  rw [← hQQ]
  have in11 : ∀ w ∈ wsX110, w ∈ wsX11_guest := by decide +kernel
  have lk207 : Cond.fieldLink RX11 207 "CureTownModel" "regimens" "I" ∈ wsX11_guest := by decide +kernel
  have lk230 : Cond.fieldLink RX11 230 "CureTownModel" "day" "I" ∈ wsX11_guest := by decide +kernel
  have lk233 : Cond.fieldLink RX11 233 "CureTownModel" "guests" "I" ∈ wsX11_guest := by decide +kernel
  have lk61 : Cond.fieldLink RX11 61 "CureTownModel" "rank" "[I" ∈ wsX11_guest := by decide +kernel
  have lk64 : Cond.fieldLink RX11 64 "CureTownModel" "regimen" "[I" ∈ wsX11_guest := by decide +kernel
  have lk67 : Cond.fieldLink RX11 67 "CureTownModel" "from" "[I" ∈ wsX11_guest := by decide +kernel
  have lk70 : Cond.fieldLink RX11 70 "CureTownModel" "to" "[I" ∈ wsX11_guest := by decide +kernel
  have lk73 : Cond.fieldLink RX11 73 "CureTownModel" "bound" "[I" ∈ wsX11_guest := by decide +kernel
  unfold f_11_guest at h
  obtain ⟨H, hH⟩ : ∃ H, H = s.heap := ⟨_, rfl⟩
  obtain ⟨locs, hlc⟩ : ∃ q : List Loc, q = [] := ⟨_, rfl⟩
  have hP : va_P D vwCl (ww dM 41 cA ad σ) s.heap := hP
  have hS : va_S (inA 41 ad) s.heap s.heap [] := hS
  rw [← hlc] at hS ⊢
  rw [show W p l e (headSpec wsX11_guest rm_11_guest).room s m args below meth c s.heap locs 0 0 QQ = W p l e (headSpec wsX11_guest rm_11_guest).room s m args below meth c H locs 0 0 QQ by rw [hH]]
  have hS : va_S (inA 41 ad) s.heap H locs := by rw [hH]; exact hS
  have hP : va_P D vwCl (ww dM 41 cA ad σ) H := by rw [hH]; exact hP
  clear hH hlc
  refine lv_iload_n hx hb dX11_guest_0 rfl (lv_at hl 1 rfl) ?_
  refine lv_iconst (v := 0) hx hb dX11_guest_1 (by decide) ?_
  refine lv_iconst (v := 3) hx hb dX11_guest_2 (by decide) ?_
  obtain ⟨r1, k2, h⟩ := bd_some h
  refine x_Si (rest := []) X hP hS (k_11_isIn l D cA ad hj n σ a1 0 3 k2) 3 gX11_guest_X11_isIn rfl rfl rfl (by decide +kernel) ⟨Nat.le_of_ble_eq_true rfl, Nat.le_of_ble_eq_true rfl⟩ rfl hl.1 rfl (Nat.le_of_ble_eq_true rfl) dX11_guest_3 ⟨Nat.zero_le _, Nat.zero_le _⟩ (fun H locs hP hS => ?_)
  refine lv_if_eq (tgt := 69) hx hb dX11_guest_6 (by decide) (fun c3 => ?_) (fun c3 => ?_)
  · have h := it_t c3 h
    refine lv_iconst (v := (-1)) hx hb dX11_guest_69 (by decide) ?_
    subst hQQ
    exact x_ri X hr hlocks hP hS (Option.some.inj h) dX11_guest_70
  · have h := it_f c3 h
    refine lv_iload_n hx hb dX11_guest_9 rfl (lv_at hl 2 rfl) ?_
    refine lv_iconst (v := 0) hx hb dX11_guest_10 (by decide) ?_
    refine lv_aload_n hx hb dX11_guest_11 rfl (lv_at hl 0 rfl) ?_
    refine x_gi X hP (j := 2) (by decide) (dM_0) rfl rfl (by decide) in11 lk207 dX11_guest_12 ?_
    refine lv_iconst (v := 1) hx hb dX11_guest_15 (by decide) ?_
    refine lv_isub hx hb dX11_guest_16 ?_
    refine lv_topi (fun v4 ev4 => ?_)
    have h := nm_some ev4 h
    obtain ⟨r5, k6, h⟩ := bd_some h
    refine x_Si (rest := []) X hP hS (k_11_isIn l D cA ad hj n r1.2 a2 0 v4 k6) 3 gX11_guest_X11_isIn rfl rfl rfl (by decide +kernel) ⟨Nat.le_of_ble_eq_true rfl, Nat.le_of_ble_eq_true rfl⟩ rfl hl.1 rfl (Nat.le_of_ble_eq_true rfl) dX11_guest_17 ⟨Nat.zero_le _, Nat.zero_le _⟩ (fun H locs hP hS => ?_)
    refine lv_if_eq (tgt := 69) hx hb dX11_guest_20 (by decide) (fun c7 => ?_) (fun c7 => ?_)
    · have h := it_t c7 h
      refine lv_iconst (v := (-1)) hx hb dX11_guest_69 (by decide) ?_
      subst hQQ
      exact x_ri X hr hlocks hP hS (Option.some.inj h) dX11_guest_70
    · have h := it_f c7 h
      refine lv_iload_n hx hb dX11_guest_23 rfl (lv_at hl 3 rfl) ?_
      refine lv_aload_n hx hb dX11_guest_24 rfl (lv_at hl 0 rfl) ?_
      refine x_gi X hP (j := 0) (by decide) (dM_0) rfl rfl (by decide) in11 lk230 dX11_guest_25 ?_
      refine lv_bipush (v := 99) hx hb dX11_guest_28 (by decide) ?_
      obtain ⟨r8, k9, h⟩ := bd_some h
      refine x_Si (rest := []) X hP hS (k_11_isIn l D cA ad hj n r5.2 a3 (r5.2.1 0 0) 99 k9) 3 gX11_guest_X11_isIn rfl rfl rfl (by decide +kernel) ⟨Nat.le_of_ble_eq_true rfl, Nat.le_of_ble_eq_true rfl⟩ rfl hl.1 rfl (Nat.le_of_ble_eq_true rfl) dX11_guest_30 ⟨Nat.zero_le _, Nat.zero_le _⟩ (fun H locs hP hS => ?_)
      refine lv_if_eq (tgt := 69) hx hb dX11_guest_33 (by decide) (fun c10 => ?_) (fun c10 => ?_)
      · have h := it_t c10 h
        refine lv_iconst (v := (-1)) hx hb dX11_guest_69 (by decide) ?_
        subst hQQ
        exact x_ri X hr hlocks hP hS (Option.some.inj h) dX11_guest_70
      · have h := it_f c10 h
        refine lv_iload hx hb dX11_guest_36 (lv_at hl 4 rfl) ?_
        refine lv_iload_n hx hb dX11_guest_38 rfl (lv_at hl 3 rfl) ?_
        refine lv_iconst (v := 1) hx hb dX11_guest_39 (by decide) ?_
        refine lv_iadd hx hb dX11_guest_40 ?_
        refine lv_topi (fun v11 ev11 => ?_)
        have h := nm_some ev11 h
        refine lv_bipush (v := 100) hx hb dX11_guest_41 (by decide) ?_
        obtain ⟨r12, k13, h⟩ := bd_some h
        refine x_Si (rest := []) X hP hS (k_11_isIn l D cA ad hj n r8.2 a4 v11 100 k13) 3 gX11_guest_X11_isIn rfl rfl rfl (by decide +kernel) ⟨Nat.le_of_ble_eq_true rfl, Nat.le_of_ble_eq_true rfl⟩ rfl hl.1 rfl (Nat.le_of_ble_eq_true rfl) dX11_guest_43 ⟨Nat.zero_le _, Nat.zero_le _⟩ (fun H locs hP hS => ?_)
        refine lv_if_eq (tgt := 69) hx hb dX11_guest_46 (by decide) (fun c14 => ?_) (fun c14 => ?_)
        · have h := it_t c14 h
          refine lv_iconst (v := (-1)) hx hb dX11_guest_69 (by decide) ?_
          subst hQQ
          exact x_ri X hr hlocks hP hS (Option.some.inj h) dX11_guest_70
        · have h := it_f c14 h
          refine lv_iload hx hb dX11_guest_49 (lv_at hl 5 rfl) ?_
          refine lv_iconst (v := 0) hx hb dX11_guest_51 (by decide) ?_
          refine lv_bipush (v := 99) hx hb dX11_guest_52 (by decide) ?_
          obtain ⟨r15, k16, h⟩ := bd_some h
          refine x_Si (rest := []) X hP hS (k_11_isIn l D cA ad hj n r12.2 a5 0 99 k16) 3 gX11_guest_X11_isIn rfl rfl rfl (by decide +kernel) ⟨Nat.le_of_ble_eq_true rfl, Nat.le_of_ble_eq_true rfl⟩ rfl hl.1 rfl (Nat.le_of_ble_eq_true rfl) dX11_guest_54 ⟨Nat.zero_le _, Nat.zero_le _⟩ (fun H locs hP hS => ?_)
          refine lv_if_eq (tgt := 69) hx hb dX11_guest_57 (by decide) (fun c17 => ?_) (fun c17 => ?_)
          · have h := it_t c17 h
            refine lv_iconst (v := (-1)) hx hb dX11_guest_69 (by decide) ?_
            subst hQQ
            exact x_ri X hr hlocks hP hS (Option.some.inj h) dX11_guest_70
          · have h := it_f c17 h
            refine lv_aload_n hx hb dX11_guest_60 rfl (lv_at hl 0 rfl) ?_
            refine x_gi X hP (j := 1) (by decide) (dM_0) rfl rfl (by decide) in11 lk233 dX11_guest_61 ?_
            refine lv_bipush (v := 8) hx hb dX11_guest_64 (by decide) ?_
            refine lv_icmp_ne (tgt := 71) hx hb dX11_guest_66 (by decide) (fun c18 => ?_) (fun c18 => ?_)
            · have h := it_t c18 h
              refine lv_aload_n hx hb dX11_guest_71 rfl (lv_at hl 0 rfl) ?_
              refine x_gi X hP (j := 1) (by decide) (dM_0) rfl rfl (by decide) in11 lk233 dX11_guest_72 ?_
              refine lv_topi (fun v19 ev19 => ?_)
              have h := nm_some ev19 h
              refine lv_istore (lv' := [(6, .int v19), (0, .ref (ad 0)), (1, .int a1), (2, .int a2), (3, .int a3), (4, .int a4), (5, .int a5)]) hx hb dX11_guest_75 hl (by decide) rfl (fun ls hl => ?_)
              refine lv_aload_n hx hb dX11_guest_77 rfl (lv_at hl 1 rfl) ?_
              refine lv_dup hx hb dX11_guest_78 rfl ?_
              refine x_gi X hP (j := 1) (by decide) (dM_0) rfl rfl (by decide) in11 lk233 dX11_guest_79 ?_
              refine lv_iconst (v := 1) hx hb dX11_guest_82 (by decide) ?_
              refine lv_iadd hx hb dX11_guest_83 ?_
              refine lv_topi (fun v20 ev20 => ?_)
              have h := nm_some ev20 h
              refine x_pi X hP hS (j := 1) (by decide) (dM_0) rfl rfl (by decide) in11 tyX11_ok nmX11 lk233 rfl rfl rfl rfl dX11_guest_84 (fun σ21 eσ21 H locs hP hS => ?_)
              have h := nm_some eσ21 h
              refine lv_aload_n hx hb dX11_guest_87 rfl (lv_at hl 1 rfl) ?_
              refine x_gr X hP (j := 30) (by decide) (dM_0) rfl rfl (by decide) in11 lk61 dX11_guest_88 ?_
              refine lv_iload hx hb dX11_guest_91 (lv_at hl 0 rfl) ?_
              refine lv_iload_n hx hb dX11_guest_93 rfl (lv_at hl 2 rfl) ?_
              obtain ⟨g22, h⟩ := gd_some h
              refine x_si X hP hS (by decide) (dM_16) g22 dX11_guest_94 (fun σ23 eσ23 H locs hP hS => ?_)
              have h := nm_some eσ23 h
              refine lv_aload_n hx hb dX11_guest_95 rfl (lv_at hl 1 rfl) ?_
              refine x_gr X hP (j := 31) (by decide) (dM_0) rfl rfl (by decide) in11 lk64 dX11_guest_96 ?_
              refine lv_iload hx hb dX11_guest_99 (lv_at hl 0 rfl) ?_
              refine lv_iload_n hx hb dX11_guest_101 rfl (lv_at hl 3 rfl) ?_
              refine x_si X hP hS (by decide) (dM_17) g22 dX11_guest_102 (fun σ24 eσ24 H locs hP hS => ?_)
              have h := nm_some eσ24 h
              refine lv_aload_n hx hb dX11_guest_103 rfl (lv_at hl 1 rfl) ?_
              refine x_gr X hP (j := 32) (by decide) (dM_0) rfl rfl (by decide) in11 lk67 dX11_guest_104 ?_
              refine lv_iload hx hb dX11_guest_107 (lv_at hl 0 rfl) ?_
              refine lv_iload_n hx hb dX11_guest_109 rfl (lv_at hl 4 rfl) ?_
              refine x_si X hP hS (by decide) (dM_18) g22 dX11_guest_110 (fun σ25 eσ25 H locs hP hS => ?_)
              have h := nm_some eσ25 h
              refine lv_aload_n hx hb dX11_guest_111 rfl (lv_at hl 1 rfl) ?_
              refine x_gr X hP (j := 33) (by decide) (dM_0) rfl rfl (by decide) in11 lk70 dX11_guest_112 ?_
              refine lv_iload hx hb dX11_guest_115 (lv_at hl 0 rfl) ?_
              refine lv_iload hx hb dX11_guest_117 (lv_at hl 5 rfl) ?_
              refine x_si X hP hS (by decide) (dM_19) g22 dX11_guest_119 (fun σ26 eσ26 H locs hP hS => ?_)
              have h := nm_some eσ26 h
              refine lv_aload_n hx hb dX11_guest_120 rfl (lv_at hl 1 rfl) ?_
              refine x_gr X hP (j := 34) (by decide) (dM_0) rfl rfl (by decide) in11 lk73 dX11_guest_121 ?_
              refine lv_iload hx hb dX11_guest_124 (lv_at hl 0 rfl) ?_
              refine lv_iload hx hb dX11_guest_126 (lv_at hl 6 rfl) ?_
              refine x_si X hP hS (by decide) (dM_20) g22 dX11_guest_128 (fun σ27 eσ27 H locs hP hS => ?_)
              have h := nm_some eσ27 h
              refine lv_iload hx hb dX11_guest_129 (lv_at hl 0 rfl) ?_
              subst hQQ
              exact x_ri X hr hlocks hP hS (Option.some.inj h) dX11_guest_131
            · have h := it_f c18 h
              refine lv_iconst (v := (-1)) hx hb dX11_guest_69 (by decide) ?_
              subst hQQ
              exact x_ri X hr hlocks hP hS (Option.some.inj h) dX11_guest_70
def f_11_leave (n : Nat) (σ : St) (a1 : Int32) (a2 : Int32) : Option (Int32 × St) :=
  nm ((σ.1 0 1) - 1) fun v1 =>
  (f_11_isIn n σ a1 0 v1).bind fun r2 =>
  if r2.1 = 0 then
    some (0, r2.2)
  else
    if a2 < (r2.2.1 0 0) then
      some (0, r2.2)
    else
      gd (inb a1 8) <| if a2 ≤ (r2.2.1 18 a1.toNatClampNeg) then
        some (0, r2.2)
      else
        if a2 ≤ (r2.2.1 19 a1.toNatClampNeg) then
          nm (si r2.2 19 (a1.toNatClampNeg) a2) fun σ9 =>
          some (1, σ9)
        else
          some (0, r2.2)
abbrev rm_11_leave : Room := { frames := 1, cells := 0, slots := 0, locals := 22 }
set_option maxRecDepth 100000 in
set_option maxHeartbeats 4000000 in
theorem k_11_leave (l : Launch) (D : va_G) (cA : Nat → ClassId) (ad : Nat → Nat) (hj : inj 41 ad) (n : Nat) (σ : St) (a1 : Int32) (a2 : Int32)  {res : Int32 × St} (h : f_11_leave n σ a1 a2 = some res) : MXi l D dM 41 cA ad ET yX11_leave wsX11_leave rm_11_leave [.ref (ad 0), .int a1, .int a2] σ res := by
  refine Met.ofW (cc := cX11_leave) (maxL := 3) (ret := (some .boolean)) (by decide) rfl ?_
  intro p e s m args below meth c s₁ B hml hv
  obtain ⟨hargs, hP, hK, hE⟩ := hv
  have hx := B.exec
  have hb := B.bytes
  have hr := B.returns
  have hts := atoms_spec (ws := wsX11_leave) B.pre
  have hown : s.vm.findClass RX11 = some m.cls := findClass_of_methodNamed B.named
  have hlocks := B.notSynchronized
  have X : Cx p s m args c cX11_leave 3 RX11 wsX11_leave D dM 41 cA ad ET := ⟨hx, hb, hml, hown, hts, hK, hj, hE, ET_ok⟩
  have hS : va_S (inA 41 ad) s.heap s.heap [] := va_S.rf
  have hl := lv_entry ([.ref (ad 0), .int a1, .int a2]) (n := 3) (Nat.le_of_ble_eq_true rfl)
  rw [show entryFrame m args 3 = entryFrame m ([.ref (ad 0), .int a1, .int a2] : List Value).toArray 3 by rw [hargs]]
  rw [lg_entry_eq]
  generalize (lg_sl ([.ref (ad 0), .int a1, .int a2]) ++ List.replicate (3 - (lg_sl ([.ref (ad 0), .int a1, .int a2])).length) Slot.unset).toArray = ls at hl ⊢
  have hl : lv_has ls 3 [(0, .ref (ad 0)), (1, .int a1), (2, .int a2)] := hl
  obtain ⟨QQ, hQQ⟩ : ∃ Q, Q = MQ below (va_Qi (fun r u => r = res.1 ∧ u = res.2) (fun u t => va_P D vwCl (ww dM 41 cA ad u) t.heap) (inA 41 ad)) args s 0 0 (inA 41 ad) := ⟨_, rfl⟩
  show W p l e (headSpec wsX11_leave rm_11_leave).room s m args below meth c s.heap [] 0 0 (MQ below (va_Qi (fun r u => r = res.1 ∧ u = res.2) (fun u t => va_P D vwCl (ww dM 41 cA ad u) t.heap) (inA 41 ad)) args s 0 0 (inA 41 ad)) _
  rw [← hQQ]
  have in11 : ∀ w ∈ wsX110, w ∈ wsX11_leave := by decide +kernel
  have lk233 : Cond.fieldLink RX11 233 "CureTownModel" "guests" "I" ∈ wsX11_leave := by decide +kernel
  have lk230 : Cond.fieldLink RX11 230 "CureTownModel" "day" "I" ∈ wsX11_leave := by decide +kernel
  have lk67 : Cond.fieldLink RX11 67 "CureTownModel" "from" "[I" ∈ wsX11_leave := by decide +kernel
  have lk70 : Cond.fieldLink RX11 70 "CureTownModel" "to" "[I" ∈ wsX11_leave := by decide +kernel
  unfold f_11_leave at h
  obtain ⟨H, hH⟩ : ∃ H, H = s.heap := ⟨_, rfl⟩
  obtain ⟨locs, hlc⟩ : ∃ q : List Loc, q = [] := ⟨_, rfl⟩
  have hP : va_P D vwCl (ww dM 41 cA ad σ) s.heap := hP
  have hS : va_S (inA 41 ad) s.heap s.heap [] := hS
  rw [← hlc] at hS ⊢
  rw [show W p l e (headSpec wsX11_leave rm_11_leave).room s m args below meth c s.heap locs 0 0 QQ = W p l e (headSpec wsX11_leave rm_11_leave).room s m args below meth c H locs 0 0 QQ by rw [hH]]
  have hS : va_S (inA 41 ad) s.heap H locs := by rw [hH]; exact hS
  have hP : va_P D vwCl (ww dM 41 cA ad σ) H := by rw [hH]; exact hP
  clear hH hlc
  refine lv_iload_n hx hb dX11_leave_0 rfl (lv_at hl 1 rfl) ?_
  refine lv_iconst (v := 0) hx hb dX11_leave_1 (by decide) ?_
  refine lv_aload_n hx hb dX11_leave_2 rfl (lv_at hl 0 rfl) ?_
  refine x_gi X hP (j := 1) (by decide) (dM_0) rfl rfl (by decide) in11 lk233 dX11_leave_3 ?_
  refine lv_iconst (v := 1) hx hb dX11_leave_6 (by decide) ?_
  refine lv_isub hx hb dX11_leave_7 ?_
  refine lv_topi (fun v1 ev1 => ?_)
  have h := nm_some ev1 h
  obtain ⟨r2, k3, h⟩ := bd_some h
  refine x_Si (rest := []) X hP hS (k_11_isIn l D cA ad hj n σ a1 0 v1 k3) 3 gX11_leave_X11_isIn rfl rfl rfl (by decide +kernel) ⟨Nat.le_of_ble_eq_true rfl, Nat.le_of_ble_eq_true rfl⟩ rfl hl.1 rfl (Nat.le_of_ble_eq_true rfl) dX11_leave_8 ⟨Nat.zero_le _, Nat.zero_le _⟩ (fun H locs hP hS => ?_)
  refine lv_if_eq (tgt := 42) hx hb dX11_leave_11 (by decide) (fun c4 => ?_) (fun c4 => ?_)
  · have h := it_t c4 h
    refine lv_iconst (v := 0) hx hb dX11_leave_42 (by decide) ?_
    subst hQQ
    exact x_rz X hr hlocks hP hS (by decide +kernel) (Option.some.inj h) dX11_leave_43
  · have h := it_f c4 h
    refine lv_iload_n hx hb dX11_leave_14 rfl (lv_at hl 2 rfl) ?_
    refine lv_aload_n hx hb dX11_leave_15 rfl (lv_at hl 0 rfl) ?_
    refine x_gi X hP (j := 0) (by decide) (dM_0) rfl rfl (by decide) in11 lk230 dX11_leave_16 ?_
    refine lv_icmp_lt (tgt := 42) hx hb dX11_leave_19 (by decide) (fun c5 => ?_) (fun c5 => ?_)
    · have h := it_t c5 h
      refine lv_iconst (v := 0) hx hb dX11_leave_42 (by decide) ?_
      subst hQQ
      exact x_rz X hr hlocks hP hS (by decide +kernel) (Option.some.inj h) dX11_leave_43
    · have h := it_f c5 h
      refine lv_iload_n hx hb dX11_leave_22 rfl (lv_at hl 2 rfl) ?_
      refine lv_aload_n hx hb dX11_leave_23 rfl (lv_at hl 0 rfl) ?_
      refine x_gr X hP (j := 32) (by decide) (dM_0) rfl rfl (by decide) in11 lk67 dX11_leave_24 ?_
      refine lv_iload_n hx hb dX11_leave_27 rfl (lv_at hl 1 rfl) ?_
      obtain ⟨g6, h⟩ := gd_some h
      refine x_ai X hP (by decide) (dM_18) g6 dX11_leave_28 ?_
      refine lv_icmp_le (tgt := 42) hx hb dX11_leave_29 (by decide) (fun c7 => ?_) (fun c7 => ?_)
      · have h := it_t c7 h
        refine lv_iconst (v := 0) hx hb dX11_leave_42 (by decide) ?_
        subst hQQ
        exact x_rz X hr hlocks hP hS (by decide +kernel) (Option.some.inj h) dX11_leave_43
      · have h := it_f c7 h
        refine lv_iload_n hx hb dX11_leave_32 rfl (lv_at hl 2 rfl) ?_
        refine lv_aload_n hx hb dX11_leave_33 rfl (lv_at hl 0 rfl) ?_
        refine x_gr X hP (j := 33) (by decide) (dM_0) rfl rfl (by decide) in11 lk70 dX11_leave_34 ?_
        refine lv_iload_n hx hb dX11_leave_37 rfl (lv_at hl 1 rfl) ?_
        refine x_ai X hP (by decide) (dM_19) g6 dX11_leave_38 ?_
        refine lv_icmp_le (tgt := 44) hx hb dX11_leave_39 (by decide) (fun c8 => ?_) (fun c8 => ?_)
        · have h := it_t c8 h
          refine lv_aload_n hx hb dX11_leave_44 rfl (lv_at hl 0 rfl) ?_
          refine x_gr X hP (j := 33) (by decide) (dM_0) rfl rfl (by decide) in11 lk70 dX11_leave_45 ?_
          refine lv_iload_n hx hb dX11_leave_48 rfl (lv_at hl 1 rfl) ?_
          refine lv_iload_n hx hb dX11_leave_49 rfl (lv_at hl 2 rfl) ?_
          refine x_si X hP hS (by decide) (dM_19) g6 dX11_leave_50 (fun σ9 eσ9 H locs hP hS => ?_)
          have h := nm_some eσ9 h
          refine lv_iconst (v := 1) hx hb dX11_leave_51 (by decide) ?_
          subst hQQ
          exact x_rz X hr hlocks hP hS (by decide +kernel) (Option.some.inj h) dX11_leave_52
        · have h := it_f c8 h
          refine lv_iconst (v := 0) hx hb dX11_leave_42 (by decide) ?_
          subst hQQ
          exact x_rz X hr hlocks hP hS (by decide +kernel) (Option.some.inj h) dX11_leave_43
def f_11_isHere (n : Nat) (σ : St) (a1 : Int32) (a2 : Int32) : Option (Int32 × St) :=
  nm ((σ.1 0 1) - 1) fun v1 =>
  (f_11_isIn n σ a1 0 v1).bind fun r2 =>
  if r2.1 = 0 then
    some (0, r2.2)
  else
    gd (inb a1 8) <| if a2 < (r2.2.1 18 a1.toNatClampNeg) then
      some (0, r2.2)
    else
      if (r2.2.1 19 a1.toNatClampNeg) ≤ a2 then
        some (0, r2.2)
      else
        some (1, r2.2)
abbrev rm_11_isHere : Room := { frames := 1, cells := 0, slots := 0, locals := 22 }
set_option maxRecDepth 100000 in
set_option maxHeartbeats 4000000 in
theorem k_11_isHere (l : Launch) (D : va_G) (cA : Nat → ClassId) (ad : Nat → Nat) (hj : inj 41 ad) (n : Nat) (σ : St) (a1 : Int32) (a2 : Int32)  {res : Int32 × St} (h : f_11_isHere n σ a1 a2 = some res) : MXi l D dM 41 cA ad ET yX11_isHere wsX11_isHere rm_11_isHere [.ref (ad 0), .int a1, .int a2] σ res := by
  refine Met.ofW (cc := cX11_isHere) (maxL := 3) (ret := (some .boolean)) (by decide) rfl ?_
  intro p e s m args below meth c s₁ B hml hv
  obtain ⟨hargs, hP, hK, hE⟩ := hv
  have hx := B.exec
  have hb := B.bytes
  have hr := B.returns
  have hts := atoms_spec (ws := wsX11_isHere) B.pre
  have hown : s.vm.findClass RX11 = some m.cls := findClass_of_methodNamed B.named
  have hlocks := B.notSynchronized
  have X : Cx p s m args c cX11_isHere 3 RX11 wsX11_isHere D dM 41 cA ad ET := ⟨hx, hb, hml, hown, hts, hK, hj, hE, ET_ok⟩
  have hS : va_S (inA 41 ad) s.heap s.heap [] := va_S.rf
  have hl := lv_entry ([.ref (ad 0), .int a1, .int a2]) (n := 3) (Nat.le_of_ble_eq_true rfl)
  rw [show entryFrame m args 3 = entryFrame m ([.ref (ad 0), .int a1, .int a2] : List Value).toArray 3 by rw [hargs]]
  rw [lg_entry_eq]
  generalize (lg_sl ([.ref (ad 0), .int a1, .int a2]) ++ List.replicate (3 - (lg_sl ([.ref (ad 0), .int a1, .int a2])).length) Slot.unset).toArray = ls at hl ⊢
  have hl : lv_has ls 3 [(0, .ref (ad 0)), (1, .int a1), (2, .int a2)] := hl
  obtain ⟨QQ, hQQ⟩ : ∃ Q, Q = MQ below (va_Qi (fun r u => r = res.1 ∧ u = res.2) (fun u t => va_P D vwCl (ww dM 41 cA ad u) t.heap) (inA 41 ad)) args s 0 0 (inA 41 ad) := ⟨_, rfl⟩
  show W p l e (headSpec wsX11_isHere rm_11_isHere).room s m args below meth c s.heap [] 0 0 (MQ below (va_Qi (fun r u => r = res.1 ∧ u = res.2) (fun u t => va_P D vwCl (ww dM 41 cA ad u) t.heap) (inA 41 ad)) args s 0 0 (inA 41 ad)) _
  rw [← hQQ]
  have in11 : ∀ w ∈ wsX110, w ∈ wsX11_isHere := by decide +kernel
  have lk233 : Cond.fieldLink RX11 233 "CureTownModel" "guests" "I" ∈ wsX11_isHere := by decide +kernel
  have lk67 : Cond.fieldLink RX11 67 "CureTownModel" "from" "[I" ∈ wsX11_isHere := by decide +kernel
  have lk70 : Cond.fieldLink RX11 70 "CureTownModel" "to" "[I" ∈ wsX11_isHere := by decide +kernel
  unfold f_11_isHere at h
  obtain ⟨H, hH⟩ : ∃ H, H = s.heap := ⟨_, rfl⟩
  obtain ⟨locs, hlc⟩ : ∃ q : List Loc, q = [] := ⟨_, rfl⟩
  have hP : va_P D vwCl (ww dM 41 cA ad σ) s.heap := hP
  have hS : va_S (inA 41 ad) s.heap s.heap [] := hS
  rw [← hlc] at hS ⊢
  rw [show W p l e (headSpec wsX11_isHere rm_11_isHere).room s m args below meth c s.heap locs 0 0 QQ = W p l e (headSpec wsX11_isHere rm_11_isHere).room s m args below meth c H locs 0 0 QQ by rw [hH]]
  have hS : va_S (inA 41 ad) s.heap H locs := by rw [hH]; exact hS
  have hP : va_P D vwCl (ww dM 41 cA ad σ) H := by rw [hH]; exact hP
  clear hH hlc
  refine lv_iload_n hx hb dX11_isHere_0 rfl (lv_at hl 1 rfl) ?_
  refine lv_iconst (v := 0) hx hb dX11_isHere_1 (by decide) ?_
  refine lv_aload_n hx hb dX11_isHere_2 rfl (lv_at hl 0 rfl) ?_
  refine x_gi X hP (j := 1) (by decide) (dM_0) rfl rfl (by decide) in11 lk233 dX11_isHere_3 ?_
  refine lv_iconst (v := 1) hx hb dX11_isHere_6 (by decide) ?_
  refine lv_isub hx hb dX11_isHere_7 ?_
  refine lv_topi (fun v1 ev1 => ?_)
  have h := nm_some ev1 h
  obtain ⟨r2, k3, h⟩ := bd_some h
  refine x_Si (rest := []) X hP hS (k_11_isIn l D cA ad hj n σ a1 0 v1 k3) 3 gX11_isHere_X11_isIn rfl rfl rfl (by decide +kernel) ⟨Nat.le_of_ble_eq_true rfl, Nat.le_of_ble_eq_true rfl⟩ rfl hl.1 rfl (Nat.le_of_ble_eq_true rfl) dX11_isHere_8 ⟨Nat.zero_le _, Nat.zero_le _⟩ (fun H locs hP hS => ?_)
  refine lv_if_eq (tgt := 38) hx hb dX11_isHere_11 (by decide) (fun c4 => ?_) (fun c4 => ?_)
  · have h := it_t c4 h
    refine lv_iconst (v := 0) hx hb dX11_isHere_38 (by decide) ?_
    subst hQQ
    exact x_rz X hr hlocks hP hS (by decide +kernel) (Option.some.inj h) dX11_isHere_39
  · have h := it_f c4 h
    refine lv_iload_n hx hb dX11_isHere_14 rfl (lv_at hl 2 rfl) ?_
    refine lv_aload_n hx hb dX11_isHere_15 rfl (lv_at hl 0 rfl) ?_
    refine x_gr X hP (j := 32) (by decide) (dM_0) rfl rfl (by decide) in11 lk67 dX11_isHere_16 ?_
    refine lv_iload_n hx hb dX11_isHere_19 rfl (lv_at hl 1 rfl) ?_
    obtain ⟨g5, h⟩ := gd_some h
    refine x_ai X hP (by decide) (dM_18) g5 dX11_isHere_20 ?_
    refine lv_icmp_lt (tgt := 38) hx hb dX11_isHere_21 (by decide) (fun c6 => ?_) (fun c6 => ?_)
    · have h := it_t c6 h
      refine lv_iconst (v := 0) hx hb dX11_isHere_38 (by decide) ?_
      subst hQQ
      exact x_rz X hr hlocks hP hS (by decide +kernel) (Option.some.inj h) dX11_isHere_39
    · have h := it_f c6 h
      refine lv_iload_n hx hb dX11_isHere_24 rfl (lv_at hl 2 rfl) ?_
      refine lv_aload_n hx hb dX11_isHere_25 rfl (lv_at hl 0 rfl) ?_
      refine x_gr X hP (j := 33) (by decide) (dM_0) rfl rfl (by decide) in11 lk70 dX11_isHere_26 ?_
      refine lv_iload_n hx hb dX11_isHere_29 rfl (lv_at hl 1 rfl) ?_
      refine x_ai X hP (by decide) (dM_19) g5 dX11_isHere_30 ?_
      refine lv_icmp_ge (tgt := 38) hx hb dX11_isHere_31 (by decide) (fun c7 => ?_) (fun c7 => ?_)
      · have h := it_t c7 h
        refine lv_iconst (v := 0) hx hb dX11_isHere_38 (by decide) ?_
        subst hQQ
        exact x_rz X hr hlocks hP hS (by decide +kernel) (Option.some.inj h) dX11_isHere_39
      · have h := it_f c7 h
        refine lv_iconst (v := 1) hx hb dX11_isHere_34 (by decide) ?_
        refine lv_goto (tgt := 39) hx hb dX11_isHere_35 (by decide) ?_
        subst hQQ
        exact x_rz X hr hlocks hP hS (by decide +kernel) (Option.some.inj h) dX11_isHere_39
def b_11_here_4 (n : Nat) (a1 : Int32) (t2 : Int32 × Int32 × St) : Option ((Int32 × Int32 × St) ⊕ (Int32 × Int32 × St)) :=
  if (t2.2.2.1 0 1) ≤ t2.2.1 then
    some (.inr (t2.1, t2.2.1, t2.2.2))
  else
    (f_11_isHere n t2.2.2 t2.2.1 a1).bind fun r4 =>
    if r4.1 = 0 then
      nm (t2.1 + 0) fun v7 =>
      nm (t2.2.1 + 1) fun v8 =>
      some (.inl (v7, v8, r4.2))
    else
      nm (t2.1 + 1) fun v9 =>
      nm (t2.2.1 + 1) fun v10 =>
      some (.inl (v9, v10, r4.2))
def f_11_here (n : Nat) (σ : St) (a1 : Int32) : Option (Int32 × St) :=
  (lq (b_11_here_4 n a1) n (0, 0, σ)).bind fun t1011 =>
  some (t1011.1, t1011.2.2)
abbrev rm_11_here : Room := { frames := 2, cells := 0, slots := 0, locals := 44 }
set_option maxRecDepth 100000 in
set_option maxHeartbeats 4000000 in
theorem k_11_here (l : Launch) (D : va_G) (cA : Nat → ClassId) (ad : Nat → Nat) (hj : inj 41 ad) (n : Nat) (σ : St) (a1 : Int32)  {res : Int32 × St} (h : f_11_here n σ a1 = some res) : MXi l D dM 41 cA ad ET yX11_here wsX11_here rm_11_here [.ref (ad 0), .int a1] σ res := by
  refine Met.ofW (cc := cX11_here) (maxL := 4) (ret := (some .int)) (by decide) rfl ?_
  intro p e s m args below meth c s₁ B hml hv
  obtain ⟨hargs, hP, hK, hE⟩ := hv
  have hx := B.exec
  have hb := B.bytes
  have hr := B.returns
  have hts := atoms_spec (ws := wsX11_here) B.pre
  have hown : s.vm.findClass RX11 = some m.cls := findClass_of_methodNamed B.named
  have hlocks := B.notSynchronized
  have X : Cx p s m args c cX11_here 4 RX11 wsX11_here D dM 41 cA ad ET := ⟨hx, hb, hml, hown, hts, hK, hj, hE, ET_ok⟩
  have hS : va_S (inA 41 ad) s.heap s.heap [] := va_S.rf
  have hl := lv_entry ([.ref (ad 0), .int a1]) (n := 4) (Nat.le_of_ble_eq_true rfl)
  rw [show entryFrame m args 4 = entryFrame m ([.ref (ad 0), .int a1] : List Value).toArray 4 by rw [hargs]]
  rw [lg_entry_eq]
  generalize (lg_sl ([.ref (ad 0), .int a1]) ++ List.replicate (4 - (lg_sl ([.ref (ad 0), .int a1])).length) Slot.unset).toArray = ls at hl ⊢
  have hl : lv_has ls 4 [(0, .ref (ad 0)), (1, .int a1)] := hl
  obtain ⟨QQ, hQQ⟩ : ∃ Q, Q = MQ below (va_Qi (fun r u => r = res.1 ∧ u = res.2) (fun u t => va_P D vwCl (ww dM 41 cA ad u) t.heap) (inA 41 ad)) args s 0 0 (inA 41 ad) := ⟨_, rfl⟩
  show W p l e (headSpec wsX11_here rm_11_here).room s m args below meth c s.heap [] 0 0 (MQ below (va_Qi (fun r u => r = res.1 ∧ u = res.2) (fun u t => va_P D vwCl (ww dM 41 cA ad u) t.heap) (inA 41 ad)) args s 0 0 (inA 41 ad)) _
  rw [← hQQ]
  have in11 : ∀ w ∈ wsX110, w ∈ wsX11_here := by decide +kernel
  have lk233 : Cond.fieldLink RX11 233 "CureTownModel" "guests" "I" ∈ wsX11_here := by decide +kernel
  unfold f_11_here at h
  obtain ⟨H, hH⟩ : ∃ H, H = s.heap := ⟨_, rfl⟩
  obtain ⟨locs, hlc⟩ : ∃ q : List Loc, q = [] := ⟨_, rfl⟩
  have hP : va_P D vwCl (ww dM 41 cA ad σ) s.heap := hP
  have hS : va_S (inA 41 ad) s.heap s.heap [] := hS
  rw [← hlc] at hS ⊢
  rw [show W p l e (headSpec wsX11_here rm_11_here).room s m args below meth c s.heap locs 0 0 QQ = W p l e (headSpec wsX11_here rm_11_here).room s m args below meth c H locs 0 0 QQ by rw [hH]]
  have hS : va_S (inA 41 ad) s.heap H locs := by rw [hH]; exact hS
  have hP : va_P D vwCl (ww dM 41 cA ad σ) H := by rw [hH]; exact hP
  clear hH hlc
  refine lv_iconst (v := 0) hx hb dX11_here_0 (by decide) ?_
  refine lv_istore_n (lv' := [(2, .int 0), (0, .ref (ad 0)), (1, .int a1)]) hx hb dX11_here_1 rfl hl (by decide) rfl (fun ls hl => ?_)
  refine lv_iconst (v := 0) hx hb dX11_here_2 (by decide) ?_
  refine lv_istore_n (lv' := [(3, .int 0), (2, .int 0), (0, .ref (ad 0)), (1, .int a1)]) hx hb dX11_here_3 rfl hl (by decide) rfl (fun ls hl => ?_)
  obtain ⟨t1011, o1013, h⟩ := bd_some h
  refine lq_rule (P := fun t2 : Int32 × Int32 × St => ∀ (H : Heap) (locs : List Loc) (ls : Array Slot), va_P D vwCl (ww dM 41 cA ad t2.2.2) H → va_S (inA 41 ad) s.heap H locs → lv_has ls 4 [(0, .ref (ad 0)), (1, .int a1), (2, .int t2.1), (3, .int t2.2.1)] → W p l e (headSpec wsX11_here rm_11_here).room s m args below meth c H locs 0 0 QQ (F0 m 4 ls [])) (X := fun t1011 : Int32 × Int32 × St => ∀ (H : Heap) (locs : List Loc) (ls : Array Slot), va_P D vwCl (ww dM 41 cA ad t1011.2.2) H → va_S (inA 41 ad) s.heap H locs → lv_has ls 4 [(0, .ref (ad 0)), (1, .int a1), (2, .int t1011.1), (3, .int t1011.2.1)] → W p l e (headSpec wsX11_here rm_11_here).room s m args below meth c H locs 0 0 QQ (F0 m 35 ls [])) ?_ n _ _ o1013 ?_ H locs ls hP hS (lv_sub hl [2, 3, 1, 0] rfl)
  · clear h hP hS hl
    intro t2 rL1 h hCL1 hEL1 H locs ls hP hS hl
    unfold b_11_here_4 at h
    refine lv_iload_n hx hb dX11_here_4 rfl (lv_at hl 3 rfl) ?_
    refine lv_aload_n hx hb dX11_here_5 rfl (lv_at hl 0 rfl) ?_
    refine x_gi X hP (j := 1) (by decide) (dM_0) rfl rfl (by decide) in11 lk233 dX11_here_6 ?_
    refine lv_icmp_ge (tgt := 35) hx hb dX11_here_9 (by decide) (fun c3 => ?_) (fun c3 => ?_)
    · have h := it_t c3 h
      exact hEL1 _ (Option.some.inj h).symm H locs ls hP hS (lv_sub hl [0, 1, 2, 3] rfl)
    · have h := it_f c3 h
      refine lv_iload_n hx hb dX11_here_12 rfl (lv_at hl 2 rfl) ?_
      refine lv_aload_n hx hb dX11_here_13 rfl (lv_at hl 0 rfl) ?_
      refine lv_iload_n hx hb dX11_here_14 rfl (lv_at hl 3 rfl) ?_
      refine lv_iload_n hx hb dX11_here_15 rfl (lv_at hl 1 rfl) ?_
      obtain ⟨r4, k5, h⟩ := bd_some h
      refine x_Vi (rest := [.int t2.1]) X hP hS (k_11_isHere l D cA ad hj n t2.2.2 t2.2.1 a1 k5) (by decide) (dM_0) rfl 2 gX11_here_X11_isHere rfl rfl rfl (by decide +kernel) ⟨Nat.le_of_ble_eq_true rfl, Nat.le_of_ble_eq_true rfl⟩ rfl hl.1 rfl (Nat.le_of_ble_eq_true rfl) dX11_here_16 ⟨Nat.zero_le _, Nat.zero_le _⟩ (fun H locs hP hS => ?_)
      refine lv_if_eq (tgt := 26) hx hb dX11_here_19 (by decide) (fun c6 => ?_) (fun c6 => ?_)
      · have h := it_t c6 h
        refine lv_iconst (v := 0) hx hb dX11_here_26 (by decide) ?_
        refine lv_iadd hx hb dX11_here_27 ?_
        refine lv_topi (fun v7 ev7 => ?_)
        have h := nm_some ev7 h
        refine lv_istore_n (lv' := [(2, .int v7), (0, .ref (ad 0)), (1, .int a1), (3, .int t2.2.1)]) hx hb dX11_here_28 rfl hl (by decide) rfl (fun ls hl => ?_)
        obtain ⟨v8, ev8⟩ : ∃ y : Int32, y = t2.2.1 + 1 := ⟨_, rfl⟩
        have h := nm_some ev8 h
        refine lv_iinc (v := v8) (lv' := [(3, .int v8), (2, .int v7), (0, .ref (ad 0)), (1, .int a1)]) hx hb dX11_here_29 hl (k := 3) rfl (by rw [ev8]; rfl) (by decide) rfl (fun ls hl => ?_)
        refine lv_goto (tgt := 4) hx hb dX11_here_32 (by decide) ?_
        exact hCL1 _ (Option.some.inj h).symm H locs ls hP hS (lv_sub hl [2, 3, 1, 0] rfl)
      · have h := it_f c6 h
        refine lv_iconst (v := 1) hx hb dX11_here_22 (by decide) ?_
        refine lv_goto (tgt := 27) hx hb dX11_here_23 (by decide) ?_
        refine lv_iadd hx hb dX11_here_27 ?_
        refine lv_topi (fun v9 ev9 => ?_)
        have h := nm_some ev9 h
        refine lv_istore_n (lv' := [(2, .int v9), (0, .ref (ad 0)), (1, .int a1), (3, .int t2.2.1)]) hx hb dX11_here_28 rfl hl (by decide) rfl (fun ls hl => ?_)
        obtain ⟨v10, ev10⟩ : ∃ y : Int32, y = t2.2.1 + 1 := ⟨_, rfl⟩
        have h := nm_some ev10 h
        refine lv_iinc (v := v10) (lv' := [(3, .int v10), (2, .int v9), (0, .ref (ad 0)), (1, .int a1)]) hx hb dX11_here_29 hl (k := 3) rfl (by rw [ev10]; rfl) (by decide) rfl (fun ls hl => ?_)
        refine lv_goto (tgt := 4) hx hb dX11_here_32 (by decide) ?_
        exact hCL1 _ (Option.some.inj h).symm H locs ls hP hS (lv_sub hl [2, 3, 1, 0] rfl)
  · intro H locs ls hP hS hl
    refine lv_iload_n hx hb dX11_here_35 rfl (lv_at hl 2 rfl) ?_
    subst hQQ
    exact x_ri X hr hlocks hP hS (Option.some.inj h) dX11_here_36
