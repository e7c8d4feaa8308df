def f_11_bad (n : Nat) (σ : St) (a1 : Int32) : Option (Int32 × St) :=
  nm (si σ 0 23 a1) fun σ1 =>
  nm (si σ1 0 24 (σ1.1 0 21)) fun σ2 =>
  some (0, σ2)
abbrev rm_11_bad : Room := { frames := 0, cells := 0, slots := 0, locals := 0 }
set_option maxRecDepth 100000 in
set_option maxHeartbeats 4000000 in
theorem k_11_bad (l : Launch) (D : va_G) (cA : Nat → ClassId) (ad : Nat → Nat) (hj : inj 41 ad) (n : Nat) (σ : St) (a1 : Int32)  {res : Int32 × St} (h : f_11_bad n σ a1 = some res) : MXi l D dM 41 cA ad ET yX11_bad wsX11_bad rm_11_bad [.ref (ad 0), .int a1] σ res := by
  refine Met.ofW (cc := cX11_bad) (maxL := 2) (ret := (some .boolean)) (by decide) rfl ?_
  intro p e s m args below meth c s₁ B hml hv
  obtain ⟨hargs, hP, hK, hE⟩ := hv
  have hx := B.exec
  have hb := B.bytes
  have hr := B.returns
  have hts := atoms_spec (ws := wsX11_bad) B.pre
  have hown : s.vm.findClass RX11 = some m.cls := findClass_of_methodNamed B.named
  have hlocks := B.notSynchronized
  have X : Cx p s m args c cX11_bad 2 RX11 wsX11_bad D dM 41 cA ad ET := ⟨hx, hb, hml, hown, hts, hK, hj, hE, ET_ok⟩
  have hS : va_S (inA 41 ad) s.heap s.heap [] := va_S.rf
  have hl := lv_entry ([.ref (ad 0), .int a1]) (n := 2) (Nat.le_of_ble_eq_true rfl)
  rw [show entryFrame m args 2 = entryFrame m ([.ref (ad 0), .int a1] : List Value).toArray 2 by rw [hargs]]
  rw [lg_entry_eq]
  generalize (lg_sl ([.ref (ad 0), .int a1]) ++ List.replicate (2 - (lg_sl ([.ref (ad 0), .int a1])).length) Slot.unset).toArray = ls at hl ⊢
  have hl : lv_has ls 2 [(0, .ref (ad 0)), (1, .int a1)] := hl
  obtain ⟨QQ, hQQ⟩ : ∃ Q, Q = MQ below (va_Qi (fun r u => r = res.1 ∧ u = res.2) (fun u t => va_P D vwCl (ww dM 41 cA ad u) t.heap) (inA 41 ad)) args s 0 0 (inA 41 ad) := ⟨_, rfl⟩
  show W p l e (headSpec wsX11_bad rm_11_bad).room s m args below meth c s.heap [] 0 0 (MQ below (va_Qi (fun r u => r = res.1 ∧ u = res.2) (fun u t => va_P D vwCl (ww dM 41 cA ad u) t.heap) (inA 41 ad)) args s 0 0 (inA 41 ad)) _
  rw [← hQQ]
  have in11 : ∀ w ∈ wsX110, w ∈ wsX11_bad := by decide +kernel
  have lk192 : Cond.fieldLink RX11 192 "CureTownModel" "wrong" "I" ∈ wsX11_bad := by decide +kernel
  have lk169 : Cond.fieldLink RX11 169 "CureTownModel" "tokenAt" "I" ∈ wsX11_bad := by decide +kernel
  have lk195 : Cond.fieldLink RX11 195 "CureTownModel" "wrongAt" "I" ∈ wsX11_bad := by decide +kernel
  unfold f_11_bad at h
  obtain ⟨H, hH⟩ : ∃ H, H = s.heap := ⟨_, rfl⟩
  obtain ⟨locs, hlc⟩ : ∃ q : List Loc, q = [] := ⟨_, rfl⟩
  have hP : va_P D vwCl (ww dM 41 cA ad σ) s.heap := hP
  have hS : va_S (inA 41 ad) s.heap s.heap [] := hS
  rw [← hlc] at hS ⊢
  rw [show W p l e (headSpec wsX11_bad rm_11_bad).room s m args below meth c s.heap locs 0 0 QQ = W p l e (headSpec wsX11_bad rm_11_bad).room s m args below meth c H locs 0 0 QQ by rw [hH]]
  have hS : va_S (inA 41 ad) s.heap H locs := by rw [hH]; exact hS
  have hP : va_P D vwCl (ww dM 41 cA ad σ) H := by rw [hH]; exact hP
  clear hH hlc
  refine lv_aload_n hx hb dX11_bad_0 rfl (lv_at hl 0 rfl) ?_
  refine lv_iload_n hx hb dX11_bad_1 rfl (lv_at hl 1 rfl) ?_
  refine x_pi X hP hS (j := 23) (by decide) (dM_0) rfl rfl (by decide) in11 tyX11_ok nmX11 lk192 rfl rfl rfl rfl dX11_bad_2 (fun σ1 eσ1 H locs hP hS => ?_)
  have h := nm_some eσ1 h
  refine lv_aload_n hx hb dX11_bad_5 rfl (lv_at hl 0 rfl) ?_
  refine lv_aload_n hx hb dX11_bad_6 rfl (lv_at hl 0 rfl) ?_
  refine x_gi X hP (j := 21) (by decide) (dM_0) rfl rfl (by decide) in11 lk169 dX11_bad_7 ?_
  refine x_pi X hP hS (j := 24) (by decide) (dM_0) rfl rfl (by decide) in11 tyX11_ok nmX11 lk195 rfl rfl rfl rfl dX11_bad_10 (fun σ2 eσ2 H locs hP hS => ?_)
  have h := nm_some eσ2 h
  refine lv_iconst (v := 0) hx hb dX11_bad_13 (by decide) ?_
  subst hQQ
  exact x_rz X hr hlocks hP hS (by decide +kernel) (Option.some.inj h) dX11_bad_14
def f_11_need (n : Nat) (σ : St) (a1 : Int32) : Option (Int32 × St) :=
  if (σ.1 0 20) = a1 then
    (f_11_next0 n σ ).bind fun r2 =>
    some (1, r2)
  else
    (f_11_bad n σ 1).bind fun r4 =>
    gd (isb r4.1) <| some (r4.1, r4.2)
abbrev rm_11_need : Room := { frames := 4, cells := 0, slots := 0, locals := 85 }
set_option maxRecDepth 100000 in
set_option maxHeartbeats 4000000 in
theorem k_11_need (l : Launch) (D : va_G) (cA : Nat → ClassId) (ad : Nat → Nat) (hj : inj 41 ad) (n : Nat) (σ : St) (a1 : Int32)  {res : Int32 × St} (h : f_11_need n σ a1 = some res) : MXi l D dM 41 cA ad ET yX11_need wsX11_need rm_11_need [.ref (ad 0), .int a1] σ res := by
  refine Met.ofW (cc := cX11_need) (maxL := 2) (ret := (some .boolean)) (by decide) rfl ?_
  intro p e s m args below meth c s₁ B hml hv
  obtain ⟨hargs, hP, hK, hE⟩ := hv
  have hx := B.exec
  have hb := B.bytes
  have hr := B.returns
  have hts := atoms_spec (ws := wsX11_need) B.pre
  have hown : s.vm.findClass RX11 = some m.cls := findClass_of_methodNamed B.named
  have hlocks := B.notSynchronized
  have X : Cx p s m args c cX11_need 2 RX11 wsX11_need D dM 41 cA ad ET := ⟨hx, hb, hml, hown, hts, hK, hj, hE, ET_ok⟩
  have hS : va_S (inA 41 ad) s.heap s.heap [] := va_S.rf
  have hl := lv_entry ([.ref (ad 0), .int a1]) (n := 2) (Nat.le_of_ble_eq_true rfl)
  rw [show entryFrame m args 2 = entryFrame m ([.ref (ad 0), .int a1] : List Value).toArray 2 by rw [hargs]]
  rw [lg_entry_eq]
  generalize (lg_sl ([.ref (ad 0), .int a1]) ++ List.replicate (2 - (lg_sl ([.ref (ad 0), .int a1])).length) Slot.unset).toArray = ls at hl ⊢
  have hl : lv_has ls 2 [(0, .ref (ad 0)), (1, .int a1)] := hl
  obtain ⟨QQ, hQQ⟩ : ∃ Q, Q = MQ below (va_Qi (fun r u => r = res.1 ∧ u = res.2) (fun u t => va_P D vwCl (ww dM 41 cA ad u) t.heap) (inA 41 ad)) args s 0 0 (inA 41 ad) := ⟨_, rfl⟩
  show W p l e (headSpec wsX11_need rm_11_need).room s m args below meth c s.heap [] 0 0 (MQ below (va_Qi (fun r u => r = res.1 ∧ u = res.2) (fun u t => va_P D vwCl (ww dM 41 cA ad u) t.heap) (inA 41 ad)) args s 0 0 (inA 41 ad)) _
  rw [← hQQ]
  have in11 : ∀ w ∈ wsX110, w ∈ wsX11_need := by decide +kernel
  have lk172 : Cond.fieldLink RX11 172 "CureTownModel" "token" "I" ∈ wsX11_need := by decide +kernel
  unfold f_11_need at h
  obtain ⟨H, hH⟩ : ∃ H, H = s.heap := ⟨_, rfl⟩
  obtain ⟨locs, hlc⟩ : ∃ q : List Loc, q = [] := ⟨_, rfl⟩
  have hP : va_P D vwCl (ww dM 41 cA ad σ) s.heap := hP
  have hS : va_S (inA 41 ad) s.heap s.heap [] := hS
  rw [← hlc] at hS ⊢
  rw [show W p l e (headSpec wsX11_need rm_11_need).room s m args below meth c s.heap locs 0 0 QQ = W p l e (headSpec wsX11_need rm_11_need).room s m args below meth c H locs 0 0 QQ by rw [hH]]
  have hS : va_S (inA 41 ad) s.heap H locs := by rw [hH]; exact hS
  have hP : va_P D vwCl (ww dM 41 cA ad σ) H := by rw [hH]; exact hP
  clear hH hlc
  refine lv_aload_n hx hb dX11_need_0 rfl (lv_at hl 0 rfl) ?_
  refine x_gi X hP (j := 20) (by decide) (dM_0) rfl rfl (by decide) in11 lk172 dX11_need_1 ?_
  refine lv_iload_n hx hb dX11_need_4 rfl (lv_at hl 1 rfl) ?_
  refine lv_icmp_eq (tgt := 14) hx hb dX11_need_5 (by decide) (fun c1 => ?_) (fun c1 => ?_)
  · have h := it_t c1 h
    refine lv_aload_n hx hb dX11_need_14 rfl (lv_at hl 0 rfl) ?_
    obtain ⟨r2, k3, h⟩ := bd_some h
    refine x_Vv (rest := []) X hP hS (k_11_next0 l D cA ad hj n σ  k3) (by decide) (dM_0) rfl 0 gX11_need_X11_next0 rfl rfl rfl (by decide +kernel) ⟨Nat.le_of_ble_eq_true rfl, Nat.le_of_ble_eq_true rfl⟩ rfl hl.1 rfl (Nat.le_of_ble_eq_true rfl) dX11_need_15 ⟨Nat.zero_le _, Nat.zero_le _⟩ (fun H locs hP hS => ?_)
    refine lv_iconst (v := 1) hx hb dX11_need_18 (by decide) ?_
    subst hQQ
    exact x_rz X hr hlocks hP hS (by decide +kernel) (Option.some.inj h) dX11_need_19
  · have h := it_f c1 h
    refine lv_aload_n hx hb dX11_need_8 rfl (lv_at hl 0 rfl) ?_
    refine lv_iconst (v := 1) hx hb dX11_need_9 (by decide) ?_
    obtain ⟨r4, k5, h⟩ := bd_some h
    refine x_Vi (rest := []) X hP hS (k_11_bad l D cA ad hj n σ 1 k5) (by decide) (dM_0) rfl 1 gX11_need_X11_bad rfl rfl rfl (by decide +kernel) ⟨Nat.le_of_ble_eq_true rfl, Nat.le_of_ble_eq_true rfl⟩ rfl hl.1 rfl (Nat.le_of_ble_eq_true rfl) dX11_need_10 ⟨Nat.zero_le _, Nat.zero_le _⟩ (fun H locs hP hS => ?_)
    obtain ⟨g6, h⟩ := gd_some h
    subst hQQ
    exact x_rz X hr hlocks hP hS (isb_nar g6) (Option.some.inj h) dX11_need_13
def f_11_number (n : Nat) (σ : St) (a1 : Int32) (a2 : Int32) : Option (Int32 × St) :=
  if (σ.1 0 20) = 3 then
    (f_11_isIn n σ (σ.1 0 22) a1 a2).bind fun r2 =>
    if r2.1 = 0 then
      (f_11_bad n r2.2 3).bind fun r8 =>
      gd (isb r8.1) <| some (r8.1, r8.2)
    else
      nm (si r2.2 0 28 (r2.2.1 0 22)) fun σ5 =>
      (f_11_next0 n σ5 ).bind fun r6 =>
      some (1, r6)
  else
    (f_11_bad n σ 1).bind fun r11 =>
    gd (isb r11.1) <| some (r11.1, r11.2)
abbrev rm_11_number : Room := { frames := 4, cells := 0, slots := 0, locals := 85 }
set_option maxRecDepth 100000 in
set_option maxHeartbeats 4000000 in
theorem k_11_number (l : Launch) (D : va_G) (cA : Nat → ClassId) (ad : Nat → Nat) (hj : inj 41 ad) (n : Nat) (σ : St) (a1 : Int32) (a2 : Int32)  {res : Int32 × St} (h : f_11_number n σ a1 a2 = some res) : MXi l D dM 41 cA ad ET yX11_number wsX11_number rm_11_number [.ref (ad 0), .int a1, .int a2] σ res := by
  refine Met.ofW (cc := cX11_number) (maxL := 3) (ret := (some .boolean)) (by decide) rfl ?_
  intro p e s m args below meth c s₁ B hml hv
  obtain ⟨hargs, hP, hK, hE⟩ := hv
  have hx := B.exec
  have hb := B.bytes
  have hr := B.returns
  have hts := atoms_spec (ws := wsX11_number) B.pre
  have hown : s.vm.findClass RX11 = some m.cls := findClass_of_methodNamed B.named
  have hlocks := B.notSynchronized
  have X : Cx p s m args c cX11_number 3 RX11 wsX11_number D dM 41 cA ad ET := ⟨hx, hb, hml, hown, hts, hK, hj, hE, ET_ok⟩
  have hS : va_S (inA 41 ad) s.heap s.heap [] := va_S.rf
  have hl := lv_entry ([.ref (ad 0), .int a1, .int a2]) (n := 3) (Nat.le_of_ble_eq_true rfl)
  rw [show entryFrame m args 3 = entryFrame m ([.ref (ad 0), .int a1, .int a2] : List Value).toArray 3 by rw [hargs]]
  rw [lg_entry_eq]
  generalize (lg_sl ([.ref (ad 0), .int a1, .int a2]) ++ List.replicate (3 - (lg_sl ([.ref (ad 0), .int a1, .int a2])).length) Slot.unset).toArray = ls at hl ⊢
  have hl : lv_has ls 3 [(0, .ref (ad 0)), (1, .int a1), (2, .int a2)] := hl
  obtain ⟨QQ, hQQ⟩ : ∃ Q, Q = MQ below (va_Qi (fun r u => r = res.1 ∧ u = res.2) (fun u t => va_P D vwCl (ww dM 41 cA ad u) t.heap) (inA 41 ad)) args s 0 0 (inA 41 ad) := ⟨_, rfl⟩
  show W p l e (headSpec wsX11_number rm_11_number).room s m args below meth c s.heap [] 0 0 (MQ below (va_Qi (fun r u => r = res.1 ∧ u = res.2) (fun u t => va_P D vwCl (ww dM 41 cA ad u) t.heap) (inA 41 ad)) args s 0 0 (inA 41 ad)) _
  rw [← hQQ]
  have in11 : ∀ w ∈ wsX110, w ∈ wsX11_number := by decide +kernel
  have lk172 : Cond.fieldLink RX11 172 "CureTownModel" "token" "I" ∈ wsX11_number := by decide +kernel
  have lk189 : Cond.fieldLink RX11 189 "CureTownModel" "value" "I" ∈ wsX11_number := by decide +kernel
  have lk204 : Cond.fieldLink RX11 204 "CureTownModel" "got" "I" ∈ wsX11_number := by decide +kernel
  unfold f_11_number at h
  obtain ⟨H, hH⟩ : ∃ H, H = s.heap := ⟨_, rfl⟩
  obtain ⟨locs, hlc⟩ : ∃ q : List Loc, q = [] := ⟨_, rfl⟩
  have hP : va_P D vwCl (ww dM 41 cA ad σ) s.heap := hP
  have hS : va_S (inA 41 ad) s.heap s.heap [] := hS
  rw [← hlc] at hS ⊢
  rw [show W p l e (headSpec wsX11_number rm_11_number).room s m args below meth c s.heap locs 0 0 QQ = W p l e (headSpec wsX11_number rm_11_number).room s m args below meth c H locs 0 0 QQ by rw [hH]]
  have hS : va_S (inA 41 ad) s.heap H locs := by rw [hH]; exact hS
  have hP : va_P D vwCl (ww dM 41 cA ad σ) H := by rw [hH]; exact hP
  clear hH hlc
  refine lv_aload_n hx hb dX11_number_0 rfl (lv_at hl 0 rfl) ?_
  refine x_gi X hP (j := 20) (by decide) (dM_0) rfl rfl (by decide) in11 lk172 dX11_number_1 ?_
  refine lv_iconst (v := 3) hx hb dX11_number_4 (by decide) ?_
  refine lv_icmp_eq (tgt := 14) hx hb dX11_number_5 (by decide) (fun c1 => ?_) (fun c1 => ?_)
  · have h := it_t c1 h
    refine lv_aload_n hx hb dX11_number_14 rfl (lv_at hl 0 rfl) ?_
    refine x_gi X hP (j := 22) (by decide) (dM_0) rfl rfl (by decide) in11 lk189 dX11_number_15 ?_
    refine lv_iload_n hx hb dX11_number_18 rfl (lv_at hl 1 rfl) ?_
    refine lv_iload_n hx hb dX11_number_19 rfl (lv_at hl 2 rfl) ?_
    obtain ⟨r2, k3, h⟩ := bd_some h
    refine x_Si (rest := []) X hP hS (k_11_isIn l D cA ad hj n σ (σ.1 0 22) a1 a2 k3) 3 gX11_number_X11_isIn rfl rfl rfl (by decide +kernel) ⟨Nat.le_of_ble_eq_true rfl, Nat.le_of_ble_eq_true rfl⟩ rfl hl.1 rfl (Nat.le_of_ble_eq_true rfl) dX11_number_20 ⟨Nat.zero_le _, Nat.zero_le _⟩ (fun H locs hP hS => ?_)
    refine lv_if_ne (tgt := 32) hx hb dX11_number_23 (by decide) (fun c4 => ?_) (fun c4 => ?_)
    · have h := it_f c4 h
      refine lv_aload_n hx hb dX11_number_32 rfl (lv_at hl 0 rfl) ?_
      refine lv_aload_n hx hb dX11_number_33 rfl (lv_at hl 0 rfl) ?_
      refine x_gi X hP (j := 22) (by decide) (dM_0) rfl rfl (by decide) in11 lk189 dX11_number_34 ?_
      refine x_pi X hP hS (j := 28) (by decide) (dM_0) rfl rfl (by decide) in11 tyX11_ok nmX11 lk204 rfl rfl rfl rfl dX11_number_37 (fun σ5 eσ5 H locs hP hS => ?_)
      have h := nm_some eσ5 h
      refine lv_aload_n hx hb dX11_number_40 rfl (lv_at hl 0 rfl) ?_
      obtain ⟨r6, k7, h⟩ := bd_some h
      refine x_Vv (rest := []) X hP hS (k_11_next0 l D cA ad hj n σ5  k7) (by decide) (dM_0) rfl 0 gX11_number_X11_next0 rfl rfl rfl (by decide +kernel) ⟨Nat.le_of_ble_eq_true rfl, Nat.le_of_ble_eq_true rfl⟩ rfl hl.1 rfl (Nat.le_of_ble_eq_true rfl) dX11_number_41 ⟨Nat.zero_le _, Nat.zero_le _⟩ (fun H locs hP hS => ?_)
      refine lv_iconst (v := 1) hx hb dX11_number_44 (by decide) ?_
      subst hQQ
      exact x_rz X hr hlocks hP hS (by decide +kernel) (Option.some.inj h) dX11_number_45
    · have h := it_t c4 h
      refine lv_aload_n hx hb dX11_number_26 rfl (lv_at hl 0 rfl) ?_
      refine lv_iconst (v := 3) hx hb dX11_number_27 (by decide) ?_
      obtain ⟨r8, k9, h⟩ := bd_some h
      refine x_Vi (rest := []) X hP hS (k_11_bad l D cA ad hj n r2.2 3 k9) (by decide) (dM_0) rfl 1 gX11_number_X11_bad rfl rfl rfl (by decide +kernel) ⟨Nat.le_of_ble_eq_true rfl, Nat.le_of_ble_eq_true rfl⟩ rfl hl.1 rfl (Nat.le_of_ble_eq_true rfl) dX11_number_28 ⟨Nat.zero_le _, Nat.zero_le _⟩ (fun H locs hP hS => ?_)
      obtain ⟨g10, h⟩ := gd_some h
      subst hQQ
      exact x_rz X hr hlocks hP hS (isb_nar g10) (Option.some.inj h) dX11_number_31
  · have h := it_f c1 h
    refine lv_aload_n hx hb dX11_number_8 rfl (lv_at hl 0 rfl) ?_
    refine lv_iconst (v := 1) hx hb dX11_number_9 (by decide) ?_
    obtain ⟨r11, k12, h⟩ := bd_some h
    refine x_Vi (rest := []) X hP hS (k_11_bad l D cA ad hj n σ 1 k12) (by decide) (dM_0) rfl 1 gX11_number_X11_bad rfl rfl rfl (by decide +kernel) ⟨Nat.le_of_ble_eq_true rfl, Nat.le_of_ble_eq_true rfl⟩ rfl hl.1 rfl (Nat.le_of_ble_eq_true rfl) dX11_number_10 ⟨Nat.zero_le _, Nat.zero_le _⟩ (fun H locs hP hS => ?_)
    obtain ⟨g13, h⟩ := gd_some h
    subst hQQ
    exact x_rz X hr hlocks hP hS (isb_nar g13) (Option.some.inj h) dX11_number_13
def b_11_isThere_4 (n : Nat)  (t2 : Int32 × Int32 × St) : Option ((Int32 × Int32 × St) ⊕ (Int32 × Int32 × St)) :=
  if (t2.2.2.1 0 2) ≤ t2.2.1 then
    some (.inr (t2.1, t2.2.1, t2.2.2))
  else
    if t2.1 = 0 then
      gd (inb t2.2.1 8) <| nm (lg_cmp (t2.2.2.2 8 t2.2.1.toNatClampNeg) (t2.2.2.2 0 27)) fun v7 =>
      if v7 = 0 then
        nm (t2.2.1 + 1) fun v10 =>
        some (.inl (1, v10, t2.2.2))
      else
        nm (t2.2.1 + 1) fun v9 =>
        some (.inl (0, v9, t2.2.2))
    else
      nm (t2.2.1 + 1) fun v5 =>
      some (.inl (1, v5, t2.2.2))
def b_11_isThere_44 (n : Nat)  (t1015 : Int32 × Int32 × St) : Option ((Int32 × Int32 × St) ⊕ (Int32 × Int32 × St)) :=
  if (t1015.2.2.1 0 16) ≤ t1015.2.1 then
    some (.inr (t1015.1, t1015.2.1, t1015.2.2))
  else
    if t1015.1 = 0 then
      gd (inb t1015.2.1 8) <| nm (lg_cmp (t1015.2.2.2 9 t1015.2.1.toNatClampNeg) (t1015.2.2.2 0 27)) fun v1020 =>
      if v1020 = 0 then
        nm (t1015.2.1 + 1) fun v1023 =>
        some (.inl (1, v1023, t1015.2.2))
      else
        nm (t1015.2.1 + 1) fun v1022 =>
        some (.inl (0, v1022, t1015.2.2))
    else
      nm (t1015.2.1 + 1) fun v1018 =>
      some (.inl (1, v1018, t1015.2.2))
def f_11_isThere (n : Nat) (σ : St)  : Option (Int32 × St) :=
  (lq (b_11_isThere_4 n ) n (0, 0, σ)).bind fun t1011 =>
  (lq (b_11_isThere_44 n ) n (t1011.1, 0, t1011.2.2)).bind fun t2024 =>
  gd (isb t2024.1) <| some (t2024.1, t2024.2.2)
abbrev rm_11_isThere : Room := { frames := 0, cells := 0, slots := 0, locals := 0 }
set_option maxRecDepth 100000 in
set_option maxHeartbeats 4000000 in
theorem k_11_isThere (l : Launch) (D : va_G) (cA : Nat → ClassId) (ad : Nat → Nat) (hj : inj 41 ad) (n : Nat) (σ : St)   {res : Int32 × St} (h : f_11_isThere n σ  = some res) : MXi l D dM 41 cA ad ET yX11_isThere wsX11_isThere rm_11_isThere [.ref (ad 0)] σ res := by
  refine Met.ofW (cc := cX11_isThere) (maxL := 3) (ret := (some .boolean)) (by decide) rfl ?_
  intro p e s m args below meth c s₁ B hml hv
  obtain ⟨hargs, hP, hK, hE⟩ := hv
  have hx := B.exec
  have hb := B.bytes
  have hr := B.returns
  have hts := atoms_spec (ws := wsX11_isThere) B.pre
  have hown : s.vm.findClass RX11 = some m.cls := findClass_of_methodNamed B.named
  have hlocks := B.notSynchronized
  have X : Cx p s m args c cX11_isThere 3 RX11 wsX11_isThere D dM 41 cA ad ET := ⟨hx, hb, hml, hown, hts, hK, hj, hE, ET_ok⟩
  have hS : va_S (inA 41 ad) s.heap s.heap [] := va_S.rf
  have hl := lv_entry ([.ref (ad 0)]) (n := 3) (Nat.le_of_ble_eq_true rfl)
  rw [show entryFrame m args 3 = entryFrame m ([.ref (ad 0)] : List Value).toArray 3 by rw [hargs]]
  rw [lg_entry_eq]
  generalize (lg_sl ([.ref (ad 0)]) ++ List.replicate (3 - (lg_sl ([.ref (ad 0)])).length) Slot.unset).toArray = ls at hl ⊢
  have hl : lv_has ls 3 [(0, .ref (ad 0))] := hl
  obtain ⟨QQ, hQQ⟩ : ∃ Q, Q = MQ below (va_Qi (fun r u => r = res.1 ∧ u = res.2) (fun u t => va_P D vwCl (ww dM 41 cA ad u) t.heap) (inA 41 ad)) args s 0 0 (inA 41 ad) := ⟨_, rfl⟩
  show W p l e (headSpec wsX11_isThere rm_11_isThere).room s m args below meth c s.heap [] 0 0 (MQ below (va_Qi (fun r u => r = res.1 ∧ u = res.2) (fun u t => va_P D vwCl (ww dM 41 cA ad u) t.heap) (inA 41 ad)) args s 0 0 (inA 41 ad)) _
  rw [← hQQ]
  have in11 : ∀ w ∈ wsX110, w ∈ wsX11_isThere := by decide +kernel
  have lk207 : Cond.fieldLink RX11 207 "CureTownModel" "regimens" "I" ∈ wsX11_isThere := by decide +kernel
  have lk32 : Cond.fieldLink RX11 32 "CureTownModel" "name" "[J" ∈ wsX11_isThere := by decide +kernel
  have lk178 : Cond.fieldLink RX11 178 "CureTownModel" "word" "J" ∈ wsX11_isThere := by decide +kernel
  have lk210 : Cond.fieldLink RX11 210 "CureTownModel" "freshRegimens" "I" ∈ wsX11_isThere := by decide +kernel
  have lk36 : Cond.fieldLink RX11 36 "CureTownModel" "freshName" "[J" ∈ wsX11_isThere := by decide +kernel
  unfold f_11_isThere at h
  obtain ⟨H, hH⟩ : ∃ H, H = s.heap := ⟨_, rfl⟩
  obtain ⟨locs, hlc⟩ : ∃ q : List Loc, q = [] := ⟨_, rfl⟩
  have hP : va_P D vwCl (ww dM 41 cA ad σ) s.heap := hP
  have hS : va_S (inA 41 ad) s.heap s.heap [] := hS
  rw [← hlc] at hS ⊢
  rw [show W p l e (headSpec wsX11_isThere rm_11_isThere).room s m args below meth c s.heap locs 0 0 QQ = W p l e (headSpec wsX11_isThere rm_11_isThere).room s m args below meth c H locs 0 0 QQ by rw [hH]]
  have hS : va_S (inA 41 ad) s.heap H locs := by rw [hH]; exact hS
  have hP : va_P D vwCl (ww dM 41 cA ad σ) H := by rw [hH]; exact hP
  clear hH hlc
  refine lv_iconst (v := 0) hx hb dX11_isThere_0 (by decide) ?_
  refine lv_istore_n (lv' := [(1, .int 0), (0, .ref (ad 0))]) hx hb dX11_isThere_1 rfl hl (by decide) rfl (fun ls hl => ?_)
  refine lv_iconst (v := 0) hx hb dX11_isThere_2 (by decide) ?_
  refine lv_istore_n (lv' := [(2, .int 0), (1, .int 0), (0, .ref (ad 0))]) hx hb dX11_isThere_3 rfl hl (by decide) rfl (fun ls hl => ?_)
  obtain ⟨t1011, o1013, h⟩ := bd_some h
  refine lq_rule (P := fun t2 : Int32 × Int32 × St => ∀ (H : Heap) (locs : List Loc) (ls : Array Slot), va_P D vwCl (ww dM 41 cA ad t2.2.2) H → va_S (inA 41 ad) s.heap H locs → lv_has ls 3 [(0, .ref (ad 0)), (1, .int t2.1), (2, .int t2.2.1)] → W p l e (headSpec wsX11_isThere rm_11_isThere).room s m args below meth c H locs 0 0 QQ (F0 m 4 ls [])) (X := fun t1011 : Int32 × Int32 × St => ∀ (H : Heap) (locs : List Loc) (ls : Array Slot), va_P D vwCl (ww dM 41 cA ad t1011.2.2) H → va_S (inA 41 ad) s.heap H locs → lv_has ls 3 [(0, .ref (ad 0)), (1, .int t1011.1), (2, .int t1011.2.1)] → W p l e (headSpec wsX11_isThere rm_11_isThere).room s m args below meth c H locs 0 0 QQ (F0 m 42 ls [])) ?_ n _ _ o1013 ?_ H locs ls hP hS (lv_sub hl [2, 1, 0] rfl)
  · clear h hP hS hl
    intro t2 rL1 h hCL1 hEL1 H locs ls hP hS hl
    unfold b_11_isThere_4 at h
    refine lv_iload_n hx hb dX11_isThere_4 rfl (lv_at hl 2 rfl) ?_
    refine lv_aload_n hx hb dX11_isThere_5 rfl (lv_at hl 0 rfl) ?_
    refine x_gi X hP (j := 2) (by decide) (dM_0) rfl rfl (by decide) in11 lk207 dX11_isThere_6 ?_
    refine lv_icmp_ge (tgt := 42) hx hb dX11_isThere_9 (by decide) (fun c3 => ?_) (fun c3 => ?_)
    · have h := it_t c3 h
      exact hEL1 _ (Option.some.inj h).symm H locs ls hP hS (lv_sub hl [0, 1, 2] rfl)
    · have h := it_f c3 h
      refine lv_iload_n hx hb dX11_isThere_12 rfl (lv_at hl 1 rfl) ?_
      refine lv_if_ne (tgt := 30) hx hb dX11_isThere_13 (by decide) (fun c4 => ?_) (fun c4 => ?_)
      · have h := it_f c4 h
        refine lv_iconst (v := 1) hx hb dX11_isThere_30 (by decide) ?_
        refine lv_goto (tgt := 35) hx hb dX11_isThere_31 (by decide) ?_
        refine lv_istore_n (lv' := [(1, .int 1), (0, .ref (ad 0)), (2, .int t2.2.1)]) hx hb dX11_isThere_35 rfl hl (by decide) rfl (fun ls hl => ?_)
        obtain ⟨v5, ev5⟩ : ∃ y : Int32, y = t2.2.1 + 1 := ⟨_, rfl⟩
        have h := nm_some ev5 h
        refine lv_iinc (v := v5) (lv' := [(2, .int v5), (1, .int 1), (0, .ref (ad 0))]) hx hb dX11_isThere_36 hl (k := 2) rfl (by rw [ev5]; rfl) (by decide) rfl (fun ls hl => ?_)
        refine lv_goto (tgt := 4) hx hb dX11_isThere_39 (by decide) ?_
        exact hCL1 _ (Option.some.inj h).symm H locs ls hP hS (lv_sub hl [2, 1, 0] rfl)
      · have h := it_t c4 h
        refine lv_aload_n hx hb dX11_isThere_16 rfl (lv_at hl 0 rfl) ?_
        refine x_gr X hP (j := 10) (by decide) (dM_0) rfl rfl (by decide) in11 lk32 dX11_isThere_17 ?_
        refine lv_iload_n hx hb dX11_isThere_20 rfl (lv_at hl 2 rfl) ?_
        obtain ⟨g6, h⟩ := gd_some h
        refine x_al X hP (by decide) (dM_8) g6 dX11_isThere_21 ?_
        refine lv_aload_n hx hb dX11_isThere_22 rfl (lv_at hl 0 rfl) ?_
        refine x_gl X hP (j := 27) (by decide) (dM_0) rfl rfl (by decide) in11 lk178 dX11_isThere_23 ?_
        refine W.lcmp hx hb dX11_isThere_26 ?_
        refine lv_topi (fun v7 ev7 => ?_)
        have h := nm_some ev7 h
        refine lv_if_ne (tgt := 34) hx hb dX11_isThere_27 (by decide) (fun c8 => ?_) (fun c8 => ?_)
        · have h := it_f c8 h
          refine lv_iconst (v := 0) hx hb dX11_isThere_34 (by decide) ?_
          refine lv_istore_n (lv' := [(1, .int 0), (0, .ref (ad 0)), (2, .int t2.2.1)]) hx hb dX11_isThere_35 rfl hl (by decide) rfl (fun ls hl => ?_)
          obtain ⟨v9, ev9⟩ : ∃ y : Int32, y = t2.2.1 + 1 := ⟨_, rfl⟩
          have h := nm_some ev9 h
          refine lv_iinc (v := v9) (lv' := [(2, .int v9), (1, .int 0), (0, .ref (ad 0))]) hx hb dX11_isThere_36 hl (k := 2) rfl (by rw [ev9]; rfl) (by decide) rfl (fun ls hl => ?_)
          refine lv_goto (tgt := 4) hx hb dX11_isThere_39 (by decide) ?_
          exact hCL1 _ (Option.some.inj h).symm H locs ls hP hS (lv_sub hl [2, 1, 0] rfl)
        · have h := it_t c8 h
          refine lv_iconst (v := 1) hx hb dX11_isThere_30 (by decide) ?_
          refine lv_goto (tgt := 35) hx hb dX11_isThere_31 (by decide) ?_
          refine lv_istore_n (lv' := [(1, .int 1), (0, .ref (ad 0)), (2, .int t2.2.1)]) hx hb dX11_isThere_35 rfl hl (by decide) rfl (fun ls hl => ?_)
          obtain ⟨v10, ev10⟩ : ∃ y : Int32, y = t2.2.1 + 1 := ⟨_, rfl⟩
          have h := nm_some ev10 h
          refine lv_iinc (v := v10) (lv' := [(2, .int v10), (1, .int 1), (0, .ref (ad 0))]) hx hb dX11_isThere_36 hl (k := 2) rfl (by rw [ev10]; rfl) (by decide) rfl (fun ls hl => ?_)
          refine lv_goto (tgt := 4) hx hb dX11_isThere_39 (by decide) ?_
          exact hCL1 _ (Option.some.inj h).symm H locs ls hP hS (lv_sub hl [2, 1, 0] rfl)
  · intro H locs ls hP hS hl
    refine lv_iconst (v := 0) hx hb dX11_isThere_42 (by decide) ?_
    refine lv_istore_n (lv' := [(2, .int 0), (0, .ref (ad 0)), (1, .int t1011.1)]) hx hb dX11_isThere_43 rfl hl (by decide) rfl (fun ls hl => ?_)
    obtain ⟨t2024, o2026, h⟩ := bd_some h
    refine lq_rule (P := fun t1015 : Int32 × Int32 × St => ∀ (H : Heap) (locs : List Loc) (ls : Array Slot), va_P D vwCl (ww dM 41 cA ad t1015.2.2) H → va_S (inA 41 ad) s.heap H locs → lv_has ls 3 [(0, .ref (ad 0)), (1, .int t1015.1), (2, .int t1015.2.1)] → W p l e (headSpec wsX11_isThere rm_11_isThere).room s m args below meth c H locs 0 0 QQ (F0 m 44 ls [])) (X := fun t2024 : Int32 × Int32 × St => ∀ (H : Heap) (locs : List Loc) (ls : Array Slot), va_P D vwCl (ww dM 41 cA ad t2024.2.2) H → va_S (inA 41 ad) s.heap H locs → lv_has ls 3 [(0, .ref (ad 0)), (1, .int t2024.1), (2, .int t2024.2.1)] → W p l e (headSpec wsX11_isThere rm_11_isThere).room s m args below meth c H locs 0 0 QQ (F0 m 82 ls [])) ?_ n _ _ o2026 ?_ H locs ls hP hS (lv_sub hl [1, 2, 0] rfl)
    · clear h hP hS hl
      intro t1015 rL1014 h hCL1014 hEL1014 H locs ls hP hS hl
      unfold b_11_isThere_44 at h
      refine lv_iload_n hx hb dX11_isThere_44 rfl (lv_at hl 2 rfl) ?_
      refine lv_aload_n hx hb dX11_isThere_45 rfl (lv_at hl 0 rfl) ?_
      refine x_gi X hP (j := 16) (by decide) (dM_0) rfl rfl (by decide) in11 lk210 dX11_isThere_46 ?_
      refine lv_icmp_ge (tgt := 82) hx hb dX11_isThere_49 (by decide) (fun c1016 => ?_) (fun c1016 => ?_)
      · have h := it_t c1016 h
        exact hEL1014 _ (Option.some.inj h).symm H locs ls hP hS (lv_sub hl [0, 1, 2] rfl)
      · have h := it_f c1016 h
        refine lv_iload_n hx hb dX11_isThere_52 rfl (lv_at hl 1 rfl) ?_
        refine lv_if_ne (tgt := 70) hx hb dX11_isThere_53 (by decide) (fun c1017 => ?_) (fun c1017 => ?_)
        · have h := it_f c1017 h
          refine lv_iconst (v := 1) hx hb dX11_isThere_70 (by decide) ?_
          refine lv_goto (tgt := 75) hx hb dX11_isThere_71 (by decide) ?_
          refine lv_istore_n (lv' := [(1, .int 1), (0, .ref (ad 0)), (2, .int t1015.2.1)]) hx hb dX11_isThere_75 rfl hl (by decide) rfl (fun ls hl => ?_)
          obtain ⟨v1018, ev1018⟩ : ∃ y : Int32, y = t1015.2.1 + 1 := ⟨_, rfl⟩
          have h := nm_some ev1018 h
          refine lv_iinc (v := v1018) (lv' := [(2, .int v1018), (1, .int 1), (0, .ref (ad 0))]) hx hb dX11_isThere_76 hl (k := 2) rfl (by rw [ev1018]; rfl) (by decide) rfl (fun ls hl => ?_)
          refine lv_goto (tgt := 44) hx hb dX11_isThere_79 (by decide) ?_
          exact hCL1014 _ (Option.some.inj h).symm H locs ls hP hS (lv_sub hl [2, 1, 0] rfl)
        · have h := it_t c1017 h
          refine lv_aload_n hx hb dX11_isThere_56 rfl (lv_at hl 0 rfl) ?_
          refine x_gr X hP (j := 11) (by decide) (dM_0) rfl rfl (by decide) in11 lk36 dX11_isThere_57 ?_
          refine lv_iload_n hx hb dX11_isThere_60 rfl (lv_at hl 2 rfl) ?_
          obtain ⟨g1019, h⟩ := gd_some h
          refine x_al X hP (by decide) (dM_9) g1019 dX11_isThere_61 ?_
          refine lv_aload_n hx hb dX11_isThere_62 rfl (lv_at hl 0 rfl) ?_
          refine x_gl X hP (j := 27) (by decide) (dM_0) rfl rfl (by decide) in11 lk178 dX11_isThere_63 ?_
          refine W.lcmp hx hb dX11_isThere_66 ?_
          refine lv_topi (fun v1020 ev1020 => ?_)
          have h := nm_some ev1020 h
          refine lv_if_ne (tgt := 74) hx hb dX11_isThere_67 (by decide) (fun c1021 => ?_) (fun c1021 => ?_)
          · have h := it_f c1021 h
            refine lv_iconst (v := 0) hx hb dX11_isThere_74 (by decide) ?_
            refine lv_istore_n (lv' := [(1, .int 0), (0, .ref (ad 0)), (2, .int t1015.2.1)]) hx hb dX11_isThere_75 rfl hl (by decide) rfl (fun ls hl => ?_)
            obtain ⟨v1022, ev1022⟩ : ∃ y : Int32, y = t1015.2.1 + 1 := ⟨_, rfl⟩
            have h := nm_some ev1022 h
            refine lv_iinc (v := v1022) (lv' := [(2, .int v1022), (1, .int 0), (0, .ref (ad 0))]) hx hb dX11_isThere_76 hl (k := 2) rfl (by rw [ev1022]; rfl) (by decide) rfl (fun ls hl => ?_)
            refine lv_goto (tgt := 44) hx hb dX11_isThere_79 (by decide) ?_
            exact hCL1014 _ (Option.some.inj h).symm H locs ls hP hS (lv_sub hl [2, 1, 0] rfl)
          · have h := it_t c1021 h
            refine lv_iconst (v := 1) hx hb dX11_isThere_70 (by decide) ?_
            refine lv_goto (tgt := 75) hx hb dX11_isThere_71 (by decide) ?_
            refine lv_istore_n (lv' := [(1, .int 1), (0, .ref (ad 0)), (2, .int t1015.2.1)]) hx hb dX11_isThere_75 rfl hl (by decide) rfl (fun ls hl => ?_)
            obtain ⟨v1023, ev1023⟩ : ∃ y : Int32, y = t1015.2.1 + 1 := ⟨_, rfl⟩
            have h := nm_some ev1023 h
            refine lv_iinc (v := v1023) (lv' := [(2, .int v1023), (1, .int 1), (0, .ref (ad 0))]) hx hb dX11_isThere_76 hl (k := 2) rfl (by rw [ev1023]; rfl) (by decide) rfl (fun ls hl => ?_)
            refine lv_goto (tgt := 44) hx hb dX11_isThere_79 (by decide) ?_
            exact hCL1014 _ (Option.some.inj h).symm H locs ls hP hS (lv_sub hl [2, 1, 0] rfl)
    · intro H locs ls hP hS hl
      refine lv_iload_n hx hb dX11_isThere_82 rfl (lv_at hl 1 rfl) ?_
      obtain ⟨g2027, h⟩ := gd_some h
      subst hQQ
      exact x_rz X hr hlocks hP hS (isb_nar g2027) (Option.some.inj h) dX11_isThere_83
def j_11_aCure_384 (n : Nat) (a1 : Int32) (a2 : Int32) (a3 : Int32) (a4 : Int32) (σ : St) : Option ((Int32 × St) ⊕ ((Int32 × St) ⊕ (Int32 × St))) :=
  if a4 = 4 then
    if (σ.1 0 20) = 40 then
      if a2 = 5 then
        (f_11_bad n σ 4).bind fun r65 =>
        gd (isb r65.1) <| some (.inr (.inl (r65.1, r65.2)))
      else
        gd (inb a2 5) <| nm (si σ 15 (a2.toNatClampNeg) a3) fun σ61 =>
        nm (a2 + 1) fun v62 =>
        (f_11_next0 n σ61 ).bind fun r63 =>
        some (.inl (v62, r63))
    else
      (f_11_bad n σ 1).bind fun r68 =>
      gd (isb r68.1) <| some (.inr (.inl (r68.1, r68.2)))
  else
    some (.inl (a2, σ))
def j_11_aCure_305 (n : Nat) (a1 : Int32) (a2 : Int32) (a3 : Int32) (a4 : Int32) (w0_ : Int32) (w1_ : Int32) (σ : St) : Option ((Int32 × St) ⊕ ((Int32 × St) ⊕ (Int32 × St))) :=
  (f_11_number n σ w1_ w0_).bind fun r42 =>
  if r42.1 = 0 then
    some (.inr (.inl (0, r42.2)))
  else
    nm (90 * a1) fun v45 =>
    nm (3 * a3) fun v46 =>
    nm (v45 + v46) fun v47 =>
    gd (inb v47 720) <| nm (si r42.2 13 (v47.toNatClampNeg) a4) fun σ49 =>
    nm (90 * a1) fun v50 =>
    nm (3 * a3) fun v51 =>
    nm (v50 + v51) fun v52 =>
    nm (v52 + 1) fun v53 =>
    gd (inb v53 720) <| nm (si σ49 13 (v53.toNatClampNeg) (σ49.1 0 28)) fun σ55 =>
    if a4 = 1 then
      (f_11_number n σ55 1 16).bind fun r86 =>
      if r86.1 = 0 then
        some (.inr (.inl (0, r86.2)))
      else
        nm (90 * a1) fun v89 =>
        nm (3 * a3) fun v90 =>
        nm (v89 + v90) fun v91 =>
        nm (v91 + 2) fun v92 =>
        gd (inb v92 720) <| nm (si r86.2 13 (v92.toNatClampNeg) (r86.2.1 0 28)) fun σ94 =>
        j_11_aCure_384 n a1 a2 a3 a4  σ94
    else
      j_11_aCure_384 n a1 a2 a3 a4  σ55
def j_11_aCure_262 (n : Nat) (a1 : Int32) (a2 : Int32) (a3 : Int32) (a4 : Int32) (w0_ : Int32) (σ : St) : Option ((Int32 × St) ⊕ ((Int32 × St) ⊕ (Int32 × St))) :=
  if a4 = 0 then
    j_11_aCure_305 n a1 a2 a3 a4 3 w0_ σ
  else
    if a4 = 1 then
      j_11_aCure_305 n a1 a2 a3 a4 2 w0_ σ
    else
      if a4 = 2 then
        j_11_aCure_305 n a1 a2 a3 a4 16 w0_ σ
      else
        if a4 = 3 then
          j_11_aCure_305 n a1 a2 a3 a4 47 w0_ σ
        else
          j_11_aCure_305 n a1 a2 a3 a4 9 w0_ σ
def j_11_aCure_173 (n : Nat) (a1 : Int32) (a2 : Int32) (σ : St) : Option ((Int32 × St) ⊕ ((Int32 × St) ⊕ (Int32 × St))) :=
  if (σ.1 0 20) < 10 then
    (f_11_bad n σ 1).bind fun r26 =>
    gd (isb r26.1) <| some (.inr (.inl (r26.1, r26.2)))
  else
    if (σ.1 0 20) ≤ 14 then
      gd (inb a1 8) <| if (σ.1 12 a1.toNatClampNeg) = 30 then
        (f_11_bad n σ 4).bind fun r266 =>
        gd (isb r266.1) <| some (.inr (.inl (r266.1, r266.2)))
      else
        nm ((σ.1 12 a1.toNatClampNeg)) fun v32 =>
        nm ((σ.1 0 20) - 10) fun v33 =>
        nm ((σ.1 12 a1.toNatClampNeg) + 1) fun v34 =>
        nm (si σ 12 (a1.toNatClampNeg) v34) fun σ35 =>
        (f_11_next0 n σ35 ).bind fun r36 =>
        if v33 = 2 then
          j_11_aCure_262 n a1 a2 v32 v33 1 r36
        else
          if v33 = 4 then
            j_11_aCure_262 n a1 a2 v32 v33 1 r36
          else
            j_11_aCure_262 n a1 a2 v32 v33 0 r36
    else
      (f_11_bad n σ 1).bind fun r269 =>
      gd (isb r269.1) <| some (.inr (.inl (r269.1, r269.2)))
def j_11_aCure_124 (n : Nat) (a1 : Int32) (a2 : Int32) (σ : St) : Option ((Int32 × St) ⊕ ((Int32 × St) ⊕ (Int32 × St))) :=
  if a2 ≤ 0 then
    j_11_aCure_173 n a1 a2  σ
  else
    if (σ.1 0 20) = 41 then
      nm (a2 + (-1)) fun v521 =>
      nm (90 * a1) fun v522 =>
      gd (inb v521 5) <| nm (3 * (σ.1 15 v521.toNatClampNeg)) fun v524 =>
      nm (v522 + v524) fun v525 =>
      nm (v525 + 2) fun v526 =>
      gd (inb a1 8) <| gd (inb v526 720) <| nm (si σ 13 (v526.toNatClampNeg) (σ.1 12 a1.toNatClampNeg)) fun σ529 =>
      (f_11_next0 n σ529 ).bind fun r530 =>
      some (.inl (v521, r530))
    else
      j_11_aCure_173 n a1 a2  σ
def b_11_aCure_111 (n : Nat) (a1 : Int32) (t22 : Int32 × St) : Option ((Int32 × St) ⊕ ((Int32 × St) ⊕ (Int32 × St))) :=
  if 0 < t22.1 then
    j_11_aCure_124 n a1 t22.1  t22.2
  else
    if (t22.2.1 0 20) = 59 then
      some (.inr (.inr (t22.1, t22.2)))
    else
      j_11_aCure_124 n a1 t22.1  t22.2
def f_11_aCure (n : Nat) (σ : St)  : Option (Int32 × St) :=
  if (σ.1 0 20) = 4 then
    nm ((σ.1 0 16)) fun v2 =>
    nm ((σ.1 0 2) + v2) fun v3 =>
    if v3 = 8 then
      (f_11_bad n σ 4).bind fun r2053 =>
      gd (isb r2053.1) <| some (r2053.1, r2053.2)
    else
      (f_11_next0 n σ ).bind fun r5 =>
      if (r5.1 0 20) = 2 then
        (f_11_isThere n r5 ).bind fun r8 =>
        if r8.1 = 0 then
          gd (inb v2 8) <| nm (sl r8.2 9 (v2.toNatClampNeg) (r8.2.2 0 27)) fun σ12 =>
          nm (si σ12 12 (v2.toNatClampNeg) 0) fun σ13 =>
          nm ((σ13.1 0 16) + 1) fun v14 =>
          nm (si σ13 0 16 v14) fun σ15 =>
          (f_11_next0 n σ15 ).bind fun r16 =>
          (f_11_need n r16 58).bind fun r18 =>
          if r18.1 = 0 then
            some (0, r18.2)
          else
            (lq (b_11_aCure_111 n v2) n (0, r18.2)).bind <| Sum.elim (fun rr => some rr) fun t2042 =>
            (f_11_next0 n t2042.2 ).bind fun r2045 =>
            some (1, r2045)
        else
          (f_11_bad n r8.2 2).bind fun r2047 =>
          gd (isb r2047.1) <| some (r2047.1, r2047.2)
      else
        (f_11_bad n r5 1).bind fun r2050 =>
        gd (isb r2050.1) <| some (r2050.1, r2050.2)
  else
    (f_11_bad n σ 1).bind fun r2056 =>
    gd (isb r2056.1) <| some (r2056.1, r2056.2)
abbrev rm_11_aCure : Room := { frames := 5, cells := 0, slots := 0, locals := 107 }
set_option maxRecDepth 100000 in
set_option maxHeartbeats 4000000 in
theorem k_11_aCure (l : Launch) (D : va_G) (cA : Nat → ClassId) (ad : Nat → Nat) (hj : inj 41 ad) (n : Nat) (σ : St)   {res : Int32 × St} (h : f_11_aCure n σ  = some res) : MXi l D dM 41 cA ad ET yX11_aCure wsX11_aCure rm_11_aCure [.ref (ad 0)] σ res := by
  refine Met.ofW (cc := cX11_aCure) (maxL := 5) (ret := (some .boolean)) (by decide) rfl ?_
  intro p e s m args below meth c s₁ B hml hv
  obtain ⟨hargs, hP, hK, hE⟩ := hv
  have hx := B.exec
  have hb := B.bytes
  have hr := B.returns
  have hts := atoms_spec (ws := wsX11_aCure) B.pre
  have hown : s.vm.findClass RX11 = some m.cls := findClass_of_methodNamed B.named
  have hlocks := B.notSynchronized
  have X : Cx p s m args c cX11_aCure 5 RX11 wsX11_aCure D dM 41 cA ad ET := ⟨hx, hb, hml, hown, hts, hK, hj, hE, ET_ok⟩
  have hS : va_S (inA 41 ad) s.heap s.heap [] := va_S.rf
  have hl := lv_entry ([.ref (ad 0)]) (n := 5) (Nat.le_of_ble_eq_true rfl)
  rw [show entryFrame m args 5 = entryFrame m ([.ref (ad 0)] : List Value).toArray 5 by rw [hargs]]
  rw [lg_entry_eq]
  generalize (lg_sl ([.ref (ad 0)]) ++ List.replicate (5 - (lg_sl ([.ref (ad 0)])).length) Slot.unset).toArray = ls at hl ⊢
  have hl : lv_has ls 5 [(0, .ref (ad 0))] := hl
  obtain ⟨QQ, hQQ⟩ : ∃ Q, Q = MQ below (va_Qi (fun r u => r = res.1 ∧ u = res.2) (fun u t => va_P D vwCl (ww dM 41 cA ad u) t.heap) (inA 41 ad)) args s 0 0 (inA 41 ad) := ⟨_, rfl⟩
  show W p l e (headSpec wsX11_aCure rm_11_aCure).room s m args below meth c s.heap [] 0 0 (MQ below (va_Qi (fun r u => r = res.1 ∧ u = res.2) (fun u t => va_P D vwCl (ww dM 41 cA ad u) t.heap) (inA 41 ad)) args s 0 0 (inA 41 ad)) _
  rw [← hQQ]
  have in11 : ∀ w ∈ wsX110, w ∈ wsX11_aCure := by decide +kernel
  have lk172 : Cond.fieldLink RX11 172 "CureTownModel" "token" "I" ∈ wsX11_aCure := by decide +kernel
  have lk210 : Cond.fieldLink RX11 210 "CureTownModel" "freshRegimens" "I" ∈ wsX11_aCure := by decide +kernel
  have lk207 : Cond.fieldLink RX11 207 "CureTownModel" "regimens" "I" ∈ wsX11_aCure := by decide +kernel
  have lk36 : Cond.fieldLink RX11 36 "CureTownModel" "freshName" "[J" ∈ wsX11_aCure := by decide +kernel
  have lk178 : Cond.fieldLink RX11 178 "CureTownModel" "word" "J" ∈ wsX11_aCure := by decide +kernel
  have lk45 : Cond.fieldLink RX11 45 "CureTownModel" "freshMany" "[I" ∈ wsX11_aCure := by decide +kernel
  have lk48 : Cond.fieldLink RX11 48 "CureTownModel" "fresh" "[I" ∈ wsX11_aCure := by decide +kernel
  have lk204 : Cond.fieldLink RX11 204 "CureTownModel" "got" "I" ∈ wsX11_aCure := by decide +kernel
  have lk58 : Cond.fieldLink RX11 58 "CureTownModel" "bracket" "[I" ∈ wsX11_aCure := by decide +kernel
  unfold f_11_aCure at h
  obtain ⟨H, hH⟩ : ∃ H, H = s.heap := ⟨_, rfl⟩
  obtain ⟨locs, hlc⟩ : ∃ q : List Loc, q = [] := ⟨_, rfl⟩
  have hP : va_P D vwCl (ww dM 41 cA ad σ) s.heap := hP
  have hS : va_S (inA 41 ad) s.heap s.heap [] := hS
  rw [← hlc] at hS ⊢
  rw [show W p l e (headSpec wsX11_aCure rm_11_aCure).room s m args below meth c s.heap locs 0 0 QQ = W p l e (headSpec wsX11_aCure rm_11_aCure).room s m args below meth c H locs 0 0 QQ by rw [hH]]
  have hS : va_S (inA 41 ad) s.heap H locs := by rw [hH]; exact hS
  have hP : va_P D vwCl (ww dM 41 cA ad σ) H := by rw [hH]; exact hP
  clear hH hlc
  refine lv_aload_n hx hb dX11_aCure_0 rfl (lv_at hl 0 rfl) ?_
  refine x_gi X hP (j := 20) (by decide) (dM_0) rfl rfl (by decide) in11 lk172 dX11_aCure_1 ?_
  refine lv_iconst (v := 4) hx hb dX11_aCure_4 (by decide) ?_
  refine lv_icmp_eq (tgt := 14) hx hb dX11_aCure_5 (by decide) (fun c1 => ?_) (fun c1 => ?_)
  · have h := it_t c1 h
    refine lv_aload_n hx hb dX11_aCure_14 rfl (lv_at hl 0 rfl) ?_
    refine x_gi X hP (j := 16) (by decide) (dM_0) rfl rfl (by decide) in11 lk210 dX11_aCure_15 ?_
    refine lv_topi (fun v2 ev2 => ?_)
    have h := nm_some ev2 h
    refine lv_istore_n (lv' := [(1, .int v2), (0, .ref (ad 0))]) hx hb dX11_aCure_18 rfl hl (by decide) rfl (fun ls hl => ?_)
    refine lv_aload_n hx hb dX11_aCure_19 rfl (lv_at hl 1 rfl) ?_
    refine x_gi X hP (j := 2) (by decide) (dM_0) rfl rfl (by decide) in11 lk207 dX11_aCure_20 ?_
    refine lv_iload_n hx hb dX11_aCure_23 rfl (lv_at hl 0 rfl) ?_
    refine lv_iadd hx hb dX11_aCure_24 ?_
    refine lv_topi (fun v3 ev3 => ?_)
    have h := nm_some ev3 h
    refine lv_bipush (v := 8) hx hb dX11_aCure_25 (by decide) ?_
    refine lv_icmp_ne (tgt := 36) hx hb dX11_aCure_27 (by decide) (fun c4 => ?_) (fun c4 => ?_)
    · have h := it_f c4 h
      refine lv_aload_n hx hb dX11_aCure_36 rfl (lv_at hl 1 rfl) ?_
      obtain ⟨r5, k6, h⟩ := bd_some h
      refine x_Vv (rest := []) X hP hS (k_11_next0 l D cA ad hj n σ  k6) (by decide) (dM_0) rfl 0 gX11_aCure_X11_next0 rfl rfl rfl (by decide +kernel) ⟨Nat.le_of_ble_eq_true rfl, Nat.le_of_ble_eq_true rfl⟩ rfl hl.1 rfl (Nat.le_of_ble_eq_true rfl) dX11_aCure_37 ⟨Nat.zero_le _, Nat.zero_le _⟩ (fun H locs hP hS => ?_)
      refine lv_aload_n hx hb dX11_aCure_40 rfl (lv_at hl 1 rfl) ?_
      refine x_gi X hP (j := 20) (by decide) (dM_0) rfl rfl (by decide) in11 lk172 dX11_aCure_41 ?_
      refine lv_iconst (v := 2) hx hb dX11_aCure_44 (by decide) ?_
      refine lv_icmp_eq (tgt := 54) hx hb dX11_aCure_45 (by decide) (fun c7 => ?_) (fun c7 => ?_)
      · have h := it_t c7 h
        refine lv_aload_n hx hb dX11_aCure_54 rfl (lv_at hl 1 rfl) ?_
        obtain ⟨r8, k9, h⟩ := bd_some h
        refine x_Vi (rest := []) X hP hS (k_11_isThere l D cA ad hj n r5  k9) (by decide) (dM_0) rfl 0 gX11_aCure_X11_isThere rfl rfl rfl (by decide +kernel) ⟨Nat.le_of_ble_eq_true rfl, Nat.le_of_ble_eq_true rfl⟩ rfl hl.1 rfl (Nat.le_of_ble_eq_true rfl) dX11_aCure_55 ⟨Nat.zero_le _, Nat.zero_le _⟩ (fun H locs hP hS => ?_)
        refine lv_if_eq (tgt := 67) hx hb dX11_aCure_58 (by decide) (fun c10 => ?_) (fun c10 => ?_)
        · have h := it_t c10 h
          refine lv_aload_n hx hb dX11_aCure_67 rfl (lv_at hl 1 rfl) ?_
          refine x_gr X hP (j := 11) (by decide) (dM_0) rfl rfl (by decide) in11 lk36 dX11_aCure_68 ?_
          refine lv_iload_n hx hb dX11_aCure_71 rfl (lv_at hl 0 rfl) ?_
          refine lv_aload_n hx hb dX11_aCure_72 rfl (lv_at hl 1 rfl) ?_
          refine x_gl X hP (j := 27) (by decide) (dM_0) rfl rfl (by decide) in11 lk178 dX11_aCure_73 ?_
          obtain ⟨g11, h⟩ := gd_some h
          refine x_sl X hP hS (by decide) (dM_9) g11 dX11_aCure_76 (fun σ12 eσ12 H locs hP hS => ?_)
          have h := nm_some eσ12 h
          refine lv_aload_n hx hb dX11_aCure_77 rfl (lv_at hl 1 rfl) ?_
          refine x_gr X hP (j := 14) (by decide) (dM_0) rfl rfl (by decide) in11 lk45 dX11_aCure_78 ?_
          refine lv_iload_n hx hb dX11_aCure_81 rfl (lv_at hl 0 rfl) ?_
          refine lv_iconst (v := 0) hx hb dX11_aCure_82 (by decide) ?_
          refine x_si X hP hS (by decide) (dM_12) g11 dX11_aCure_83 (fun σ13 eσ13 H locs hP hS => ?_)
          have h := nm_some eσ13 h
          refine lv_aload_n hx hb dX11_aCure_84 rfl (lv_at hl 1 rfl) ?_
          refine lv_dup hx hb dX11_aCure_85 rfl ?_
          refine x_gi X hP (j := 16) (by decide) (dM_0) rfl rfl (by decide) in11 lk210 dX11_aCure_86 ?_
          refine lv_iconst (v := 1) hx hb dX11_aCure_89 (by decide) ?_
          refine lv_iadd hx hb dX11_aCure_90 ?_
          refine lv_topi (fun v14 ev14 => ?_)
          have h := nm_some ev14 h
          refine x_pi X hP hS (j := 16) (by decide) (dM_0) rfl rfl (by decide) in11 tyX11_ok nmX11 lk210 rfl rfl rfl rfl dX11_aCure_91 (fun σ15 eσ15 H locs hP hS => ?_)
          have h := nm_some eσ15 h
          refine lv_aload_n hx hb dX11_aCure_94 rfl (lv_at hl 1 rfl) ?_
          obtain ⟨r16, k17, h⟩ := bd_some h
          refine x_Vv (rest := []) X hP hS (k_11_next0 l D cA ad hj n σ15  k17) (by decide) (dM_0) rfl 0 gX11_aCure_X11_next0 rfl rfl rfl (by decide +kernel) ⟨Nat.le_of_ble_eq_true rfl, Nat.le_of_ble_eq_true rfl⟩ rfl hl.1 rfl (Nat.le_of_ble_eq_true rfl) dX11_aCure_95 ⟨Nat.zero_le _, Nat.zero_le _⟩ (fun H locs hP hS => ?_)
          refine lv_aload_n hx hb dX11_aCure_98 rfl (lv_at hl 1 rfl) ?_
          refine lv_bipush (v := 58) hx hb dX11_aCure_99 (by decide) ?_
          obtain ⟨r18, k19, h⟩ := bd_some h
          refine x_Vi (rest := []) X hP hS (k_11_need l D cA ad hj n r16 58 k19) (by decide) (dM_0) rfl 1 gX11_aCure_X11_need rfl rfl rfl (by decide +kernel) ⟨Nat.le_of_ble_eq_true rfl, Nat.le_of_ble_eq_true rfl⟩ rfl hl.1 rfl (Nat.le_of_ble_eq_true rfl) dX11_aCure_101 ⟨Nat.zero_le _, Nat.zero_le _⟩ (fun H locs hP hS => ?_)
          refine lv_if_ne (tgt := 109) hx hb dX11_aCure_104 (by decide) (fun c20 => ?_) (fun c20 => ?_)
          · have h := it_f c20 h
            refine lv_iconst (v := 0) hx hb dX11_aCure_109 (by decide) ?_
            refine lv_istore_n (lv' := [(2, .int 0), (1, .int v2), (0, .ref (ad 0))]) hx hb dX11_aCure_110 rfl hl (by decide) rfl (fun ls hl => ?_)
            obtain ⟨y2043, o2044, h⟩ := bd_some h
            refine lq_rule (P := fun t22 : Int32 × St => ∀ (H : Heap) (locs : List Loc) (ls : Array Slot), va_P D vwCl (ww dM 41 cA ad t22.2) H → va_S (inA 41 ad) s.heap H locs → lv_has ls 5 [(0, .ref (ad 0)), (1, .int v2), (2, .int t22.1)] → W p l e (headSpec wsX11_aCure rm_11_aCure).room s m args below meth c H locs 0 0 QQ (F0 m 111 ls [])) (X := fun y2043 : (Int32 × St) ⊕ (Int32 × St) => Sum.elim (fun rr => rr = res) (fun t2042 => ∀ (H : Heap) (locs : List Loc) (ls : Array Slot), va_P D vwCl (ww dM 41 cA ad t2042.2) H → va_S (inA 41 ad) s.heap H locs → lv_has ls 5 [(0, .ref (ad 0)), (1, .int v2), (2, .int t2042.1)] → W p l e (headSpec wsX11_aCure rm_11_aCure).room s m args below meth c H locs 0 0 QQ (F0 m 436 ls [])) y2043) ?_ n _ _ o2044 ?_ H locs ls hP hS (lv_sub hl [2, 1, 0] rfl)
            · clear h hP hS hl
              intro t22 rL21 h hCL21 hEL21 H locs ls hP hS hl
              unfold b_11_aCure_111 at h
              refine lv_iload_n hx hb dX11_aCure_111 rfl (lv_at hl 2 rfl) ?_
              have hJ124 : ∀ (σ23 : St), j_11_aCure_124 n v2 t22.1 σ23 = some rL21 → ∀ (H : Heap) (locs : List Loc) (ls : Array Slot), va_P D vwCl (ww dM 41 cA ad σ23) H → va_S (inA 41 ad) s.heap H locs → lv_has ls 5 [(0, .ref (ad 0)), (1, .int v2), (2, .int t22.1)] → W p l e (headSpec wsX11_aCure rm_11_aCure).room s m args below meth c H locs 0 0 QQ (F0 m 124 ls []) := by
                clear h hP hS hl
                intro  σ23 h H locs ls hP hS hl
                unfold j_11_aCure_124 at h
                refine lv_iload_n hx hb dX11_aCure_124 rfl (lv_at hl 2 rfl) ?_
                have hJ173 : ∀ (σ532 : St), j_11_aCure_173 n v2 t22.1 σ532 = some rL21 → ∀ (H : Heap) (locs : List Loc) (ls : Array Slot), va_P D vwCl (ww dM 41 cA ad σ532) H → va_S (inA 41 ad) s.heap H locs → lv_has ls 5 [(0, .ref (ad 0)), (1, .int v2), (2, .int t22.1)] → W p l e (headSpec wsX11_aCure rm_11_aCure).room s m args below meth c H locs 0 0 QQ (F0 m 173 ls []) := by
                  clear h hP hS hl
                  intro  σ532 h H locs ls hP hS hl
                  unfold j_11_aCure_173 at h
                  refine lv_aload_n hx hb dX11_aCure_173 rfl (lv_at hl 0 rfl) ?_
                  refine x_gi X hP (j := 20) (by decide) (dM_0) rfl rfl (by decide) in11 lk172 dX11_aCure_174 ?_
                  refine lv_bipush (v := 10) hx hb dX11_aCure_177 (by decide) ?_
                  refine lv_icmp_lt (tgt := 191) hx hb dX11_aCure_179 (by decide) (fun c780 => ?_) (fun c780 => ?_)
                  · have h := it_t c780 h
                    refine lv_aload_n hx hb dX11_aCure_191 rfl (lv_at hl 0 rfl) ?_
                    refine lv_iconst (v := 1) hx hb dX11_aCure_192 (by decide) ?_
                    obtain ⟨r781, k782, h⟩ := bd_some h
                    refine x_Vi (rest := []) X hP hS (k_11_bad l D cA ad hj n σ532 1 k782) (by decide) (dM_0) rfl 1 gX11_aCure_X11_bad rfl rfl rfl (by decide +kernel) ⟨Nat.le_of_ble_eq_true rfl, Nat.le_of_ble_eq_true rfl⟩ rfl hl.1 rfl (Nat.le_of_ble_eq_true rfl) dX11_aCure_193 ⟨Nat.zero_le _, Nat.zero_le _⟩ (fun H locs hP hS => ?_)
                    obtain ⟨g783, h⟩ := gd_some h
                    subst hQQ
                    exact x_rz X hr hlocks hP hS (isb_nar g783) (hEL21 _ (Option.some.inj h).symm) dX11_aCure_196
                  · have h := it_f c780 h
                    refine lv_aload_n hx hb dX11_aCure_182 rfl (lv_at hl 0 rfl) ?_
                    refine x_gi X hP (j := 20) (by decide) (dM_0) rfl rfl (by decide) in11 lk172 dX11_aCure_183 ?_
                    refine lv_bipush (v := 14) hx hb dX11_aCure_186 (by decide) ?_
                    refine lv_icmp_le (tgt := 197) hx hb dX11_aCure_188 (by decide) (fun c784 => ?_) (fun c784 => ?_)
                    · have h := it_t c784 h
                      refine lv_aload_n hx hb dX11_aCure_197 rfl (lv_at hl 0 rfl) ?_
                      refine x_gr X hP (j := 14) (by decide) (dM_0) rfl rfl (by decide) in11 lk45 dX11_aCure_198 ?_
                      refine lv_iload_n hx hb dX11_aCure_201 rfl (lv_at hl 1 rfl) ?_
                      obtain ⟨g785, h⟩ := gd_some h
                      refine x_ai X hP (by decide) (dM_12) g785 dX11_aCure_202 ?_
                      refine lv_bipush (v := 30) hx hb dX11_aCure_203 (by decide) ?_
                      refine lv_icmp_ne (tgt := 214) hx hb dX11_aCure_205 (by decide) (fun c786 => ?_) (fun c786 => ?_)
                      · have h := it_f c786 h
                        refine lv_aload_n hx hb dX11_aCure_214 rfl (lv_at hl 0 rfl) ?_
                        refine x_gr X hP (j := 14) (by decide) (dM_0) rfl rfl (by decide) in11 lk45 dX11_aCure_215 ?_
                        refine lv_iload_n hx hb dX11_aCure_218 rfl (lv_at hl 1 rfl) ?_
                        refine x_ai X hP (by decide) (dM_12) g785 dX11_aCure_219 ?_
                        refine lv_topi (fun v787 ev787 => ?_)
                        have h := nm_some ev787 h
                        refine lv_istore_n (lv' := [(3, .int v787), (0, .ref (ad 0)), (1, .int v2), (2, .int t22.1)]) hx hb dX11_aCure_220 rfl hl (by decide) rfl (fun ls hl => ?_)
                        refine lv_aload_n hx hb dX11_aCure_221 rfl (lv_at hl 1 rfl) ?_
                        refine x_gi X hP (j := 20) (by decide) (dM_0) rfl rfl (by decide) in11 lk172 dX11_aCure_222 ?_
                        refine lv_bipush (v := 10) hx hb dX11_aCure_225 (by decide) ?_
                        refine lv_isub hx hb dX11_aCure_227 ?_
                        refine lv_topi (fun v788 ev788 => ?_)
                        have h := nm_some ev788 h
                        refine lv_istore (lv' := [(4, .int v788), (3, .int v787), (0, .ref (ad 0)), (1, .int v2), (2, .int t22.1)]) hx hb dX11_aCure_228 hl (by decide) rfl (fun ls hl => ?_)
                        refine lv_aload_n hx hb dX11_aCure_230 rfl (lv_at hl 2 rfl) ?_
                        refine x_gr X hP (j := 14) (by decide) (dM_0) rfl rfl (by decide) in11 lk45 dX11_aCure_231 ?_
                        refine lv_iload_n hx hb dX11_aCure_234 rfl (lv_at hl 3 rfl) ?_
                        refine lv_dup2_11 hx hb dX11_aCure_235 rfl rfl ?_
                        refine x_ai X hP (by decide) (dM_12) g785 dX11_aCure_236 ?_
                        refine lv_iconst (v := 1) hx hb dX11_aCure_237 (by decide) ?_
                        refine lv_iadd hx hb dX11_aCure_238 ?_
                        refine lv_topi (fun v789 ev789 => ?_)
                        have h := nm_some ev789 h
                        refine x_si X hP hS (by decide) (dM_12) g785 dX11_aCure_239 (fun σ790 eσ790 H locs hP hS => ?_)
                        have h := nm_some eσ790 h
                        refine lv_aload_n hx hb dX11_aCure_240 rfl (lv_at hl 2 rfl) ?_
                        obtain ⟨r791, k792, h⟩ := bd_some h
                        refine x_Vv (rest := []) X hP hS (k_11_next0 l D cA ad hj n σ790  k792) (by decide) (dM_0) rfl 0 gX11_aCure_X11_next0 rfl rfl rfl (by decide +kernel) ⟨Nat.le_of_ble_eq_true rfl, Nat.le_of_ble_eq_true rfl⟩ rfl hl.1 rfl (Nat.le_of_ble_eq_true rfl) dX11_aCure_241 ⟨Nat.zero_le _, Nat.zero_le _⟩ (fun H locs hP hS => ?_)
                        refine lv_aload_n hx hb dX11_aCure_244 rfl (lv_at hl 2 rfl) ?_
                        refine lv_iload hx hb dX11_aCure_245 (lv_at hl 0 rfl) ?_
                        refine lv_iconst (v := 2) hx hb dX11_aCure_247 (by decide) ?_
                        have hJ262 : ∀ (w793 : Int32) (σ794 : St), j_11_aCure_262 n v2 t22.1 v787 v788 w793 σ794 = some rL21 → ∀ (H : Heap) (locs : List Loc) (ls : Array Slot), va_P D vwCl (ww dM 41 cA ad σ794) H → va_S (inA 41 ad) s.heap H locs → lv_has ls 5 [(0, .ref (ad 0)), (1, .int v2), (2, .int t22.1), (3, .int v787), (4, .int v788)] → W p l e (headSpec wsX11_aCure rm_11_aCure).room s m args below meth c H locs 0 0 QQ (F0 m 262 ls [.int w793, .ref (ad 0)]) := by
                          clear h hP hS hl
                          intro w793 σ794 h H locs ls hP hS hl
                          unfold j_11_aCure_262 at h
                          refine lv_iload hx hb dX11_aCure_262 (lv_at hl 4 rfl) ?_
                          have hJ305 : ∀ (w907 : Int32) (σ908 : St), j_11_aCure_305 n v2 t22.1 v787 v788 w907 w793 σ908 = some rL21 → ∀ (H : Heap) (locs : List Loc) (ls : Array Slot), va_P D vwCl (ww dM 41 cA ad σ908) H → va_S (inA 41 ad) s.heap H locs → lv_has ls 5 [(0, .ref (ad 0)), (1, .int v2), (2, .int t22.1), (3, .int v787), (4, .int v788)] → W p l e (headSpec wsX11_aCure rm_11_aCure).room s m args below meth c H locs 0 0 QQ (F0 m 305 ls [.int w907, .int w793, .ref (ad 0)]) := by
                            clear h hP hS hl
                            intro w907 σ908 h H locs ls hP hS hl
                            unfold j_11_aCure_305 at h
                            obtain ⟨r962, k963, h⟩ := bd_some h
                            refine x_Vi (rest := []) X hP hS (k_11_number l D cA ad hj n σ908 w793 w907 k963) (by decide) (dM_0) rfl 2 gX11_aCure_X11_number rfl rfl rfl (by decide +kernel) ⟨Nat.le_of_ble_eq_true rfl, Nat.le_of_ble_eq_true rfl⟩ rfl hl.1 rfl (Nat.le_of_ble_eq_true rfl) dX11_aCure_305 ⟨Nat.zero_le _, Nat.zero_le _⟩ (fun H locs hP hS => ?_)
                            refine lv_if_ne (tgt := 313) hx hb dX11_aCure_308 (by decide) (fun c964 => ?_) (fun c964 => ?_)
                            · have h := it_f c964 h
                              refine lv_aload_n hx hb dX11_aCure_313 rfl (lv_at hl 0 rfl) ?_
                              refine x_gr X hP (j := 15) (by decide) (dM_0) rfl rfl (by decide) in11 lk48 dX11_aCure_314 ?_
                              refine lv_bipush (v := 90) hx hb dX11_aCure_317 (by decide) ?_
                              refine lv_iload_n hx hb dX11_aCure_319 rfl (lv_at hl 1 rfl) ?_
                              refine lv_imul hx hb dX11_aCure_320 ?_
                              refine lv_topi (fun v965 ev965 => ?_)
                              have h := nm_some ev965 h
                              refine lv_iconst (v := 3) hx hb dX11_aCure_321 (by decide) ?_
                              refine lv_iload_n hx hb dX11_aCure_322 rfl (lv_at hl 3 rfl) ?_
                              refine lv_imul hx hb dX11_aCure_323 ?_
                              refine lv_topi (fun v966 ev966 => ?_)
                              have h := nm_some ev966 h
                              refine lv_iadd hx hb dX11_aCure_324 ?_
                              refine lv_topi (fun v967 ev967 => ?_)
                              have h := nm_some ev967 h
                              refine lv_iload hx hb dX11_aCure_325 (lv_at hl 4 rfl) ?_
                              obtain ⟨g968, h⟩ := gd_some h
                              refine x_si X hP hS (by decide) (dM_13) g968 dX11_aCure_327 (fun σ969 eσ969 H locs hP hS => ?_)
                              have h := nm_some eσ969 h
                              refine lv_aload_n hx hb dX11_aCure_328 rfl (lv_at hl 0 rfl) ?_
                              refine x_gr X hP (j := 15) (by decide) (dM_0) rfl rfl (by decide) in11 lk48 dX11_aCure_329 ?_
                              refine lv_bipush (v := 90) hx hb dX11_aCure_332 (by decide) ?_
                              refine lv_iload_n hx hb dX11_aCure_334 rfl (lv_at hl 1 rfl) ?_
                              refine lv_imul hx hb dX11_aCure_335 ?_
                              refine lv_topi (fun v970 ev970 => ?_)
                              have h := nm_some ev970 h
                              refine lv_iconst (v := 3) hx hb dX11_aCure_336 (by decide) ?_
                              refine lv_iload_n hx hb dX11_aCure_337 rfl (lv_at hl 3 rfl) ?_
                              refine lv_imul hx hb dX11_aCure_338 ?_
                              refine lv_topi (fun v971 ev971 => ?_)
                              have h := nm_some ev971 h
                              refine lv_iadd hx hb dX11_aCure_339 ?_
                              refine lv_topi (fun v972 ev972 => ?_)
                              have h := nm_some ev972 h
                              refine lv_iconst (v := 1) hx hb dX11_aCure_340 (by decide) ?_
                              refine lv_iadd hx hb dX11_aCure_341 ?_
                              refine lv_topi (fun v973 ev973 => ?_)
                              have h := nm_some ev973 h
                              refine lv_aload_n hx hb dX11_aCure_342 rfl (lv_at hl 0 rfl) ?_
                              refine x_gi X hP (j := 28) (by decide) (dM_0) rfl rfl (by decide) in11 lk204 dX11_aCure_343 ?_
                              obtain ⟨g974, h⟩ := gd_some h
                              refine x_si X hP hS (by decide) (dM_13) g974 dX11_aCure_346 (fun σ975 eσ975 H locs hP hS => ?_)
                              have h := nm_some eσ975 h
                              refine lv_iload hx hb dX11_aCure_347 (lv_at hl 4 rfl) ?_
                              refine lv_iconst (v := 1) hx hb dX11_aCure_349 (by decide) ?_
                              have hJ384 : ∀ (σ976 : St), j_11_aCure_384 n v2 t22.1 v787 v788 σ976 = some rL21 → ∀ (H : Heap) (locs : List Loc) (ls : Array Slot), va_P D vwCl (ww dM 41 cA ad σ976) H → va_S (inA 41 ad) s.heap H locs → lv_has ls 5 [(0, .ref (ad 0)), (1, .int v2), (2, .int t22.1), (3, .int v787), (4, .int v788)] → W p l e (headSpec wsX11_aCure rm_11_aCure).room s m args below meth c H locs 0 0 QQ (F0 m 384 ls []) := by
                                clear h hP hS hl
                                intro  σ976 h H locs ls hP hS hl
                                unfold j_11_aCure_384 at h
                                refine lv_iload hx hb dX11_aCure_384 (lv_at hl 4 rfl) ?_
                                refine lv_iconst (v := 4) hx hb dX11_aCure_386 (by decide) ?_
                                refine lv_icmp_eq (tgt := 393) hx hb dX11_aCure_387 (by decide) (fun c991 => ?_) (fun c991 => ?_)
                                · have h := it_t c991 h
                                  refine lv_aload_n hx hb dX11_aCure_393 rfl (lv_at hl 0 rfl) ?_
                                  refine x_gi X hP (j := 20) (by decide) (dM_0) rfl rfl (by decide) in11 lk172 dX11_aCure_394 ?_
                                  refine lv_bipush (v := 40) hx hb dX11_aCure_397 (by decide) ?_
                                  refine lv_icmp_eq (tgt := 408) hx hb dX11_aCure_399 (by decide) (fun c992 => ?_) (fun c992 => ?_)
                                  · have h := it_t c992 h
                                    refine lv_iload_n hx hb dX11_aCure_408 rfl (lv_at hl 2 rfl) ?_
                                    refine lv_iconst (v := 5) hx hb dX11_aCure_409 (by decide) ?_
                                    refine lv_icmp_ne (tgt := 419) hx hb dX11_aCure_410 (by decide) (fun c993 => ?_) (fun c993 => ?_)
                                    · have h := it_f c993 h
                                      refine lv_aload_n hx hb dX11_aCure_419 rfl (lv_at hl 0 rfl) ?_
                                      refine x_gr X hP (j := 29) (by decide) (dM_0) rfl rfl (by decide) in11 lk58 dX11_aCure_420 ?_
                                      refine lv_iload_n hx hb dX11_aCure_423 rfl (lv_at hl 2 rfl) ?_
                                      refine lv_iload_n hx hb dX11_aCure_424 rfl (lv_at hl 3 rfl) ?_
                                      obtain ⟨g994, h⟩ := gd_some h
                                      refine x_si X hP hS (by decide) (dM_15) g994 dX11_aCure_425 (fun σ995 eσ995 H locs hP hS => ?_)
                                      have h := nm_some eσ995 h
                                      obtain ⟨v996, ev996⟩ : ∃ y : Int32, y = t22.1 + 1 := ⟨_, rfl⟩
                                      have h := nm_some ev996 h
                                      refine lv_iinc (v := v996) (lv' := [(2, .int v996), (0, .ref (ad 0)), (1, .int v2), (3, .int v787), (4, .int v788)]) hx hb dX11_aCure_426 hl (k := 2) rfl (by rw [ev996]; rfl) (by decide) rfl (fun ls hl => ?_)
                                      refine lv_aload_n hx hb dX11_aCure_429 rfl (lv_at hl 1 rfl) ?_
                                      obtain ⟨r997, k998, h⟩ := bd_some h
                                      refine x_Vv (rest := []) X hP hS (k_11_next0 l D cA ad hj n σ995  k998) (by decide) (dM_0) rfl 0 gX11_aCure_X11_next0 rfl rfl rfl (by decide +kernel) ⟨Nat.le_of_ble_eq_true rfl, Nat.le_of_ble_eq_true rfl⟩ rfl hl.1 rfl (Nat.le_of_ble_eq_true rfl) dX11_aCure_430 ⟨Nat.zero_le _, Nat.zero_le _⟩ (fun H locs hP hS => ?_)
                                      refine lv_goto (tgt := 111) hx hb dX11_aCure_433 (by decide) ?_
                                      exact hCL21 _ (Option.some.inj h).symm H locs ls hP hS (lv_sub hl [1, 2, 0] rfl)
                                    · have h := it_t c993 h
                                      refine lv_aload_n hx hb dX11_aCure_413 rfl (lv_at hl 0 rfl) ?_
                                      refine lv_iconst (v := 4) hx hb dX11_aCure_414 (by decide) ?_
                                      obtain ⟨r999, k1000, h⟩ := bd_some h
                                      refine x_Vi (rest := []) X hP hS (k_11_bad l D cA ad hj n σ976 4 k1000) (by decide) (dM_0) rfl 1 gX11_aCure_X11_bad rfl rfl rfl (by decide +kernel) ⟨Nat.le_of_ble_eq_true rfl, Nat.le_of_ble_eq_true rfl⟩ rfl hl.1 rfl (Nat.le_of_ble_eq_true rfl) dX11_aCure_415 ⟨Nat.zero_le _, Nat.zero_le _⟩ (fun H locs hP hS => ?_)
                                      obtain ⟨g1001, h⟩ := gd_some h
                                      subst hQQ
                                      exact x_rz X hr hlocks hP hS (isb_nar g1001) (hEL21 _ (Option.some.inj h).symm) dX11_aCure_418
                                  · have h := it_f c992 h
                                    refine lv_aload_n hx hb dX11_aCure_402 rfl (lv_at hl 0 rfl) ?_
                                    refine lv_iconst (v := 1) hx hb dX11_aCure_403 (by decide) ?_
                                    obtain ⟨r1002, k1003, h⟩ := bd_some h
                                    refine x_Vi (rest := []) X hP hS (k_11_bad l D cA ad hj n σ976 1 k1003) (by decide) (dM_0) rfl 1 gX11_aCure_X11_bad rfl rfl rfl (by decide +kernel) ⟨Nat.le_of_ble_eq_true rfl, Nat.le_of_ble_eq_true rfl⟩ rfl hl.1 rfl (Nat.le_of_ble_eq_true rfl) dX11_aCure_404 ⟨Nat.zero_le _, Nat.zero_le _⟩ (fun H locs hP hS => ?_)
                                    obtain ⟨g1004, h⟩ := gd_some h
                                    subst hQQ
                                    exact x_rz X hr hlocks hP hS (isb_nar g1004) (hEL21 _ (Option.some.inj h).symm) dX11_aCure_407
                                · have h := it_f c991 h
                                  refine lv_goto (tgt := 111) hx hb dX11_aCure_390 (by decide) ?_
                                  exact hCL21 _ (Option.some.inj h).symm H locs ls hP hS (lv_sub hl [0, 1, 2] rfl)
                              refine lv_icmp_ne (tgt := 384) hx hb dX11_aCure_350 (by decide) (fun c1005 => ?_) (fun c1005 => ?_)
                              · have h := it_f c1005 h
                                exact hJ384   σ975 h H locs ls hP hS (lv_sub hl [0, 1, 2, 3, 4] rfl)
                              · have h := it_t c1005 h
                                refine lv_aload_n hx hb dX11_aCure_353 rfl (lv_at hl 0 rfl) ?_
                                refine lv_iconst (v := 1) hx hb dX11_aCure_354 (by decide) ?_
                                refine lv_bipush (v := 16) hx hb dX11_aCure_355 (by decide) ?_
                                obtain ⟨r1006, k1007, h⟩ := bd_some h
                                refine x_Vi (rest := []) X hP hS (k_11_number l D cA ad hj n σ975 1 16 k1007) (by decide) (dM_0) rfl 2 gX11_aCure_X11_number rfl rfl rfl (by decide +kernel) ⟨Nat.le_of_ble_eq_true rfl, Nat.le_of_ble_eq_true rfl⟩ rfl hl.1 rfl (Nat.le_of_ble_eq_true rfl) dX11_aCure_357 ⟨Nat.zero_le _, Nat.zero_le _⟩ (fun H locs hP hS => ?_)
                                refine lv_if_ne (tgt := 365) hx hb dX11_aCure_360 (by decide) (fun c1008 => ?_) (fun c1008 => ?_)
                                · have h := it_f c1008 h
                                  refine lv_aload_n hx hb dX11_aCure_365 rfl (lv_at hl 0 rfl) ?_
                                  refine x_gr X hP (j := 15) (by decide) (dM_0) rfl rfl (by decide) in11 lk48 dX11_aCure_366 ?_
                                  refine lv_bipush (v := 90) hx hb dX11_aCure_369 (by decide) ?_
                                  refine lv_iload_n hx hb dX11_aCure_371 rfl (lv_at hl 1 rfl) ?_
                                  refine lv_imul hx hb dX11_aCure_372 ?_
                                  refine lv_topi (fun v1009 ev1009 => ?_)
                                  have h := nm_some ev1009 h
                                  refine lv_iconst (v := 3) hx hb dX11_aCure_373 (by decide) ?_
                                  refine lv_iload_n hx hb dX11_aCure_374 rfl (lv_at hl 3 rfl) ?_
                                  refine lv_imul hx hb dX11_aCure_375 ?_
                                  refine lv_topi (fun v1010 ev1010 => ?_)
                                  have h := nm_some ev1010 h
                                  refine lv_iadd hx hb dX11_aCure_376 ?_
                                  refine lv_topi (fun v1011 ev1011 => ?_)
                                  have h := nm_some ev1011 h
                                  refine lv_iconst (v := 2) hx hb dX11_aCure_377 (by decide) ?_
                                  refine lv_iadd hx hb dX11_aCure_378 ?_
                                  refine lv_topi (fun v1012 ev1012 => ?_)
                                  have h := nm_some ev1012 h
                                  refine lv_aload_n hx hb dX11_aCure_379 rfl (lv_at hl 0 rfl) ?_
                                  refine x_gi X hP (j := 28) (by decide) (dM_0) rfl rfl (by decide) in11 lk204 dX11_aCure_380 ?_
                                  obtain ⟨g1013, h⟩ := gd_some h
                                  refine x_si X hP hS (by decide) (dM_13) g1013 dX11_aCure_383 (fun σ1014 eσ1014 H locs hP hS => ?_)
                                  have h := nm_some eσ1014 h
                                  exact hJ384   σ1014 h H locs ls hP hS (lv_sub hl [0, 1, 2, 3, 4] rfl)
                                · have h := it_t c1008 h
                                  refine lv_iconst (v := 0) hx hb dX11_aCure_363 (by decide) ?_
                                  subst hQQ
                                  exact x_rz X hr hlocks hP hS (by decide +kernel) (hEL21 _ (Option.some.inj h).symm) dX11_aCure_364
                            · have h := it_t c964 h
                              refine lv_iconst (v := 0) hx hb dX11_aCure_311 (by decide) ?_
                              subst hQQ
                              exact x_rz X hr hlocks hP hS (by decide +kernel) (hEL21 _ (Option.some.inj h).symm) dX11_aCure_312
                          refine lv_if_ne (tgt := 271) hx hb dX11_aCure_264 (by decide) (fun c1015 => ?_) (fun c1015 => ?_)
                          · have h := it_f c1015 h
                            refine lv_iload hx hb dX11_aCure_271 (lv_at hl 4 rfl) ?_
                            refine lv_iconst (v := 1) hx hb dX11_aCure_273 (by decide) ?_
                            refine lv_icmp_ne (tgt := 281) hx hb dX11_aCure_274 (by decide) (fun c1016 => ?_) (fun c1016 => ?_)
                            · have h := it_f c1016 h
                              refine lv_iload hx hb dX11_aCure_281 (lv_at hl 4 rfl) ?_
                              refine lv_iconst (v := 2) hx hb dX11_aCure_283 (by decide) ?_
                              refine lv_icmp_ne (tgt := 292) hx hb dX11_aCure_284 (by decide) (fun c1017 => ?_) (fun c1017 => ?_)
                              · have h := it_f c1017 h
                                refine lv_iload hx hb dX11_aCure_292 (lv_at hl 4 rfl) ?_
                                refine lv_iconst (v := 3) hx hb dX11_aCure_294 (by decide) ?_
                                refine lv_icmp_ne (tgt := 303) hx hb dX11_aCure_295 (by decide) (fun c1018 => ?_) (fun c1018 => ?_)
                                · have h := it_f c1018 h
                                  refine lv_bipush (v := 9) hx hb dX11_aCure_303 (by decide) ?_
                                  exact hJ305  9 σ794 h H locs ls hP hS (lv_sub hl [0, 1, 2, 3, 4] rfl)
                                · have h := it_t c1018 h
                                  refine lv_bipush (v := 47) hx hb dX11_aCure_298 (by decide) ?_
                                  refine lv_goto (tgt := 305) hx hb dX11_aCure_300 (by decide) ?_
                                  exact hJ305  47 σ794 h H locs ls hP hS (lv_sub hl [0, 1, 2, 3, 4] rfl)
                              · have h := it_t c1017 h
                                refine lv_bipush (v := 16) hx hb dX11_aCure_287 (by decide) ?_
                                refine lv_goto (tgt := 305) hx hb dX11_aCure_289 (by decide) ?_
                                exact hJ305  16 σ794 h H locs ls hP hS (lv_sub hl [0, 1, 2, 3, 4] rfl)
                            · have h := it_t c1016 h
                              refine lv_iconst (v := 2) hx hb dX11_aCure_277 (by decide) ?_
                              refine lv_goto (tgt := 305) hx hb dX11_aCure_278 (by decide) ?_
                              exact hJ305  2 σ794 h H locs ls hP hS (lv_sub hl [0, 1, 2, 3, 4] rfl)
                          · have h := it_t c1015 h
                            refine lv_iconst (v := 3) hx hb dX11_aCure_267 (by decide) ?_
                            refine lv_goto (tgt := 305) hx hb dX11_aCure_268 (by decide) ?_
                            exact hJ305  3 σ794 h H locs ls hP hS (lv_sub hl [0, 1, 2, 3, 4] rfl)
                        refine lv_icmp_eq (tgt := 257) hx hb dX11_aCure_248 (by decide) (fun c1019 => ?_) (fun c1019 => ?_)
                        · have h := it_t c1019 h
                          refine lv_iconst (v := 1) hx hb dX11_aCure_257 (by decide) ?_
                          refine lv_goto (tgt := 262) hx hb dX11_aCure_258 (by decide) ?_
                          exact hJ262  1 r791 h H locs ls hP hS (lv_sub hl [2, 3, 4, 1, 0] rfl)
                        · have h := it_f c1019 h
                          refine lv_iload hx hb dX11_aCure_251 (lv_at hl 0 rfl) ?_
                          refine lv_iconst (v := 4) hx hb dX11_aCure_253 (by decide) ?_
                          refine lv_icmp_ne (tgt := 261) hx hb dX11_aCure_254 (by decide) (fun c1020 => ?_) (fun c1020 => ?_)
                          · have h := it_f c1020 h
                            refine lv_iconst (v := 0) hx hb dX11_aCure_261 (by decide) ?_
                            exact hJ262  0 r791 h H locs ls hP hS (lv_sub hl [2, 3, 4, 1, 0] rfl)
                          · have h := it_t c1020 h
                            refine lv_iconst (v := 1) hx hb dX11_aCure_257 (by decide) ?_
                            refine lv_goto (tgt := 262) hx hb dX11_aCure_258 (by decide) ?_
                            exact hJ262  1 r791 h H locs ls hP hS (lv_sub hl [2, 3, 4, 1, 0] rfl)
                      · have h := it_t c786 h
                        refine lv_aload_n hx hb dX11_aCure_208 rfl (lv_at hl 0 rfl) ?_
                        refine lv_iconst (v := 4) hx hb dX11_aCure_209 (by decide) ?_
                        obtain ⟨r1021, k1022, h⟩ := bd_some h
                        refine x_Vi (rest := []) X hP hS (k_11_bad l D cA ad hj n σ532 4 k1022) (by decide) (dM_0) rfl 1 gX11_aCure_X11_bad rfl rfl rfl (by decide +kernel) ⟨Nat.le_of_ble_eq_true rfl, Nat.le_of_ble_eq_true rfl⟩ rfl hl.1 rfl (Nat.le_of_ble_eq_true rfl) dX11_aCure_210 ⟨Nat.zero_le _, Nat.zero_le _⟩ (fun H locs hP hS => ?_)
                        obtain ⟨g1023, h⟩ := gd_some h
                        subst hQQ
                        exact x_rz X hr hlocks hP hS (isb_nar g1023) (hEL21 _ (Option.some.inj h).symm) dX11_aCure_213
                    · have h := it_f c784 h
                      refine lv_aload_n hx hb dX11_aCure_191 rfl (lv_at hl 0 rfl) ?_
                      refine lv_iconst (v := 1) hx hb dX11_aCure_192 (by decide) ?_
                      obtain ⟨r1024, k1025, h⟩ := bd_some h
                      refine x_Vi (rest := []) X hP hS (k_11_bad l D cA ad hj n σ532 1 k1025) (by decide) (dM_0) rfl 1 gX11_aCure_X11_bad rfl rfl rfl (by decide +kernel) ⟨Nat.le_of_ble_eq_true rfl, Nat.le_of_ble_eq_true rfl⟩ rfl hl.1 rfl (Nat.le_of_ble_eq_true rfl) dX11_aCure_193 ⟨Nat.zero_le _, Nat.zero_le _⟩ (fun H locs hP hS => ?_)
                      obtain ⟨g1026, h⟩ := gd_some h
                      subst hQQ
                      exact x_rz X hr hlocks hP hS (isb_nar g1026) (hEL21 _ (Option.some.inj h).symm) dX11_aCure_196
                refine lv_if_le (tgt := 173) hx hb dX11_aCure_125 (by decide) (fun c1027 => ?_) (fun c1027 => ?_)
                · have h := it_t c1027 h
                  exact hJ173   σ23 h H locs ls hP hS (lv_sub hl [0, 1, 2] rfl)
                · have h := it_f c1027 h
                  refine lv_aload_n hx hb dX11_aCure_128 rfl (lv_at hl 0 rfl) ?_
                  refine x_gi X hP (j := 20) (by decide) (dM_0) rfl rfl (by decide) in11 lk172 dX11_aCure_129 ?_
                  refine lv_bipush (v := 41) hx hb dX11_aCure_132 (by decide) ?_
                  refine lv_icmp_ne (tgt := 173) hx hb dX11_aCure_134 (by decide) (fun c1028 => ?_) (fun c1028 => ?_)
                  · have h := it_f c1028 h
                    exact hJ173   σ23 h H locs ls hP hS (lv_sub hl [0, 1, 2] rfl)
                  · have h := it_t c1028 h
                    obtain ⟨v1029, ev1029⟩ : ∃ y : Int32, y = t22.1 + (-1) := ⟨_, rfl⟩
                    have h := nm_some ev1029 h
                    refine lv_iinc (v := v1029) (lv' := [(2, .int v1029), (0, .ref (ad 0)), (1, .int v2)]) hx hb dX11_aCure_137 hl (k := 2) rfl (by rw [ev1029]; rfl) (by decide) rfl (fun ls hl => ?_)
                    refine lv_aload_n hx hb dX11_aCure_140 rfl (lv_at hl 1 rfl) ?_
                    refine x_gr X hP (j := 15) (by decide) (dM_0) rfl rfl (by decide) in11 lk48 dX11_aCure_141 ?_
                    refine lv_bipush (v := 90) hx hb dX11_aCure_144 (by decide) ?_
                    refine lv_iload_n hx hb dX11_aCure_146 rfl (lv_at hl 2 rfl) ?_
                    refine lv_imul hx hb dX11_aCure_147 ?_
                    refine lv_topi (fun v1030 ev1030 => ?_)
                    have h := nm_some ev1030 h
                    refine lv_iconst (v := 3) hx hb dX11_aCure_148 (by decide) ?_
                    refine lv_aload_n hx hb dX11_aCure_149 rfl (lv_at hl 1 rfl) ?_
                    refine x_gr X hP (j := 29) (by decide) (dM_0) rfl rfl (by decide) in11 lk58 dX11_aCure_150 ?_
                    refine lv_iload_n hx hb dX11_aCure_153 rfl (lv_at hl 0 rfl) ?_
                    obtain ⟨g1031, h⟩ := gd_some h
                    refine x_ai X hP (by decide) (dM_15) g1031 dX11_aCure_154 ?_
                    refine lv_imul hx hb dX11_aCure_155 ?_
                    refine lv_topi (fun v1032 ev1032 => ?_)
                    have h := nm_some ev1032 h
                    refine lv_iadd hx hb dX11_aCure_156 ?_
                    refine lv_topi (fun v1033 ev1033 => ?_)
                    have h := nm_some ev1033 h
                    refine lv_iconst (v := 2) hx hb dX11_aCure_157 (by decide) ?_
                    refine lv_iadd hx hb dX11_aCure_158 ?_
                    refine lv_topi (fun v1034 ev1034 => ?_)
                    have h := nm_some ev1034 h
                    refine lv_aload_n hx hb dX11_aCure_159 rfl (lv_at hl 1 rfl) ?_
                    refine x_gr X hP (j := 14) (by decide) (dM_0) rfl rfl (by decide) in11 lk45 dX11_aCure_160 ?_
                    refine lv_iload_n hx hb dX11_aCure_163 rfl (lv_at hl 2 rfl) ?_
                    obtain ⟨g1035, h⟩ := gd_some h
                    refine x_ai X hP (by decide) (dM_12) g1035 dX11_aCure_164 ?_
                    obtain ⟨g1036, h⟩ := gd_some h
                    refine x_si X hP hS (by decide) (dM_13) g1036 dX11_aCure_165 (fun σ1037 eσ1037 H locs hP hS => ?_)
                    have h := nm_some eσ1037 h
                    refine lv_aload_n hx hb dX11_aCure_166 rfl (lv_at hl 1 rfl) ?_
                    obtain ⟨r1038, k1039, h⟩ := bd_some h
                    refine x_Vv (rest := []) X hP hS (k_11_next0 l D cA ad hj n σ1037  k1039) (by decide) (dM_0) rfl 0 gX11_aCure_X11_next0 rfl rfl rfl (by decide +kernel) ⟨Nat.le_of_ble_eq_true rfl, Nat.le_of_ble_eq_true rfl⟩ rfl hl.1 rfl (Nat.le_of_ble_eq_true rfl) dX11_aCure_167 ⟨Nat.zero_le _, Nat.zero_le _⟩ (fun H locs hP hS => ?_)
                    refine lv_goto (tgt := 111) hx hb dX11_aCure_170 (by decide) ?_
                    exact hCL21 _ (Option.some.inj h).symm H locs ls hP hS (lv_sub hl [1, 2, 0] rfl)
              refine lv_if_gt (tgt := 124) hx hb dX11_aCure_112 (by decide) (fun c1040 => ?_) (fun c1040 => ?_)
              · have h := it_t c1040 h
                exact hJ124   t22.2 h H locs ls hP hS (lv_sub hl [0, 1, 2] rfl)
              · have h := it_f c1040 h
                refine lv_aload_n hx hb dX11_aCure_115 rfl (lv_at hl 0 rfl) ?_
                refine x_gi X hP (j := 20) (by decide) (dM_0) rfl rfl (by decide) in11 lk172 dX11_aCure_116 ?_
                refine lv_bipush (v := 59) hx hb dX11_aCure_119 (by decide) ?_
                refine lv_icmp_eq (tgt := 436) hx hb dX11_aCure_121 (by decide) (fun c1041 => ?_) (fun c1041 => ?_)
                · have h := it_t c1041 h
                  exact hEL21 _ (Option.some.inj h).symm H locs ls hP hS (lv_sub hl [0, 1, 2] rfl)
                · have h := it_f c1041 h
                  exact hJ124   t22.2 h H locs ls hP hS (lv_sub hl [0, 1, 2] rfl)
            · rcases y2043 with rr | t2042
              · have h := el_l h
                exact (Option.some.inj h)
              · have h := el_r h
                intro H locs ls hP hS hl
                refine lv_aload_n hx hb dX11_aCure_436 rfl (lv_at hl 0 rfl) ?_
                obtain ⟨r2045, k2046, h⟩ := bd_some h
                refine x_Vv (rest := []) X hP hS (k_11_next0 l D cA ad hj n t2042.2  k2046) (by decide) (dM_0) rfl 0 gX11_aCure_X11_next0 rfl rfl rfl (by decide +kernel) ⟨Nat.le_of_ble_eq_true rfl, Nat.le_of_ble_eq_true rfl⟩ rfl hl.1 rfl (Nat.le_of_ble_eq_true rfl) dX11_aCure_437 ⟨Nat.zero_le _, Nat.zero_le _⟩ (fun H locs hP hS => ?_)
                refine lv_iconst (v := 1) hx hb dX11_aCure_440 (by decide) ?_
                subst hQQ
                exact x_rz X hr hlocks hP hS (by decide +kernel) (Option.some.inj h) dX11_aCure_441
          · have h := it_t c20 h
            refine lv_iconst (v := 0) hx hb dX11_aCure_107 (by decide) ?_
            subst hQQ
            exact x_rz X hr hlocks hP hS (by decide +kernel) (Option.some.inj h) dX11_aCure_108
        · have h := it_f c10 h
          refine lv_aload_n hx hb dX11_aCure_61 rfl (lv_at hl 1 rfl) ?_
          refine lv_iconst (v := 2) hx hb dX11_aCure_62 (by decide) ?_
          obtain ⟨r2047, k2048, h⟩ := bd_some h
          refine x_Vi (rest := []) X hP hS (k_11_bad l D cA ad hj n r8.2 2 k2048) (by decide) (dM_0) rfl 1 gX11_aCure_X11_bad rfl rfl rfl (by decide +kernel) ⟨Nat.le_of_ble_eq_true rfl, Nat.le_of_ble_eq_true rfl⟩ rfl hl.1 rfl (Nat.le_of_ble_eq_true rfl) dX11_aCure_63 ⟨Nat.zero_le _, Nat.zero_le _⟩ (fun H locs hP hS => ?_)
          obtain ⟨g2049, h⟩ := gd_some h
          subst hQQ
          exact x_rz X hr hlocks hP hS (isb_nar g2049) (Option.some.inj h) dX11_aCure_66
      · have h := it_f c7 h
        refine lv_aload_n hx hb dX11_aCure_48 rfl (lv_at hl 1 rfl) ?_
        refine lv_iconst (v := 1) hx hb dX11_aCure_49 (by decide) ?_
        obtain ⟨r2050, k2051, h⟩ := bd_some h
        refine x_Vi (rest := []) X hP hS (k_11_bad l D cA ad hj n r5 1 k2051) (by decide) (dM_0) rfl 1 gX11_aCure_X11_bad rfl rfl rfl (by decide +kernel) ⟨Nat.le_of_ble_eq_true rfl, Nat.le_of_ble_eq_true rfl⟩ rfl hl.1 rfl (Nat.le_of_ble_eq_true rfl) dX11_aCure_50 ⟨Nat.zero_le _, Nat.zero_le _⟩ (fun H locs hP hS => ?_)
        obtain ⟨g2052, h⟩ := gd_some h
        subst hQQ
        exact x_rz X hr hlocks hP hS (isb_nar g2052) (Option.some.inj h) dX11_aCure_53
    · have h := it_t c4 h
      refine lv_aload_n hx hb dX11_aCure_30 rfl (lv_at hl 1 rfl) ?_
      refine lv_iconst (v := 4) hx hb dX11_aCure_31 (by decide) ?_
      obtain ⟨r2053, k2054, h⟩ := bd_some h
      refine x_Vi (rest := []) X hP hS (k_11_bad l D cA ad hj n σ 4 k2054) (by decide) (dM_0) rfl 1 gX11_aCure_X11_bad rfl rfl rfl (by decide +kernel) ⟨Nat.le_of_ble_eq_true rfl, Nat.le_of_ble_eq_true rfl⟩ rfl hl.1 rfl (Nat.le_of_ble_eq_true rfl) dX11_aCure_32 ⟨Nat.zero_le _, Nat.zero_le _⟩ (fun H locs hP hS => ?_)
      obtain ⟨g2055, h⟩ := gd_some h
      subst hQQ
      exact x_rz X hr hlocks hP hS (isb_nar g2055) (Option.some.inj h) dX11_aCure_35
  · have h := it_f c1 h
    refine lv_aload_n hx hb dX11_aCure_8 rfl (lv_at hl 0 rfl) ?_
    refine lv_iconst (v := 1) hx hb dX11_aCure_9 (by decide) ?_
    obtain ⟨r2056, k2057, h⟩ := bd_some h
    refine x_Vi (rest := []) X hP hS (k_11_bad l D cA ad hj n σ 1 k2057) (by decide) (dM_0) rfl 1 gX11_aCure_X11_bad rfl rfl rfl (by decide +kernel) ⟨Nat.le_of_ble_eq_true rfl, Nat.le_of_ble_eq_true rfl⟩ rfl hl.1 rfl (Nat.le_of_ble_eq_true rfl) dX11_aCure_10 ⟨Nat.zero_le _, Nat.zero_le _⟩ (fun H locs hP hS => ?_)
    obtain ⟨g2058, h⟩ := gd_some h
    subst hQQ
    exact x_rz X hr hlocks hP hS (isb_nar g2058) (Option.some.inj h) dX11_aCure_13
def b_11_load_21 (n : Nat)  (t7 : Int32 × St) : Option ((Int32 × St) ⊕ (Int32 × St)) :=
  if t7.1 = 0 then
    some (.inr (t7.1, t7.2))
  else
    if (t7.2.1 0 20) = 0 then
      some (.inr (t7.1, t7.2))
    else
      (f_11_aCure n t7.2 ).bind fun r10 =>
      some (.inl (r10.1, r10.2))
def b_11_load_117 (n : Nat) (a2 : Int32) (t1030 : Int32 × St) : Option ((Int32 × St) ⊕ (Int32 × St)) :=
  if 90 ≤ t1030.1 then
    some (.inr (t1030.1, t1030.2))
  else
    nm (90 * (t1030.2.1 0 2)) fun v1032 =>
    nm (v1032 + t1030.1) fun v1033 =>
    nm (90 * a2) fun v1034 =>
    nm (v1034 + t1030.1) fun v1035 =>
    gd (inb v1035 720) <| gd (inb v1033 720) <| nm (si t1030.2 11 (v1033.toNatClampNeg) (t1030.2.1 13 v1035.toNatClampNeg)) fun σ1038 =>
    nm (t1030.1 + 1) fun v1039 =>
    some (.inl (v1039, σ1038))
def b_11_load_77 (n : Nat)  (t1022 : Int32 × St) : Option ((Int32 × St) ⊕ (Int32 × St)) :=
  if (t1022.2.1 0 16) ≤ t1022.1 then
    some (.inr (t1022.1, t1022.2))
  else
    gd (inb t1022.1 8) <| gd (inb (t1022.2.1 0 2) 8) <| nm (sl t1022.2 8 ((t1022.2.1 0 2).toNatClampNeg) (t1022.2.2 9 t1022.1.toNatClampNeg)) fun σ1026 =>
    gd (inb (σ1026.1 0 2) 8) <| nm (si σ1026 10 ((σ1026.1 0 2).toNatClampNeg) (σ1026.1 12 t1022.1.toNatClampNeg)) fun σ1028 =>
    (lq (b_11_load_117 n t1022.1) n (0, σ1028)).bind fun t2040 =>
    nm ((t2040.2.1 0 2) + 1) fun v2043 =>
    nm (si t2040.2 0 2 v2043) fun σ2044 =>
    nm (t1022.1 + 1) fun v2045 =>
    some (.inl (v2045, σ2044))
def j_11_load_66 (n : Nat) (a1 : Int32) (w0_ : Int32) (σ : St) : Option (Int32 × St) :=
  nm (si σ 0 26 w0_) fun σ1019 =>
  if a1 = 0 then
    some ((-1), σ1019)
  else
    (lq (b_11_load_77 n ) n (0, σ1019)).bind fun t3046 =>
    some ((t3046.2.1 0 2), t3046.2)
def f_11_load (n : Nat) (σ : St)  : Option (Int32 × St) :=
  nm (si σ 0 23 0) fun σ1 =>
  nm (si σ1 0 19 0) fun σ2 =>
  nm (si σ2 0 16 0) fun σ3 =>
  (f_11_next0 n σ3 ).bind fun r4 =>
  (lq (b_11_load_21 n ) n (1, r4)).bind fun t1012 =>
  nm (si t1012.2 0 18 0) fun σ1015 =>
  nm (si σ1015 0 25 (σ1015.1 0 23)) fun σ1016 =>
  if t1012.1 = 0 then
    j_11_load_66 n t1012.1 (σ1016.1 0 24) σ1016
  else
    j_11_load_66 n t1012.1 (-1) σ1016
abbrev rm_11_load : Room := { frames := 6, cells := 0, slots := 0, locals := 131 }
set_option maxRecDepth 100000 in
set_option maxHeartbeats 4000000 in
theorem k_11_load (l : Launch) (D : va_G) (cA : Nat → ClassId) (ad : Nat → Nat) (hj : inj 41 ad) (n : Nat) (σ : St)   {res : Int32 × St} (h : f_11_load n σ  = some res) : MXi l D dM 41 cA ad ET yX11_load wsX11_load rm_11_load [.ref (ad 0)] σ res := by
  refine Met.ofW (cc := cX11_load) (maxL := 4) (ret := (some .int)) (by decide) rfl ?_
  intro p e s m args below meth c s₁ B hml hv
  obtain ⟨hargs, hP, hK, hE⟩ := hv
  have hx := B.exec
  have hb := B.bytes
  have hr := B.returns
  have hts := atoms_spec (ws := wsX11_load) B.pre
  have hown : s.vm.findClass RX11 = some m.cls := findClass_of_methodNamed B.named
  have hlocks := B.notSynchronized
  have X : Cx p s m args c cX11_load 4 RX11 wsX11_load D dM 41 cA ad ET := ⟨hx, hb, hml, hown, hts, hK, hj, hE, ET_ok⟩
  have hS : va_S (inA 41 ad) s.heap s.heap [] := va_S.rf
  have hl := lv_entry ([.ref (ad 0)]) (n := 4) (Nat.le_of_ble_eq_true rfl)
  rw [show entryFrame m args 4 = entryFrame m ([.ref (ad 0)] : List Value).toArray 4 by rw [hargs]]
  rw [lg_entry_eq]
  generalize (lg_sl ([.ref (ad 0)]) ++ List.replicate (4 - (lg_sl ([.ref (ad 0)])).length) Slot.unset).toArray = ls at hl ⊢
  have hl : lv_has ls 4 [(0, .ref (ad 0))] := hl
  obtain ⟨QQ, hQQ⟩ : ∃ Q, Q = MQ below (va_Qi (fun r u => r = res.1 ∧ u = res.2) (fun u t => va_P D vwCl (ww dM 41 cA ad u) t.heap) (inA 41 ad)) args s 0 0 (inA 41 ad) := ⟨_, rfl⟩
  show W p l e (headSpec wsX11_load rm_11_load).room s m args below meth c s.heap [] 0 0 (MQ below (va_Qi (fun r u => r = res.1 ∧ u = res.2) (fun u t => va_P D vwCl (ww dM 41 cA ad u) t.heap) (inA 41 ad)) args s 0 0 (inA 41 ad)) _
  rw [← hQQ]
  have in11 : ∀ w ∈ wsX110, w ∈ wsX11_load := by decide +kernel
  have lk192 : Cond.fieldLink RX11 192 "CureTownModel" "wrong" "I" ∈ wsX11_load := by decide +kernel
  have lk162 : Cond.fieldLink RX11 162 "CureTownModel" "at" "I" ∈ wsX11_load := by decide +kernel
  have lk210 : Cond.fieldLink RX11 210 "CureTownModel" "freshRegimens" "I" ∈ wsX11_load := by decide +kernel
  have lk172 : Cond.fieldLink RX11 172 "CureTownModel" "token" "I" ∈ wsX11_load := by decide +kernel
  have lk144 : Cond.fieldLink RX11 144 "CureTownModel" "taped" "I" ∈ wsX11_load := by decide +kernel
  have lk227 : Cond.fieldLink RX11 227 "CureTownModel" "faultKind" "I" ∈ wsX11_load := by decide +kernel
  have lk54 : Cond.fieldLink RX11 54 "CureTownModel" "faultPlace" "I" ∈ wsX11_load := by decide +kernel
  have lk32 : Cond.fieldLink RX11 32 "CureTownModel" "name" "[J" ∈ wsX11_load := by decide +kernel
  have lk207 : Cond.fieldLink RX11 207 "CureTownModel" "regimens" "I" ∈ wsX11_load := by decide +kernel
  have lk36 : Cond.fieldLink RX11 36 "CureTownModel" "freshName" "[J" ∈ wsX11_load := by decide +kernel
  have lk39 : Cond.fieldLink RX11 39 "CureTownModel" "many" "[I" ∈ wsX11_load := by decide +kernel
  have lk45 : Cond.fieldLink RX11 45 "CureTownModel" "freshMany" "[I" ∈ wsX11_load := by decide +kernel
  have lk42 : Cond.fieldLink RX11 42 "CureTownModel" "step" "[I" ∈ wsX11_load := by decide +kernel
  have lk48 : Cond.fieldLink RX11 48 "CureTownModel" "fresh" "[I" ∈ wsX11_load := by decide +kernel
  have lk195 : Cond.fieldLink RX11 195 "CureTownModel" "wrongAt" "I" ∈ wsX11_load := by decide +kernel
  unfold f_11_load at h
  obtain ⟨H, hH⟩ : ∃ H, H = s.heap := ⟨_, rfl⟩
  obtain ⟨locs, hlc⟩ : ∃ q : List Loc, q = [] := ⟨_, rfl⟩
  have hP : va_P D vwCl (ww dM 41 cA ad σ) s.heap := hP
  have hS : va_S (inA 41 ad) s.heap s.heap [] := hS
  rw [← hlc] at hS ⊢
  rw [show W p l e (headSpec wsX11_load rm_11_load).room s m args below meth c s.heap locs 0 0 QQ = W p l e (headSpec wsX11_load rm_11_load).room s m args below meth c H locs 0 0 QQ by rw [hH]]
  have hS : va_S (inA 41 ad) s.heap H locs := by rw [hH]; exact hS
  have hP : va_P D vwCl (ww dM 41 cA ad σ) H := by rw [hH]; exact hP
  clear hH hlc
  refine lv_aload_n hx hb dX11_load_0 rfl (lv_at hl 0 rfl) ?_
  refine lv_iconst (v := 0) hx hb dX11_load_1 (by decide) ?_
  refine x_pi X hP hS (j := 23) (by decide) (dM_0) rfl rfl (by decide) in11 tyX11_ok nmX11 lk192 rfl rfl rfl rfl dX11_load_2 (fun σ1 eσ1 H locs hP hS => ?_)
  have h := nm_some eσ1 h
  refine lv_aload_n hx hb dX11_load_5 rfl (lv_at hl 0 rfl) ?_
  refine lv_iconst (v := 0) hx hb dX11_load_6 (by decide) ?_
  refine x_pi X hP hS (j := 19) (by decide) (dM_0) rfl rfl (by decide) in11 tyX11_ok nmX11 lk162 rfl rfl rfl rfl dX11_load_7 (fun σ2 eσ2 H locs hP hS => ?_)
  have h := nm_some eσ2 h
  refine lv_aload_n hx hb dX11_load_10 rfl (lv_at hl 0 rfl) ?_
  refine lv_iconst (v := 0) hx hb dX11_load_11 (by decide) ?_
  refine x_pi X hP hS (j := 16) (by decide) (dM_0) rfl rfl (by decide) in11 tyX11_ok nmX11 lk210 rfl rfl rfl rfl dX11_load_12 (fun σ3 eσ3 H locs hP hS => ?_)
  have h := nm_some eσ3 h
  refine lv_aload_n hx hb dX11_load_15 rfl (lv_at hl 0 rfl) ?_
  obtain ⟨r4, k5, h⟩ := bd_some h
  refine x_Vv (rest := []) X hP hS (k_11_next0 l D cA ad hj n σ3  k5) (by decide) (dM_0) rfl 0 gX11_load_X11_next0 rfl rfl rfl (by decide +kernel) ⟨Nat.le_of_ble_eq_true rfl, Nat.le_of_ble_eq_true rfl⟩ rfl hl.1 rfl (Nat.le_of_ble_eq_true rfl) dX11_load_16 ⟨Nat.zero_le _, Nat.zero_le _⟩ (fun H locs hP hS => ?_)
  refine lv_iconst (v := 1) hx hb dX11_load_19 (by decide) ?_
  refine lv_istore_n (lv' := [(1, .int 1), (0, .ref (ad 0))]) hx hb dX11_load_20 rfl hl (by decide) rfl (fun ls hl => ?_)
  obtain ⟨t1012, o1014, h⟩ := bd_some h
  refine lq_rule (P := fun t7 : Int32 × St => ∀ (H : Heap) (locs : List Loc) (ls : Array Slot), va_P D vwCl (ww dM 41 cA ad t7.2) H → va_S (inA 41 ad) s.heap H locs → lv_has ls 4 [(0, .ref (ad 0)), (1, .int t7.1)] → W p l e (headSpec wsX11_load rm_11_load).room s m args below meth c H locs 0 0 QQ (F0 m 21 ls [])) (X := fun t1012 : Int32 × St => ∀ (H : Heap) (locs : List Loc) (ls : Array Slot), va_P D vwCl (ww dM 41 cA ad t1012.2) H → va_S (inA 41 ad) s.heap H locs → lv_has ls 4 [(0, .ref (ad 0)), (1, .int t1012.1)] → W p l e (headSpec wsX11_load rm_11_load).room s m args below meth c H locs 0 0 QQ (F0 m 40 ls [])) ?_ n _ _ o1014 ?_ H locs ls hP hS (lv_sub hl [1, 0] rfl)
  · clear h hP hS hl
    intro t7 rL6 h hCL6 hEL6 H locs ls hP hS hl
    unfold b_11_load_21 at h
    refine lv_iload_n hx hb dX11_load_21 rfl (lv_at hl 1 rfl) ?_
    refine lv_if_eq (tgt := 40) hx hb dX11_load_22 (by decide) (fun c8 => ?_) (fun c8 => ?_)
    · have h := it_t c8 h
      exact hEL6 _ (Option.some.inj h).symm H locs ls hP hS (lv_sub hl [0, 1] rfl)
    · have h := it_f c8 h
      refine lv_aload_n hx hb dX11_load_25 rfl (lv_at hl 0 rfl) ?_
      refine x_gi X hP (j := 20) (by decide) (dM_0) rfl rfl (by decide) in11 lk172 dX11_load_26 ?_
      refine lv_if_eq (tgt := 40) hx hb dX11_load_29 (by decide) (fun c9 => ?_) (fun c9 => ?_)
      · have h := it_t c9 h
        exact hEL6 _ (Option.some.inj h).symm H locs ls hP hS (lv_sub hl [0, 1] rfl)
      · have h := it_f c9 h
        refine lv_aload_n hx hb dX11_load_32 rfl (lv_at hl 0 rfl) ?_
        obtain ⟨r10, k11, h⟩ := bd_some h
        refine x_Vi (rest := []) X hP hS (k_11_aCure l D cA ad hj n t7.2  k11) (by decide) (dM_0) rfl 0 gX11_load_X11_aCure rfl rfl rfl (by decide +kernel) ⟨Nat.le_of_ble_eq_true rfl, Nat.le_of_ble_eq_true rfl⟩ rfl hl.1 rfl (Nat.le_of_ble_eq_true rfl) dX11_load_33 ⟨Nat.zero_le _, Nat.zero_le _⟩ (fun H locs hP hS => ?_)
        refine lv_istore_n (lv' := [(1, .int r10.1), (0, .ref (ad 0))]) hx hb dX11_load_36 rfl hl (by decide) rfl (fun ls hl => ?_)
        refine lv_goto (tgt := 21) hx hb dX11_load_37 (by decide) ?_
        exact hCL6 _ (Option.some.inj h).symm H locs ls hP hS (lv_sub hl [1, 0] rfl)
  · intro H locs ls hP hS hl
    refine lv_aload_n hx hb dX11_load_40 rfl (lv_at hl 0 rfl) ?_
    refine lv_iconst (v := 0) hx hb dX11_load_41 (by decide) ?_
    refine x_pi X hP hS (j := 18) (by decide) (dM_0) rfl rfl (by decide) in11 tyX11_ok nmX11 lk144 rfl rfl rfl rfl dX11_load_42 (fun σ1015 eσ1015 H locs hP hS => ?_)
    have h := nm_some eσ1015 h
    refine lv_aload_n hx hb dX11_load_45 rfl (lv_at hl 0 rfl) ?_
    refine lv_aload_n hx hb dX11_load_46 rfl (lv_at hl 0 rfl) ?_
    refine x_gi X hP (j := 23) (by decide) (dM_0) rfl rfl (by decide) in11 lk192 dX11_load_47 ?_
    refine x_pi X hP hS (j := 25) (by decide) (dM_0) rfl rfl (by decide) in11 tyX11_ok nmX11 lk227 rfl rfl rfl rfl dX11_load_50 (fun σ1016 eσ1016 H locs hP hS => ?_)
    have h := nm_some eσ1016 h
    refine lv_aload_n hx hb dX11_load_53 rfl (lv_at hl 0 rfl) ?_
    refine lv_iload_n hx hb dX11_load_54 rfl (lv_at hl 1 rfl) ?_
    have hJ66 : ∀ (w1017 : Int32) (σ1018 : St), j_11_load_66 n t1012.1 w1017 σ1018 = some res → ∀ (H : Heap) (locs : List Loc) (ls : Array Slot), va_P D vwCl (ww dM 41 cA ad σ1018) H → va_S (inA 41 ad) s.heap H locs → lv_has ls 4 [(0, .ref (ad 0)), (1, .int t1012.1)] → W p l e (headSpec wsX11_load rm_11_load).room s m args below meth c H locs 0 0 QQ (F0 m 66 ls [.int w1017, .ref (ad 0)]) := by
      clear h hP hS hl
      intro w1017 σ1018 h H locs ls hP hS hl
      unfold j_11_load_66 at h
      refine x_pi X hP hS (j := 26) (by decide) (dM_0) rfl rfl (by decide) in11 tyX11_ok nmX11 lk54 rfl rfl rfl rfl dX11_load_66 (fun σ3049 eσ3049 H locs hP hS => ?_)
      have h := nm_some eσ3049 h
      refine lv_iload_n hx hb dX11_load_69 rfl (lv_at hl 1 rfl) ?_
      refine lv_if_ne (tgt := 75) hx hb dX11_load_70 (by decide) (fun c3050 => ?_) (fun c3050 => ?_)
      · have h := it_f c3050 h
        refine lv_iconst (v := 0) hx hb dX11_load_75 (by decide) ?_
        refine lv_istore_n (lv' := [(2, .int 0), (0, .ref (ad 0)), (1, .int t1012.1)]) hx hb dX11_load_76 rfl hl (by decide) rfl (fun ls hl => ?_)
        obtain ⟨t5076, o5078, h⟩ := bd_some h
        refine lq_rule (P := fun t3052 : Int32 × St => ∀ (H : Heap) (locs : List Loc) (ls : Array Slot), va_P D vwCl (ww dM 41 cA ad t3052.2) H → va_S (inA 41 ad) s.heap H locs → lv_has ls 4 [(0, .ref (ad 0)), (2, .int t3052.1)] → W p l e (headSpec wsX11_load rm_11_load).room s m args below meth c H locs 0 0 QQ (F0 m 77 ls [])) (X := fun t5076 : Int32 × St => ∀ (H : Heap) (locs : List Loc) (ls : Array Slot), va_P D vwCl (ww dM 41 cA ad t5076.2) H → va_S (inA 41 ad) s.heap H locs → lv_has ls 4 [(0, .ref (ad 0)), (2, .int t5076.1)] → W p l e (headSpec wsX11_load rm_11_load).room s m args below meth c H locs 0 0 QQ (F0 m 170 ls [])) ?_ n _ _ o5078 ?_ H locs ls hP hS (lv_sub hl [1, 0] rfl)
        · clear h hP hS hl
          intro t3052 rL3051 h hCL3051 hEL3051 H locs ls hP hS hl
          unfold b_11_load_77 at h
          refine lv_iload_n hx hb dX11_load_77 rfl (lv_at hl 1 rfl) ?_
          refine lv_aload_n hx hb dX11_load_78 rfl (lv_at hl 0 rfl) ?_
          refine x_gi X hP (j := 16) (by decide) (dM_0) rfl rfl (by decide) in11 lk210 dX11_load_79 ?_
          refine lv_icmp_ge (tgt := 170) hx hb dX11_load_82 (by decide) (fun c3053 => ?_) (fun c3053 => ?_)
          · have h := it_t c3053 h
            exact hEL3051 _ (Option.some.inj h).symm H locs ls hP hS (lv_sub hl [0, 1] rfl)
          · have h := it_f c3053 h
            refine lv_aload_n hx hb dX11_load_85 rfl (lv_at hl 0 rfl) ?_
            refine x_gr X hP (j := 10) (by decide) (dM_0) rfl rfl (by decide) in11 lk32 dX11_load_86 ?_
            refine lv_aload_n hx hb dX11_load_89 rfl (lv_at hl 0 rfl) ?_
            refine x_gi X hP (j := 2) (by decide) (dM_0) rfl rfl (by decide) in11 lk207 dX11_load_90 ?_
            refine lv_aload_n hx hb dX11_load_93 rfl (lv_at hl 0 rfl) ?_
            refine x_gr X hP (j := 11) (by decide) (dM_0) rfl rfl (by decide) in11 lk36 dX11_load_94 ?_
            refine lv_iload_n hx hb dX11_load_97 rfl (lv_at hl 1 rfl) ?_
            obtain ⟨g3054, h⟩ := gd_some h
            refine x_al X hP (by decide) (dM_9) g3054 dX11_load_98 ?_
            obtain ⟨g3055, h⟩ := gd_some h
            refine x_sl X hP hS (by decide) (dM_8) g3055 dX11_load_99 (fun σ3056 eσ3056 H locs hP hS => ?_)
            have h := nm_some eσ3056 h
            refine lv_aload_n hx hb dX11_load_100 rfl (lv_at hl 0 rfl) ?_
            refine x_gr X hP (j := 12) (by decide) (dM_0) rfl rfl (by decide) in11 lk39 dX11_load_101 ?_
            refine lv_aload_n hx hb dX11_load_104 rfl (lv_at hl 0 rfl) ?_
            refine x_gi X hP (j := 2) (by decide) (dM_0) rfl rfl (by decide) in11 lk207 dX11_load_105 ?_
            refine lv_aload_n hx hb dX11_load_108 rfl (lv_at hl 0 rfl) ?_
            refine x_gr X hP (j := 14) (by decide) (dM_0) rfl rfl (by decide) in11 lk45 dX11_load_109 ?_
            refine lv_iload_n hx hb dX11_load_112 rfl (lv_at hl 1 rfl) ?_
            refine x_ai X hP (by decide) (dM_12) g3054 dX11_load_113 ?_
            obtain ⟨g3057, h⟩ := gd_some h
            refine x_si X hP hS (by decide) (dM_10) g3057 dX11_load_114 (fun σ3058 eσ3058 H locs hP hS => ?_)
            have h := nm_some eσ3058 h
            refine lv_iconst (v := 0) hx hb dX11_load_115 (by decide) ?_
            refine lv_istore_n (lv' := [(3, .int 0), (0, .ref (ad 0)), (2, .int t3052.1)]) hx hb dX11_load_116 rfl hl (by decide) rfl (fun ls hl => ?_)
            obtain ⟨t4070, o4072, h⟩ := bd_some h
            refine lq_rule (P := fun t3060 : Int32 × St => ∀ (H : Heap) (locs : List Loc) (ls : Array Slot), va_P D vwCl (ww dM 41 cA ad t3060.2) H → va_S (inA 41 ad) s.heap H locs → lv_has ls 4 [(0, .ref (ad 0)), (2, .int t3052.1), (3, .int t3060.1)] → W p l e (headSpec wsX11_load rm_11_load).room s m args below meth c H locs 0 0 QQ (F0 m 117 ls [])) (X := fun t4070 : Int32 × St => ∀ (H : Heap) (locs : List Loc) (ls : Array Slot), va_P D vwCl (ww dM 41 cA ad t4070.2) H → va_S (inA 41 ad) s.heap H locs → lv_has ls 4 [(0, .ref (ad 0)), (2, .int t3052.1), (3, .int t4070.1)] → W p l e (headSpec wsX11_load rm_11_load).room s m args below meth c H locs 0 0 QQ (F0 m 154 ls [])) ?_ n _ _ o4072 ?_ H locs ls hP hS (lv_sub hl [1, 2, 0] rfl)
            · clear h hP hS hl
              intro t3060 rL3059 h hCL3059 hEL3059 H locs ls hP hS hl
              unfold b_11_load_117 at h
              refine lv_iload_n hx hb dX11_load_117 rfl (lv_at hl 2 rfl) ?_
              refine lv_bipush (v := 90) hx hb dX11_load_118 (by decide) ?_
              refine lv_icmp_ge (tgt := 154) hx hb dX11_load_120 (by decide) (fun c3061 => ?_) (fun c3061 => ?_)
              · have h := it_t c3061 h
                exact hEL3059 _ (Option.some.inj h).symm H locs ls hP hS (lv_sub hl [0, 1, 2] rfl)
              · have h := it_f c3061 h
                refine lv_aload_n hx hb dX11_load_123 rfl (lv_at hl 0 rfl) ?_
                refine x_gr X hP (j := 13) (by decide) (dM_0) rfl rfl (by decide) in11 lk42 dX11_load_124 ?_
                refine lv_bipush (v := 90) hx hb dX11_load_127 (by decide) ?_
                refine lv_aload_n hx hb dX11_load_129 rfl (lv_at hl 0 rfl) ?_
                refine x_gi X hP (j := 2) (by decide) (dM_0) rfl rfl (by decide) in11 lk207 dX11_load_130 ?_
                refine lv_imul hx hb dX11_load_133 ?_
                refine lv_topi (fun v3062 ev3062 => ?_)
                have h := nm_some ev3062 h
                refine lv_iload_n hx hb dX11_load_134 rfl (lv_at hl 2 rfl) ?_
                refine lv_iadd hx hb dX11_load_135 ?_
                refine lv_topi (fun v3063 ev3063 => ?_)
                have h := nm_some ev3063 h
                refine lv_aload_n hx hb dX11_load_136 rfl (lv_at hl 0 rfl) ?_
                refine x_gr X hP (j := 15) (by decide) (dM_0) rfl rfl (by decide) in11 lk48 dX11_load_137 ?_
                refine lv_bipush (v := 90) hx hb dX11_load_140 (by decide) ?_
                refine lv_iload_n hx hb dX11_load_142 rfl (lv_at hl 1 rfl) ?_
                refine lv_imul hx hb dX11_load_143 ?_
                refine lv_topi (fun v3064 ev3064 => ?_)
                have h := nm_some ev3064 h
                refine lv_iload_n hx hb dX11_load_144 rfl (lv_at hl 2 rfl) ?_
                refine lv_iadd hx hb dX11_load_145 ?_
                refine lv_topi (fun v3065 ev3065 => ?_)
                have h := nm_some ev3065 h
                obtain ⟨g3066, h⟩ := gd_some h
                refine x_ai X hP (by decide) (dM_13) g3066 dX11_load_146 ?_
                obtain ⟨g3067, h⟩ := gd_some h
                refine x_si X hP hS (by decide) (dM_11) g3067 dX11_load_147 (fun σ3068 eσ3068 H locs hP hS => ?_)
                have h := nm_some eσ3068 h
                obtain ⟨v3069, ev3069⟩ : ∃ y : Int32, y = t3060.1 + 1 := ⟨_, rfl⟩
                have h := nm_some ev3069 h
                refine lv_iinc (v := v3069) (lv' := [(3, .int v3069), (0, .ref (ad 0)), (2, .int t3052.1)]) hx hb dX11_load_148 hl (k := 2) rfl (by rw [ev3069]; rfl) (by decide) rfl (fun ls hl => ?_)
                refine lv_goto (tgt := 117) hx hb dX11_load_151 (by decide) ?_
                exact hCL3059 _ (Option.some.inj h).symm H locs ls hP hS (lv_sub hl [1, 2, 0] rfl)
            · intro H locs ls hP hS hl
              refine lv_aload_n hx hb dX11_load_154 rfl (lv_at hl 0 rfl) ?_
              refine lv_dup hx hb dX11_load_155 rfl ?_
              refine x_gi X hP (j := 2) (by decide) (dM_0) rfl rfl (by decide) in11 lk207 dX11_load_156 ?_
              refine lv_iconst (v := 1) hx hb dX11_load_159 (by decide) ?_
              refine lv_iadd hx hb dX11_load_160 ?_
              refine lv_topi (fun v4073 ev4073 => ?_)
              have h := nm_some ev4073 h
              refine x_pi X hP hS (j := 2) (by decide) (dM_0) rfl rfl (by decide) in11 tyX11_ok nmX11 lk207 rfl rfl rfl rfl dX11_load_161 (fun σ4074 eσ4074 H locs hP hS => ?_)
              have h := nm_some eσ4074 h
              obtain ⟨v4075, ev4075⟩ : ∃ y : Int32, y = t3052.1 + 1 := ⟨_, rfl⟩
              have h := nm_some ev4075 h
              refine lv_iinc (v := v4075) (lv' := [(2, .int v4075), (0, .ref (ad 0)), (3, .int t4070.1)]) hx hb dX11_load_164 hl (k := 1) rfl (by rw [ev4075]; rfl) (by decide) rfl (fun ls hl => ?_)
              refine lv_goto (tgt := 77) hx hb dX11_load_167 (by decide) ?_
              exact hCL3051 _ (Option.some.inj h).symm H locs ls hP hS (lv_sub hl [1, 0] rfl)
        · intro H locs ls hP hS hl
          refine lv_aload_n hx hb dX11_load_170 rfl (lv_at hl 0 rfl) ?_
          refine x_gi X hP (j := 2) (by decide) (dM_0) rfl rfl (by decide) in11 lk207 dX11_load_171 ?_
          subst hQQ
          exact x_ri (σ0 := (fun _ _ => 0, fun _ _ => 0)) X hr hlocks hP hS (Option.some.inj h) dX11_load_174
      · have h := it_t c3050 h
        refine lv_iconst (v := (-1)) hx hb dX11_load_73 (by decide) ?_
        subst hQQ
        exact x_ri (σ0 := (fun _ _ => 0, fun _ _ => 0)) X hr hlocks hP hS (Option.some.inj h) dX11_load_74
    refine lv_if_eq (tgt := 62) hx hb dX11_load_55 (by decide) (fun c5079 => ?_) (fun c5079 => ?_)
    · have h := it_t c5079 h
      refine lv_aload_n hx hb dX11_load_62 rfl (lv_at hl 0 rfl) ?_
      refine x_gi X hP (j := 24) (by decide) (dM_0) rfl rfl (by decide) in11 lk195 dX11_load_63 ?_
      exact hJ66  (σ1016.1 0 24) σ1016 h H locs ls hP hS (lv_sub hl [0, 1] rfl)
    · have h := it_f c5079 h
      refine lv_iconst (v := (-1)) hx hb dX11_load_58 (by decide) ?_
      refine lv_goto (tgt := 66) hx hb dX11_load_59 (by decide) ?_
      exact hJ66  (-1) σ1016 h H locs ls hP hS (lv_sub hl [0, 1] rfl)
def f_11_fault (n : Nat) (σ : St) (a1 : Int32) : Option (Int32 × St) :=
  if a1 = 0 then
    some ((σ.1 0 25), σ)
  else
    if a1 = 1 then
      some ((σ.1 0 26), σ)
    else
      some ((-1), σ)
abbrev rm_11_fault : Room := { frames := 0, cells := 0, slots := 0, locals := 0 }
set_option maxRecDepth 100000 in
set_option maxHeartbeats 4000000 in
theorem k_11_fault (l : Launch) (D : va_G) (cA : Nat → ClassId) (ad : Nat → Nat) (hj : inj 41 ad) (n : Nat) (σ : St) (a1 : Int32)  {res : Int32 × St} (h : f_11_fault n σ a1 = some res) : MXi l D dM 41 cA ad ET yX11_fault wsX11_fault rm_11_fault [.ref (ad 0), .int a1] σ res := by
  refine Met.ofW (cc := cX11_fault) (maxL := 2) (ret := (some .int)) (by decide) rfl ?_
  intro p e s m args below meth c s₁ B hml hv
  obtain ⟨hargs, hP, hK, hE⟩ := hv
  have hx := B.exec
  have hb := B.bytes
  have hr := B.returns
  have hts := atoms_spec (ws := wsX11_fault) B.pre
  have hown : s.vm.findClass RX11 = some m.cls := findClass_of_methodNamed B.named
  have hlocks := B.notSynchronized
  have X : Cx p s m args c cX11_fault 2 RX11 wsX11_fault D dM 41 cA ad ET := ⟨hx, hb, hml, hown, hts, hK, hj, hE, ET_ok⟩
  have hS : va_S (inA 41 ad) s.heap s.heap [] := va_S.rf
  have hl := lv_entry ([.ref (ad 0), .int a1]) (n := 2) (Nat.le_of_ble_eq_true rfl)
  rw [show entryFrame m args 2 = entryFrame m ([.ref (ad 0), .int a1] : List Value).toArray 2 by rw [hargs]]
  rw [lg_entry_eq]
  generalize (lg_sl ([.ref (ad 0), .int a1]) ++ List.replicate (2 - (lg_sl ([.ref (ad 0), .int a1])).length) Slot.unset).toArray = ls at hl ⊢
  have hl : lv_has ls 2 [(0, .ref (ad 0)), (1, .int a1)] := hl
  obtain ⟨QQ, hQQ⟩ : ∃ Q, Q = MQ below (va_Qi (fun r u => r = res.1 ∧ u = res.2) (fun u t => va_P D vwCl (ww dM 41 cA ad u) t.heap) (inA 41 ad)) args s 0 0 (inA 41 ad) := ⟨_, rfl⟩
  show W p l e (headSpec wsX11_fault rm_11_fault).room s m args below meth c s.heap [] 0 0 (MQ below (va_Qi (fun r u => r = res.1 ∧ u = res.2) (fun u t => va_P D vwCl (ww dM 41 cA ad u) t.heap) (inA 41 ad)) args s 0 0 (inA 41 ad)) _
  rw [← hQQ]
  have in11 : ∀ w ∈ wsX110, w ∈ wsX11_fault := by decide +kernel
  have lk54 : Cond.fieldLink RX11 54 "CureTownModel" "faultPlace" "I" ∈ wsX11_fault := by decide +kernel
  have lk227 : Cond.fieldLink RX11 227 "CureTownModel" "faultKind" "I" ∈ wsX11_fault := by decide +kernel
  unfold f_11_fault at h
  obtain ⟨H, hH⟩ : ∃ H, H = s.heap := ⟨_, rfl⟩
  obtain ⟨locs, hlc⟩ : ∃ q : List Loc, q = [] := ⟨_, rfl⟩
  have hP : va_P D vwCl (ww dM 41 cA ad σ) s.heap := hP
  have hS : va_S (inA 41 ad) s.heap s.heap [] := hS
  rw [← hlc] at hS ⊢
  rw [show W p l e (headSpec wsX11_fault rm_11_fault).room s m args below meth c s.heap locs 0 0 QQ = W p l e (headSpec wsX11_fault rm_11_fault).room s m args below meth c H locs 0 0 QQ by rw [hH]]
  have hS : va_S (inA 41 ad) s.heap H locs := by rw [hH]; exact hS
  have hP : va_P D vwCl (ww dM 41 cA ad σ) H := by rw [hH]; exact hP
  clear hH hlc
  refine lv_iload_n hx hb dX11_fault_0 rfl (lv_at hl 1 rfl) ?_
  refine lv_if_ne (tgt := 11) hx hb dX11_fault_1 (by decide) (fun c1 => ?_) (fun c1 => ?_)
  · have h := it_f c1 h
    refine lv_iload_n hx hb dX11_fault_11 rfl (lv_at hl 1 rfl) ?_
    refine lv_iconst (v := 1) hx hb dX11_fault_12 (by decide) ?_
    refine lv_icmp_ne (tgt := 23) hx hb dX11_fault_13 (by decide) (fun c2 => ?_) (fun c2 => ?_)
    · have h := it_f c2 h
      refine lv_iconst (v := (-1)) hx hb dX11_fault_23 (by decide) ?_
      subst hQQ
      exact x_ri (σ0 := (fun _ _ => 0, fun _ _ => 0)) X hr hlocks hP hS (Option.some.inj h) dX11_fault_24
    · have h := it_t c2 h
      refine lv_aload_n hx hb dX11_fault_16 rfl (lv_at hl 0 rfl) ?_
      refine x_gi X hP (j := 26) (by decide) (dM_0) rfl rfl (by decide) in11 lk54 dX11_fault_17 ?_
      refine lv_goto (tgt := 24) hx hb dX11_fault_20 (by decide) ?_
      subst hQQ
      exact x_ri (σ0 := (fun _ _ => 0, fun _ _ => 0)) X hr hlocks hP hS (Option.some.inj h) dX11_fault_24
  · have h := it_t c1 h
    refine lv_aload_n hx hb dX11_fault_4 rfl (lv_at hl 0 rfl) ?_
    refine x_gi X hP (j := 25) (by decide) (dM_0) rfl rfl (by decide) in11 lk227 dX11_fault_5 ?_
    refine lv_goto (tgt := 24) hx hb dX11_fault_8 (by decide) ?_
    subst hQQ
    exact x_ri (σ0 := (fun _ _ => 0, fun _ _ => 0)) X hr hlocks hP hS (Option.some.inj h) dX11_fault_24
def f_11_guest (n : Nat) (σ : St) (a1 : Int32) (a2 : Int32) (a3 : Int32) (a4 : Int32) (a5 : Int32) : Option (Int32 × St) :=
  (f_11_isIn n σ a1 0 3).bind fun r1 =>
  if r1.1 = 0 then
    some ((-1), r1.2)
  else
    nm ((r1.2.1 0 2) - 1) fun v4 =>
    (f_11_isIn n r1.2 a2 0 v4).bind fun r5 =>
    if r5.1 = 0 then
      some ((-1), r5.2)
    else
      (f_11_isIn n r5.2 a3 (r5.2.1 0 0) 99).bind fun r8 =>
      if r8.1 = 0 then
        some ((-1), r8.2)
      else
        nm (a3 + 1) fun v11 =>
        (f_11_isIn n r8.2 a4 v11 100).bind fun r12 =>
        if r12.1 = 0 then
          some ((-1), r12.2)
        else
          (f_11_isIn n r12.2 a5 0 99).bind fun r15 =>
          if r15.1 = 0 then
            some ((-1), r15.2)
          else
            if (r15.2.1 0 1) = 8 then
              some ((-1), r15.2)
            else
              nm ((r15.2.1 0 1)) fun v19 =>
              nm ((r15.2.1 0 1) + 1) fun v20 =>
              nm (si r15.2 0 1 v20) fun σ21 =>
              gd (inb v19 8) <| nm (si σ21 16 (v19.toNatClampNeg) a1) fun σ23 =>
              nm (si σ23 17 (v19.toNatClampNeg) a2) fun σ24 =>
              nm (si σ24 18 (v19.toNatClampNeg) a3) fun σ25 =>
              nm (si σ25 19 (v19.toNatClampNeg) a4) fun σ26 =>
              nm (si σ26 20 (v19.toNatClampNeg) a5) fun σ27 =>
              some (v19, σ27)
abbrev rm_11_guest : Room := { frames := 1, cells := 0, slots := 0, locals := 22 }
set_option maxRecDepth 100000 in
set_option maxHeartbeats 4000000 in
theorem k_11_guest (l : Launch) (D : va_G) (cA : Nat → ClassId) (ad : Nat → Nat) (hj : inj 41 ad) (n : Nat) (σ : St) (a1 : Int32) (a2 : Int32) (a3 : Int32) (a4 : Int32) (a5 : Int32)  {res : Int32 × St} (h : f_11_guest n σ a1 a2 a3 a4 a5 = some res) : MXi l D dM 41 cA ad ET yX11_guest wsX11_guest rm_11_guest [.ref (ad 0), .int a1, .int a2, .int a3, .int a4, .int a5] σ res := by
  refine Met.ofW (cc := cX11_guest) (maxL := 7) (ret := (some .int)) (by decide) rfl ?_
  intro p e s m args below meth c s₁ B hml hv
  obtain ⟨hargs, hP, hK, hE⟩ := hv
  have hx := B.exec
  have hb := B.bytes
  have hr := B.returns
  have hts := atoms_spec (ws := wsX11_guest) B.pre
  have hown : s.vm.findClass RX11 = some m.cls := findClass_of_methodNamed B.named
  have hlocks := B.notSynchronized
  have X : Cx p s m args c cX11_guest 7 RX11 wsX11_guest D dM 41 cA ad ET := ⟨hx, hb, hml, hown, hts, hK, hj, hE, ET_ok⟩
  have hS : va_S (inA 41 ad) s.heap s.heap [] := va_S.rf
  have hl := lv_entry ([.ref (ad 0), .int a1, .int a2, .int a3, .int a4, .int a5]) (n := 7) (Nat.le_of_ble_eq_true rfl)
  rw [show entryFrame m args 7 = entryFrame m ([.ref (ad 0), .int a1, .int a2, .int a3, .int a4, .int a5] : List Value).toArray 7 by rw [hargs]]
  rw [lg_entry_eq]
  generalize (lg_sl ([.ref (ad 0), .int a1, .int a2, .int a3, .int a4, .int a5]) ++ List.replicate (7 - (lg_sl ([.ref (ad 0), .int a1, .int a2, .int a3, .int a4, .int a5])).length) Slot.unset).toArray = ls at hl ⊢
  have hl : lv_has ls 7 [(0, .ref (ad 0)), (1, .int a1), (2, .int a2), (3, .int a3), (4, .int a4), (5, .int a5)] := hl
  obtain ⟨QQ, hQQ⟩ : ∃ Q, Q = MQ below (va_Qi (fun r u => r = res.1 ∧ u = res.2) (fun u t => va_P D vwCl (ww dM 41 cA ad u) t.heap) (inA 41 ad)) args s 0 0 (inA 41 ad) := ⟨_, rfl⟩
  show W p l e (headSpec wsX11_guest rm_11_guest).room s m args below meth c s.heap [] 0 0 (MQ below (va_Qi (fun r u => r = res.1 ∧ u = res.2) (fun u t => va_P D vwCl (ww dM 41 cA ad u) t.heap) (inA 41 ad)) args s 0 0 (inA 41 ad)) _
  rw [← hQQ]
  have in11 : ∀ w ∈ wsX110, w ∈ wsX11_guest := by decide +kernel
  have lk207 : Cond.fieldLink RX11 207 "CureTownModel" "regimens" "I" ∈ wsX11_guest := by decide +kernel
  have lk230 : Cond.fieldLink RX11 230 "CureTownModel" "day" "I" ∈ wsX11_guest := by decide +kernel
  have lk233 : Cond.fieldLink RX11 233 "CureTownModel" "guests" "I" ∈ wsX11_guest := by decide +kernel
  have lk61 : Cond.fieldLink RX11 61 "CureTownModel" "rank" "[I" ∈ wsX11_guest := by decide +kernel
  have lk64 : Cond.fieldLink RX11 64 "CureTownModel" "regimen" "[I" ∈ wsX11_guest := by decide +kernel
  have lk67 : Cond.fieldLink RX11 67 "CureTownModel" "from" "[I" ∈ wsX11_guest := by decide +kernel
  have lk70 : Cond.fieldLink RX11 70 "CureTownModel" "to" "[I" ∈ wsX11_guest := by decide +kernel
  have lk73 : Cond.fieldLink RX11 73 "CureTownModel" "bound" "[I" ∈ wsX11_guest := by decide +kernel
  unfold f_11_guest at h
  obtain ⟨H, hH⟩ : ∃ H, H = s.heap := ⟨_, rfl⟩
  obtain ⟨locs, hlc⟩ : ∃ q : List Loc, q = [] := ⟨_, rfl⟩
  have hP : va_P D vwCl (ww dM 41 cA ad σ) s.heap := hP
  have hS : va_S (inA 41 ad) s.heap s.heap [] := hS
  rw [← hlc] at hS ⊢
  rw [show W p l e (headSpec wsX11_guest rm_11_guest).room s m args below meth c s.heap locs 0 0 QQ = W p l e (headSpec wsX11_guest rm_11_guest).room s m args below meth c H locs 0 0 QQ by rw [hH]]
  have hS : va_S (inA 41 ad) s.heap H locs := by rw [hH]; exact hS
  have hP : va_P D vwCl (ww dM 41 cA ad σ) H := by rw [hH]; exact hP
  clear hH hlc
  refine lv_iload_n hx hb dX11_guest_0 rfl (lv_at hl 1 rfl) ?_
  refine lv_iconst (v := 0) hx hb dX11_guest_1 (by decide) ?_
  refine lv_iconst (v := 3) hx hb dX11_guest_2 (by decide) ?_
  obtain ⟨r1, k2, h⟩ := bd_some h
  refine x_Si (rest := []) X hP hS (k_11_isIn l D cA ad hj n σ a1 0 3 k2) 3 gX11_guest_X11_isIn rfl rfl rfl (by decide +kernel) ⟨Nat.le_of_ble_eq_true rfl, Nat.le_of_ble_eq_true rfl⟩ rfl hl.1 rfl (Nat.le_of_ble_eq_true rfl) dX11_guest_3 ⟨Nat.zero_le _, Nat.zero_le _⟩ (fun H locs hP hS => ?_)
  refine lv_if_eq (tgt := 69) hx hb dX11_guest_6 (by decide) (fun c3 => ?_) (fun c3 => ?_)
  · have h := it_t c3 h
    refine lv_iconst (v := (-1)) hx hb dX11_guest_69 (by decide) ?_
    subst hQQ
    exact x_ri (σ0 := (fun _ _ => 0, fun _ _ => 0)) X hr hlocks hP hS (Option.some.inj h) dX11_guest_70
  · have h := it_f c3 h
    refine lv_iload_n hx hb dX11_guest_9 rfl (lv_at hl 2 rfl) ?_
    refine lv_iconst (v := 0) hx hb dX11_guest_10 (by decide) ?_
    refine lv_aload_n hx hb dX11_guest_11 rfl (lv_at hl 0 rfl) ?_
    refine x_gi X hP (j := 2) (by decide) (dM_0) rfl rfl (by decide) in11 lk207 dX11_guest_12 ?_
    refine lv_iconst (v := 1) hx hb dX11_guest_15 (by decide) ?_
    refine lv_isub hx hb dX11_guest_16 ?_
    refine lv_topi (fun v4 ev4 => ?_)
    have h := nm_some ev4 h
    obtain ⟨r5, k6, h⟩ := bd_some h
    refine x_Si (rest := []) X hP hS (k_11_isIn l D cA ad hj n r1.2 a2 0 v4 k6) 3 gX11_guest_X11_isIn rfl rfl rfl (by decide +kernel) ⟨Nat.le_of_ble_eq_true rfl, Nat.le_of_ble_eq_true rfl⟩ rfl hl.1 rfl (Nat.le_of_ble_eq_true rfl) dX11_guest_17 ⟨Nat.zero_le _, Nat.zero_le _⟩ (fun H locs hP hS => ?_)
    refine lv_if_eq (tgt := 69) hx hb dX11_guest_20 (by decide) (fun c7 => ?_) (fun c7 => ?_)
    · have h := it_t c7 h
      refine lv_iconst (v := (-1)) hx hb dX11_guest_69 (by decide) ?_
      subst hQQ
      exact x_ri (σ0 := (fun _ _ => 0, fun _ _ => 0)) X hr hlocks hP hS (Option.some.inj h) dX11_guest_70
    · have h := it_f c7 h
      refine lv_iload_n hx hb dX11_guest_23 rfl (lv_at hl 3 rfl) ?_
      refine lv_aload_n hx hb dX11_guest_24 rfl (lv_at hl 0 rfl) ?_
      refine x_gi X hP (j := 0) (by decide) (dM_0) rfl rfl (by decide) in11 lk230 dX11_guest_25 ?_
      refine lv_bipush (v := 99) hx hb dX11_guest_28 (by decide) ?_
      obtain ⟨r8, k9, h⟩ := bd_some h
      refine x_Si (rest := []) X hP hS (k_11_isIn l D cA ad hj n r5.2 a3 (r5.2.1 0 0) 99 k9) 3 gX11_guest_X11_isIn rfl rfl rfl (by decide +kernel) ⟨Nat.le_of_ble_eq_true rfl, Nat.le_of_ble_eq_true rfl⟩ rfl hl.1 rfl (Nat.le_of_ble_eq_true rfl) dX11_guest_30 ⟨Nat.zero_le _, Nat.zero_le _⟩ (fun H locs hP hS => ?_)
      refine lv_if_eq (tgt := 69) hx hb dX11_guest_33 (by decide) (fun c10 => ?_) (fun c10 => ?_)
      · have h := it_t c10 h
        refine lv_iconst (v := (-1)) hx hb dX11_guest_69 (by decide) ?_
        subst hQQ
        exact x_ri (σ0 := (fun _ _ => 0, fun _ _ => 0)) X hr hlocks hP hS (Option.some.inj h) dX11_guest_70
      · have h := it_f c10 h
        refine lv_iload hx hb dX11_guest_36 (lv_at hl 4 rfl) ?_
        refine lv_iload_n hx hb dX11_guest_38 rfl (lv_at hl 3 rfl) ?_
        refine lv_iconst (v := 1) hx hb dX11_guest_39 (by decide) ?_
        refine lv_iadd hx hb dX11_guest_40 ?_
        refine lv_topi (fun v11 ev11 => ?_)
        have h := nm_some ev11 h
        refine lv_bipush (v := 100) hx hb dX11_guest_41 (by decide) ?_
        obtain ⟨r12, k13, h⟩ := bd_some h
        refine x_Si (rest := []) X hP hS (k_11_isIn l D cA ad hj n r8.2 a4 v11 100 k13) 3 gX11_guest_X11_isIn rfl rfl rfl (by decide +kernel) ⟨Nat.le_of_ble_eq_true rfl, Nat.le_of_ble_eq_true rfl⟩ rfl hl.1 rfl (Nat.le_of_ble_eq_true rfl) dX11_guest_43 ⟨Nat.zero_le _, Nat.zero_le _⟩ (fun H locs hP hS => ?_)
        refine lv_if_eq (tgt := 69) hx hb dX11_guest_46 (by decide) (fun c14 => ?_) (fun c14 => ?_)
        · have h := it_t c14 h
          refine lv_iconst (v := (-1)) hx hb dX11_guest_69 (by decide) ?_
          subst hQQ
          exact x_ri (σ0 := (fun _ _ => 0, fun _ _ => 0)) X hr hlocks hP hS (Option.some.inj h) dX11_guest_70
        · have h := it_f c14 h
          refine lv_iload hx hb dX11_guest_49 (lv_at hl 5 rfl) ?_
          refine lv_iconst (v := 0) hx hb dX11_guest_51 (by decide) ?_
          refine lv_bipush (v := 99) hx hb dX11_guest_52 (by decide) ?_
          obtain ⟨r15, k16, h⟩ := bd_some h
          refine x_Si (rest := []) X hP hS (k_11_isIn l D cA ad hj n r12.2 a5 0 99 k16) 3 gX11_guest_X11_isIn rfl rfl rfl (by decide +kernel) ⟨Nat.le_of_ble_eq_true rfl, Nat.le_of_ble_eq_true rfl⟩ rfl hl.1 rfl (Nat.le_of_ble_eq_true rfl) dX11_guest_54 ⟨Nat.zero_le _, Nat.zero_le _⟩ (fun H locs hP hS => ?_)
          refine lv_if_eq (tgt := 69) hx hb dX11_guest_57 (by decide) (fun c17 => ?_) (fun c17 => ?_)
          · have h := it_t c17 h
            refine lv_iconst (v := (-1)) hx hb dX11_guest_69 (by decide) ?_
            subst hQQ
            exact x_ri (σ0 := (fun _ _ => 0, fun _ _ => 0)) X hr hlocks hP hS (Option.some.inj h) dX11_guest_70
          · have h := it_f c17 h
            refine lv_aload_n hx hb dX11_guest_60 rfl (lv_at hl 0 rfl) ?_
            refine x_gi X hP (j := 1) (by decide) (dM_0) rfl rfl (by decide) in11 lk233 dX11_guest_61 ?_
            refine lv_bipush (v := 8) hx hb dX11_guest_64 (by decide) ?_
            refine lv_icmp_ne (tgt := 71) hx hb dX11_guest_66 (by decide) (fun c18 => ?_) (fun c18 => ?_)
            · have h := it_f c18 h
              refine lv_aload_n hx hb dX11_guest_71 rfl (lv_at hl 0 rfl) ?_
              refine x_gi X hP (j := 1) (by decide) (dM_0) rfl rfl (by decide) in11 lk233 dX11_guest_72 ?_
              refine lv_topi (fun v19 ev19 => ?_)
              have h := nm_some ev19 h
              refine lv_istore (lv' := [(6, .int v19), (0, .ref (ad 0)), (1, .int a1), (2, .int a2), (3, .int a3), (4, .int a4), (5, .int a5)]) hx hb dX11_guest_75 hl (by decide) rfl (fun ls hl => ?_)
              refine lv_aload_n hx hb dX11_guest_77 rfl (lv_at hl 1 rfl) ?_
              refine lv_dup hx hb dX11_guest_78 rfl ?_
              refine x_gi X hP (j := 1) (by decide) (dM_0) rfl rfl (by decide) in11 lk233 dX11_guest_79 ?_
              refine lv_iconst (v := 1) hx hb dX11_guest_82 (by decide) ?_
              refine lv_iadd hx hb dX11_guest_83 ?_
              refine lv_topi (fun v20 ev20 => ?_)
              have h := nm_some ev20 h
              refine x_pi X hP hS (j := 1) (by decide) (dM_0) rfl rfl (by decide) in11 tyX11_ok nmX11 lk233 rfl rfl rfl rfl dX11_guest_84 (fun σ21 eσ21 H locs hP hS => ?_)
              have h := nm_some eσ21 h
              refine lv_aload_n hx hb dX11_guest_87 rfl (lv_at hl 1 rfl) ?_
              refine x_gr X hP (j := 30) (by decide) (dM_0) rfl rfl (by decide) in11 lk61 dX11_guest_88 ?_
              refine lv_iload hx hb dX11_guest_91 (lv_at hl 0 rfl) ?_
              refine lv_iload_n hx hb dX11_guest_93 rfl (lv_at hl 2 rfl) ?_
              obtain ⟨g22, h⟩ := gd_some h
              refine x_si X hP hS (by decide) (dM_16) g22 dX11_guest_94 (fun σ23 eσ23 H locs hP hS => ?_)
              have h := nm_some eσ23 h
              refine lv_aload_n hx hb dX11_guest_95 rfl (lv_at hl 1 rfl) ?_
              refine x_gr X hP (j := 31) (by decide) (dM_0) rfl rfl (by decide) in11 lk64 dX11_guest_96 ?_
              refine lv_iload hx hb dX11_guest_99 (lv_at hl 0 rfl) ?_
              refine lv_iload_n hx hb dX11_guest_101 rfl (lv_at hl 3 rfl) ?_
              refine x_si X hP hS (by decide) (dM_17) g22 dX11_guest_102 (fun σ24 eσ24 H locs hP hS => ?_)
              have h := nm_some eσ24 h
              refine lv_aload_n hx hb dX11_guest_103 rfl (lv_at hl 1 rfl) ?_
              refine x_gr X hP (j := 32) (by decide) (dM_0) rfl rfl (by decide) in11 lk67 dX11_guest_104 ?_
              refine lv_iload hx hb dX11_guest_107 (lv_at hl 0 rfl) ?_
              refine lv_iload_n hx hb dX11_guest_109 rfl (lv_at hl 4 rfl) ?_
              refine x_si X hP hS (by decide) (dM_18) g22 dX11_guest_110 (fun σ25 eσ25 H locs hP hS => ?_)
              have h := nm_some eσ25 h
              refine lv_aload_n hx hb dX11_guest_111 rfl (lv_at hl 1 rfl) ?_
              refine x_gr X hP (j := 33) (by decide) (dM_0) rfl rfl (by decide) in11 lk70 dX11_guest_112 ?_
              refine lv_iload hx hb dX11_guest_115 (lv_at hl 0 rfl) ?_
              refine lv_iload hx hb dX11_guest_117 (lv_at hl 5 rfl) ?_
              refine x_si X hP hS (by decide) (dM_19) g22 dX11_guest_119 (fun σ26 eσ26 H locs hP hS => ?_)
              have h := nm_some eσ26 h
              refine lv_aload_n hx hb dX11_guest_120 rfl (lv_at hl 1 rfl) ?_
              refine x_gr X hP (j := 34) (by decide) (dM_0) rfl rfl (by decide) in11 lk73 dX11_guest_121 ?_
              refine lv_iload hx hb dX11_guest_124 (lv_at hl 0 rfl) ?_
              refine lv_iload hx hb dX11_guest_126 (lv_at hl 6 rfl) ?_
              refine x_si X hP hS (by decide) (dM_20) g22 dX11_guest_128 (fun σ27 eσ27 H locs hP hS => ?_)
              have h := nm_some eσ27 h
              refine lv_iload hx hb dX11_guest_129 (lv_at hl 0 rfl) ?_
              subst hQQ
              exact x_ri (σ0 := (fun _ _ => 0, fun _ _ => 0)) X hr hlocks hP hS (Option.some.inj h) dX11_guest_131
            · have h := it_t c18 h
              refine lv_iconst (v := (-1)) hx hb dX11_guest_69 (by decide) ?_
              subst hQQ
              exact x_ri (σ0 := (fun _ _ => 0, fun _ _ => 0)) X hr hlocks hP hS (Option.some.inj h) dX11_guest_70
def f_11_leave (n : Nat) (σ : St) (a1 : Int32) (a2 : Int32) : Option (Int32 × St) :=
  nm ((σ.1 0 1) - 1) fun v1 =>
  (f_11_isIn n σ a1 0 v1).bind fun r2 =>
  if r2.1 = 0 then
    some (0, r2.2)
  else
    if a2 < (r2.2.1 0 0) then
      some (0, r2.2)
    else
      gd (inb a1 8) <| if a2 ≤ (r2.2.1 18 a1.toNatClampNeg) then
        some (0, r2.2)
      else
        if a2 ≤ (r2.2.1 19 a1.toNatClampNeg) then
          nm (si r2.2 19 (a1.toNatClampNeg) a2) fun σ9 =>
          some (1, σ9)
        else
          some (0, r2.2)
abbrev rm_11_leave : Room := { frames := 1, cells := 0, slots := 0, locals := 22 }
set_option maxRecDepth 100000 in
set_option maxHeartbeats 4000000 in
theorem k_11_leave (l : Launch) (D : va_G) (cA : Nat → ClassId) (ad : Nat → Nat) (hj : inj 41 ad) (n : Nat) (σ : St) (a1 : Int32) (a2 : Int32)  {res : Int32 × St} (h : f_11_leave n σ a1 a2 = some res) : MXi l D dM 41 cA ad ET yX11_leave wsX11_leave rm_11_leave [.ref (ad 0), .int a1, .int a2] σ res := by
  refine Met.ofW (cc := cX11_leave) (maxL := 3) (ret := (some .boolean)) (by decide) rfl ?_
  intro p e s m args below meth c s₁ B hml hv
  obtain ⟨hargs, hP, hK, hE⟩ := hv
  have hx := B.exec
  have hb := B.bytes
  have hr := B.returns
  have hts := atoms_spec (ws := wsX11_leave) B.pre
  have hown : s.vm.findClass RX11 = some m.cls := findClass_of_methodNamed B.named
  have hlocks := B.notSynchronized
  have X : Cx p s m args c cX11_leave 3 RX11 wsX11_leave D dM 41 cA ad ET := ⟨hx, hb, hml, hown, hts, hK, hj, hE, ET_ok⟩
  have hS : va_S (inA 41 ad) s.heap s.heap [] := va_S.rf
  have hl := lv_entry ([.ref (ad 0), .int a1, .int a2]) (n := 3) (Nat.le_of_ble_eq_true rfl)
  rw [show entryFrame m args 3 = entryFrame m ([.ref (ad 0), .int a1, .int a2] : List Value).toArray 3 by rw [hargs]]
  rw [lg_entry_eq]
  generalize (lg_sl ([.ref (ad 0), .int a1, .int a2]) ++ List.replicate (3 - (lg_sl ([.ref (ad 0), .int a1, .int a2])).length) Slot.unset).toArray = ls at hl ⊢
  have hl : lv_has ls 3 [(0, .ref (ad 0)), (1, .int a1), (2, .int a2)] := hl
  obtain ⟨QQ, hQQ⟩ : ∃ Q, Q = MQ below (va_Qi (fun r u => r = res.1 ∧ u = res.2) (fun u t => va_P D vwCl (ww dM 41 cA ad u) t.heap) (inA 41 ad)) args s 0 0 (inA 41 ad) := ⟨_, rfl⟩
  show W p l e (headSpec wsX11_leave rm_11_leave).room s m args below meth c s.heap [] 0 0 (MQ below (va_Qi (fun r u => r = res.1 ∧ u = res.2) (fun u t => va_P D vwCl (ww dM 41 cA ad u) t.heap) (inA 41 ad)) args s 0 0 (inA 41 ad)) _
  rw [← hQQ]
  have in11 : ∀ w ∈ wsX110, w ∈ wsX11_leave := by decide +kernel
  have lk233 : Cond.fieldLink RX11 233 "CureTownModel" "guests" "I" ∈ wsX11_leave := by decide +kernel
  have lk230 : Cond.fieldLink RX11 230 "CureTownModel" "day" "I" ∈ wsX11_leave := by decide +kernel
  have lk67 : Cond.fieldLink RX11 67 "CureTownModel" "from" "[I" ∈ wsX11_leave := by decide +kernel
  have lk70 : Cond.fieldLink RX11 70 "CureTownModel" "to" "[I" ∈ wsX11_leave := by decide +kernel
  unfold f_11_leave at h
  obtain ⟨H, hH⟩ : ∃ H, H = s.heap := ⟨_, rfl⟩
  obtain ⟨locs, hlc⟩ : ∃ q : List Loc, q = [] := ⟨_, rfl⟩
  have hP : va_P D vwCl (ww dM 41 cA ad σ) s.heap := hP
  have hS : va_S (inA 41 ad) s.heap s.heap [] := hS
  rw [← hlc] at hS ⊢
  rw [show W p l e (headSpec wsX11_leave rm_11_leave).room s m args below meth c s.heap locs 0 0 QQ = W p l e (headSpec wsX11_leave rm_11_leave).room s m args below meth c H locs 0 0 QQ by rw [hH]]
  have hS : va_S (inA 41 ad) s.heap H locs := by rw [hH]; exact hS
  have hP : va_P D vwCl (ww dM 41 cA ad σ) H := by rw [hH]; exact hP
  clear hH hlc
  refine lv_iload_n hx hb dX11_leave_0 rfl (lv_at hl 1 rfl) ?_
  refine lv_iconst (v := 0) hx hb dX11_leave_1 (by decide) ?_
  refine lv_aload_n hx hb dX11_leave_2 rfl (lv_at hl 0 rfl) ?_
  refine x_gi X hP (j := 1) (by decide) (dM_0) rfl rfl (by decide) in11 lk233 dX11_leave_3 ?_
  refine lv_iconst (v := 1) hx hb dX11_leave_6 (by decide) ?_
  refine lv_isub hx hb dX11_leave_7 ?_
  refine lv_topi (fun v1 ev1 => ?_)
  have h := nm_some ev1 h
  obtain ⟨r2, k3, h⟩ := bd_some h
  refine x_Si (rest := []) X hP hS (k_11_isIn l D cA ad hj n σ a1 0 v1 k3) 3 gX11_leave_X11_isIn rfl rfl rfl (by decide +kernel) ⟨Nat.le_of_ble_eq_true rfl, Nat.le_of_ble_eq_true rfl⟩ rfl hl.1 rfl (Nat.le_of_ble_eq_true rfl) dX11_leave_8 ⟨Nat.zero_le _, Nat.zero_le _⟩ (fun H locs hP hS => ?_)
  refine lv_if_eq (tgt := 42) hx hb dX11_leave_11 (by decide) (fun c4 => ?_) (fun c4 => ?_)
  · have h := it_t c4 h
    refine lv_iconst (v := 0) hx hb dX11_leave_42 (by decide) ?_
    subst hQQ
    exact x_rz X hr hlocks hP hS (by decide +kernel) (Option.some.inj h) dX11_leave_43
  · have h := it_f c4 h
    refine lv_iload_n hx hb dX11_leave_14 rfl (lv_at hl 2 rfl) ?_
    refine lv_aload_n hx hb dX11_leave_15 rfl (lv_at hl 0 rfl) ?_
    refine x_gi X hP (j := 0) (by decide) (dM_0) rfl rfl (by decide) in11 lk230 dX11_leave_16 ?_
    refine lv_icmp_lt (tgt := 42) hx hb dX11_leave_19 (by decide) (fun c5 => ?_) (fun c5 => ?_)
    · have h := it_t c5 h
      refine lv_iconst (v := 0) hx hb dX11_leave_42 (by decide) ?_
      subst hQQ
      exact x_rz X hr hlocks hP hS (by decide +kernel) (Option.some.inj h) dX11_leave_43
    · have h := it_f c5 h
      refine lv_iload_n hx hb dX11_leave_22 rfl (lv_at hl 2 rfl) ?_
      refine lv_aload_n hx hb dX11_leave_23 rfl (lv_at hl 0 rfl) ?_
      refine x_gr X hP (j := 32) (by decide) (dM_0) rfl rfl (by decide) in11 lk67 dX11_leave_24 ?_
      refine lv_iload_n hx hb dX11_leave_27 rfl (lv_at hl 1 rfl) ?_
      obtain ⟨g6, h⟩ := gd_some h
      refine x_ai X hP (by decide) (dM_18) g6 dX11_leave_28 ?_
      refine lv_icmp_le (tgt := 42) hx hb dX11_leave_29 (by decide) (fun c7 => ?_) (fun c7 => ?_)
      · have h := it_t c7 h
        refine lv_iconst (v := 0) hx hb dX11_leave_42 (by decide) ?_
        subst hQQ
        exact x_rz X hr hlocks hP hS (by decide +kernel) (Option.some.inj h) dX11_leave_43
      · have h := it_f c7 h
        refine lv_iload_n hx hb dX11_leave_32 rfl (lv_at hl 2 rfl) ?_
        refine lv_aload_n hx hb dX11_leave_33 rfl (lv_at hl 0 rfl) ?_
        refine x_gr X hP (j := 33) (by decide) (dM_0) rfl rfl (by decide) in11 lk70 dX11_leave_34 ?_
        refine lv_iload_n hx hb dX11_leave_37 rfl (lv_at hl 1 rfl) ?_
        refine x_ai X hP (by decide) (dM_19) g6 dX11_leave_38 ?_
        refine lv_icmp_le (tgt := 44) hx hb dX11_leave_39 (by decide) (fun c8 => ?_) (fun c8 => ?_)
        · have h := it_t c8 h
          refine lv_aload_n hx hb dX11_leave_44 rfl (lv_at hl 0 rfl) ?_
          refine x_gr X hP (j := 33) (by decide) (dM_0) rfl rfl (by decide) in11 lk70 dX11_leave_45 ?_
          refine lv_iload_n hx hb dX11_leave_48 rfl (lv_at hl 1 rfl) ?_
          refine lv_iload_n hx hb dX11_leave_49 rfl (lv_at hl 2 rfl) ?_
          refine x_si X hP hS (by decide) (dM_19) g6 dX11_leave_50 (fun σ9 eσ9 H locs hP hS => ?_)
          have h := nm_some eσ9 h
          refine lv_iconst (v := 1) hx hb dX11_leave_51 (by decide) ?_
          subst hQQ
          exact x_rz X hr hlocks hP hS (by decide +kernel) (Option.some.inj h) dX11_leave_52
        · have h := it_f c8 h
          refine lv_iconst (v := 0) hx hb dX11_leave_42 (by decide) ?_
          subst hQQ
          exact x_rz X hr hlocks hP hS (by decide +kernel) (Option.some.inj h) dX11_leave_43
def f_11_isHere (n : Nat) (σ : St) (a1 : Int32) (a2 : Int32) : Option (Int32 × St) :=
  nm ((σ.1 0 1) - 1) fun v1 =>
  (f_11_isIn n σ a1 0 v1).bind fun r2 =>
  if r2.1 = 0 then
    some (0, r2.2)
  else
    gd (inb a1 8) <| if a2 < (r2.2.1 18 a1.toNatClampNeg) then
      some (0, r2.2)
    else
      if (r2.2.1 19 a1.toNatClampNeg) ≤ a2 then
        some (0, r2.2)
      else
        some (1, r2.2)
abbrev rm_11_isHere : Room := { frames := 1, cells := 0, slots := 0, locals := 22 }
set_option maxRecDepth 100000 in
set_option maxHeartbeats 4000000 in
theorem k_11_isHere (l : Launch) (D : va_G) (cA : Nat → ClassId) (ad : Nat → Nat) (hj : inj 41 ad) (n : Nat) (σ : St) (a1 : Int32) (a2 : Int32)  {res : Int32 × St} (h : f_11_isHere n σ a1 a2 = some res) : MXi l D dM 41 cA ad ET yX11_isHere wsX11_isHere rm_11_isHere [.ref (ad 0), .int a1, .int a2] σ res := by
  refine Met.ofW (cc := cX11_isHere) (maxL := 3) (ret := (some .boolean)) (by decide) rfl ?_
  intro p e s m args below meth c s₁ B hml hv
  obtain ⟨hargs, hP, hK, hE⟩ := hv
  have hx := B.exec
  have hb := B.bytes
  have hr := B.returns
  have hts := atoms_spec (ws := wsX11_isHere) B.pre
  have hown : s.vm.findClass RX11 = some m.cls := findClass_of_methodNamed B.named
  have hlocks := B.notSynchronized
  have X : Cx p s m args c cX11_isHere 3 RX11 wsX11_isHere D dM 41 cA ad ET := ⟨hx, hb, hml, hown, hts, hK, hj, hE, ET_ok⟩
  have hS : va_S (inA 41 ad) s.heap s.heap [] := va_S.rf
  have hl := lv_entry ([.ref (ad 0), .int a1, .int a2]) (n := 3) (Nat.le_of_ble_eq_true rfl)
  rw [show entryFrame m args 3 = entryFrame m ([.ref (ad 0), .int a1, .int a2] : List Value).toArray 3 by rw [hargs]]
  rw [lg_entry_eq]
  generalize (lg_sl ([.ref (ad 0), .int a1, .int a2]) ++ List.replicate (3 - (lg_sl ([.ref (ad 0), .int a1, .int a2])).length) Slot.unset).toArray = ls at hl ⊢
  have hl : lv_has ls 3 [(0, .ref (ad 0)), (1, .int a1), (2, .int a2)] := hl
  obtain ⟨QQ, hQQ⟩ : ∃ Q, Q = MQ below (va_Qi (fun r u => r = res.1 ∧ u = res.2) (fun u t => va_P D vwCl (ww dM 41 cA ad u) t.heap) (inA 41 ad)) args s 0 0 (inA 41 ad) := ⟨_, rfl⟩
  show W p l e (headSpec wsX11_isHere rm_11_isHere).room s m args below meth c s.heap [] 0 0 (MQ below (va_Qi (fun r u => r = res.1 ∧ u = res.2) (fun u t => va_P D vwCl (ww dM 41 cA ad u) t.heap) (inA 41 ad)) args s 0 0 (inA 41 ad)) _
  rw [← hQQ]
  have in11 : ∀ w ∈ wsX110, w ∈ wsX11_isHere := by decide +kernel
  have lk233 : Cond.fieldLink RX11 233 "CureTownModel" "guests" "I" ∈ wsX11_isHere := by decide +kernel
  have lk67 : Cond.fieldLink RX11 67 "CureTownModel" "from" "[I" ∈ wsX11_isHere := by decide +kernel
  have lk70 : Cond.fieldLink RX11 70 "CureTownModel" "to" "[I" ∈ wsX11_isHere := by decide +kernel
  unfold f_11_isHere at h
  obtain ⟨H, hH⟩ : ∃ H, H = s.heap := ⟨_, rfl⟩
  obtain ⟨locs, hlc⟩ : ∃ q : List Loc, q = [] := ⟨_, rfl⟩
  have hP : va_P D vwCl (ww dM 41 cA ad σ) s.heap := hP
  have hS : va_S (inA 41 ad) s.heap s.heap [] := hS
  rw [← hlc] at hS ⊢
  rw [show W p l e (headSpec wsX11_isHere rm_11_isHere).room s m args below meth c s.heap locs 0 0 QQ = W p l e (headSpec wsX11_isHere rm_11_isHere).room s m args below meth c H locs 0 0 QQ by rw [hH]]
  have hS : va_S (inA 41 ad) s.heap H locs := by rw [hH]; exact hS
  have hP : va_P D vwCl (ww dM 41 cA ad σ) H := by rw [hH]; exact hP
  clear hH hlc
  refine lv_iload_n hx hb dX11_isHere_0 rfl (lv_at hl 1 rfl) ?_
  refine lv_iconst (v := 0) hx hb dX11_isHere_1 (by decide) ?_
  refine lv_aload_n hx hb dX11_isHere_2 rfl (lv_at hl 0 rfl) ?_
  refine x_gi X hP (j := 1) (by decide) (dM_0) rfl rfl (by decide) in11 lk233 dX11_isHere_3 ?_
  refine lv_iconst (v := 1) hx hb dX11_isHere_6 (by decide) ?_
  refine lv_isub hx hb dX11_isHere_7 ?_
  refine lv_topi (fun v1 ev1 => ?_)
  have h := nm_some ev1 h
  obtain ⟨r2, k3, h⟩ := bd_some h
  refine x_Si (rest := []) X hP hS (k_11_isIn l D cA ad hj n σ a1 0 v1 k3) 3 gX11_isHere_X11_isIn rfl rfl rfl (by decide +kernel) ⟨Nat.le_of_ble_eq_true rfl, Nat.le_of_ble_eq_true rfl⟩ rfl hl.1 rfl (Nat.le_of_ble_eq_true rfl) dX11_isHere_8 ⟨Nat.zero_le _, Nat.zero_le _⟩ (fun H locs hP hS => ?_)
  refine lv_if_eq (tgt := 38) hx hb dX11_isHere_11 (by decide) (fun c4 => ?_) (fun c4 => ?_)
  · have h := it_t c4 h
    refine lv_iconst (v := 0) hx hb dX11_isHere_38 (by decide) ?_
    subst hQQ
    exact x_rz X hr hlocks hP hS (by decide +kernel) (Option.some.inj h) dX11_isHere_39
  · have h := it_f c4 h
    refine lv_iload_n hx hb dX11_isHere_14 rfl (lv_at hl 2 rfl) ?_
    refine lv_aload_n hx hb dX11_isHere_15 rfl (lv_at hl 0 rfl) ?_
    refine x_gr X hP (j := 32) (by decide) (dM_0) rfl rfl (by decide) in11 lk67 dX11_isHere_16 ?_
    refine lv_iload_n hx hb dX11_isHere_19 rfl (lv_at hl 1 rfl) ?_
    obtain ⟨g5, h⟩ := gd_some h
    refine x_ai X hP (by decide) (dM_18) g5 dX11_isHere_20 ?_
    refine lv_icmp_lt (tgt := 38) hx hb dX11_isHere_21 (by decide) (fun c6 => ?_) (fun c6 => ?_)
    · have h := it_t c6 h
      refine lv_iconst (v := 0) hx hb dX11_isHere_38 (by decide) ?_
      subst hQQ
      exact x_rz X hr hlocks hP hS (by decide +kernel) (Option.some.inj h) dX11_isHere_39
    · have h := it_f c6 h
      refine lv_iload_n hx hb dX11_isHere_24 rfl (lv_at hl 2 rfl) ?_
      refine lv_aload_n hx hb dX11_isHere_25 rfl (lv_at hl 0 rfl) ?_
      refine x_gr X hP (j := 33) (by decide) (dM_0) rfl rfl (by decide) in11 lk70 dX11_isHere_26 ?_
      refine lv_iload_n hx hb dX11_isHere_29 rfl (lv_at hl 1 rfl) ?_
      refine x_ai X hP (by decide) (dM_19) g5 dX11_isHere_30 ?_
      refine lv_icmp_ge (tgt := 38) hx hb dX11_isHere_31 (by decide) (fun c7 => ?_) (fun c7 => ?_)
      · have h := it_t c7 h
        refine lv_iconst (v := 0) hx hb dX11_isHere_38 (by decide) ?_
        subst hQQ
        exact x_rz X hr hlocks hP hS (by decide +kernel) (Option.some.inj h) dX11_isHere_39
      · have h := it_f c7 h
        refine lv_iconst (v := 1) hx hb dX11_isHere_34 (by decide) ?_
        refine lv_goto (tgt := 39) hx hb dX11_isHere_35 (by decide) ?_
        subst hQQ
        exact x_rz X hr hlocks hP hS (by decide +kernel) (Option.some.inj h) dX11_isHere_39
def b_11_here_4 (n : Nat) (a1 : Int32) (t2 : Int32 × Int32 × St) : Option ((Int32 × Int32 × St) ⊕ (Int32 × Int32 × St)) :=
  if (t2.2.2.1 0 1) ≤ t2.2.1 then
    some (.inr (t2.1, t2.2.1, t2.2.2))
  else
    (f_11_isHere n t2.2.2 t2.2.1 a1).bind fun r4 =>
    if r4.1 = 0 then
      nm (t2.1 + 0) fun v7 =>
      nm (t2.2.1 + 1) fun v8 =>
      some (.inl (v7, v8, r4.2))
    else
      nm (t2.1 + 1) fun v9 =>
      nm (t2.2.1 + 1) fun v10 =>
      some (.inl (v9, v10, r4.2))
def f_11_here (n : Nat) (σ : St) (a1 : Int32) : Option (Int32 × St) :=
  (lq (b_11_here_4 n a1) n (0, 0, σ)).bind fun t1011 =>
  some (t1011.1, t1011.2.2)
abbrev rm_11_here : Room := { frames := 2, cells := 0, slots := 0, locals := 44 }
set_option maxRecDepth 100000 in
set_option maxHeartbeats 4000000 in
theorem k_11_here (l : Launch) (D : va_G) (cA : Nat → ClassId) (ad : Nat → Nat) (hj : inj 41 ad) (n : Nat) (σ : St) (a1 : Int32)  {res : Int32 × St} (h : f_11_here n σ a1 = some res) : MXi l D dM 41 cA ad ET yX11_here wsX11_here rm_11_here [.ref (ad 0), .int a1] σ res := by
  refine Met.ofW (cc := cX11_here) (maxL := 4) (ret := (some .int)) (by decide) rfl ?_
  intro p e s m args below meth c s₁ B hml hv
  obtain ⟨hargs, hP, hK, hE⟩ := hv
  have hx := B.exec
  have hb := B.bytes
  have hr := B.returns
  have hts := atoms_spec (ws := wsX11_here) B.pre
  have hown : s.vm.findClass RX11 = some m.cls := findClass_of_methodNamed B.named
  have hlocks := B.notSynchronized
  have X : Cx p s m args c cX11_here 4 RX11 wsX11_here D dM 41 cA ad ET := ⟨hx, hb, hml, hown, hts, hK, hj, hE, ET_ok⟩
  have hS : va_S (inA 41 ad) s.heap s.heap [] := va_S.rf
  have hl := lv_entry ([.ref (ad 0), .int a1]) (n := 4) (Nat.le_of_ble_eq_true rfl)
  rw [show entryFrame m args 4 = entryFrame m ([.ref (ad 0), .int a1] : List Value).toArray 4 by rw [hargs]]
  rw [lg_entry_eq]
  generalize (lg_sl ([.ref (ad 0), .int a1]) ++ List.replicate (4 - (lg_sl ([.ref (ad 0), .int a1])).length) Slot.unset).toArray = ls at hl ⊢
  have hl : lv_has ls 4 [(0, .ref (ad 0)), (1, .int a1)] := hl
  obtain ⟨QQ, hQQ⟩ : ∃ Q, Q = MQ below (va_Qi (fun r u => r = res.1 ∧ u = res.2) (fun u t => va_P D vwCl (ww dM 41 cA ad u) t.heap) (inA 41 ad)) args s 0 0 (inA 41 ad) := ⟨_, rfl⟩
  show W p l e (headSpec wsX11_here rm_11_here).room s m args below meth c s.heap [] 0 0 (MQ below (va_Qi (fun r u => r = res.1 ∧ u = res.2) (fun u t => va_P D vwCl (ww dM 41 cA ad u) t.heap) (inA 41 ad)) args s 0 0 (inA 41 ad)) _
  rw [← hQQ]
  have in11 : ∀ w ∈ wsX110, w ∈ wsX11_here := by decide +kernel
  have lk233 : Cond.fieldLink RX11 233 "CureTownModel" "guests" "I" ∈ wsX11_here := by decide +kernel
  unfold f_11_here at h
  obtain ⟨H, hH⟩ : ∃ H, H = s.heap := ⟨_, rfl⟩
  obtain ⟨locs, hlc⟩ : ∃ q : List Loc, q = [] := ⟨_, rfl⟩
  have hP : va_P D vwCl (ww dM 41 cA ad σ) s.heap := hP
  have hS : va_S (inA 41 ad) s.heap s.heap [] := hS
  rw [← hlc] at hS ⊢
  rw [show W p l e (headSpec wsX11_here rm_11_here).room s m args below meth c s.heap locs 0 0 QQ = W p l e (headSpec wsX11_here rm_11_here).room s m args below meth c H locs 0 0 QQ by rw [hH]]
  have hS : va_S (inA 41 ad) s.heap H locs := by rw [hH]; exact hS
  have hP : va_P D vwCl (ww dM 41 cA ad σ) H := by rw [hH]; exact hP
  clear hH hlc
  refine lv_iconst (v := 0) hx hb dX11_here_0 (by decide) ?_
  refine lv_istore_n (lv' := [(2, .int 0), (0, .ref (ad 0)), (1, .int a1)]) hx hb dX11_here_1 rfl hl (by decide) rfl (fun ls hl => ?_)
  refine lv_iconst (v := 0) hx hb dX11_here_2 (by decide) ?_
  refine lv_istore_n (lv' := [(3, .int 0), (2, .int 0), (0, .ref (ad 0)), (1, .int a1)]) hx hb dX11_here_3 rfl hl (by decide) rfl (fun ls hl => ?_)
  obtain ⟨t1011, o1013, h⟩ := bd_some h
  refine lq_rule (P := fun t2 : Int32 × Int32 × St => ∀ (H : Heap) (locs : List Loc) (ls : Array Slot), va_P D vwCl (ww dM 41 cA ad t2.2.2) H → va_S (inA 41 ad) s.heap H locs → lv_has ls 4 [(0, .ref (ad 0)), (1, .int a1), (2, .int t2.1), (3, .int t2.2.1)] → W p l e (headSpec wsX11_here rm_11_here).room s m args below meth c H locs 0 0 QQ (F0 m 4 ls [])) (X := fun t1011 : Int32 × Int32 × St => ∀ (H : Heap) (locs : List Loc) (ls : Array Slot), va_P D vwCl (ww dM 41 cA ad t1011.2.2) H → va_S (inA 41 ad) s.heap H locs → lv_has ls 4 [(0, .ref (ad 0)), (1, .int a1), (2, .int t1011.1), (3, .int t1011.2.1)] → W p l e (headSpec wsX11_here rm_11_here).room s m args below meth c H locs 0 0 QQ (F0 m 35 ls [])) ?_ n _ _ o1013 ?_ H locs ls hP hS (lv_sub hl [2, 3, 1, 0] rfl)
  · clear h hP hS hl
    intro t2 rL1 h hCL1 hEL1 H locs ls hP hS hl
    unfold b_11_here_4 at h
    refine lv_iload_n hx hb dX11_here_4 rfl (lv_at hl 3 rfl) ?_
    refine lv_aload_n hx hb dX11_here_5 rfl (lv_at hl 0 rfl) ?_
    refine x_gi X hP (j := 1) (by decide) (dM_0) rfl rfl (by decide) in11 lk233 dX11_here_6 ?_
    refine lv_icmp_ge (tgt := 35) hx hb dX11_here_9 (by decide) (fun c3 => ?_) (fun c3 => ?_)
    · have h := it_t c3 h
      exact hEL1 _ (Option.some.inj h).symm H locs ls hP hS (lv_sub hl [0, 1, 2, 3] rfl)
    · have h := it_f c3 h
      refine lv_iload_n hx hb dX11_here_12 rfl (lv_at hl 2 rfl) ?_
      refine lv_aload_n hx hb dX11_here_13 rfl (lv_at hl 0 rfl) ?_
      refine lv_iload_n hx hb dX11_here_14 rfl (lv_at hl 3 rfl) ?_
      refine lv_iload_n hx hb dX11_here_15 rfl (lv_at hl 1 rfl) ?_
      obtain ⟨r4, k5, h⟩ := bd_some h
      refine x_Vi (rest := [.int t2.1]) X hP hS (k_11_isHere l D cA ad hj n t2.2.2 t2.2.1 a1 k5) (by decide) (dM_0) rfl 2 gX11_here_X11_isHere rfl rfl rfl (by decide +kernel) ⟨Nat.le_of_ble_eq_true rfl, Nat.le_of_ble_eq_true rfl⟩ rfl hl.1 rfl (Nat.le_of_ble_eq_true rfl) dX11_here_16 ⟨Nat.zero_le _, Nat.zero_le _⟩ (fun H locs hP hS => ?_)
      refine lv_if_eq (tgt := 26) hx hb dX11_here_19 (by decide) (fun c6 => ?_) (fun c6 => ?_)
      · have h := it_t c6 h
        refine lv_iconst (v := 0) hx hb dX11_here_26 (by decide) ?_
        refine lv_iadd hx hb dX11_here_27 ?_
        refine lv_topi (fun v7 ev7 => ?_)
        have h := nm_some ev7 h
        refine lv_istore_n (lv' := [(2, .int v7), (0, .ref (ad 0)), (1, .int a1), (3, .int t2.2.1)]) hx hb dX11_here_28 rfl hl (by decide) rfl (fun ls hl => ?_)
        obtain ⟨v8, ev8⟩ : ∃ y : Int32, y = t2.2.1 + 1 := ⟨_, rfl⟩
        have h := nm_some ev8 h
        refine lv_iinc (v := v8) (lv' := [(3, .int v8), (2, .int v7), (0, .ref (ad 0)), (1, .int a1)]) hx hb dX11_here_29 hl (k := 3) rfl (by rw [ev8]; rfl) (by decide) rfl (fun ls hl => ?_)
        refine lv_goto (tgt := 4) hx hb dX11_here_32 (by decide) ?_
        exact hCL1 _ (Option.some.inj h).symm H locs ls hP hS (lv_sub hl [2, 3, 1, 0] rfl)
      · have h := it_f c6 h
        refine lv_iconst (v := 1) hx hb dX11_here_22 (by decide) ?_
        refine lv_goto (tgt := 27) hx hb dX11_here_23 (by decide) ?_
        refine lv_iadd hx hb dX11_here_27 ?_
        refine lv_topi (fun v9 ev9 => ?_)
        have h := nm_some ev9 h
        refine lv_istore_n (lv' := [(2, .int v9), (0, .ref (ad 0)), (1, .int a1), (3, .int t2.2.1)]) hx hb dX11_here_28 rfl hl (by decide) rfl (fun ls hl => ?_)
        obtain ⟨v10, ev10⟩ : ∃ y : Int32, y = t2.2.1 + 1 := ⟨_, rfl⟩
        have h := nm_some ev10 h
        refine lv_iinc (v := v10) (lv' := [(3, .int v10), (2, .int v9), (0, .ref (ad 0)), (1, .int a1)]) hx hb dX11_here_29 hl (k := 3) rfl (by rw [ev10]; rfl) (by decide) rfl (fun ls hl => ?_)
        refine lv_goto (tgt := 4) hx hb dX11_here_32 (by decide) ?_
        exact hCL1 _ (Option.some.inj h).symm H locs ls hP hS (lv_sub hl [2, 3, 1, 0] rfl)
  · intro H locs ls hP hS hl
    refine lv_iload_n hx hb dX11_here_35 rfl (lv_at hl 2 rfl) ?_
    subst hQQ
    exact x_ri (σ0 := (fun _ _ => 0, fun _ _ => 0)) X hr hlocks hP hS (Option.some.inj h) dX11_here_36
