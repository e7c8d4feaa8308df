def f_8_isBlank (n : Nat) (σ : St) (a0 : Int32) : Option (Int32 × St) :=
  if a0 = 32 then
    some (1, σ)
  else
    if ¬ a0 = 10 then
      some (0, σ)
    else
      some (1, σ)
abbrev rm_8_isBlank : Room := { frames := 0, cells := 0, slots := 0, locals := 0 }
set_option maxRecDepth 100000 in
set_option maxHeartbeats 4000000 in
theorem k_8_isBlank (l : Launch) (D : va_G) (cA : Nat → ClassId) (ad : Nat → Nat) (z : ZX) (hj : inj 120 ad) (n : Nat) (σ : St) (a0 : Int32)  {res : Int32 × St} (h : f_8_isBlank n σ a0 = some res) : MXi l D dX 120 cA ad (EX ad z) yX8_isBlank wsX8_isBlank rm_8_isBlank [.int a0] σ res := by
  refine Met.ofW (cc := cX8_isBlank) (maxL := 1) (ret := (some .boolean)) (by decide) rfl ?_
  intro p e s m args below meth c s₁ B hml hv
  obtain ⟨hargs, hP, hK, hE⟩ := hv
  have hx := B.exec
  have hb := B.bytes
  have hr := B.returns
  have hts := atoms_spec (ws := wsX8_isBlank) B.pre
  have hown : s.vm.findClass RX8 = some m.cls := findClass_of_methodNamed B.named
  have hlocks := B.notSynchronized
  have X : Cx p s m args c cX8_isBlank 1 RX8 wsX8_isBlank D dX 120 cA ad (EX ad z) := ⟨hx, hb, hml, hown, hts, hK, hj, hE, EX_ok ad z⟩
  have hS : va_S (inA 120 ad) s.heap s.heap [] := va_S.rf
  have hl := lv_entry ([.int a0]) (n := 1) (Nat.le_of_ble_eq_true rfl)
  rw [show entryFrame m args 1 = entryFrame m ([.int a0] : List Value).toArray 1 by rw [hargs]]
  rw [lg_entry_eq]
  generalize (lg_sl ([.int a0]) ++ List.replicate (1 - (lg_sl ([.int a0])).length) Slot.unset).toArray = ls at hl ⊢
  have hl : lv_has ls 1 [(0, .int a0)] := hl
  obtain ⟨QQ, hQQ⟩ : ∃ Q, Q = MQ below (va_Qi (fun r u => r = res.1 ∧ u = res.2) (fun u t => va_P D vwCl (ww dX 120 cA ad u) t.heap) (inA 120 ad)) args s 0 0 (inA 120 ad) := ⟨_, rfl⟩
  show W p l e (headSpec wsX8_isBlank rm_8_isBlank).room s m args below meth c s.heap [] 0 0 (MQ below (va_Qi (fun r u => r = res.1 ∧ u = res.2) (fun u t => va_P D vwCl (ww dX 120 cA ad u) t.heap) (inA 120 ad)) args s 0 0 (inA 120 ad)) _
  rw [← hQQ]
  unfold f_8_isBlank at h
  obtain ⟨H, hH⟩ : ∃ H, H = s.heap := ⟨_, rfl⟩
  obtain ⟨locs, hlc⟩ : ∃ q : List Loc, q = [] := ⟨_, rfl⟩
  have hP : va_P D vwCl (ww dX 120 cA ad σ) s.heap := hP
  have hS : va_S (inA 120 ad) s.heap s.heap [] := hS
  rw [← hlc] at hS ⊢
  rw [show W p l e (headSpec wsX8_isBlank rm_8_isBlank).room s m args below meth c s.heap locs 0 0 QQ = W p l e (headSpec wsX8_isBlank rm_8_isBlank).room s m args below meth c H locs 0 0 QQ by rw [hH]]
  have hS : va_S (inA 120 ad) s.heap H locs := by rw [hH]; exact hS
  have hP : va_P D vwCl (ww dX 120 cA ad σ) H := by rw [hH]; exact hP
  clear hH hlc
  refine lv_iload_n hx hb dX8_isBlank_0 rfl (lv_at hl 0 rfl) ?_
  refine lv_bipush (v := 32) hx hb dX8_isBlank_1 (by decide) ?_
  refine lv_icmp_eq (tgt := 12) hx hb dX8_isBlank_3 (by decide) (fun c1 => ?_) (fun c1 => ?_)
  · have h := it_t c1 h
    refine lv_iconst (v := 1) hx hb dX8_isBlank_12 (by decide) ?_
    refine lv_goto (tgt := 17) hx hb dX8_isBlank_13 (by decide) ?_
    subst hQQ
    exact x_rz X hr hlocks hP hS (by decide +kernel) (Option.some.inj h) dX8_isBlank_17
  · have h := it_f c1 h
    refine lv_iload_n hx hb dX8_isBlank_6 rfl (lv_at hl 0 rfl) ?_
    refine lv_bipush (v := 10) hx hb dX8_isBlank_7 (by decide) ?_
    refine lv_icmp_ne (tgt := 16) hx hb dX8_isBlank_9 (by decide) (fun c2 => ?_) (fun c2 => ?_)
    · have h := it_t c2 h
      refine lv_iconst (v := 0) hx hb dX8_isBlank_16 (by decide) ?_
      subst hQQ
      exact x_rz X hr hlocks hP hS (by decide +kernel) (Option.some.inj h) dX8_isBlank_17
    · have h := it_f c2 h
      refine lv_iconst (v := 1) hx hb dX8_isBlank_12 (by decide) ?_
      refine lv_goto (tgt := 17) hx hb dX8_isBlank_13 (by decide) ?_
      subst hQQ
      exact x_rz X hr hlocks hP hS (by decide +kernel) (Option.some.inj h) dX8_isBlank_17
def f_8_isLetter (n : Nat) (σ : St) (a0 : Int32) : Option (Int32 × St) :=
  if a0 < 97 then
    if a0 < 65 then
      some (0, σ)
    else
      if 90 < a0 then
        some (0, σ)
      else
        some (1, σ)
  else
    if a0 ≤ 122 then
      some (1, σ)
    else
      if a0 < 65 then
        some (0, σ)
      else
        if 90 < a0 then
          some (0, σ)
        else
          some (1, σ)
abbrev rm_8_isLetter : Room := { frames := 0, cells := 0, slots := 0, locals := 0 }
set_option maxRecDepth 100000 in
set_option maxHeartbeats 4000000 in
theorem k_8_isLetter (l : Launch) (D : va_G) (cA : Nat → ClassId) (ad : Nat → Nat) (z : ZX) (hj : inj 120 ad) (n : Nat) (σ : St) (a0 : Int32)  {res : Int32 × St} (h : f_8_isLetter n σ a0 = some res) : MXi l D dX 120 cA ad (EX ad z) yX8_isLetter wsX8_isLetter rm_8_isLetter [.int a0] σ res := by
  refine Met.ofW (cc := cX8_isLetter) (maxL := 1) (ret := (some .boolean)) (by decide) rfl ?_
  intro p e s m args below meth c s₁ B hml hv
  obtain ⟨hargs, hP, hK, hE⟩ := hv
  have hx := B.exec
  have hb := B.bytes
  have hr := B.returns
  have hts := atoms_spec (ws := wsX8_isLetter) B.pre
  have hown : s.vm.findClass RX8 = some m.cls := findClass_of_methodNamed B.named
  have hlocks := B.notSynchronized
  have X : Cx p s m args c cX8_isLetter 1 RX8 wsX8_isLetter D dX 120 cA ad (EX ad z) := ⟨hx, hb, hml, hown, hts, hK, hj, hE, EX_ok ad z⟩
  have hS : va_S (inA 120 ad) s.heap s.heap [] := va_S.rf
  have hl := lv_entry ([.int a0]) (n := 1) (Nat.le_of_ble_eq_true rfl)
  rw [show entryFrame m args 1 = entryFrame m ([.int a0] : List Value).toArray 1 by rw [hargs]]
  rw [lg_entry_eq]
  generalize (lg_sl ([.int a0]) ++ List.replicate (1 - (lg_sl ([.int a0])).length) Slot.unset).toArray = ls at hl ⊢
  have hl : lv_has ls 1 [(0, .int a0)] := hl
  obtain ⟨QQ, hQQ⟩ : ∃ Q, Q = MQ below (va_Qi (fun r u => r = res.1 ∧ u = res.2) (fun u t => va_P D vwCl (ww dX 120 cA ad u) t.heap) (inA 120 ad)) args s 0 0 (inA 120 ad) := ⟨_, rfl⟩
  show W p l e (headSpec wsX8_isLetter rm_8_isLetter).room s m args below meth c s.heap [] 0 0 (MQ below (va_Qi (fun r u => r = res.1 ∧ u = res.2) (fun u t => va_P D vwCl (ww dX 120 cA ad u) t.heap) (inA 120 ad)) args s 0 0 (inA 120 ad)) _
  rw [← hQQ]
  unfold f_8_isLetter at h
  obtain ⟨H, hH⟩ : ∃ H, H = s.heap := ⟨_, rfl⟩
  obtain ⟨locs, hlc⟩ : ∃ q : List Loc, q = [] := ⟨_, rfl⟩
  have hP : va_P D vwCl (ww dX 120 cA ad σ) s.heap := hP
  have hS : va_S (inA 120 ad) s.heap s.heap [] := hS
  rw [← hlc] at hS ⊢
  rw [show W p l e (headSpec wsX8_isLetter rm_8_isLetter).room s m args below meth c s.heap locs 0 0 QQ = W p l e (headSpec wsX8_isLetter rm_8_isLetter).room s m args below meth c H locs 0 0 QQ by rw [hH]]
  have hS : va_S (inA 120 ad) s.heap H locs := by rw [hH]; exact hS
  have hP : va_P D vwCl (ww dX 120 cA ad σ) H := by rw [hH]; exact hP
  clear hH hlc
  refine lv_iload_n hx hb dX8_isLetter_0 rfl (lv_at hl 0 rfl) ?_
  refine lv_bipush (v := 97) hx hb dX8_isLetter_1 (by decide) ?_
  refine lv_icmp_lt (tgt := 12) hx hb dX8_isLetter_3 (by decide) (fun c1 => ?_) (fun c1 => ?_)
  · have h := it_t c1 h
    refine lv_iload_n hx hb dX8_isLetter_12 rfl (lv_at hl 0 rfl) ?_
    refine lv_bipush (v := 65) hx hb dX8_isLetter_13 (by decide) ?_
    refine lv_icmp_lt (tgt := 28) hx hb dX8_isLetter_15 (by decide) (fun c2 => ?_) (fun c2 => ?_)
    · have h := it_t c2 h
      refine lv_iconst (v := 0) hx hb dX8_isLetter_28 (by decide) ?_
      subst hQQ
      exact x_rz X hr hlocks hP hS (by decide +kernel) (Option.some.inj h) dX8_isLetter_29
    · have h := it_f c2 h
      refine lv_iload_n hx hb dX8_isLetter_18 rfl (lv_at hl 0 rfl) ?_
      refine lv_bipush (v := 90) hx hb dX8_isLetter_19 (by decide) ?_
      refine lv_icmp_gt (tgt := 28) hx hb dX8_isLetter_21 (by decide) (fun c3 => ?_) (fun c3 => ?_)
      · have h := it_t c3 h
        refine lv_iconst (v := 0) hx hb dX8_isLetter_28 (by decide) ?_
        subst hQQ
        exact x_rz X hr hlocks hP hS (by decide +kernel) (Option.some.inj h) dX8_isLetter_29
      · have h := it_f c3 h
        refine lv_iconst (v := 1) hx hb dX8_isLetter_24 (by decide) ?_
        refine lv_goto (tgt := 29) hx hb dX8_isLetter_25 (by decide) ?_
        subst hQQ
        exact x_rz X hr hlocks hP hS (by decide +kernel) (Option.some.inj h) dX8_isLetter_29
  · have h := it_f c1 h
    refine lv_iload_n hx hb dX8_isLetter_6 rfl (lv_at hl 0 rfl) ?_
    refine lv_bipush (v := 122) hx hb dX8_isLetter_7 (by decide) ?_
    refine lv_icmp_le (tgt := 24) hx hb dX8_isLetter_9 (by decide) (fun c4 => ?_) (fun c4 => ?_)
    · have h := it_t c4 h
      refine lv_iconst (v := 1) hx hb dX8_isLetter_24 (by decide) ?_
      refine lv_goto (tgt := 29) hx hb dX8_isLetter_25 (by decide) ?_
      subst hQQ
      exact x_rz X hr hlocks hP hS (by decide +kernel) (Option.some.inj h) dX8_isLetter_29
    · have h := it_f c4 h
      refine lv_iload_n hx hb dX8_isLetter_12 rfl (lv_at hl 0 rfl) ?_
      refine lv_bipush (v := 65) hx hb dX8_isLetter_13 (by decide) ?_
      refine lv_icmp_lt (tgt := 28) hx hb dX8_isLetter_15 (by decide) (fun c5 => ?_) (fun c5 => ?_)
      · have h := it_t c5 h
        refine lv_iconst (v := 0) hx hb dX8_isLetter_28 (by decide) ?_
        subst hQQ
        exact x_rz X hr hlocks hP hS (by decide +kernel) (Option.some.inj h) dX8_isLetter_29
      · have h := it_f c5 h
        refine lv_iload_n hx hb dX8_isLetter_18 rfl (lv_at hl 0 rfl) ?_
        refine lv_bipush (v := 90) hx hb dX8_isLetter_19 (by decide) ?_
        refine lv_icmp_gt (tgt := 28) hx hb dX8_isLetter_21 (by decide) (fun c6 => ?_) (fun c6 => ?_)
        · have h := it_t c6 h
          refine lv_iconst (v := 0) hx hb dX8_isLetter_28 (by decide) ?_
          subst hQQ
          exact x_rz X hr hlocks hP hS (by decide +kernel) (Option.some.inj h) dX8_isLetter_29
        · have h := it_f c6 h
          refine lv_iconst (v := 1) hx hb dX8_isLetter_24 (by decide) ?_
          refine lv_goto (tgt := 29) hx hb dX8_isLetter_25 (by decide) ?_
          subst hQQ
          exact x_rz X hr hlocks hP hS (by decide +kernel) (Option.some.inj h) dX8_isLetter_29
def f_6_add (n : Nat) (σ : St) (i0 : Nat) (a1 : Int32) : Option (St) :=
  if 30 ≤ (σ.1 (44 + i0) 1) then
    some σ
  else
    gd (inb (σ.1 (44 + i0) 1) 30) <| nm (si σ (52 + i0) ((σ.1 (44 + i0) 1).toNatClampNeg) a1) fun σ3 =>
    nm ((σ3.1 (44 + i0) 1) + 1) fun v4 =>
    nm (si σ3 (44 + i0) 1 v4) fun σ5 =>
    some σ5
abbrev rm_6_add : Room := { frames := 0, cells := 0, slots := 0, locals := 0 }
set_option maxRecDepth 100000 in
set_option maxHeartbeats 4000000 in
theorem k_6_add (l : Launch) (D : va_G) (cA : Nat → ClassId) (ad : Nat → Nat) (z : ZX) (hj : inj 120 ad) (n : Nat) (σ : St) (i0 : Nat) (a1 : Int32) (h0 : i0 < 8) {res : St} (h : f_6_add n σ i0 a1 = some res) : MXv l D dX 120 cA ad (EX ad z) yX6_add wsX6_add rm_6_add [.ref (ad (44 + i0)), .int a1] σ res := by
  refine Met.ofW (cc := cX6_add) (maxL := 2) (ret := none) (by decide) rfl ?_
  intro p e s m args below meth c s₁ B hml hv
  obtain ⟨hargs, hP, hK, hE⟩ := hv
  have hx := B.exec
  have hb := B.bytes
  have hr := B.returns
  have hts := atoms_spec (ws := wsX6_add) B.pre
  have hown : s.vm.findClass RX6 = some m.cls := findClass_of_methodNamed B.named
  have hlocks := B.notSynchronized
  have X : Cx p s m args c cX6_add 2 RX6 wsX6_add D dX 120 cA ad (EX ad z) := ⟨hx, hb, hml, hown, hts, hK, hj, hE, EX_ok ad z⟩
  have hS : va_S (inA 120 ad) s.heap s.heap [] := va_S.rf
  have hl := lv_entry ([.ref (ad (44 + i0)), .int a1]) (n := 2) (Nat.le_of_ble_eq_true rfl)
  rw [show entryFrame m args 2 = entryFrame m ([.ref (ad (44 + i0)), .int a1] : List Value).toArray 2 by rw [hargs]]
  rw [lg_entry_eq]
  generalize (lg_sl ([.ref (ad (44 + i0)), .int a1]) ++ List.replicate (2 - (lg_sl ([.ref (ad (44 + i0)), .int a1])).length) Slot.unset).toArray = ls at hl ⊢
  have hl : lv_has ls 2 [(0, .ref (ad (44 + i0))), (1, .int a1)] := hl
  obtain ⟨QQ, hQQ⟩ : ∃ Q, Q = MQ below (va_Qv (fun u => u = res) (fun u t => va_P D vwCl (ww dX 120 cA ad u) t.heap) (inA 120 ad)) args s 0 0 (inA 120 ad) := ⟨_, rfl⟩
  show W p l e (headSpec wsX6_add rm_6_add).room s m args below meth c s.heap [] 0 0 (MQ below (va_Qv (fun u => u = res) (fun u t => va_P D vwCl (ww dX 120 cA ad u) t.heap) (inA 120 ad)) args s 0 0 (inA 120 ad)) _
  rw [← hQQ]
  have in6 : ∀ w ∈ wsX60, w ∈ wsX6_add := by decide +kernel
  have lk15 : Cond.fieldLink RX6 15 "CureTown$Regimen" "count" "I" ∈ wsX6_add := by decide +kernel
  have lk18 : Cond.fieldLink RX6 18 "CureTown$Regimen" "kinds" "[I" ∈ wsX6_add := by decide +kernel
  unfold f_6_add at h
  obtain ⟨H, hH⟩ : ∃ H, H = s.heap := ⟨_, rfl⟩
  obtain ⟨locs, hlc⟩ : ∃ q : List Loc, q = [] := ⟨_, rfl⟩
  have hP : va_P D vwCl (ww dX 120 cA ad σ) s.heap := hP
  have hS : va_S (inA 120 ad) s.heap s.heap [] := hS
  rw [← hlc] at hS ⊢
  rw [show W p l e (headSpec wsX6_add rm_6_add).room s m args below meth c s.heap locs 0 0 QQ = W p l e (headSpec wsX6_add rm_6_add).room s m args below meth c H locs 0 0 QQ by rw [hH]]
  have hS : va_S (inA 120 ad) s.heap H locs := by rw [hH]; exact hS
  have hP : va_P D vwCl (ww dX 120 cA ad σ) H := by rw [hH]; exact hP
  clear hH hlc
  refine lv_aload_n hx hb dX6_add_0 rfl (lv_at hl 0 rfl) ?_
  refine x_gi X hP (j := 1) (fam_lt h0 (by decide)) (dX_44 h0) rfl rfl (by decide) in6 lk15 dX6_add_1 ?_
  refine lv_bipush (v := 30) hx hb dX6_add_4 (by decide) ?_
  refine lv_icmp_ge (tgt := 29) hx hb dX6_add_6 (by decide) (fun c1 => ?_) (fun c1 => ?_)
  · have h := it_t c1 h
    subst hQQ
    exact x_rv X hr hlocks hP hS (Option.some.inj h) dX6_add_29
  · have h := it_f c1 h
    refine lv_aload_n hx hb dX6_add_9 rfl (lv_at hl 0 rfl) ?_
    refine x_gr X hP (j := 2) (fam_lt h0 (by decide)) (dX_44 h0) rfl rfl (by decide) in6 lk18 dX6_add_10 ?_
    refine lv_aload_n hx hb dX6_add_13 rfl (lv_at hl 0 rfl) ?_
    refine x_gi X hP (j := 1) (fam_lt h0 (by decide)) (dX_44 h0) rfl rfl (by decide) in6 lk15 dX6_add_14 ?_
    refine lv_iload_n hx hb dX6_add_17 rfl (lv_at hl 1 rfl) ?_
    obtain ⟨g2, h⟩ := gd_some h
    refine x_si X hP hS (fam_lt h0 (by decide)) (dX_52 h0) g2 dX6_add_18 (fun σ3 eσ3 H locs hP hS => ?_)
    have h := nm_some eσ3 h
    refine lv_aload_n hx hb dX6_add_19 rfl (lv_at hl 0 rfl) ?_
    refine lv_dup hx hb dX6_add_20 rfl ?_
    refine x_gi X hP (j := 1) (fam_lt h0 (by decide)) (dX_44 h0) rfl rfl (by decide) in6 lk15 dX6_add_21 ?_
    refine lv_iconst (v := 1) hx hb dX6_add_24 (by decide) ?_
    refine lv_iadd hx hb dX6_add_25 ?_
    refine lv_topi (fun v4 ev4 => ?_)
    have h := nm_some ev4 h
    refine x_pi X hP hS (j := 1) (fam_lt h0 (by decide)) (dX_44 h0) rfl rfl (by decide) in6 tyX6_ok nmX6 lk15 rfl rfl rfl rfl dX6_add_26 (fun σ5 eσ5 H locs hP hS => ?_)
    have h := nm_some eσ5 h
    subst hQQ
    exact x_rv X hr hlocks hP hS (Option.some.inj h) dX6_add_29
def f_5_clear (n : Nat) (σ : St) (i0 : Nat) : Option (St) :=
  nm (si σ (76 + i0) 0 0) fun σ1 =>
  nm (si σ1 (76 + i0) 1 0) fun σ2 =>
  nm (si σ2 (76 + i0) 2 0) fun σ3 =>
  nm (si σ3 (76 + i0) 3 0) fun σ4 =>
  nm (si σ4 (76 + i0) 4 0) fun σ5 =>
  nm (si σ5 (76 + i0) 5 0) fun σ6 =>
  some σ6
abbrev rm_5_clear : Room := { frames := 0, cells := 0, slots := 0, locals := 0 }
set_option maxRecDepth 100000 in
set_option maxHeartbeats 4000000 in
theorem k_5_clear (l : Launch) (D : va_G) (cA : Nat → ClassId) (ad : Nat → Nat) (z : ZX) (hj : inj 120 ad) (n : Nat) (σ : St) (i0 : Nat) (h0 : i0 < 8) {res : St} (h : f_5_clear n σ i0 = some res) : MXv l D dX 120 cA ad (EX ad z) yX5_clear wsX5_clear rm_5_clear [.ref (ad (76 + i0))] σ res := by
  refine Met.ofW (cc := cX5_clear) (maxL := 1) (ret := none) (by decide) rfl ?_
  intro p e s m args below meth c s₁ B hml hv
  obtain ⟨hargs, hP, hK, hE⟩ := hv
  have hx := B.exec
  have hb := B.bytes
  have hr := B.returns
  have hts := atoms_spec (ws := wsX5_clear) B.pre
  have hown : s.vm.findClass RX5 = some m.cls := findClass_of_methodNamed B.named
  have hlocks := B.notSynchronized
  have X : Cx p s m args c cX5_clear 1 RX5 wsX5_clear D dX 120 cA ad (EX ad z) := ⟨hx, hb, hml, hown, hts, hK, hj, hE, EX_ok ad z⟩
  have hS : va_S (inA 120 ad) s.heap s.heap [] := va_S.rf
  have hl := lv_entry ([.ref (ad (76 + i0))]) (n := 1) (Nat.le_of_ble_eq_true rfl)
  rw [show entryFrame m args 1 = entryFrame m ([.ref (ad (76 + i0))] : List Value).toArray 1 by rw [hargs]]
  rw [lg_entry_eq]
  generalize (lg_sl ([.ref (ad (76 + i0))]) ++ List.replicate (1 - (lg_sl ([.ref (ad (76 + i0))])).length) Slot.unset).toArray = ls at hl ⊢
  have hl : lv_has ls 1 [(0, .ref (ad (76 + i0)))] := hl
  obtain ⟨QQ, hQQ⟩ : ∃ Q, Q = MQ below (va_Qv (fun u => u = res) (fun u t => va_P D vwCl (ww dX 120 cA ad u) t.heap) (inA 120 ad)) args s 0 0 (inA 120 ad) := ⟨_, rfl⟩
  show W p l e (headSpec wsX5_clear rm_5_clear).room s m args below meth c s.heap [] 0 0 (MQ below (va_Qv (fun u => u = res) (fun u t => va_P D vwCl (ww dX 120 cA ad u) t.heap) (inA 120 ad)) args s 0 0 (inA 120 ad)) _
  rw [← hQQ]
  have in5 : ∀ w ∈ wsX50, w ∈ wsX5_clear := by decide +kernel
  have lk9 : Cond.fieldLink RX5 9 "CureTown$GuestDay" "now" "I" ∈ wsX5_clear := by decide +kernel
  have lk15 : Cond.fieldLink RX5 15 "CureTown$GuestDay" "strength" "I" ∈ wsX5_clear := by decide +kernel
  have lk18 : Cond.fieldLink RX5 18 "CureTown$GuestDay" "done" "I" ∈ wsX5_clear := by decide +kernel
  have lk21 : Cond.fieldLink RX5 21 "CureTown$GuestDay" "over" "I" ∈ wsX5_clear := by decide +kernel
  have lk24 : Cond.fieldLink RX5 24 "CureTown$GuestDay" "glasses" "I" ∈ wsX5_clear := by decide +kernel
  have lk27 : Cond.fieldLink RX5 27 "CureTown$GuestDay" "isLost" "Z" ∈ wsX5_clear := by decide +kernel
  unfold f_5_clear at h
  obtain ⟨H, hH⟩ : ∃ H, H = s.heap := ⟨_, rfl⟩
  obtain ⟨locs, hlc⟩ : ∃ q : List Loc, q = [] := ⟨_, rfl⟩
  have hP : va_P D vwCl (ww dX 120 cA ad σ) s.heap := hP
  have hS : va_S (inA 120 ad) s.heap s.heap [] := hS
  rw [← hlc] at hS ⊢
  rw [show W p l e (headSpec wsX5_clear rm_5_clear).room s m args below meth c s.heap locs 0 0 QQ = W p l e (headSpec wsX5_clear rm_5_clear).room s m args below meth c H locs 0 0 QQ by rw [hH]]
  have hS : va_S (inA 120 ad) s.heap H locs := by rw [hH]; exact hS
  have hP : va_P D vwCl (ww dX 120 cA ad σ) H := by rw [hH]; exact hP
  clear hH hlc
  refine lv_aload_n hx hb dX5_clear_0 rfl (lv_at hl 0 rfl) ?_
  refine lv_iconst (v := 0) hx hb dX5_clear_1 (by decide) ?_
  refine x_pi X hP hS (j := 0) (fam_lt h0 (by decide)) (dX_76 h0) rfl rfl (by decide) in5 tyX5_ok nmX5 lk9 rfl rfl rfl rfl dX5_clear_2 (fun σ1 eσ1 H locs hP hS => ?_)
  have h := nm_some eσ1 h
  refine lv_aload_n hx hb dX5_clear_5 rfl (lv_at hl 0 rfl) ?_
  refine lv_iconst (v := 0) hx hb dX5_clear_6 (by decide) ?_
  refine x_pi X hP hS (j := 1) (fam_lt h0 (by decide)) (dX_76 h0) rfl rfl (by decide) in5 tyX5_ok nmX5 lk15 rfl rfl rfl rfl dX5_clear_7 (fun σ2 eσ2 H locs hP hS => ?_)
  have h := nm_some eσ2 h
  refine lv_aload_n hx hb dX5_clear_10 rfl (lv_at hl 0 rfl) ?_
  refine lv_iconst (v := 0) hx hb dX5_clear_11 (by decide) ?_
  refine x_pi X hP hS (j := 2) (fam_lt h0 (by decide)) (dX_76 h0) rfl rfl (by decide) in5 tyX5_ok nmX5 lk18 rfl rfl rfl rfl dX5_clear_12 (fun σ3 eσ3 H locs hP hS => ?_)
  have h := nm_some eσ3 h
  refine lv_aload_n hx hb dX5_clear_15 rfl (lv_at hl 0 rfl) ?_
  refine lv_iconst (v := 0) hx hb dX5_clear_16 (by decide) ?_
  refine x_pi X hP hS (j := 3) (fam_lt h0 (by decide)) (dX_76 h0) rfl rfl (by decide) in5 tyX5_ok nmX5 lk21 rfl rfl rfl rfl dX5_clear_17 (fun σ4 eσ4 H locs hP hS => ?_)
  have h := nm_some eσ4 h
  refine lv_aload_n hx hb dX5_clear_20 rfl (lv_at hl 0 rfl) ?_
  refine lv_iconst (v := 0) hx hb dX5_clear_21 (by decide) ?_
  refine x_pi X hP hS (j := 4) (fam_lt h0 (by decide)) (dX_76 h0) rfl rfl (by decide) in5 tyX5_ok nmX5 lk24 rfl rfl rfl rfl dX5_clear_22 (fun σ5 eσ5 H locs hP hS => ?_)
  have h := nm_some eσ5 h
  refine lv_aload_n hx hb dX5_clear_25 rfl (lv_at hl 0 rfl) ?_
  refine lv_iconst (v := 0) hx hb dX5_clear_26 (by decide) ?_
  refine x_pi X hP hS (j := 5) (fam_lt h0 (by decide)) (dX_76 h0) rfl rfl (by decide) in5 tyX5_ok nmX5 lk27 rfl rfl (by decide +kernel) (by decide +kernel) dX5_clear_27 (fun σ6 eσ6 H locs hP hS => ?_)
  have h := nm_some eσ6 h
  subst hQQ
  exact x_rv X hr hlocks hP hS (Option.some.inj h) dX5_clear_30
def f_5_note (n : Nat) (σ : St) (i0 : Nat) (a1 : Int32) (a2 : Int32) (a3 : Int32) (a4 : Int32) : Option (St) :=
  if 30 ≤ (σ.1 (76 + i0) 2) then
    some σ
  else
    gd (inb (σ.1 (76 + i0) 2) 30) <| nm (si σ (100 + i0) ((σ.1 (76 + i0) 2).toNatClampNeg) a1) fun σ3 =>
    gd (inb (σ3.1 (76 + i0) 2) 30) <| nm (si σ3 (84 + i0) ((σ3.1 (76 + i0) 2).toNatClampNeg) a2) fun σ5 =>
    gd (inb (σ5.1 (76 + i0) 2) 30) <| nm (si σ5 (92 + i0) ((σ5.1 (76 + i0) 2).toNatClampNeg) a3) fun σ7 =>
    gd (inb (σ7.1 (76 + i0) 2) 30) <| nm (si σ7 (108 + i0) ((σ7.1 (76 + i0) 2).toNatClampNeg) a4) fun σ9 =>
    nm ((σ9.1 (76 + i0) 2) + 1) fun v10 =>
    nm (si σ9 (76 + i0) 2 v10) fun σ11 =>
    nm (a2 + a3) fun v12 =>
    nm (si σ11 (76 + i0) 3 v12) fun σ13 =>
    nm (si σ13 (76 + i0) 0 (σ13.1 (76 + i0) 3)) fun σ14 =>
    some σ14
abbrev rm_5_note : Room := { frames := 0, cells := 0, slots := 0, locals := 0 }
set_option maxRecDepth 100000 in
set_option maxHeartbeats 4000000 in
theorem k_5_note (l : Launch) (D : va_G) (cA : Nat → ClassId) (ad : Nat → Nat) (z : ZX) (hj : inj 120 ad) (n : Nat) (σ : St) (i0 : Nat) (a1 : Int32) (a2 : Int32) (a3 : Int32) (a4 : Int32) (h0 : i0 < 8) {res : St} (h : f_5_note n σ i0 a1 a2 a3 a4 = some res) : MXv l D dX 120 cA ad (EX ad z) yX5_note wsX5_note rm_5_note [.ref (ad (76 + i0)), .int a1, .int a2, .int a3, .int a4] σ res := by
  refine Met.ofW (cc := cX5_note) (maxL := 5) (ret := none) (by decide) rfl ?_
  intro p e s m args below meth c s₁ B hml hv
  obtain ⟨hargs, hP, hK, hE⟩ := hv
  have hx := B.exec
  have hb := B.bytes
  have hr := B.returns
  have hts := atoms_spec (ws := wsX5_note) B.pre
  have hown : s.vm.findClass RX5 = some m.cls := findClass_of_methodNamed B.named
  have hlocks := B.notSynchronized
  have X : Cx p s m args c cX5_note 5 RX5 wsX5_note D dX 120 cA ad (EX ad z) := ⟨hx, hb, hml, hown, hts, hK, hj, hE, EX_ok ad z⟩
  have hS : va_S (inA 120 ad) s.heap s.heap [] := va_S.rf
  have hl := lv_entry ([.ref (ad (76 + i0)), .int a1, .int a2, .int a3, .int a4]) (n := 5) (Nat.le_of_ble_eq_true rfl)
  rw [show entryFrame m args 5 = entryFrame m ([.ref (ad (76 + i0)), .int a1, .int a2, .int a3, .int a4] : List Value).toArray 5 by rw [hargs]]
  rw [lg_entry_eq]
  generalize (lg_sl ([.ref (ad (76 + i0)), .int a1, .int a2, .int a3, .int a4]) ++ List.replicate (5 - (lg_sl ([.ref (ad (76 + i0)), .int a1, .int a2, .int a3, .int a4])).length) Slot.unset).toArray = ls at hl ⊢
  have hl : lv_has ls 5 [(0, .ref (ad (76 + i0))), (1, .int a1), (2, .int a2), (3, .int a3), (4, .int a4)] := hl
  obtain ⟨QQ, hQQ⟩ : ∃ Q, Q = MQ below (va_Qv (fun u => u = res) (fun u t => va_P D vwCl (ww dX 120 cA ad u) t.heap) (inA 120 ad)) args s 0 0 (inA 120 ad) := ⟨_, rfl⟩
  show W p l e (headSpec wsX5_note rm_5_note).room s m args below meth c s.heap [] 0 0 (MQ below (va_Qv (fun u => u = res) (fun u t => va_P D vwCl (ww dX 120 cA ad u) t.heap) (inA 120 ad)) args s 0 0 (inA 120 ad)) _
  rw [← hQQ]
  have in5 : ∀ w ∈ wsX50, w ∈ wsX5_note := by decide +kernel
  have lk18 : Cond.fieldLink RX5 18 "CureTown$GuestDay" "done" "I" ∈ wsX5_note := by decide +kernel
  have lk38 : Cond.fieldLink RX5 38 "CureTown$GuestDay" "kinds" "[I" ∈ wsX5_note := by decide +kernel
  have lk31 : Cond.fieldLink RX5 31 "CureTown$GuestDay" "begins" "[I" ∈ wsX5_note := by decide +kernel
  have lk35 : Cond.fieldLink RX5 35 "CureTown$GuestDay" "quarters" "[I" ∈ wsX5_note := by decide +kernel
  have lk41 : Cond.fieldLink RX5 41 "CureTown$GuestDay" "places" "[I" ∈ wsX5_note := by decide +kernel
  have lk21 : Cond.fieldLink RX5 21 "CureTown$GuestDay" "over" "I" ∈ wsX5_note := by decide +kernel
  have lk9 : Cond.fieldLink RX5 9 "CureTown$GuestDay" "now" "I" ∈ wsX5_note := by decide +kernel
  unfold f_5_note at h
  obtain ⟨H, hH⟩ : ∃ H, H = s.heap := ⟨_, rfl⟩
  obtain ⟨locs, hlc⟩ : ∃ q : List Loc, q = [] := ⟨_, rfl⟩
  have hP : va_P D vwCl (ww dX 120 cA ad σ) s.heap := hP
  have hS : va_S (inA 120 ad) s.heap s.heap [] := hS
  rw [← hlc] at hS ⊢
  rw [show W p l e (headSpec wsX5_note rm_5_note).room s m args below meth c s.heap locs 0 0 QQ = W p l e (headSpec wsX5_note rm_5_note).room s m args below meth c H locs 0 0 QQ by rw [hH]]
  have hS : va_S (inA 120 ad) s.heap H locs := by rw [hH]; exact hS
  have hP : va_P D vwCl (ww dX 120 cA ad σ) H := by rw [hH]; exact hP
  clear hH hlc
  refine lv_aload_n hx hb dX5_note_0 rfl (lv_at hl 0 rfl) ?_
  refine x_gi X hP (j := 2) (fam_lt h0 (by decide)) (dX_76 h0) rfl rfl (by decide) in5 lk18 dX5_note_1 ?_
  refine lv_bipush (v := 30) hx hb dX5_note_4 (by decide) ?_
  refine lv_icmp_ge (tgt := 75) hx hb dX5_note_6 (by decide) (fun c1 => ?_) (fun c1 => ?_)
  · have h := it_t c1 h
    subst hQQ
    exact x_rv X hr hlocks hP hS (Option.some.inj h) dX5_note_75
  · have h := it_f c1 h
    refine lv_aload_n hx hb dX5_note_9 rfl (lv_at hl 0 rfl) ?_
    refine x_gr X hP (j := 8) (fam_lt h0 (by decide)) (dX_76 h0) rfl rfl (by decide) in5 lk38 dX5_note_10 ?_
    refine lv_aload_n hx hb dX5_note_13 rfl (lv_at hl 0 rfl) ?_
    refine x_gi X hP (j := 2) (fam_lt h0 (by decide)) (dX_76 h0) rfl rfl (by decide) in5 lk18 dX5_note_14 ?_
    refine lv_iload_n hx hb dX5_note_17 rfl (lv_at hl 1 rfl) ?_
    obtain ⟨g2, h⟩ := gd_some h
    refine x_si X hP hS (fam_lt h0 (by decide)) (dX_100 h0) g2 dX5_note_18 (fun σ3 eσ3 H locs hP hS => ?_)
    have h := nm_some eσ3 h
    refine lv_aload_n hx hb dX5_note_19 rfl (lv_at hl 0 rfl) ?_
    refine x_gr X hP (j := 6) (fam_lt h0 (by decide)) (dX_76 h0) rfl rfl (by decide) in5 lk31 dX5_note_20 ?_
    refine lv_aload_n hx hb dX5_note_23 rfl (lv_at hl 0 rfl) ?_
    refine x_gi X hP (j := 2) (fam_lt h0 (by decide)) (dX_76 h0) rfl rfl (by decide) in5 lk18 dX5_note_24 ?_
    refine lv_iload_n hx hb dX5_note_27 rfl (lv_at hl 2 rfl) ?_
    obtain ⟨g4, h⟩ := gd_some h
    refine x_si X hP hS (fam_lt h0 (by decide)) (dX_84 h0) g4 dX5_note_28 (fun σ5 eσ5 H locs hP hS => ?_)
    have h := nm_some eσ5 h
    refine lv_aload_n hx hb dX5_note_29 rfl (lv_at hl 0 rfl) ?_
    refine x_gr X hP (j := 7) (fam_lt h0 (by decide)) (dX_76 h0) rfl rfl (by decide) in5 lk35 dX5_note_30 ?_
    refine lv_aload_n hx hb dX5_note_33 rfl (lv_at hl 0 rfl) ?_
    refine x_gi X hP (j := 2) (fam_lt h0 (by decide)) (dX_76 h0) rfl rfl (by decide) in5 lk18 dX5_note_34 ?_
    refine lv_iload_n hx hb dX5_note_37 rfl (lv_at hl 3 rfl) ?_
    obtain ⟨g6, h⟩ := gd_some h
    refine x_si X hP hS (fam_lt h0 (by decide)) (dX_92 h0) g6 dX5_note_38 (fun σ7 eσ7 H locs hP hS => ?_)
    have h := nm_some eσ7 h
    refine lv_aload_n hx hb dX5_note_39 rfl (lv_at hl 0 rfl) ?_
    refine x_gr X hP (j := 9) (fam_lt h0 (by decide)) (dX_76 h0) rfl rfl (by decide) in5 lk41 dX5_note_40 ?_
    refine lv_aload_n hx hb dX5_note_43 rfl (lv_at hl 0 rfl) ?_
    refine x_gi X hP (j := 2) (fam_lt h0 (by decide)) (dX_76 h0) rfl rfl (by decide) in5 lk18 dX5_note_44 ?_
    refine lv_iload hx hb dX5_note_47 (lv_at hl 4 rfl) ?_
    obtain ⟨g8, h⟩ := gd_some h
    refine x_si X hP hS (fam_lt h0 (by decide)) (dX_108 h0) g8 dX5_note_49 (fun σ9 eσ9 H locs hP hS => ?_)
    have h := nm_some eσ9 h
    refine lv_aload_n hx hb dX5_note_50 rfl (lv_at hl 0 rfl) ?_
    refine lv_dup hx hb dX5_note_51 rfl ?_
    refine x_gi X hP (j := 2) (fam_lt h0 (by decide)) (dX_76 h0) rfl rfl (by decide) in5 lk18 dX5_note_52 ?_
    refine lv_iconst (v := 1) hx hb dX5_note_55 (by decide) ?_
    refine lv_iadd hx hb dX5_note_56 ?_
    refine lv_topi (fun v10 ev10 => ?_)
    have h := nm_some ev10 h
    refine x_pi X hP hS (j := 2) (fam_lt h0 (by decide)) (dX_76 h0) rfl rfl (by decide) in5 tyX5_ok nmX5 lk18 rfl rfl rfl rfl dX5_note_57 (fun σ11 eσ11 H locs hP hS => ?_)
    have h := nm_some eσ11 h
    refine lv_aload_n hx hb dX5_note_60 rfl (lv_at hl 0 rfl) ?_
    refine lv_iload_n hx hb dX5_note_61 rfl (lv_at hl 2 rfl) ?_
    refine lv_iload_n hx hb dX5_note_62 rfl (lv_at hl 3 rfl) ?_
    refine lv_iadd hx hb dX5_note_63 ?_
    refine lv_topi (fun v12 ev12 => ?_)
    have h := nm_some ev12 h
    refine x_pi X hP hS (j := 3) (fam_lt h0 (by decide)) (dX_76 h0) rfl rfl (by decide) in5 tyX5_ok nmX5 lk21 rfl rfl rfl rfl dX5_note_64 (fun σ13 eσ13 H locs hP hS => ?_)
    have h := nm_some eσ13 h
    refine lv_aload_n hx hb dX5_note_67 rfl (lv_at hl 0 rfl) ?_
    refine lv_aload_n hx hb dX5_note_68 rfl (lv_at hl 0 rfl) ?_
    refine x_gi X hP (j := 3) (fam_lt h0 (by decide)) (dX_76 h0) rfl rfl (by decide) in5 lk21 dX5_note_69 ?_
    refine x_pi X hP hS (j := 0) (fam_lt h0 (by decide)) (dX_76 h0) rfl rfl (by decide) in5 tyX5_ok nmX5 lk9 rfl rfl rfl rfl dX5_note_72 (fun σ14 eσ14 H locs hP hS => ?_)
    have h := nm_some eσ14 h
    subst hQQ
    exact x_rv X hr hlocks hP hS (Option.some.inj h) dX5_note_75
def f_4_come (n : Nat) (σ : St) (i0 : Nat) (a1 : Int32) (a2 : Int32) (a3 : Int32) (a4 : Int32) (a5 : Int32) : Option (St) :=
  nm (si σ (36 + i0) 0 a1) fun σ1 =>
  nm (si σ1 (36 + i0) 1 a2) fun σ2 =>
  nm (si σ2 (36 + i0) 2 a3) fun σ3 =>
  nm (si σ3 (36 + i0) 3 a4) fun σ4 =>
  nm (si σ4 (36 + i0) 4 a5) fun σ5 =>
  some σ5
abbrev rm_4_come : Room := { frames := 0, cells := 0, slots := 0, locals := 0 }
set_option maxRecDepth 100000 in
set_option maxHeartbeats 4000000 in
theorem k_4_come (l : Launch) (D : va_G) (cA : Nat → ClassId) (ad : Nat → Nat) (z : ZX) (hj : inj 120 ad) (n : Nat) (σ : St) (i0 : Nat) (a1 : Int32) (a2 : Int32) (a3 : Int32) (a4 : Int32) (a5 : Int32) (h0 : i0 < 8) {res : St} (h : f_4_come n σ i0 a1 a2 a3 a4 a5 = some res) : MXv l D dX 120 cA ad (EX ad z) yX4_come wsX4_come rm_4_come [.ref (ad (36 + i0)), .int a1, .int a2, .int a3, .int a4, .int a5] σ res := by
  refine Met.ofW (cc := cX4_come) (maxL := 6) (ret := none) (by decide) rfl ?_
  intro p e s m args below meth c s₁ B hml hv
  obtain ⟨hargs, hP, hK, hE⟩ := hv
  have hx := B.exec
  have hb := B.bytes
  have hr := B.returns
  have hts := atoms_spec (ws := wsX4_come) B.pre
  have hown : s.vm.findClass RX4 = some m.cls := findClass_of_methodNamed B.named
  have hlocks := B.notSynchronized
  have X : Cx p s m args c cX4_come 6 RX4 wsX4_come D dX 120 cA ad (EX ad z) := ⟨hx, hb, hml, hown, hts, hK, hj, hE, EX_ok ad z⟩
  have hS : va_S (inA 120 ad) s.heap s.heap [] := va_S.rf
  have hl := lv_entry ([.ref (ad (36 + i0)), .int a1, .int a2, .int a3, .int a4, .int a5]) (n := 6) (Nat.le_of_ble_eq_true rfl)
  rw [show entryFrame m args 6 = entryFrame m ([.ref (ad (36 + i0)), .int a1, .int a2, .int a3, .int a4, .int a5] : List Value).toArray 6 by rw [hargs]]
  rw [lg_entry_eq]
  generalize (lg_sl ([.ref (ad (36 + i0)), .int a1, .int a2, .int a3, .int a4, .int a5]) ++ List.replicate (6 - (lg_sl ([.ref (ad (36 + i0)), .int a1, .int a2, .int a3, .int a4, .int a5])).length) Slot.unset).toArray = ls at hl ⊢
  have hl : lv_has ls 6 [(0, .ref (ad (36 + i0))), (1, .int a1), (2, .int a2), (3, .int a3), (4, .int a4), (5, .int a5)] := hl
  obtain ⟨QQ, hQQ⟩ : ∃ Q, Q = MQ below (va_Qv (fun u => u = res) (fun u t => va_P D vwCl (ww dX 120 cA ad u) t.heap) (inA 120 ad)) args s 0 0 (inA 120 ad) := ⟨_, rfl⟩
  show W p l e (headSpec wsX4_come rm_4_come).room s m args below meth c s.heap [] 0 0 (MQ below (va_Qv (fun u => u = res) (fun u t => va_P D vwCl (ww dX 120 cA ad u) t.heap) (inA 120 ad)) args s 0 0 (inA 120 ad)) _
  rw [← hQQ]
  have in4 : ∀ w ∈ wsX40, w ∈ wsX4_come := by decide +kernel
  have lk7 : Cond.fieldLink RX4 7 "CureTown$Guest" "rank" "I" ∈ wsX4_come := by decide +kernel
  have lk13 : Cond.fieldLink RX4 13 "CureTown$Guest" "regimen" "I" ∈ wsX4_come := by decide +kernel
  have lk16 : Cond.fieldLink RX4 16 "CureTown$Guest" "from" "I" ∈ wsX4_come := by decide +kernel
  have lk19 : Cond.fieldLink RX4 19 "CureTown$Guest" "to" "I" ∈ wsX4_come := by decide +kernel
  have lk22 : Cond.fieldLink RX4 22 "CureTown$Guest" "bound" "I" ∈ wsX4_come := by decide +kernel
  unfold f_4_come at h
  obtain ⟨H, hH⟩ : ∃ H, H = s.heap := ⟨_, rfl⟩
  obtain ⟨locs, hlc⟩ : ∃ q : List Loc, q = [] := ⟨_, rfl⟩
  have hP : va_P D vwCl (ww dX 120 cA ad σ) s.heap := hP
  have hS : va_S (inA 120 ad) s.heap s.heap [] := hS
  rw [← hlc] at hS ⊢
  rw [show W p l e (headSpec wsX4_come rm_4_come).room s m args below meth c s.heap locs 0 0 QQ = W p l e (headSpec wsX4_come rm_4_come).room s m args below meth c H locs 0 0 QQ by rw [hH]]
  have hS : va_S (inA 120 ad) s.heap H locs := by rw [hH]; exact hS
  have hP : va_P D vwCl (ww dX 120 cA ad σ) H := by rw [hH]; exact hP
  clear hH hlc
  refine lv_aload_n hx hb dX4_come_0 rfl (lv_at hl 0 rfl) ?_
  refine lv_iload_n hx hb dX4_come_1 rfl (lv_at hl 1 rfl) ?_
  refine x_pi X hP hS (j := 0) (fam_lt h0 (by decide)) (dX_36 h0) rfl rfl (by decide) in4 tyX4_ok nmX4 lk7 rfl rfl rfl rfl dX4_come_2 (fun σ1 eσ1 H locs hP hS => ?_)
  have h := nm_some eσ1 h
  refine lv_aload_n hx hb dX4_come_5 rfl (lv_at hl 0 rfl) ?_
  refine lv_iload_n hx hb dX4_come_6 rfl (lv_at hl 2 rfl) ?_
  refine x_pi X hP hS (j := 1) (fam_lt h0 (by decide)) (dX_36 h0) rfl rfl (by decide) in4 tyX4_ok nmX4 lk13 rfl rfl rfl rfl dX4_come_7 (fun σ2 eσ2 H locs hP hS => ?_)
  have h := nm_some eσ2 h
  refine lv_aload_n hx hb dX4_come_10 rfl (lv_at hl 0 rfl) ?_
  refine lv_iload_n hx hb dX4_come_11 rfl (lv_at hl 3 rfl) ?_
  refine x_pi X hP hS (j := 2) (fam_lt h0 (by decide)) (dX_36 h0) rfl rfl (by decide) in4 tyX4_ok nmX4 lk16 rfl rfl rfl rfl dX4_come_12 (fun σ3 eσ3 H locs hP hS => ?_)
  have h := nm_some eσ3 h
  refine lv_aload_n hx hb dX4_come_15 rfl (lv_at hl 0 rfl) ?_
  refine lv_iload hx hb dX4_come_16 (lv_at hl 4 rfl) ?_
  refine x_pi X hP hS (j := 3) (fam_lt h0 (by decide)) (dX_36 h0) rfl rfl (by decide) in4 tyX4_ok nmX4 lk19 rfl rfl rfl rfl dX4_come_18 (fun σ4 eσ4 H locs hP hS => ?_)
  have h := nm_some eσ4 h
  refine lv_aload_n hx hb dX4_come_21 rfl (lv_at hl 0 rfl) ?_
  refine lv_iload hx hb dX4_come_22 (lv_at hl 5 rfl) ?_
  refine x_pi X hP hS (j := 4) (fam_lt h0 (by decide)) (dX_36 h0) rfl rfl (by decide) in4 tyX4_ok nmX4 lk22 rfl rfl rfl rfl dX4_come_24 (fun σ5 eσ5 H locs hP hS => ?_)
  have h := nm_some eσ5 h
  subst hQQ
  exact x_rv X hr hlocks hP hS (Option.some.inj h) dX4_come_27
def f_10_isBelow (n : Nat) (σ : St) (a0 : Int32) (a1 : Int32) : Option (Int32 × St) :=
  if a0 < 0 then
    some (0, σ)
  else
    if a1 ≤ a0 then
      some (0, σ)
    else
      some (1, σ)
abbrev rm_10_isBelow : Room := { frames := 0, cells := 0, slots := 0, locals := 0 }
set_option maxRecDepth 100000 in
set_option maxHeartbeats 4000000 in
theorem k_10_isBelow (l : Launch) (D : va_G) (cA : Nat → ClassId) (ad : Nat → Nat) (z : ZX) (hj : inj 120 ad) (n : Nat) (σ : St) (a0 : Int32) (a1 : Int32)  {res : Int32 × St} (h : f_10_isBelow n σ a0 a1 = some res) : MXi l D dX 120 cA ad (EX ad z) yX10_isBelow wsX10_isBelow rm_10_isBelow [.int a0, .int a1] σ res := by
  refine Met.ofW (cc := cX10_isBelow) (maxL := 2) (ret := (some .boolean)) (by decide) rfl ?_
  intro p e s m args below meth c s₁ B hml hv
  obtain ⟨hargs, hP, hK, hE⟩ := hv
  have hx := B.exec
  have hb := B.bytes
  have hr := B.returns
  have hts := atoms_spec (ws := wsX10_isBelow) B.pre
  have hown : s.vm.findClass RX10 = some m.cls := findClass_of_methodNamed B.named
  have hlocks := B.notSynchronized
  have X : Cx p s m args c cX10_isBelow 2 RX10 wsX10_isBelow D dX 120 cA ad (EX ad z) := ⟨hx, hb, hml, hown, hts, hK, hj, hE, EX_ok ad z⟩
  have hS : va_S (inA 120 ad) s.heap s.heap [] := va_S.rf
  have hl := lv_entry ([.int a0, .int a1]) (n := 2) (Nat.le_of_ble_eq_true rfl)
  rw [show entryFrame m args 2 = entryFrame m ([.int a0, .int a1] : List Value).toArray 2 by rw [hargs]]
  rw [lg_entry_eq]
  generalize (lg_sl ([.int a0, .int a1]) ++ List.replicate (2 - (lg_sl ([.int a0, .int a1])).length) Slot.unset).toArray = ls at hl ⊢
  have hl : lv_has ls 2 [(0, .int a0), (1, .int a1)] := hl
  obtain ⟨QQ, hQQ⟩ : ∃ Q, Q = MQ below (va_Qi (fun r u => r = res.1 ∧ u = res.2) (fun u t => va_P D vwCl (ww dX 120 cA ad u) t.heap) (inA 120 ad)) args s 0 0 (inA 120 ad) := ⟨_, rfl⟩
  show W p l e (headSpec wsX10_isBelow rm_10_isBelow).room s m args below meth c s.heap [] 0 0 (MQ below (va_Qi (fun r u => r = res.1 ∧ u = res.2) (fun u t => va_P D vwCl (ww dX 120 cA ad u) t.heap) (inA 120 ad)) args s 0 0 (inA 120 ad)) _
  rw [← hQQ]
  unfold f_10_isBelow at h
  obtain ⟨H, hH⟩ : ∃ H, H = s.heap := ⟨_, rfl⟩
  obtain ⟨locs, hlc⟩ : ∃ q : List Loc, q = [] := ⟨_, rfl⟩
  have hP : va_P D vwCl (ww dX 120 cA ad σ) s.heap := hP
  have hS : va_S (inA 120 ad) s.heap s.heap [] := hS
  rw [← hlc] at hS ⊢
  rw [show W p l e (headSpec wsX10_isBelow rm_10_isBelow).room s m args below meth c s.heap locs 0 0 QQ = W p l e (headSpec wsX10_isBelow rm_10_isBelow).room s m args below meth c H locs 0 0 QQ by rw [hH]]
  have hS : va_S (inA 120 ad) s.heap H locs := by rw [hH]; exact hS
  have hP : va_P D vwCl (ww dX 120 cA ad σ) H := by rw [hH]; exact hP
  clear hH hlc
  refine lv_iload_n hx hb dX10_isBelow_0 rfl (lv_at hl 0 rfl) ?_
  refine lv_if_lt (tgt := 13) hx hb dX10_isBelow_1 (by decide) (fun c1 => ?_) (fun c1 => ?_)
  · have h := it_t c1 h
    refine lv_iconst (v := 0) hx hb dX10_isBelow_13 (by decide) ?_
    subst hQQ
    exact x_rz X hr hlocks hP hS (by decide +kernel) (Option.some.inj h) dX10_isBelow_14
  · have h := it_f c1 h
    refine lv_iload_n hx hb dX10_isBelow_4 rfl (lv_at hl 0 rfl) ?_
    refine lv_iload_n hx hb dX10_isBelow_5 rfl (lv_at hl 1 rfl) ?_
    refine lv_icmp_ge (tgt := 13) hx hb dX10_isBelow_6 (by decide) (fun c2 => ?_) (fun c2 => ?_)
    · have h := it_t c2 h
      refine lv_iconst (v := 0) hx hb dX10_isBelow_13 (by decide) ?_
      subst hQQ
      exact x_rz X hr hlocks hP hS (by decide +kernel) (Option.some.inj h) dX10_isBelow_14
    · have h := it_f c2 h
      refine lv_iconst (v := 1) hx hb dX10_isBelow_9 (by decide) ?_
      refine lv_goto (tgt := 14) hx hb dX10_isBelow_10 (by decide) ?_
      subst hQQ
      exact x_rz X hr hlocks hP hS (by decide +kernel) (Option.some.inj h) dX10_isBelow_14
