def f_8_isBlank (n : Nat) (σ : St) (a0 : Int32) : Option (Int32 × St) :=
  if a0 = 32 then
    some (1, σ)
  else
    if a0 = 10 then
      some (1, σ)
    else
      some (0, σ)
abbrev rm_8_isBlank : Room := { frames := 0, cells := 0, slots := 0, locals := 0 }
set_option maxRecDepth 100000 in
set_option maxHeartbeats 4000000 in
theorem k_8_isBlank (l : Launch) (D : va_G) (cA : Nat → ClassId) (ad : Nat → Nat) (z : ZX) (hj : inj 120 ad) (n : Nat) (σ : St) (a0 : Int32)  {res : Int32 × St} (h : f_8_isBlank n σ a0 = some res) : MXi l D dX 120 cA ad (EX ad z) yX8_isBlank wsX8_isBlank rm_8_isBlank [.int a0] σ res := by
  refine Met.ofW (cc := cX8_isBlank) (maxL := 1) (ret := (some .boolean)) (by decide) rfl ?_
  intro p e s m args below meth c s₁ B hml hv
  obtain ⟨hargs, hP, hK, hE⟩ := hv
  have hx := B.exec
  have hb := B.bytes
  have hr := B.returns
  have hts := atoms_spec (ws := wsX8_isBlank) B.pre
  have hown : s.vm.findClass RX8 = some m.cls := findClass_of_methodNamed B.named
  have hlocks := B.notSynchronized
  have X : Cx p s m args c cX8_isBlank 1 RX8 wsX8_isBlank D dX 120 cA ad (EX ad z) := ⟨hx, hb, hml, hown, hts, hK, hj, hE, EX_ok ad z⟩
  have hS : va_S (inA 120 ad) s.heap s.heap [] := va_S.rf
  have hl := lv_entry ([.int a0]) (n := 1) (Nat.le_of_ble_eq_true rfl)
  rw [show entryFrame m args 1 = entryFrame m ([.int a0] : List Value).toArray 1 by rw [hargs]]
  rw [lg_entry_eq]
  generalize (lg_sl ([.int a0]) ++ List.replicate (1 - (lg_sl ([.int a0])).length) Slot.unset).toArray = ls at hl ⊢
  have hl : lv_has ls 1 [(0, .int a0)] := hl
  obtain ⟨QQ, hQQ⟩ : ∃ Q, Q = MQ below (va_Qi (fun r u => r = res.1 ∧ u = res.2) (fun u t => va_P D vwCl (ww dX 120 cA ad u) t.heap) (inA 120 ad)) args s 0 0 (inA 120 ad) := ⟨_, rfl⟩
  show W p l e (headSpec wsX8_isBlank rm_8_isBlank).room s m args below meth c s.heap [] 0 0 (MQ below (va_Qi (fun r u => r = res.1 ∧ u = res.2) (fun u t => va_P D vwCl (ww dX 120 cA ad u) t.heap) (inA 120 ad)) args s 0 0 (inA 120 ad)) _
  rw [← hQQ]
  unfold f_8_isBlank at h
  obtain ⟨H, hH⟩ : ∃ H, H = s.heap := ⟨_, rfl⟩
  obtain ⟨locs, hlc⟩ : ∃ q : List Loc, q = [] := ⟨_, rfl⟩
  have hP : va_P D vwCl (ww dX 120 cA ad σ) s.heap := hP
  have hS : va_S (inA 120 ad) s.heap s.heap [] := hS
  rw [← hlc] at hS ⊢
  rw [show W p l e (headSpec wsX8_isBlank rm_8_isBlank).room s m args below meth c s.heap locs 0 0 QQ = W p l e (headSpec wsX8_isBlank rm_8_isBlank).room s m args below meth c H locs 0 0 QQ by rw [hH]]
  have hS : va_S (inA 120 ad) s.heap H locs := by rw [hH]; exact hS
  have hP : va_P D vwCl (ww dX 120 cA ad σ) H := by rw [hH]; exact hP
  clear hH hlc
  refine lv_iload_n hx hb dX8_isBlank_0 rfl (lv_at hl 0 rfl) ?_
  refine lv_bipush (v := 32) hx hb dX8_isBlank_1 (by decide) ?_
  refine lv_icmp_eq (tgt := 12) hx hb dX8_isBlank_3 (by decide) (fun c1 => ?_) (fun c1 => ?_)
  · have h := it_t c1 h
    refine lv_iconst (v := 1) hx hb dX8_isBlank_12 (by decide) ?_
    refine lv_goto (tgt := 17) hx hb dX8_isBlank_13 (by decide) ?_
    subst hQQ
    exact x_rz X hr hlocks hP hS (by decide +kernel) (Option.some.inj h) dX8_isBlank_17
  · have h := it_f c1 h
    refine lv_iload_n hx hb dX8_isBlank_6 rfl (lv_at hl 0 rfl) ?_
    refine lv_bipush (v := 10) hx hb dX8_isBlank_7 (by decide) ?_
    refine lv_icmp_ne (tgt := 16) hx hb dX8_isBlank_9 (by decide) (fun c2 => ?_) (fun c2 => ?_)
    · have h := it_f c2 h
      refine lv_iconst (v := 0) hx hb dX8_isBlank_16 (by decide) ?_
      subst hQQ
      exact x_rz X hr hlocks hP hS (by decide +kernel) (Option.some.inj h) dX8_isBlank_17
    · have h := it_t c2 h
      refine lv_iconst (v := 1) hx hb dX8_isBlank_12 (by decide) ?_
      refine lv_goto (tgt := 17) hx hb dX8_isBlank_13 (by decide) ?_
      subst hQQ
      exact x_rz X hr hlocks hP hS (by decide +kernel) (Option.some.inj h) dX8_isBlank_17
def f_8_isLetter (n : Nat) (σ : St) (a0 : Int32) : Option (Int32 × St) :=
  if a0 < 97 then
    if a0 < 65 then
      some (0, σ)
    else
      if 90 < a0 then
        some (0, σ)
      else
        some (1, σ)
  else
    if a0 ≤ 122 then
      some (1, σ)
    else
      if a0 < 65 then
        some (0, σ)
      else
        if 90 < a0 then
          some (0, σ)
        else
          some (1, σ)
abbrev rm_8_isLetter : Room := { frames := 0, cells := 0, slots := 0, locals := 0 }
set_option maxRecDepth 100000 in
set_option maxHeartbeats 4000000 in
theorem k_8_isLetter (l : Launch) (D : va_G) (cA : Nat → ClassId) (ad : Nat → Nat) (z : ZX) (hj : inj 120 ad) (n : Nat) (σ : St) (a0 : Int32)  {res : Int32 × St} (h : f_8_isLetter n σ a0 = some res) : MXi l D dX 120 cA ad (EX ad z) yX8_isLetter wsX8_isLetter rm_8_isLetter [.int a0] σ res := by
  refine Met.ofW (cc := cX8_isLetter) (maxL := 1) (ret := (some .boolean)) (by decide) rfl ?_
  intro p e s m args below meth c s₁ B hml hv
  obtain ⟨hargs, hP, hK, hE⟩ := hv
  have hx := B.exec
  have hb := B.bytes
  have hr := B.returns
  have hts := atoms_spec (ws := wsX8_isLetter) B.pre
  have hown : s.vm.findClass RX8 = some m.cls := findClass_of_methodNamed B.named
  have hlocks := B.notSynchronized
  have X : Cx p s m args c cX8_isLetter 1 RX8 wsX8_isLetter D dX 120 cA ad (EX ad z) := ⟨hx, hb, hml, hown, hts, hK, hj, hE, EX_ok ad z⟩
  have hS : va_S (inA 120 ad) s.heap s.heap [] := va_S.rf
  have hl := lv_entry ([.int a0]) (n := 1) (Nat.le_of_ble_eq_true rfl)
  rw [show entryFrame m args 1 = entryFrame m ([.int a0] : List Value).toArray 1 by rw [hargs]]
  rw [lg_entry_eq]
  generalize (lg_sl ([.int a0]) ++ List.replicate (1 - (lg_sl ([.int a0])).length) Slot.unset).toArray = ls at hl ⊢
  have hl : lv_has ls 1 [(0, .int a0)] := hl
  obtain ⟨QQ, hQQ⟩ : ∃ Q, Q = MQ below (va_Qi (fun r u => r = res.1 ∧ u = res.2) (fun u t => va_P D vwCl (ww dX 120 cA ad u) t.heap) (inA 120 ad)) args s 0 0 (inA 120 ad) := ⟨_, rfl⟩
  show W p l e (headSpec wsX8_isLetter rm_8_isLetter).room s m args below meth c s.heap [] 0 0 (MQ below (va_Qi (fun r u => r = res.1 ∧ u = res.2) (fun u t => va_P D vwCl (ww dX 120 cA ad u) t.heap) (inA 120 ad)) args s 0 0 (inA 120 ad)) _
  rw [← hQQ]
  unfold f_8_isLetter at h
  obtain ⟨H, hH⟩ : ∃ H, H = s.heap := ⟨_, rfl⟩
  obtain ⟨locs, hlc⟩ : ∃ q : List Loc, q = [] := ⟨_, rfl⟩
  have hP : va_P D vwCl (ww dX 120 cA ad σ) s.heap := hP
  have hS : va_S (inA 120 ad) s.heap s.heap [] := hS
  rw [← hlc] at hS ⊢
  rw [show W p l e (headSpec wsX8_isLetter rm_8_isLetter).room s m args below meth c s.heap locs 0 0 QQ = W p l e (headSpec wsX8_isLetter rm_8_isLetter).room s m args below meth c H locs 0 0 QQ by rw [hH]]
  have hS : va_S (inA 120 ad) s.heap H locs := by rw [hH]; exact hS
  have hP : va_P D vwCl (ww dX 120 cA ad σ) H := by rw [hH]; exact hP
  clear hH hlc
  refine lv_iload_n hx hb dX8_isLetter_0 rfl (lv_at hl 0 rfl) ?_
  refine lv_bipush (v := 97) hx hb dX8_isLetter_1 (by decide) ?_
  refine lv_icmp_lt (tgt := 12) hx hb dX8_isLetter_3 (by decide) (fun c1 => ?_) (fun c1 => ?_)
  · have h := it_t c1 h
    refine lv_iload_n hx hb dX8_isLetter_12 rfl (lv_at hl 0 rfl) ?_
    refine lv_bipush (v := 65) hx hb dX8_isLetter_13 (by decide) ?_
    refine lv_icmp_lt (tgt := 28) hx hb dX8_isLetter_15 (by decide) (fun c2 => ?_) (fun c2 => ?_)
    · have h := it_t c2 h
      refine lv_iconst (v := 0) hx hb dX8_isLetter_28 (by decide) ?_
      subst hQQ
      exact x_rz X hr hlocks hP hS (by decide +kernel) (Option.some.inj h) dX8_isLetter_29
    · have h := it_f c2 h
      refine lv_iload_n hx hb dX8_isLetter_18 rfl (lv_at hl 0 rfl) ?_
      refine lv_bipush (v := 90) hx hb dX8_isLetter_19 (by decide) ?_
      refine lv_icmp_gt (tgt := 28) hx hb dX8_isLetter_21 (by decide) (fun c3 => ?_) (fun c3 => ?_)
      · have h := it_t c3 h
        refine lv_iconst (v := 0) hx hb dX8_isLetter_28 (by decide) ?_
        subst hQQ
        exact x_rz X hr hlocks hP hS (by decide +kernel) (Option.some.inj h) dX8_isLetter_29
      · have h := it_f c3 h
        refine lv_iconst (v := 1) hx hb dX8_isLetter_24 (by decide) ?_
        refine lv_goto (tgt := 29) hx hb dX8_isLetter_25 (by decide) ?_
        subst hQQ
        exact x_rz X hr hlocks hP hS (by decide +kernel) (Option.some.inj h) dX8_isLetter_29
  · have h := it_f c1 h
    refine lv_iload_n hx hb dX8_isLetter_6 rfl (lv_at hl 0 rfl) ?_
    refine lv_bipush (v := 122) hx hb dX8_isLetter_7 (by decide) ?_
    refine lv_icmp_le (tgt := 24) hx hb dX8_isLetter_9 (by decide) (fun c4 => ?_) (fun c4 => ?_)
    · have h := it_t c4 h
      refine lv_iconst (v := 1) hx hb dX8_isLetter_24 (by decide) ?_
      refine lv_goto (tgt := 29) hx hb dX8_isLetter_25 (by decide) ?_
      subst hQQ
      exact x_rz X hr hlocks hP hS (by decide +kernel) (Option.some.inj h) dX8_isLetter_29
    · have h := it_f c4 h
      refine lv_iload_n hx hb dX8_isLetter_12 rfl (lv_at hl 0 rfl) ?_
      refine lv_bipush (v := 65) hx hb dX8_isLetter_13 (by decide) ?_
      refine lv_icmp_lt (tgt := 28) hx hb dX8_isLetter_15 (by decide) (fun c5 => ?_) (fun c5 => ?_)
      · have h := it_t c5 h
        refine lv_iconst (v := 0) hx hb dX8_isLetter_28 (by decide) ?_
        subst hQQ
        exact x_rz X hr hlocks hP hS (by decide +kernel) (Option.some.inj h) dX8_isLetter_29
      · have h := it_f c5 h
        refine lv_iload_n hx hb dX8_isLetter_18 rfl (lv_at hl 0 rfl) ?_
        refine lv_bipush (v := 90) hx hb dX8_isLetter_19 (by decide) ?_
        refine lv_icmp_gt (tgt := 28) hx hb dX8_isLetter_21 (by decide) (fun c6 => ?_) (fun c6 => ?_)
        · have h := it_t c6 h
          refine lv_iconst (v := 0) hx hb dX8_isLetter_28 (by decide) ?_
          subst hQQ
          exact x_rz X hr hlocks hP hS (by decide +kernel) (Option.some.inj h) dX8_isLetter_29
        · have h := it_f c6 h
          refine lv_iconst (v := 1) hx hb dX8_isLetter_24 (by decide) ?_
          refine lv_goto (tgt := 29) hx hb dX8_isLetter_25 (by decide) ?_
          subst hQQ
          exact x_rz X hr hlocks hP hS (by decide +kernel) (Option.some.inj h) dX8_isLetter_29
def f_8_isDigit (n : Nat) (σ : St) (a0 : Int32) : Option (Int32 × St) :=
  if a0 < 48 then
    some (0, σ)
  else
    if 57 < a0 then
      some (0, σ)
    else
      some (1, σ)
abbrev rm_8_isDigit : Room := { frames := 0, cells := 0, slots := 0, locals := 0 }
set_option maxRecDepth 100000 in
set_option maxHeartbeats 4000000 in
theorem k_8_isDigit (l : Launch) (D : va_G) (cA : Nat → ClassId) (ad : Nat → Nat) (z : ZX) (hj : inj 120 ad) (n : Nat) (σ : St) (a0 : Int32)  {res : Int32 × St} (h : f_8_isDigit n σ a0 = some res) : MXi l D dX 120 cA ad (EX ad z) yX8_isDigit wsX8_isDigit rm_8_isDigit [.int a0] σ res := by
  refine Met.ofW (cc := cX8_isDigit) (maxL := 1) (ret := (some .boolean)) (by decide) rfl ?_
  intro p e s m args below meth c s₁ B hml hv
  obtain ⟨hargs, hP, hK, hE⟩ := hv
  have hx := B.exec
  have hb := B.bytes
  have hr := B.returns
  have hts := atoms_spec (ws := wsX8_isDigit) B.pre
  have hown : s.vm.findClass RX8 = some m.cls := findClass_of_methodNamed B.named
  have hlocks := B.notSynchronized
  have X : Cx p s m args c cX8_isDigit 1 RX8 wsX8_isDigit D dX 120 cA ad (EX ad z) := ⟨hx, hb, hml, hown, hts, hK, hj, hE, EX_ok ad z⟩
  have hS : va_S (inA 120 ad) s.heap s.heap [] := va_S.rf
  have hl := lv_entry ([.int a0]) (n := 1) (Nat.le_of_ble_eq_true rfl)
  rw [show entryFrame m args 1 = entryFrame m ([.int a0] : List Value).toArray 1 by rw [hargs]]
  rw [lg_entry_eq]
  generalize (lg_sl ([.int a0]) ++ List.replicate (1 - (lg_sl ([.int a0])).length) Slot.unset).toArray = ls at hl ⊢
  have hl : lv_has ls 1 [(0, .int a0)] := hl
  obtain ⟨QQ, hQQ⟩ : ∃ Q, Q = MQ below (va_Qi (fun r u => r = res.1 ∧ u = res.2) (fun u t => va_P D vwCl (ww dX 120 cA ad u) t.heap) (inA 120 ad)) args s 0 0 (inA 120 ad) := ⟨_, rfl⟩
  show W p l e (headSpec wsX8_isDigit rm_8_isDigit).room s m args below meth c s.heap [] 0 0 (MQ below (va_Qi (fun r u => r = res.1 ∧ u = res.2) (fun u t => va_P D vwCl (ww dX 120 cA ad u) t.heap) (inA 120 ad)) args s 0 0 (inA 120 ad)) _
  rw [← hQQ]
  unfold f_8_isDigit at h
  obtain ⟨H, hH⟩ : ∃ H, H = s.heap := ⟨_, rfl⟩
  obtain ⟨locs, hlc⟩ : ∃ q : List Loc, q = [] := ⟨_, rfl⟩
  have hP : va_P D vwCl (ww dX 120 cA ad σ) s.heap := hP
  have hS : va_S (inA 120 ad) s.heap s.heap [] := hS
  rw [← hlc] at hS ⊢
  rw [show W p l e (headSpec wsX8_isDigit rm_8_isDigit).room s m args below meth c s.heap locs 0 0 QQ = W p l e (headSpec wsX8_isDigit rm_8_isDigit).room s m args below meth c H locs 0 0 QQ by rw [hH]]
  have hS : va_S (inA 120 ad) s.heap H locs := by rw [hH]; exact hS
  have hP : va_P D vwCl (ww dX 120 cA ad σ) H := by rw [hH]; exact hP
  clear hH hlc
  refine lv_iload_n hx hb dX8_isDigit_0 rfl (lv_at hl 0 rfl) ?_
  refine lv_bipush (v := 48) hx hb dX8_isDigit_1 (by decide) ?_
  refine lv_icmp_lt (tgt := 16) hx hb dX8_isDigit_3 (by decide) (fun c1 => ?_) (fun c1 => ?_)
  · have h := it_t c1 h
    refine lv_iconst (v := 0) hx hb dX8_isDigit_16 (by decide) ?_
    subst hQQ
    exact x_rz X hr hlocks hP hS (by decide +kernel) (Option.some.inj h) dX8_isDigit_17
  · have h := it_f c1 h
    refine lv_iload_n hx hb dX8_isDigit_6 rfl (lv_at hl 0 rfl) ?_
    refine lv_bipush (v := 57) hx hb dX8_isDigit_7 (by decide) ?_
    refine lv_icmp_gt (tgt := 16) hx hb dX8_isDigit_9 (by decide) (fun c2 => ?_) (fun c2 => ?_)
    · have h := it_t c2 h
      refine lv_iconst (v := 0) hx hb dX8_isDigit_16 (by decide) ?_
      subst hQQ
      exact x_rz X hr hlocks hP hS (by decide +kernel) (Option.some.inj h) dX8_isDigit_17
    · have h := it_f c2 h
      refine lv_iconst (v := 1) hx hb dX8_isDigit_12 (by decide) ?_
      refine lv_goto (tgt := 17) hx hb dX8_isDigit_13 (by decide) ?_
      subst hQQ
      exact x_rz X hr hlocks hP hS (by decide +kernel) (Option.some.inj h) dX8_isDigit_17
def f_8_signToken (n : Nat) (σ : St) (a0 : Int32) : Option (Int32 × St) :=
  if a0 = 40 then
    some (10, σ)
  else if a0 = 41 then
    some (11, σ)
  else if a0 = 58 then
    some (8, σ)
  else if a0 = 59 then
    some (9, σ)
  else 
    some (13, σ)
abbrev rm_8_signToken : Room := { frames := 0, cells := 0, slots := 0, locals := 0 }
set_option maxRecDepth 100000 in
set_option maxHeartbeats 4000000 in
theorem k_8_signToken (l : Launch) (D : va_G) (cA : Nat → ClassId) (ad : Nat → Nat) (z : ZX) (hj : inj 120 ad) (n : Nat) (σ : St) (a0 : Int32)  {res : Int32 × St} (h : f_8_signToken n σ a0 = some res) : MXi l D dX 120 cA ad (EX ad z) yX8_signToken wsX8_signToken rm_8_signToken [.int a0] σ res := by
  refine Met.ofW (cc := cX8_signToken) (maxL := 1) (ret := (some .int)) (by decide) rfl ?_
  intro p e s m args below meth c s₁ B hml hv
  obtain ⟨hargs, hP, hK, hE⟩ := hv
  have hx := B.exec
  have hb := B.bytes
  have hr := B.returns
  have hts := atoms_spec (ws := wsX8_signToken) B.pre
  have hown : s.vm.findClass RX8 = some m.cls := findClass_of_methodNamed B.named
  have hlocks := B.notSynchronized
  have X : Cx p s m args c cX8_signToken 1 RX8 wsX8_signToken D dX 120 cA ad (EX ad z) := ⟨hx, hb, hml, hown, hts, hK, hj, hE, EX_ok ad z⟩
  have hS : va_S (inA 120 ad) s.heap s.heap [] := va_S.rf
  have hl := lv_entry ([.int a0]) (n := 1) (Nat.le_of_ble_eq_true rfl)
  rw [show entryFrame m args 1 = entryFrame m ([.int a0] : List Value).toArray 1 by rw [hargs]]
  rw [lg_entry_eq]
  generalize (lg_sl ([.int a0]) ++ List.replicate (1 - (lg_sl ([.int a0])).length) Slot.unset).toArray = ls at hl ⊢
  have hl : lv_has ls 1 [(0, .int a0)] := hl
  obtain ⟨QQ, hQQ⟩ : ∃ Q, Q = MQ below (va_Qi (fun r u => r = res.1 ∧ u = res.2) (fun u t => va_P D vwCl (ww dX 120 cA ad u) t.heap) (inA 120 ad)) args s 0 0 (inA 120 ad) := ⟨_, rfl⟩
  show W p l e (headSpec wsX8_signToken rm_8_signToken).room s m args below meth c s.heap [] 0 0 (MQ below (va_Qi (fun r u => r = res.1 ∧ u = res.2) (fun u t => va_P D vwCl (ww dX 120 cA ad u) t.heap) (inA 120 ad)) args s 0 0 (inA 120 ad)) _
  rw [← hQQ]
  unfold f_8_signToken at h
  obtain ⟨H, hH⟩ : ∃ H, H = s.heap := ⟨_, rfl⟩
  obtain ⟨locs, hlc⟩ : ∃ q : List Loc, q = [] := ⟨_, rfl⟩
  have hP : va_P D vwCl (ww dX 120 cA ad σ) s.heap := hP
  have hS : va_S (inA 120 ad) s.heap s.heap [] := hS
  rw [← hlc] at hS ⊢
  rw [show W p l e (headSpec wsX8_signToken rm_8_signToken).room s m args below meth c s.heap locs 0 0 QQ = W p l e (headSpec wsX8_signToken rm_8_signToken).room s m args below meth c H locs 0 0 QQ by rw [hH]]
  have hS : va_S (inA 120 ad) s.heap H locs := by rw [hH]; exact hS
  have hP : va_P D vwCl (ww dX 120 cA ad σ) H := by rw [hH]; exact hP
  clear hH hlc
  refine lv_iload_n hx hb dX8_signToken_0 rfl (lv_at hl 0 rfl) ?_
  by_cases c1 : a0 = 40
  · have h := it_t c1 h
    refine lv_lookup (off := 49) (tgt := 50) hx hb dX8_signToken_1 (by decide) (by rw [c1]; rfl) (by decide) ?_
    refine lv_bipush (v := 10) hx hb dX8_signToken_50 (by decide) ?_
    subst hQQ
    exact x_ri (σ0 := (fun _ _ => 0, fun _ _ => 0)) X hr hlocks hP hS (Option.some.inj h) dX8_signToken_52
  · have h := it_f c1 h
    by_cases c2 : a0 = 41
    · have h := it_t c2 h
      refine lv_lookup (off := 52) (tgt := 53) hx hb dX8_signToken_1 (by decide) (by rw [c2]; rfl) (by decide) ?_
      refine lv_bipush (v := 11) hx hb dX8_signToken_53 (by decide) ?_
      subst hQQ
      exact x_ri (σ0 := (fun _ _ => 0, fun _ _ => 0)) X hr hlocks hP hS (Option.some.inj h) dX8_signToken_55
    · have h := it_f c2 h
      by_cases c3 : a0 = 58
      · have h := it_t c3 h
        refine lv_lookup (off := 43) (tgt := 44) hx hb dX8_signToken_1 (by decide) (by rw [c3]; rfl) (by decide) ?_
        refine lv_bipush (v := 8) hx hb dX8_signToken_44 (by decide) ?_
        subst hQQ
        exact x_ri (σ0 := (fun _ _ => 0, fun _ _ => 0)) X hr hlocks hP hS (Option.some.inj h) dX8_signToken_46
      · have h := it_f c3 h
        by_cases c4 : a0 = 59
        · have h := it_t c4 h
          refine lv_lookup (off := 46) (tgt := 47) hx hb dX8_signToken_1 (by decide) (by rw [c4]; rfl) (by decide) ?_
          refine lv_bipush (v := 9) hx hb dX8_signToken_47 (by decide) ?_
          subst hQQ
          exact x_ri (σ0 := (fun _ _ => 0, fun _ _ => 0)) X hr hlocks hP hS (Option.some.inj h) dX8_signToken_49
        · have h := it_f c4 h
          refine lv_lookup (off := 55) (tgt := 56) hx hb dX8_signToken_1 (by decide) (by show Op.lookupswitch.offset [(40, 49), (41, 52), (58, 43), (59, 46)] 55 _ = _; rw [lv_osw (a := 40) c1 (by decide), lv_osw (a := 41) c2 (by decide), lv_osw (a := 58) c3 (by decide), lv_osw (a := 59) c4 (by decide)]; rfl) (by decide) ?_
          refine lv_bipush (v := 13) hx hb dX8_signToken_56 (by decide) ?_
          subst hQQ
          exact x_ri (σ0 := (fun _ _ => 0, fun _ _ => 0)) X hr hlocks hP hS (Option.some.inj h) dX8_signToken_58
def f_8_rewind (n : Nat) (σ : St)  : Option (St) :=
  nm (si σ 7 4 0) fun σ1 =>
  some σ1
abbrev rm_8_rewind : Room := { frames := 0, cells := 0, slots := 0, locals := 0 }
set_option maxRecDepth 100000 in
set_option maxHeartbeats 4000000 in
theorem k_8_rewind (l : Launch) (D : va_G) (cA : Nat → ClassId) (ad : Nat → Nat) (z : ZX) (hj : inj 120 ad) (n : Nat) (σ : St)   {res : St} (h : f_8_rewind n σ  = some res) : MXv l D dX 120 cA ad (EX ad z) yX8_rewind wsX8_rewind rm_8_rewind [.ref (ad 7)] σ res := by
  refine Met.ofW (cc := cX8_rewind) (maxL := 1) (ret := none) (by decide) rfl ?_
  intro p e s m args below meth c s₁ B hml hv
  obtain ⟨hargs, hP, hK, hE⟩ := hv
  have hx := B.exec
  have hb := B.bytes
  have hr := B.returns
  have hts := atoms_spec (ws := wsX8_rewind) B.pre
  have hown : s.vm.findClass RX8 = some m.cls := findClass_of_methodNamed B.named
  have hlocks := B.notSynchronized
  have X : Cx p s m args c cX8_rewind 1 RX8 wsX8_rewind D dX 120 cA ad (EX ad z) := ⟨hx, hb, hml, hown, hts, hK, hj, hE, EX_ok ad z⟩
  have hS : va_S (inA 120 ad) s.heap s.heap [] := va_S.rf
  have hl := lv_entry ([.ref (ad 7)]) (n := 1) (Nat.le_of_ble_eq_true rfl)
  rw [show entryFrame m args 1 = entryFrame m ([.ref (ad 7)] : List Value).toArray 1 by rw [hargs]]
  rw [lg_entry_eq]
  generalize (lg_sl ([.ref (ad 7)]) ++ List.replicate (1 - (lg_sl ([.ref (ad 7)])).length) Slot.unset).toArray = ls at hl ⊢
  have hl : lv_has ls 1 [(0, .ref (ad 7))] := hl
  obtain ⟨QQ, hQQ⟩ : ∃ Q, Q = MQ below (va_Qv (fun u => u = res) (fun u t => va_P D vwCl (ww dX 120 cA ad u) t.heap) (inA 120 ad)) args s 0 0 (inA 120 ad) := ⟨_, rfl⟩
  show W p l e (headSpec wsX8_rewind rm_8_rewind).room s m args below meth c s.heap [] 0 0 (MQ below (va_Qv (fun u => u = res) (fun u t => va_P D vwCl (ww dX 120 cA ad u) t.heap) (inA 120 ad)) args s 0 0 (inA 120 ad)) _
  rw [← hQQ]
  have in8 : ∀ w ∈ wsX80, w ∈ wsX8_rewind := by decide +kernel
  have lk25 : Cond.fieldLink RX8 25 "CureTown$Tape" "behind" "I" ∈ wsX8_rewind := by decide +kernel
  unfold f_8_rewind at h
  obtain ⟨H, hH⟩ : ∃ H, H = s.heap := ⟨_, rfl⟩
  obtain ⟨locs, hlc⟩ : ∃ q : List Loc, q = [] := ⟨_, rfl⟩
  have hP : va_P D vwCl (ww dX 120 cA ad σ) s.heap := hP
  have hS : va_S (inA 120 ad) s.heap s.heap [] := hS
  rw [← hlc] at hS ⊢
  rw [show W p l e (headSpec wsX8_rewind rm_8_rewind).room s m args below meth c s.heap locs 0 0 QQ = W p l e (headSpec wsX8_rewind rm_8_rewind).room s m args below meth c H locs 0 0 QQ by rw [hH]]
  have hS : va_S (inA 120 ad) s.heap H locs := by rw [hH]; exact hS
  have hP : va_P D vwCl (ww dX 120 cA ad σ) H := by rw [hH]; exact hP
  clear hH hlc
  refine lv_aload_n hx hb dX8_rewind_0 rfl (lv_at hl 0 rfl) ?_
  refine lv_iconst (v := 0) hx hb dX8_rewind_1 (by decide) ?_
  refine x_pi X hP hS (j := 4) (by decide) (dX_7) rfl rfl (by decide) in8 tyX8_ok nmX8 lk25 rfl rfl rfl rfl dX8_rewind_2 (fun σ1 eσ1 H locs hP hS => ?_)
  have h := nm_some eσ1 h
  subst hQQ
  exact x_rv X hr hlocks hP hS (Option.some.inj h) dX8_rewind_5
def b_8_add_3 (n : Nat) (a1 : Int32) (t2 : Int32 × St) : Option ((Int32 × St) ⊕ (Int32 × St)) :=
  if t2.1 < 0 then
    some (.inr (t2.1, t2.2))
  else
    if 600 ≤ (t2.2.1 7 1) then
      nm (t2.1 + (-8)) fun v5 =>
      some (.inl (v5, t2.2))
    else
      nm ((Int32.toUInt32 a1 >>> (Int32.toUInt32 t2.1 &&& Int32.toUInt32 31)).toInt32) fun v6 =>
      nm ((Int32.toInt8 v6).toInt32) fun v7 =>
      gd (inb (t2.2.1 7 1) 600) <| nm (si t2.2 8 ((t2.2.1 7 1).toNatClampNeg) ((Int32.toInt8 v7).toInt32)) fun σ9 =>
      nm ((σ9.1 7 1) + 1) fun v10 =>
      nm (si σ9 7 1 v10) fun σ11 =>
      nm (t2.1 + (-8)) fun v12 =>
      some (.inl (v12, σ11))
def f_8_add (n : Nat) (σ : St) (a1 : Int32) : Option (St) :=
  (lq (b_8_add_3 n a1) n (24, σ)).bind fun t1013 =>
  some t1013.2
abbrev rm_8_add : Room := { frames := 0, cells := 0, slots := 0, locals := 0 }
set_option maxRecDepth 100000 in
set_option maxHeartbeats 4000000 in
theorem k_8_add (l : Launch) (D : va_G) (cA : Nat → ClassId) (ad : Nat → Nat) (z : ZX) (hj : inj 120 ad) (n : Nat) (σ : St) (a1 : Int32)  {res : St} (h : f_8_add n σ a1 = some res) : MXv l D dX 120 cA ad (EX ad z) yX8_add wsX8_add rm_8_add [.ref (ad 7), .int a1] σ res := by
  refine Met.ofW (cc := cX8_add) (maxL := 3) (ret := none) (by decide) rfl ?_
  intro p e s m args below meth c s₁ B hml hv
  obtain ⟨hargs, hP, hK, hE⟩ := hv
  have hx := B.exec
  have hb := B.bytes
  have hr := B.returns
  have hts := atoms_spec (ws := wsX8_add) B.pre
  have hown : s.vm.findClass RX8 = some m.cls := findClass_of_methodNamed B.named
  have hlocks := B.notSynchronized
  have X : Cx p s m args c cX8_add 3 RX8 wsX8_add D dX 120 cA ad (EX ad z) := ⟨hx, hb, hml, hown, hts, hK, hj, hE, EX_ok ad z⟩
  have hS : va_S (inA 120 ad) s.heap s.heap [] := va_S.rf
  have hl := lv_entry ([.ref (ad 7), .int a1]) (n := 3) (Nat.le_of_ble_eq_true rfl)
  rw [show entryFrame m args 3 = entryFrame m ([.ref (ad 7), .int a1] : List Value).toArray 3 by rw [hargs]]
  rw [lg_entry_eq]
  generalize (lg_sl ([.ref (ad 7), .int a1]) ++ List.replicate (3 - (lg_sl ([.ref (ad 7), .int a1])).length) Slot.unset).toArray = ls at hl ⊢
  have hl : lv_has ls 3 [(0, .ref (ad 7)), (1, .int a1)] := hl
  obtain ⟨QQ, hQQ⟩ : ∃ Q, Q = MQ below (va_Qv (fun u => u = res) (fun u t => va_P D vwCl (ww dX 120 cA ad u) t.heap) (inA 120 ad)) args s 0 0 (inA 120 ad) := ⟨_, rfl⟩
  show W p l e (headSpec wsX8_add rm_8_add).room s m args below meth c s.heap [] 0 0 (MQ below (va_Qv (fun u => u = res) (fun u t => va_P D vwCl (ww dX 120 cA ad u) t.heap) (inA 120 ad)) args s 0 0 (inA 120 ad)) _
  rw [← hQQ]
  have in8 : ∀ w ∈ wsX80, w ∈ wsX8_add := by decide +kernel
  have lk15 : Cond.fieldLink RX8 15 "CureTown$Tape" "length" "I" ∈ wsX8_add := by decide +kernel
  have lk9 : Cond.fieldLink RX8 9 "CureTown$Tape" "bytes" "[B" ∈ wsX8_add := by decide +kernel
  unfold f_8_add at h
  obtain ⟨H, hH⟩ : ∃ H, H = s.heap := ⟨_, rfl⟩
  obtain ⟨locs, hlc⟩ : ∃ q : List Loc, q = [] := ⟨_, rfl⟩
  have hP : va_P D vwCl (ww dX 120 cA ad σ) s.heap := hP
  have hS : va_S (inA 120 ad) s.heap s.heap [] := hS
  rw [← hlc] at hS ⊢
  rw [show W p l e (headSpec wsX8_add rm_8_add).room s m args below meth c s.heap locs 0 0 QQ = W p l e (headSpec wsX8_add rm_8_add).room s m args below meth c H locs 0 0 QQ by rw [hH]]
  have hS : va_S (inA 120 ad) s.heap H locs := by rw [hH]; exact hS
  have hP : va_P D vwCl (ww dX 120 cA ad σ) H := by rw [hH]; exact hP
  clear hH hlc
  refine lv_bipush (v := 24) hx hb dX8_add_0 (by decide) ?_
  refine lv_istore_n (lv' := [(2, .int 24), (0, .ref (ad 7)), (1, .int a1)]) hx hb dX8_add_2 rfl hl (by decide) rfl (fun ls hl => ?_)
  obtain ⟨t1013, o1015, h⟩ := bd_some h
  refine lq_rule (P := fun t2 : Int32 × St => ∀ (H : Heap) (locs : List Loc) (ls : Array Slot), va_P D vwCl (ww dX 120 cA ad t2.2) H → va_S (inA 120 ad) s.heap H locs → lv_has ls 3 [(0, .ref (ad 7)), (1, .int a1), (2, .int t2.1)] → W p l e (headSpec wsX8_add rm_8_add).room s m args below meth c H locs 0 0 QQ (F0 m 3 ls [])) (X := fun t1013 : Int32 × St => ∀ (H : Heap) (locs : List Loc) (ls : Array Slot), va_P D vwCl (ww dX 120 cA ad t1013.2) H → va_S (inA 120 ad) s.heap H locs → lv_has ls 3 [(0, .ref (ad 7)), (1, .int a1), (2, .int t1013.1)] → W p l e (headSpec wsX8_add rm_8_add).room s m args below meth c H locs 0 0 QQ (F0 m 46 ls [])) ?_ n _ _ o1015 ?_ H locs ls hP hS (lv_sub hl [1, 2, 0] rfl)
  · clear h hP hS hl
    intro t2 rL1 h hCL1 hEL1 H locs ls hP hS hl
    unfold b_8_add_3 at h
    refine lv_iload_n hx hb dX8_add_3 rfl (lv_at hl 2 rfl) ?_
    refine lv_if_lt (tgt := 46) hx hb dX8_add_4 (by decide) (fun c3 => ?_) (fun c3 => ?_)
    · have h := it_t c3 h
      exact hEL1 _ (Option.some.inj h).symm H locs ls hP hS (lv_sub hl [0, 1, 2] rfl)
    · have h := it_f c3 h
      refine lv_aload_n hx hb dX8_add_7 rfl (lv_at hl 0 rfl) ?_
      refine x_gi X hP (j := 1) (by decide) (dX_7) rfl rfl (by decide) in8 lk15 dX8_add_8 ?_
      refine lv_sipush (v := 600) hx hb dX8_add_11 (by decide) ?_
      refine lv_icmp_ge (tgt := 40) hx hb dX8_add_14 (by decide) (fun c4 => ?_) (fun c4 => ?_)
      · have h := it_t c4 h
        obtain ⟨v5, ev5⟩ : ∃ y : Int32, y = t2.1 + (-8) := ⟨_, rfl⟩
        have h := nm_some ev5 h
        refine lv_iinc (v := v5) (lv' := [(2, .int v5), (0, .ref (ad 7)), (1, .int a1)]) hx hb dX8_add_40 hl (k := 2) rfl (by rw [ev5]; rfl) (by decide) rfl (fun ls hl => ?_)
        refine lv_goto (tgt := 3) hx hb dX8_add_43 (by decide) ?_
        exact hCL1 _ (Option.some.inj h).symm H locs ls hP hS (lv_sub hl [1, 2, 0] rfl)
      · have h := it_f c4 h
        refine lv_aload_n hx hb dX8_add_17 rfl (lv_at hl 0 rfl) ?_
        refine x_gr X hP (j := 0) (by decide) (dX_7) rfl rfl (by decide) in8 lk9 dX8_add_18 ?_
        refine lv_aload_n hx hb dX8_add_21 rfl (lv_at hl 0 rfl) ?_
        refine x_gi X hP (j := 1) (by decide) (dX_7) rfl rfl (by decide) in8 lk15 dX8_add_22 ?_
        refine lv_iload_n hx hb dX8_add_25 rfl (lv_at hl 1 rfl) ?_
        refine lv_iload_n hx hb dX8_add_26 rfl (lv_at hl 2 rfl) ?_
        refine lv_iushr hx hb dX8_add_27 rfl ?_
        refine lv_topi (fun v6 ev6 => ?_)
        have h := nm_some ev6 h
        refine lv_i2b hx hb dX8_add_28 rfl ?_
        refine lv_topi (fun v7 ev7 => ?_)
        have h := nm_some ev7 h
        obtain ⟨g8, h⟩ := gd_some h
        refine x_sb X hP hS (by decide) (dX_8) g8 dX8_add_29 (fun σ9 eσ9 H locs hP hS => ?_)
        have h := nm_some eσ9 h
        refine lv_aload_n hx hb dX8_add_30 rfl (lv_at hl 0 rfl) ?_
        refine lv_dup hx hb dX8_add_31 rfl ?_
        refine x_gi X hP (j := 1) (by decide) (dX_7) rfl rfl (by decide) in8 lk15 dX8_add_32 ?_
        refine lv_iconst (v := 1) hx hb dX8_add_35 (by decide) ?_
        refine lv_iadd hx hb dX8_add_36 ?_
        refine lv_topi (fun v10 ev10 => ?_)
        have h := nm_some ev10 h
        refine x_pi X hP hS (j := 1) (by decide) (dX_7) rfl rfl (by decide) in8 tyX8_ok nmX8 lk15 rfl rfl rfl rfl dX8_add_37 (fun σ11 eσ11 H locs hP hS => ?_)
        have h := nm_some eσ11 h
        obtain ⟨v12, ev12⟩ : ∃ y : Int32, y = t2.1 + (-8) := ⟨_, rfl⟩
        have h := nm_some ev12 h
        refine lv_iinc (v := v12) (lv' := [(2, .int v12), (0, .ref (ad 7)), (1, .int a1)]) hx hb dX8_add_40 hl (k := 2) rfl (by rw [ev12]; rfl) (by decide) rfl (fun ls hl => ?_)
        refine lv_goto (tgt := 3) hx hb dX8_add_43 (by decide) ?_
        exact hCL1 _ (Option.some.inj h).symm H locs ls hP hS (lv_sub hl [1, 2, 0] rfl)
  · intro H locs ls hP hS hl
    subst hQQ
    exact x_rv X hr hlocks hP hS (Option.some.inj h) dX8_add_46
def b_8_readDigits_5 (n : Nat)  (t3 : St) : Option ((St) ⊕ (St)) :=
  if (t3.1 7 1) ≤ (t3.1 7 4) then
    some (.inr t3)
  else
    gd (inb (t3.1 7 4) 600) <| (f_8_isDigit n t3 (t3.1 8 (t3.1 7 4).toNatClampNeg)).bind fun r6 =>
    if r6.1 = 0 then
      some (.inr r6.2)
    else
      nm ((r6.2.1 7 5) * 10) fun v9 =>
      gd (inb (r6.2.1 7 4) 600) <| nm ((r6.2.1 8 (r6.2.1 7 4).toNatClampNeg) - 48) fun v11 =>
      nm (v9 + v11) fun v12 =>
      nm (si r6.2 7 5 v12) fun σ13 =>
      nm ((σ13.1 7 4) + 1) fun v14 =>
      nm (si σ13 7 4 v14) fun σ15 =>
      some (.inl σ15)
def f_8_readDigits (n : Nat) (σ : St)  : Option (St) :=
  nm (si σ 7 5 0) fun σ1 =>
  (lq (b_8_readDigits_5 n ) n σ1).bind fun t1016 =>
  nm ((t1016.1 7 4) - (t1016.1 7 3)) fun v1019 =>
  if 2 < v1019 then
    nm (si t1016 7 2 13) fun σ1021 =>
    some σ1021
  else
    nm (si t1016 7 2 7) fun σ1022 =>
    some σ1022
abbrev rm_8_readDigits : Room := { frames := 1, cells := 0, slots := 0, locals := 20 }
set_option maxRecDepth 100000 in
set_option maxHeartbeats 4000000 in
theorem k_8_readDigits (l : Launch) (D : va_G) (cA : Nat → ClassId) (ad : Nat → Nat) (z : ZX) (hj : inj 120 ad) (n : Nat) (σ : St)   {res : St} (h : f_8_readDigits n σ  = some res) : MXv l D dX 120 cA ad (EX ad z) yX8_readDigits wsX8_readDigits rm_8_readDigits [.ref (ad 7)] σ res := by
  refine Met.ofW (cc := cX8_readDigits) (maxL := 1) (ret := none) (by decide) rfl ?_
  intro p e s m args below meth c s₁ B hml hv
  obtain ⟨hargs, hP, hK, hE⟩ := hv
  have hx := B.exec
  have hb := B.bytes
  have hr := B.returns
  have hts := atoms_spec (ws := wsX8_readDigits) B.pre
  have hown : s.vm.findClass RX8 = some m.cls := findClass_of_methodNamed B.named
  have hlocks := B.notSynchronized
  have X : Cx p s m args c cX8_readDigits 1 RX8 wsX8_readDigits D dX 120 cA ad (EX ad z) := ⟨hx, hb, hml, hown, hts, hK, hj, hE, EX_ok ad z⟩
  have hS : va_S (inA 120 ad) s.heap s.heap [] := va_S.rf
  have hl := lv_entry ([.ref (ad 7)]) (n := 1) (Nat.le_of_ble_eq_true rfl)
  rw [show entryFrame m args 1 = entryFrame m ([.ref (ad 7)] : List Value).toArray 1 by rw [hargs]]
  rw [lg_entry_eq]
  generalize (lg_sl ([.ref (ad 7)]) ++ List.replicate (1 - (lg_sl ([.ref (ad 7)])).length) Slot.unset).toArray = ls at hl ⊢
  have hl : lv_has ls 1 [(0, .ref (ad 7))] := hl
  obtain ⟨QQ, hQQ⟩ : ∃ Q, Q = MQ below (va_Qv (fun u => u = res) (fun u t => va_P D vwCl (ww dX 120 cA ad u) t.heap) (inA 120 ad)) args s 0 0 (inA 120 ad) := ⟨_, rfl⟩
  show W p l e (headSpec wsX8_readDigits rm_8_readDigits).room s m args below meth c s.heap [] 0 0 (MQ below (va_Qv (fun u => u = res) (fun u t => va_P D vwCl (ww dX 120 cA ad u) t.heap) (inA 120 ad)) args s 0 0 (inA 120 ad)) _
  rw [← hQQ]
  have in8 : ∀ w ∈ wsX80, w ∈ wsX8_readDigits := by decide +kernel
  have lk28 : Cond.fieldLink RX8 28 "CureTown$Tape" "number" "I" ∈ wsX8_readDigits := by decide +kernel
  have lk25 : Cond.fieldLink RX8 25 "CureTown$Tape" "behind" "I" ∈ wsX8_readDigits := by decide +kernel
  have lk15 : Cond.fieldLink RX8 15 "CureTown$Tape" "length" "I" ∈ wsX8_readDigits := by decide +kernel
  have lk9 : Cond.fieldLink RX8 9 "CureTown$Tape" "bytes" "[B" ∈ wsX8_readDigits := by decide +kernel
  have lk22 : Cond.fieldLink RX8 22 "CureTown$Tape" "place" "I" ∈ wsX8_readDigits := by decide +kernel
  have lk19 : Cond.fieldLink RX8 19 "CureTown$Tape" "token" "I" ∈ wsX8_readDigits := by decide +kernel
  unfold f_8_readDigits at h
  obtain ⟨H, hH⟩ : ∃ H, H = s.heap := ⟨_, rfl⟩
  obtain ⟨locs, hlc⟩ : ∃ q : List Loc, q = [] := ⟨_, rfl⟩
  have hP : va_P D vwCl (ww dX 120 cA ad σ) s.heap := hP
  have hS : va_S (inA 120 ad) s.heap s.heap [] := hS
  rw [← hlc] at hS ⊢
  rw [show W p l e (headSpec wsX8_readDigits rm_8_readDigits).room s m args below meth c s.heap locs 0 0 QQ = W p l e (headSpec wsX8_readDigits rm_8_readDigits).room s m args below meth c H locs 0 0 QQ by rw [hH]]
  have hS : va_S (inA 120 ad) s.heap H locs := by rw [hH]; exact hS
  have hP : va_P D vwCl (ww dX 120 cA ad σ) H := by rw [hH]; exact hP
  clear hH hlc
  refine lv_aload_n hx hb dX8_readDigits_0 rfl (lv_at hl 0 rfl) ?_
  refine lv_iconst (v := 0) hx hb dX8_readDigits_1 (by decide) ?_
  refine x_pi X hP hS (j := 5) (by decide) (dX_7) rfl rfl (by decide) in8 tyX8_ok nmX8 lk28 rfl rfl rfl rfl dX8_readDigits_2 (fun σ1 eσ1 H locs hP hS => ?_)
  have h := nm_some eσ1 h
  obtain ⟨t1016, o1018, h⟩ := bd_some h
  refine lq_rule (P := fun t3 : St => ∀ (H : Heap) (locs : List Loc) (ls : Array Slot), va_P D vwCl (ww dX 120 cA ad t3) H → va_S (inA 120 ad) s.heap H locs → lv_has ls 1 [(0, .ref (ad 7))] → W p l e (headSpec wsX8_readDigits rm_8_readDigits).room s m args below meth c H locs 0 0 QQ (F0 m 5 ls [])) (X := fun t1016 : St => ∀ (H : Heap) (locs : List Loc) (ls : Array Slot), va_P D vwCl (ww dX 120 cA ad t1016) H → va_S (inA 120 ad) s.heap H locs → lv_has ls 1 [(0, .ref (ad 7))] → W p l e (headSpec wsX8_readDigits rm_8_readDigits).room s m args below meth c H locs 0 0 QQ (F0 m 68 ls [])) ?_ n _ _ o1018 ?_ H locs ls hP hS (lv_sub hl [0] rfl)
  · clear h hP hS hl
    intro t3 rL2 h hCL2 hEL2 H locs ls hP hS hl
    unfold b_8_readDigits_5 at h
    refine lv_aload_n hx hb dX8_readDigits_5 rfl (lv_at hl 0 rfl) ?_
    refine x_gi X hP (j := 4) (by decide) (dX_7) rfl rfl (by decide) in8 lk25 dX8_readDigits_6 ?_
    refine lv_aload_n hx hb dX8_readDigits_9 rfl (lv_at hl 0 rfl) ?_
    refine x_gi X hP (j := 1) (by decide) (dX_7) rfl rfl (by decide) in8 lk15 dX8_readDigits_10 ?_
    refine lv_icmp_ge (tgt := 68) hx hb dX8_readDigits_13 (by decide) (fun c4 => ?_) (fun c4 => ?_)
    · have h := it_t c4 h
      exact hEL2 _ (Option.some.inj h).symm H locs ls hP hS (lv_sub hl [0] rfl)
    · have h := it_f c4 h
      refine lv_aload_n hx hb dX8_readDigits_16 rfl (lv_at hl 0 rfl) ?_
      refine x_gr X hP (j := 0) (by decide) (dX_7) rfl rfl (by decide) in8 lk9 dX8_readDigits_17 ?_
      refine lv_aload_n hx hb dX8_readDigits_20 rfl (lv_at hl 0 rfl) ?_
      refine x_gi X hP (j := 4) (by decide) (dX_7) rfl rfl (by decide) in8 lk25 dX8_readDigits_21 ?_
      obtain ⟨g5, h⟩ := gd_some h
      refine x_ab X hP (by decide) (dX_8) g5 dX8_readDigits_24 ?_
      obtain ⟨r6, k7, h⟩ := bd_some h
      refine x_Si (rest := []) X hP hS (k_8_isDigit l D cA ad z hj n t3 (t3.1 8 (t3.1 7 4).toNatClampNeg) k7) 1 gX8_readDigits_X8_isDigit rfl rfl rfl (by decide +kernel) ⟨Nat.le_of_ble_eq_true rfl, Nat.le_of_ble_eq_true rfl⟩ rfl hl.1 rfl (Nat.le_of_ble_eq_true rfl) dX8_readDigits_25 ⟨Nat.zero_le _, Nat.zero_le _⟩ (fun H locs hP hS => ?_)
      refine lv_if_eq (tgt := 68) hx hb dX8_readDigits_28 (by decide) (fun c8 => ?_) (fun c8 => ?_)
      · have h := it_t c8 h
        exact hEL2 _ (Option.some.inj h).symm H locs ls hP hS (lv_sub hl [0] rfl)
      · have h := it_f c8 h
        refine lv_aload_n hx hb dX8_readDigits_31 rfl (lv_at hl 0 rfl) ?_
        refine lv_aload_n hx hb dX8_readDigits_32 rfl (lv_at hl 0 rfl) ?_
        refine x_gi X hP (j := 5) (by decide) (dX_7) rfl rfl (by decide) in8 lk28 dX8_readDigits_33 ?_
        refine lv_bipush (v := 10) hx hb dX8_readDigits_36 (by decide) ?_
        refine lv_imul hx hb dX8_readDigits_38 ?_
        refine lv_topi (fun v9 ev9 => ?_)
        have h := nm_some ev9 h
        refine lv_aload_n hx hb dX8_readDigits_39 rfl (lv_at hl 0 rfl) ?_
        refine x_gr X hP (j := 0) (by decide) (dX_7) rfl rfl (by decide) in8 lk9 dX8_readDigits_40 ?_
        refine lv_aload_n hx hb dX8_readDigits_43 rfl (lv_at hl 0 rfl) ?_
        refine x_gi X hP (j := 4) (by decide) (dX_7) rfl rfl (by decide) in8 lk25 dX8_readDigits_44 ?_
        obtain ⟨g10, h⟩ := gd_some h
        refine x_ab X hP (by decide) (dX_8) g10 dX8_readDigits_47 ?_
        refine lv_bipush (v := 48) hx hb dX8_readDigits_48 (by decide) ?_
        refine lv_isub hx hb dX8_readDigits_50 ?_
        refine lv_topi (fun v11 ev11 => ?_)
        have h := nm_some ev11 h
        refine lv_iadd hx hb dX8_readDigits_51 ?_
        refine lv_topi (fun v12 ev12 => ?_)
        have h := nm_some ev12 h
        refine x_pi X hP hS (j := 5) (by decide) (dX_7) rfl rfl (by decide) in8 tyX8_ok nmX8 lk28 rfl rfl rfl rfl dX8_readDigits_52 (fun σ13 eσ13 H locs hP hS => ?_)
        have h := nm_some eσ13 h
        refine lv_aload_n hx hb dX8_readDigits_55 rfl (lv_at hl 0 rfl) ?_
        refine lv_dup hx hb dX8_readDigits_56 rfl ?_
        refine x_gi X hP (j := 4) (by decide) (dX_7) rfl rfl (by decide) in8 lk25 dX8_readDigits_57 ?_
        refine lv_iconst (v := 1) hx hb dX8_readDigits_60 (by decide) ?_
        refine lv_iadd hx hb dX8_readDigits_61 ?_
        refine lv_topi (fun v14 ev14 => ?_)
        have h := nm_some ev14 h
        refine x_pi X hP hS (j := 4) (by decide) (dX_7) rfl rfl (by decide) in8 tyX8_ok nmX8 lk25 rfl rfl rfl rfl dX8_readDigits_62 (fun σ15 eσ15 H locs hP hS => ?_)
        have h := nm_some eσ15 h
        refine lv_goto (tgt := 5) hx hb dX8_readDigits_65 (by decide) ?_
        exact hCL2 _ (Option.some.inj h).symm H locs ls hP hS (lv_sub hl [0] rfl)
  · intro H locs ls hP hS hl
    refine lv_aload_n hx hb dX8_readDigits_68 rfl (lv_at hl 0 rfl) ?_
    refine lv_aload_n hx hb dX8_readDigits_69 rfl (lv_at hl 0 rfl) ?_
    refine x_gi X hP (j := 4) (by decide) (dX_7) rfl rfl (by decide) in8 lk25 dX8_readDigits_70 ?_
    refine lv_aload_n hx hb dX8_readDigits_73 rfl (lv_at hl 0 rfl) ?_
    refine x_gi X hP (j := 3) (by decide) (dX_7) rfl rfl (by decide) in8 lk22 dX8_readDigits_74 ?_
    refine lv_isub hx hb dX8_readDigits_77 ?_
    refine lv_topi (fun v1019 ev1019 => ?_)
    have h := nm_some ev1019 h
    refine lv_iconst (v := 2) hx hb dX8_readDigits_78 (by decide) ?_
    refine lv_icmp_gt (tgt := 87) hx hb dX8_readDigits_79 (by decide) (fun c1020 => ?_) (fun c1020 => ?_)
    · have h := it_t c1020 h
      refine lv_bipush (v := 13) hx hb dX8_readDigits_87 (by decide) ?_
      refine x_pi X hP hS (j := 2) (by decide) (dX_7) rfl rfl (by decide) in8 tyX8_ok nmX8 lk19 rfl rfl rfl rfl dX8_readDigits_89 (fun σ1021 eσ1021 H locs hP hS => ?_)
      have h := nm_some eσ1021 h
      subst hQQ
      exact x_rv X hr hlocks hP hS (Option.some.inj h) dX8_readDigits_92
    · have h := it_f c1020 h
      refine lv_bipush (v := 7) hx hb dX8_readDigits_82 (by decide) ?_
      refine lv_goto (tgt := 89) hx hb dX8_readDigits_84 (by decide) ?_
      refine x_pi X hP hS (j := 2) (by decide) (dX_7) rfl rfl (by decide) in8 tyX8_ok nmX8 lk19 rfl rfl rfl rfl dX8_readDigits_89 (fun σ1022 eσ1022 H locs hP hS => ?_)
      have h := nm_some eσ1022 h
      subst hQQ
      exact x_rv X hr hlocks hP hS (Option.some.inj h) dX8_readDigits_92
def f_6_begin (n : Nat) (σ : St) (i0 : Nat) (a1 : Int32) : Option (St) :=
  nm (si σ (44 + i0) 0 a1) fun σ1 =>
  nm (si σ1 (44 + i0) 1 0) fun σ2 =>
  some σ2
abbrev rm_6_begin : Room := { frames := 0, cells := 0, slots := 0, locals := 0 }
set_option maxRecDepth 100000 in
set_option maxHeartbeats 4000000 in
theorem k_6_begin (l : Launch) (D : va_G) (cA : Nat → ClassId) (ad : Nat → Nat) (z : ZX) (hj : inj 120 ad) (n : Nat) (σ : St) (i0 : Nat) (a1 : Int32) (h0 : i0 < 8) {res : St} (h : f_6_begin n σ i0 a1 = some res) : MXv l D dX 120 cA ad (EX ad z) yX6_begin wsX6_begin rm_6_begin [.ref (ad (44 + i0)), .int a1] σ res := by
  refine Met.ofW (cc := cX6_begin) (maxL := 2) (ret := none) (by decide) rfl ?_
  intro p e s m args below meth c s₁ B hml hv
  obtain ⟨hargs, hP, hK, hE⟩ := hv
  have hx := B.exec
  have hb := B.bytes
  have hr := B.returns
  have hts := atoms_spec (ws := wsX6_begin) B.pre
  have hown : s.vm.findClass RX6 = some m.cls := findClass_of_methodNamed B.named
  have hlocks := B.notSynchronized
  have X : Cx p s m args c cX6_begin 2 RX6 wsX6_begin D dX 120 cA ad (EX ad z) := ⟨hx, hb, hml, hown, hts, hK, hj, hE, EX_ok ad z⟩
  have hS : va_S (inA 120 ad) s.heap s.heap [] := va_S.rf
  have hl := lv_entry ([.ref (ad (44 + i0)), .int a1]) (n := 2) (Nat.le_of_ble_eq_true rfl)
  rw [show entryFrame m args 2 = entryFrame m ([.ref (ad (44 + i0)), .int a1] : List Value).toArray 2 by rw [hargs]]
  rw [lg_entry_eq]
  generalize (lg_sl ([.ref (ad (44 + i0)), .int a1]) ++ List.replicate (2 - (lg_sl ([.ref (ad (44 + i0)), .int a1])).length) Slot.unset).toArray = ls at hl ⊢
  have hl : lv_has ls 2 [(0, .ref (ad (44 + i0))), (1, .int a1)] := hl
  obtain ⟨QQ, hQQ⟩ : ∃ Q, Q = MQ below (va_Qv (fun u => u = res) (fun u t => va_P D vwCl (ww dX 120 cA ad u) t.heap) (inA 120 ad)) args s 0 0 (inA 120 ad) := ⟨_, rfl⟩
  show W p l e (headSpec wsX6_begin rm_6_begin).room s m args below meth c s.heap [] 0 0 (MQ below (va_Qv (fun u => u = res) (fun u t => va_P D vwCl (ww dX 120 cA ad u) t.heap) (inA 120 ad)) args s 0 0 (inA 120 ad)) _
  rw [← hQQ]
  have in6 : ∀ w ∈ wsX60, w ∈ wsX6_begin := by decide +kernel
  have lk9 : Cond.fieldLink RX6 9 "CureTown$Regimen" "name" "I" ∈ wsX6_begin := by decide +kernel
  have lk15 : Cond.fieldLink RX6 15 "CureTown$Regimen" "count" "I" ∈ wsX6_begin := by decide +kernel
  unfold f_6_begin at h
  obtain ⟨H, hH⟩ : ∃ H, H = s.heap := ⟨_, rfl⟩
  obtain ⟨locs, hlc⟩ : ∃ q : List Loc, q = [] := ⟨_, rfl⟩
  have hP : va_P D vwCl (ww dX 120 cA ad σ) s.heap := hP
  have hS : va_S (inA 120 ad) s.heap s.heap [] := hS
  rw [← hlc] at hS ⊢
  rw [show W p l e (headSpec wsX6_begin rm_6_begin).room s m args below meth c s.heap locs 0 0 QQ = W p l e (headSpec wsX6_begin rm_6_begin).room s m args below meth c H locs 0 0 QQ by rw [hH]]
  have hS : va_S (inA 120 ad) s.heap H locs := by rw [hH]; exact hS
  have hP : va_P D vwCl (ww dX 120 cA ad σ) H := by rw [hH]; exact hP
  clear hH hlc
  refine lv_aload_n hx hb dX6_begin_0 rfl (lv_at hl 0 rfl) ?_
  refine lv_iload_n hx hb dX6_begin_1 rfl (lv_at hl 1 rfl) ?_
  refine x_pi X hP hS (j := 0) (fam_lt h0 (by decide)) (dX_44 h0) rfl rfl (by decide) in6 tyX6_ok nmX6 lk9 rfl rfl rfl rfl dX6_begin_2 (fun σ1 eσ1 H locs hP hS => ?_)
  have h := nm_some eσ1 h
  refine lv_aload_n hx hb dX6_begin_5 rfl (lv_at hl 0 rfl) ?_
  refine lv_iconst (v := 0) hx hb dX6_begin_6 (by decide) ?_
  refine x_pi X hP hS (j := 1) (fam_lt h0 (by decide)) (dX_44 h0) rfl rfl (by decide) in6 tyX6_ok nmX6 lk15 rfl rfl rfl rfl dX6_begin_7 (fun σ2 eσ2 H locs hP hS => ?_)
  have h := nm_some eσ2 h
  subst hQQ
  exact x_rv X hr hlocks hP hS (Option.some.inj h) dX6_begin_10
def f_6_add (n : Nat) (σ : St) (i0 : Nat) (a1 : Int32) : Option (St) :=
  if 30 ≤ (σ.1 (44 + i0) 1) then
    some σ
  else
    gd (inb (σ.1 (44 + i0) 1) 30) <| nm (si σ (52 + i0) ((σ.1 (44 + i0) 1).toNatClampNeg) a1) fun σ3 =>
    nm ((σ3.1 (44 + i0) 1) + 1) fun v4 =>
    nm (si σ3 (44 + i0) 1 v4) fun σ5 =>
    some σ5
abbrev rm_6_add : Room := { frames := 0, cells := 0, slots := 0, locals := 0 }
set_option maxRecDepth 100000 in
set_option maxHeartbeats 4000000 in
theorem k_6_add (l : Launch) (D : va_G) (cA : Nat → ClassId) (ad : Nat → Nat) (z : ZX) (hj : inj 120 ad) (n : Nat) (σ : St) (i0 : Nat) (a1 : Int32) (h0 : i0 < 8) {res : St} (h : f_6_add n σ i0 a1 = some res) : MXv l D dX 120 cA ad (EX ad z) yX6_add wsX6_add rm_6_add [.ref (ad (44 + i0)), .int a1] σ res := by
  refine Met.ofW (cc := cX6_add) (maxL := 2) (ret := none) (by decide) rfl ?_
  intro p e s m args below meth c s₁ B hml hv
  obtain ⟨hargs, hP, hK, hE⟩ := hv
  have hx := B.exec
  have hb := B.bytes
  have hr := B.returns
  have hts := atoms_spec (ws := wsX6_add) B.pre
  have hown : s.vm.findClass RX6 = some m.cls := findClass_of_methodNamed B.named
  have hlocks := B.notSynchronized
  have X : Cx p s m args c cX6_add 2 RX6 wsX6_add D dX 120 cA ad (EX ad z) := ⟨hx, hb, hml, hown, hts, hK, hj, hE, EX_ok ad z⟩
  have hS : va_S (inA 120 ad) s.heap s.heap [] := va_S.rf
  have hl := lv_entry ([.ref (ad (44 + i0)), .int a1]) (n := 2) (Nat.le_of_ble_eq_true rfl)
  rw [show entryFrame m args 2 = entryFrame m ([.ref (ad (44 + i0)), .int a1] : List Value).toArray 2 by rw [hargs]]
  rw [lg_entry_eq]
  generalize (lg_sl ([.ref (ad (44 + i0)), .int a1]) ++ List.replicate (2 - (lg_sl ([.ref (ad (44 + i0)), .int a1])).length) Slot.unset).toArray = ls at hl ⊢
  have hl : lv_has ls 2 [(0, .ref (ad (44 + i0))), (1, .int a1)] := hl
  obtain ⟨QQ, hQQ⟩ : ∃ Q, Q = MQ below (va_Qv (fun u => u = res) (fun u t => va_P D vwCl (ww dX 120 cA ad u) t.heap) (inA 120 ad)) args s 0 0 (inA 120 ad) := ⟨_, rfl⟩
  show W p l e (headSpec wsX6_add rm_6_add).room s m args below meth c s.heap [] 0 0 (MQ below (va_Qv (fun u => u = res) (fun u t => va_P D vwCl (ww dX 120 cA ad u) t.heap) (inA 120 ad)) args s 0 0 (inA 120 ad)) _
  rw [← hQQ]
  have in6 : ∀ w ∈ wsX60, w ∈ wsX6_add := by decide +kernel
  have lk15 : Cond.fieldLink RX6 15 "CureTown$Regimen" "count" "I" ∈ wsX6_add := by decide +kernel
  have lk18 : Cond.fieldLink RX6 18 "CureTown$Regimen" "kinds" "[I" ∈ wsX6_add := by decide +kernel
  unfold f_6_add at h
  obtain ⟨H, hH⟩ : ∃ H, H = s.heap := ⟨_, rfl⟩
  obtain ⟨locs, hlc⟩ : ∃ q : List Loc, q = [] := ⟨_, rfl⟩
  have hP : va_P D vwCl (ww dX 120 cA ad σ) s.heap := hP
  have hS : va_S (inA 120 ad) s.heap s.heap [] := hS
  rw [← hlc] at hS ⊢
  rw [show W p l e (headSpec wsX6_add rm_6_add).room s m args below meth c s.heap locs 0 0 QQ = W p l e (headSpec wsX6_add rm_6_add).room s m args below meth c H locs 0 0 QQ by rw [hH]]
  have hS : va_S (inA 120 ad) s.heap H locs := by rw [hH]; exact hS
  have hP : va_P D vwCl (ww dX 120 cA ad σ) H := by rw [hH]; exact hP
  clear hH hlc
  refine lv_aload_n hx hb dX6_add_0 rfl (lv_at hl 0 rfl) ?_
  refine x_gi X hP (j := 1) (fam_lt h0 (by decide)) (dX_44 h0) rfl rfl (by decide) in6 lk15 dX6_add_1 ?_
  refine lv_bipush (v := 30) hx hb dX6_add_4 (by decide) ?_
  refine lv_icmp_ge (tgt := 29) hx hb dX6_add_6 (by decide) (fun c1 => ?_) (fun c1 => ?_)
  · have h := it_t c1 h
    subst hQQ
    exact x_rv X hr hlocks hP hS (Option.some.inj h) dX6_add_29
  · have h := it_f c1 h
    refine lv_aload_n hx hb dX6_add_9 rfl (lv_at hl 0 rfl) ?_
    refine x_gr X hP (j := 2) (fam_lt h0 (by decide)) (dX_44 h0) rfl rfl (by decide) in6 lk18 dX6_add_10 ?_
    refine lv_aload_n hx hb dX6_add_13 rfl (lv_at hl 0 rfl) ?_
    refine x_gi X hP (j := 1) (fam_lt h0 (by decide)) (dX_44 h0) rfl rfl (by decide) in6 lk15 dX6_add_14 ?_
    refine lv_iload_n hx hb dX6_add_17 rfl (lv_at hl 1 rfl) ?_
    obtain ⟨g2, h⟩ := gd_some h
    refine x_si X hP hS (fam_lt h0 (by decide)) (dX_52 h0) g2 dX6_add_18 (fun σ3 eσ3 H locs hP hS => ?_)
    have h := nm_some eσ3 h
    refine lv_aload_n hx hb dX6_add_19 rfl (lv_at hl 0 rfl) ?_
    refine lv_dup hx hb dX6_add_20 rfl ?_
    refine x_gi X hP (j := 1) (fam_lt h0 (by decide)) (dX_44 h0) rfl rfl (by decide) in6 lk15 dX6_add_21 ?_
    refine lv_iconst (v := 1) hx hb dX6_add_24 (by decide) ?_
    refine lv_iadd hx hb dX6_add_25 ?_
    refine lv_topi (fun v4 ev4 => ?_)
    have h := nm_some ev4 h
    refine x_pi X hP hS (j := 1) (fam_lt h0 (by decide)) (dX_44 h0) rfl rfl (by decide) in6 tyX6_ok nmX6 lk15 rfl rfl rfl rfl dX6_add_26 (fun σ5 eσ5 H locs hP hS => ?_)
    have h := nm_some eσ5 h
    subst hQQ
    exact x_rv X hr hlocks hP hS (Option.some.inj h) dX6_add_29
def f_5_clear (n : Nat) (σ : St) (i0 : Nat) : Option (St) :=
  nm (si σ (76 + i0) 0 0) fun σ1 =>
  nm (si σ1 (76 + i0) 1 0) fun σ2 =>
  nm (si σ2 (76 + i0) 2 0) fun σ3 =>
  nm (si σ3 (76 + i0) 3 0) fun σ4 =>
  nm (si σ4 (76 + i0) 4 0) fun σ5 =>
  nm (si σ5 (76 + i0) 5 0) fun σ6 =>
  some σ6
abbrev rm_5_clear : Room := { frames := 0, cells := 0, slots := 0, locals := 0 }
set_option maxRecDepth 100000 in
set_option maxHeartbeats 4000000 in
theorem k_5_clear (l : Launch) (D : va_G) (cA : Nat → ClassId) (ad : Nat → Nat) (z : ZX) (hj : inj 120 ad) (n : Nat) (σ : St) (i0 : Nat) (h0 : i0 < 8) {res : St} (h : f_5_clear n σ i0 = some res) : MXv l D dX 120 cA ad (EX ad z) yX5_clear wsX5_clear rm_5_clear [.ref (ad (76 + i0))] σ res := by
  refine Met.ofW (cc := cX5_clear) (maxL := 1) (ret := none) (by decide) rfl ?_
  intro p e s m args below meth c s₁ B hml hv
  obtain ⟨hargs, hP, hK, hE⟩ := hv
  have hx := B.exec
  have hb := B.bytes
  have hr := B.returns
  have hts := atoms_spec (ws := wsX5_clear) B.pre
  have hown : s.vm.findClass RX5 = some m.cls := findClass_of_methodNamed B.named
  have hlocks := B.notSynchronized
  have X : Cx p s m args c cX5_clear 1 RX5 wsX5_clear D dX 120 cA ad (EX ad z) := ⟨hx, hb, hml, hown, hts, hK, hj, hE, EX_ok ad z⟩
  have hS : va_S (inA 120 ad) s.heap s.heap [] := va_S.rf
  have hl := lv_entry ([.ref (ad (76 + i0))]) (n := 1) (Nat.le_of_ble_eq_true rfl)
  rw [show entryFrame m args 1 = entryFrame m ([.ref (ad (76 + i0))] : List Value).toArray 1 by rw [hargs]]
  rw [lg_entry_eq]
  generalize (lg_sl ([.ref (ad (76 + i0))]) ++ List.replicate (1 - (lg_sl ([.ref (ad (76 + i0))])).length) Slot.unset).toArray = ls at hl ⊢
  have hl : lv_has ls 1 [(0, .ref (ad (76 + i0)))] := hl
  obtain ⟨QQ, hQQ⟩ : ∃ Q, Q = MQ below (va_Qv (fun u => u = res) (fun u t => va_P D vwCl (ww dX 120 cA ad u) t.heap) (inA 120 ad)) args s 0 0 (inA 120 ad) := ⟨_, rfl⟩
  show W p l e (headSpec wsX5_clear rm_5_clear).room s m args below meth c s.heap [] 0 0 (MQ below (va_Qv (fun u => u = res) (fun u t => va_P D vwCl (ww dX 120 cA ad u) t.heap) (inA 120 ad)) args s 0 0 (inA 120 ad)) _
  rw [← hQQ]
  have in5 : ∀ w ∈ wsX50, w ∈ wsX5_clear := by decide +kernel
  have lk9 : Cond.fieldLink RX5 9 "CureTown$GuestDay" "now" "I" ∈ wsX5_clear := by decide +kernel
  have lk15 : Cond.fieldLink RX5 15 "CureTown$GuestDay" "strength" "I" ∈ wsX5_clear := by decide +kernel
  have lk18 : Cond.fieldLink RX5 18 "CureTown$GuestDay" "done" "I" ∈ wsX5_clear := by decide +kernel
  have lk21 : Cond.fieldLink RX5 21 "CureTown$GuestDay" "over" "I" ∈ wsX5_clear := by decide +kernel
  have lk24 : Cond.fieldLink RX5 24 "CureTown$GuestDay" "glasses" "I" ∈ wsX5_clear := by decide +kernel
  have lk27 : Cond.fieldLink RX5 27 "CureTown$GuestDay" "isLost" "Z" ∈ wsX5_clear := by decide +kernel
  unfold f_5_clear at h
  obtain ⟨H, hH⟩ : ∃ H, H = s.heap := ⟨_, rfl⟩
  obtain ⟨locs, hlc⟩ : ∃ q : List Loc, q = [] := ⟨_, rfl⟩
  have hP : va_P D vwCl (ww dX 120 cA ad σ) s.heap := hP
  have hS : va_S (inA 120 ad) s.heap s.heap [] := hS
  rw [← hlc] at hS ⊢
  rw [show W p l e (headSpec wsX5_clear rm_5_clear).room s m args below meth c s.heap locs 0 0 QQ = W p l e (headSpec wsX5_clear rm_5_clear).room s m args below meth c H locs 0 0 QQ by rw [hH]]
  have hS : va_S (inA 120 ad) s.heap H locs := by rw [hH]; exact hS
  have hP : va_P D vwCl (ww dX 120 cA ad σ) H := by rw [hH]; exact hP
  clear hH hlc
  refine lv_aload_n hx hb dX5_clear_0 rfl (lv_at hl 0 rfl) ?_
  refine lv_iconst (v := 0) hx hb dX5_clear_1 (by decide) ?_
  refine x_pi X hP hS (j := 0) (fam_lt h0 (by decide)) (dX_76 h0) rfl rfl (by decide) in5 tyX5_ok nmX5 lk9 rfl rfl rfl rfl dX5_clear_2 (fun σ1 eσ1 H locs hP hS => ?_)
  have h := nm_some eσ1 h
  refine lv_aload_n hx hb dX5_clear_5 rfl (lv_at hl 0 rfl) ?_
  refine lv_iconst (v := 0) hx hb dX5_clear_6 (by decide) ?_
  refine x_pi X hP hS (j := 1) (fam_lt h0 (by decide)) (dX_76 h0) rfl rfl (by decide) in5 tyX5_ok nmX5 lk15 rfl rfl rfl rfl dX5_clear_7 (fun σ2 eσ2 H locs hP hS => ?_)
  have h := nm_some eσ2 h
  refine lv_aload_n hx hb dX5_clear_10 rfl (lv_at hl 0 rfl) ?_
  refine lv_iconst (v := 0) hx hb dX5_clear_11 (by decide) ?_
  refine x_pi X hP hS (j := 2) (fam_lt h0 (by decide)) (dX_76 h0) rfl rfl (by decide) in5 tyX5_ok nmX5 lk18 rfl rfl rfl rfl dX5_clear_12 (fun σ3 eσ3 H locs hP hS => ?_)
  have h := nm_some eσ3 h
  refine lv_aload_n hx hb dX5_clear_15 rfl (lv_at hl 0 rfl) ?_
  refine lv_iconst (v := 0) hx hb dX5_clear_16 (by decide) ?_
  refine x_pi X hP hS (j := 3) (fam_lt h0 (by decide)) (dX_76 h0) rfl rfl (by decide) in5 tyX5_ok nmX5 lk21 rfl rfl rfl rfl dX5_clear_17 (fun σ4 eσ4 H locs hP hS => ?_)
  have h := nm_some eσ4 h
  refine lv_aload_n hx hb dX5_clear_20 rfl (lv_at hl 0 rfl) ?_
  refine lv_iconst (v := 0) hx hb dX5_clear_21 (by decide) ?_
  refine x_pi X hP hS (j := 4) (fam_lt h0 (by decide)) (dX_76 h0) rfl rfl (by decide) in5 tyX5_ok nmX5 lk24 rfl rfl rfl rfl dX5_clear_22 (fun σ5 eσ5 H locs hP hS => ?_)
  have h := nm_some eσ5 h
  refine lv_aload_n hx hb dX5_clear_25 rfl (lv_at hl 0 rfl) ?_
  refine lv_iconst (v := 0) hx hb dX5_clear_26 (by decide) ?_
  refine x_pi X hP hS (j := 5) (fam_lt h0 (by decide)) (dX_76 h0) rfl rfl (by decide) in5 tyX5_ok nmX5 lk27 rfl rfl (by decide +kernel) (by decide +kernel) dX5_clear_27 (fun σ6 eσ6 H locs hP hS => ?_)
  have h := nm_some eσ6 h
  subst hQQ
  exact x_rv X hr hlocks hP hS (Option.some.inj h) dX5_clear_30
def f_5_note (n : Nat) (σ : St) (i0 : Nat) (a1 : Int32) (a2 : Int32) (a3 : Int32) (a4 : Int32) : Option (St) :=
  if 30 ≤ (σ.1 (76 + i0) 2) then
    some σ
  else
    gd (inb (σ.1 (76 + i0) 2) 30) <| nm (si σ (100 + i0) ((σ.1 (76 + i0) 2).toNatClampNeg) a1) fun σ3 =>
    gd (inb (σ3.1 (76 + i0) 2) 30) <| nm (si σ3 (84 + i0) ((σ3.1 (76 + i0) 2).toNatClampNeg) a2) fun σ5 =>
    gd (inb (σ5.1 (76 + i0) 2) 30) <| nm (si σ5 (92 + i0) ((σ5.1 (76 + i0) 2).toNatClampNeg) a3) fun σ7 =>
    gd (inb (σ7.1 (76 + i0) 2) 30) <| nm (si σ7 (108 + i0) ((σ7.1 (76 + i0) 2).toNatClampNeg) a4) fun σ9 =>
    nm ((σ9.1 (76 + i0) 2) + 1) fun v10 =>
    nm (si σ9 (76 + i0) 2 v10) fun σ11 =>
    nm (a2 + a3) fun v12 =>
    nm (si σ11 (76 + i0) 3 v12) fun σ13 =>
    nm (si σ13 (76 + i0) 0 (σ13.1 (76 + i0) 3)) fun σ14 =>
    some σ14
abbrev rm_5_note : Room := { frames := 0, cells := 0, slots := 0, locals := 0 }
set_option maxRecDepth 100000 in
set_option maxHeartbeats 4000000 in
theorem k_5_note (l : Launch) (D : va_G) (cA : Nat → ClassId) (ad : Nat → Nat) (z : ZX) (hj : inj 120 ad) (n : Nat) (σ : St) (i0 : Nat) (a1 : Int32) (a2 : Int32) (a3 : Int32) (a4 : Int32) (h0 : i0 < 8) {res : St} (h : f_5_note n σ i0 a1 a2 a3 a4 = some res) : MXv l D dX 120 cA ad (EX ad z) yX5_note wsX5_note rm_5_note [.ref (ad (76 + i0)), .int a1, .int a2, .int a3, .int a4] σ res := by
  refine Met.ofW (cc := cX5_note) (maxL := 5) (ret := none) (by decide) rfl ?_
  intro p e s m args below meth c s₁ B hml hv
  obtain ⟨hargs, hP, hK, hE⟩ := hv
  have hx := B.exec
  have hb := B.bytes
  have hr := B.returns
  have hts := atoms_spec (ws := wsX5_note) B.pre
  have hown : s.vm.findClass RX5 = some m.cls := findClass_of_methodNamed B.named
  have hlocks := B.notSynchronized
  have X : Cx p s m args c cX5_note 5 RX5 wsX5_note D dX 120 cA ad (EX ad z) := ⟨hx, hb, hml, hown, hts, hK, hj, hE, EX_ok ad z⟩
  have hS : va_S (inA 120 ad) s.heap s.heap [] := va_S.rf
  have hl := lv_entry ([.ref (ad (76 + i0)), .int a1, .int a2, .int a3, .int a4]) (n := 5) (Nat.le_of_ble_eq_true rfl)
  rw [show entryFrame m args 5 = entryFrame m ([.ref (ad (76 + i0)), .int a1, .int a2, .int a3, .int a4] : List Value).toArray 5 by rw [hargs]]
  rw [lg_entry_eq]
  generalize (lg_sl ([.ref (ad (76 + i0)), .int a1, .int a2, .int a3, .int a4]) ++ List.replicate (5 - (lg_sl ([.ref (ad (76 + i0)), .int a1, .int a2, .int a3, .int a4])).length) Slot.unset).toArray = ls at hl ⊢
  have hl : lv_has ls 5 [(0, .ref (ad (76 + i0))), (1, .int a1), (2, .int a2), (3, .int a3), (4, .int a4)] := hl
  obtain ⟨QQ, hQQ⟩ : ∃ Q, Q = MQ below (va_Qv (fun u => u = res) (fun u t => va_P D vwCl (ww dX 120 cA ad u) t.heap) (inA 120 ad)) args s 0 0 (inA 120 ad) := ⟨_, rfl⟩
  show W p l e (headSpec wsX5_note rm_5_note).room s m args below meth c s.heap [] 0 0 (MQ below (va_Qv (fun u => u = res) (fun u t => va_P D vwCl (ww dX 120 cA ad u) t.heap) (inA 120 ad)) args s 0 0 (inA 120 ad)) _
  rw [← hQQ]
  have in5 : ∀ w ∈ wsX50, w ∈ wsX5_note := by decide +kernel
  have lk18 : Cond.fieldLink RX5 18 "CureTown$GuestDay" "done" "I" ∈ wsX5_note := by decide +kernel
  have lk38 : Cond.fieldLink RX5 38 "CureTown$GuestDay" "kinds" "[I" ∈ wsX5_note := by decide +kernel
  have lk31 : Cond.fieldLink RX5 31 "CureTown$GuestDay" "begins" "[I" ∈ wsX5_note := by decide +kernel
  have lk35 : Cond.fieldLink RX5 35 "CureTown$GuestDay" "quarters" "[I" ∈ wsX5_note := by decide +kernel
  have lk41 : Cond.fieldLink RX5 41 "CureTown$GuestDay" "places" "[I" ∈ wsX5_note := by decide +kernel
  have lk21 : Cond.fieldLink RX5 21 "CureTown$GuestDay" "over" "I" ∈ wsX5_note := by decide +kernel
  have lk9 : Cond.fieldLink RX5 9 "CureTown$GuestDay" "now" "I" ∈ wsX5_note := by decide +kernel
  unfold f_5_note at h
  obtain ⟨H, hH⟩ : ∃ H, H = s.heap := ⟨_, rfl⟩
  obtain ⟨locs, hlc⟩ : ∃ q : List Loc, q = [] := ⟨_, rfl⟩
  have hP : va_P D vwCl (ww dX 120 cA ad σ) s.heap := hP
  have hS : va_S (inA 120 ad) s.heap s.heap [] := hS
  rw [← hlc] at hS ⊢
  rw [show W p l e (headSpec wsX5_note rm_5_note).room s m args below meth c s.heap locs 0 0 QQ = W p l e (headSpec wsX5_note rm_5_note).room s m args below meth c H locs 0 0 QQ by rw [hH]]
  have hS : va_S (inA 120 ad) s.heap H locs := by rw [hH]; exact hS
  have hP : va_P D vwCl (ww dX 120 cA ad σ) H := by rw [hH]; exact hP
  clear hH hlc
  refine lv_aload_n hx hb dX5_note_0 rfl (lv_at hl 0 rfl) ?_
  refine x_gi X hP (j := 2) (fam_lt h0 (by decide)) (dX_76 h0) rfl rfl (by decide) in5 lk18 dX5_note_1 ?_
  refine lv_bipush (v := 30) hx hb dX5_note_4 (by decide) ?_
  refine lv_icmp_ge (tgt := 75) hx hb dX5_note_6 (by decide) (fun c1 => ?_) (fun c1 => ?_)
  · have h := it_t c1 h
    subst hQQ
    exact x_rv X hr hlocks hP hS (Option.some.inj h) dX5_note_75
  · have h := it_f c1 h
    refine lv_aload_n hx hb dX5_note_9 rfl (lv_at hl 0 rfl) ?_
    refine x_gr X hP (j := 8) (fam_lt h0 (by decide)) (dX_76 h0) rfl rfl (by decide) in5 lk38 dX5_note_10 ?_
    refine lv_aload_n hx hb dX5_note_13 rfl (lv_at hl 0 rfl) ?_
    refine x_gi X hP (j := 2) (fam_lt h0 (by decide)) (dX_76 h0) rfl rfl (by decide) in5 lk18 dX5_note_14 ?_
    refine lv_iload_n hx hb dX5_note_17 rfl (lv_at hl 1 rfl) ?_
    obtain ⟨g2, h⟩ := gd_some h
    refine x_si X hP hS (fam_lt h0 (by decide)) (dX_100 h0) g2 dX5_note_18 (fun σ3 eσ3 H locs hP hS => ?_)
    have h := nm_some eσ3 h
    refine lv_aload_n hx hb dX5_note_19 rfl (lv_at hl 0 rfl) ?_
    refine x_gr X hP (j := 6) (fam_lt h0 (by decide)) (dX_76 h0) rfl rfl (by decide) in5 lk31 dX5_note_20 ?_
    refine lv_aload_n hx hb dX5_note_23 rfl (lv_at hl 0 rfl) ?_
    refine x_gi X hP (j := 2) (fam_lt h0 (by decide)) (dX_76 h0) rfl rfl (by decide) in5 lk18 dX5_note_24 ?_
    refine lv_iload_n hx hb dX5_note_27 rfl (lv_at hl 2 rfl) ?_
    obtain ⟨g4, h⟩ := gd_some h
    refine x_si X hP hS (fam_lt h0 (by decide)) (dX_84 h0) g4 dX5_note_28 (fun σ5 eσ5 H locs hP hS => ?_)
    have h := nm_some eσ5 h
    refine lv_aload_n hx hb dX5_note_29 rfl (lv_at hl 0 rfl) ?_
    refine x_gr X hP (j := 7) (fam_lt h0 (by decide)) (dX_76 h0) rfl rfl (by decide) in5 lk35 dX5_note_30 ?_
    refine lv_aload_n hx hb dX5_note_33 rfl (lv_at hl 0 rfl) ?_
    refine x_gi X hP (j := 2) (fam_lt h0 (by decide)) (dX_76 h0) rfl rfl (by decide) in5 lk18 dX5_note_34 ?_
    refine lv_iload_n hx hb dX5_note_37 rfl (lv_at hl 3 rfl) ?_
    obtain ⟨g6, h⟩ := gd_some h
    refine x_si X hP hS (fam_lt h0 (by decide)) (dX_92 h0) g6 dX5_note_38 (fun σ7 eσ7 H locs hP hS => ?_)
    have h := nm_some eσ7 h
    refine lv_aload_n hx hb dX5_note_39 rfl (lv_at hl 0 rfl) ?_
    refine x_gr X hP (j := 9) (fam_lt h0 (by decide)) (dX_76 h0) rfl rfl (by decide) in5 lk41 dX5_note_40 ?_
    refine lv_aload_n hx hb dX5_note_43 rfl (lv_at hl 0 rfl) ?_
    refine x_gi X hP (j := 2) (fam_lt h0 (by decide)) (dX_76 h0) rfl rfl (by decide) in5 lk18 dX5_note_44 ?_
    refine lv_iload hx hb dX5_note_47 (lv_at hl 4 rfl) ?_
    obtain ⟨g8, h⟩ := gd_some h
    refine x_si X hP hS (fam_lt h0 (by decide)) (dX_108 h0) g8 dX5_note_49 (fun σ9 eσ9 H locs hP hS => ?_)
    have h := nm_some eσ9 h
    refine lv_aload_n hx hb dX5_note_50 rfl (lv_at hl 0 rfl) ?_
    refine lv_dup hx hb dX5_note_51 rfl ?_
    refine x_gi X hP (j := 2) (fam_lt h0 (by decide)) (dX_76 h0) rfl rfl (by decide) in5 lk18 dX5_note_52 ?_
    refine lv_iconst (v := 1) hx hb dX5_note_55 (by decide) ?_
    refine lv_iadd hx hb dX5_note_56 ?_
    refine lv_topi (fun v10 ev10 => ?_)
    have h := nm_some ev10 h
    refine x_pi X hP hS (j := 2) (fam_lt h0 (by decide)) (dX_76 h0) rfl rfl (by decide) in5 tyX5_ok nmX5 lk18 rfl rfl rfl rfl dX5_note_57 (fun σ11 eσ11 H locs hP hS => ?_)
    have h := nm_some eσ11 h
    refine lv_aload_n hx hb dX5_note_60 rfl (lv_at hl 0 rfl) ?_
    refine lv_iload_n hx hb dX5_note_61 rfl (lv_at hl 2 rfl) ?_
    refine lv_iload_n hx hb dX5_note_62 rfl (lv_at hl 3 rfl) ?_
    refine lv_iadd hx hb dX5_note_63 ?_
    refine lv_topi (fun v12 ev12 => ?_)
    have h := nm_some ev12 h
    refine x_pi X hP hS (j := 3) (fam_lt h0 (by decide)) (dX_76 h0) rfl rfl (by decide) in5 tyX5_ok nmX5 lk21 rfl rfl rfl rfl dX5_note_64 (fun σ13 eσ13 H locs hP hS => ?_)
    have h := nm_some eσ13 h
    refine lv_aload_n hx hb dX5_note_67 rfl (lv_at hl 0 rfl) ?_
    refine lv_aload_n hx hb dX5_note_68 rfl (lv_at hl 0 rfl) ?_
    refine x_gi X hP (j := 3) (fam_lt h0 (by decide)) (dX_76 h0) rfl rfl (by decide) in5 lk21 dX5_note_69 ?_
    refine x_pi X hP hS (j := 0) (fam_lt h0 (by decide)) (dX_76 h0) rfl rfl (by decide) in5 tyX5_ok nmX5 lk9 rfl rfl rfl rfl dX5_note_72 (fun σ14 eσ14 H locs hP hS => ?_)
    have h := nm_some eσ14 h
    subst hQQ
    exact x_rv X hr hlocks hP hS (Option.some.inj h) dX5_note_75
def j_5_tellAct_71 (n : Nat) (i0 : Nat) (a1 : Int32) (σ : St) : Option (Int32 × St) :=
  if a1 < 10 then
    some ((-1), σ)
  else
    nm (a1 - 10) fun v4 =>
    if (σ.1 (76 + i0) 2) ≤ v4 then
      some ((-1), σ)
    else
      nm (a1 - 10) fun v6 =>
      gd (inb v6 30) <| some ((σ.1 (84 + i0) v6.toNatClampNeg), σ)
def j_5_tellAct_27 (n : Nat) (i0 : Nat) (a1 : Int32) (σ : St) : Option (Int32 × St) :=
  if a1 < 50 then
    j_5_tellAct_71 n i0 a1  σ
  else
    nm (a1 - 50) fun v14 =>
    if (σ.1 (76 + i0) 2) ≤ v14 then
      j_5_tellAct_71 n i0 a1  σ
    else
      nm (a1 - 50) fun v16 =>
      gd (inb v16 30) <| if (σ.1 (100 + i0) v16.toNatClampNeg) = 1 then
        nm (a1 - 50) fun v19 =>
        gd (inb v19 30) <| some ((σ.1 (108 + i0) v19.toNatClampNeg), σ)
      else
        some ((-1), σ)
def f_5_tellAct (n : Nat) (σ : St) (i0 : Nat) (a1 : Int32) : Option (Int32 × St) :=
  if a1 < 90 then
    j_5_tellAct_27 n i0 a1  σ
  else
    nm (a1 - 90) fun v41 =>
    if (σ.1 (76 + i0) 2) ≤ v41 then
      j_5_tellAct_27 n i0 a1  σ
    else
      nm (a1 - 90) fun v43 =>
      gd (inb v43 30) <| some ((σ.1 (100 + i0) v43.toNatClampNeg), σ)
abbrev rm_5_tellAct : Room := { frames := 0, cells := 0, slots := 0, locals := 0 }
set_option maxRecDepth 100000 in
set_option maxHeartbeats 4000000 in
theorem k_5_tellAct (l : Launch) (D : va_G) (cA : Nat → ClassId) (ad : Nat → Nat) (z : ZX) (hj : inj 120 ad) (n : Nat) (σ : St) (i0 : Nat) (a1 : Int32) (h0 : i0 < 8) {res : Int32 × St} (h : f_5_tellAct n σ i0 a1 = some res) : MXi l D dX 120 cA ad (EX ad z) yX5_tellAct wsX5_tellAct rm_5_tellAct [.ref (ad (76 + i0)), .int a1] σ res := by
  refine Met.ofW (cc := cX5_tellAct) (maxL := 2) (ret := (some .int)) (by decide) rfl ?_
  intro p e s m args below meth c s₁ B hml hv
  obtain ⟨hargs, hP, hK, hE⟩ := hv
  have hx := B.exec
  have hb := B.bytes
  have hr := B.returns
  have hts := atoms_spec (ws := wsX5_tellAct) B.pre
  have hown : s.vm.findClass RX5 = some m.cls := findClass_of_methodNamed B.named
  have hlocks := B.notSynchronized
  have X : Cx p s m args c cX5_tellAct 2 RX5 wsX5_tellAct D dX 120 cA ad (EX ad z) := ⟨hx, hb, hml, hown, hts, hK, hj, hE, EX_ok ad z⟩
  have hS : va_S (inA 120 ad) s.heap s.heap [] := va_S.rf
  have hl := lv_entry ([.ref (ad (76 + i0)), .int a1]) (n := 2) (Nat.le_of_ble_eq_true rfl)
  rw [show entryFrame m args 2 = entryFrame m ([.ref (ad (76 + i0)), .int a1] : List Value).toArray 2 by rw [hargs]]
  rw [lg_entry_eq]
  generalize (lg_sl ([.ref (ad (76 + i0)), .int a1]) ++ List.replicate (2 - (lg_sl ([.ref (ad (76 + i0)), .int a1])).length) Slot.unset).toArray = ls at hl ⊢
  have hl : lv_has ls 2 [(0, .ref (ad (76 + i0))), (1, .int a1)] := hl
  obtain ⟨QQ, hQQ⟩ : ∃ Q, Q = MQ below (va_Qi (fun r u => r = res.1 ∧ u = res.2) (fun u t => va_P D vwCl (ww dX 120 cA ad u) t.heap) (inA 120 ad)) args s 0 0 (inA 120 ad) := ⟨_, rfl⟩
  show W p l e (headSpec wsX5_tellAct rm_5_tellAct).room s m args below meth c s.heap [] 0 0 (MQ below (va_Qi (fun r u => r = res.1 ∧ u = res.2) (fun u t => va_P D vwCl (ww dX 120 cA ad u) t.heap) (inA 120 ad)) args s 0 0 (inA 120 ad)) _
  rw [← hQQ]
  have in5 : ∀ w ∈ wsX50, w ∈ wsX5_tellAct := by decide +kernel
  have lk18 : Cond.fieldLink RX5 18 "CureTown$GuestDay" "done" "I" ∈ wsX5_tellAct := by decide +kernel
  have lk31 : Cond.fieldLink RX5 31 "CureTown$GuestDay" "begins" "[I" ∈ wsX5_tellAct := by decide +kernel
  have lk38 : Cond.fieldLink RX5 38 "CureTown$GuestDay" "kinds" "[I" ∈ wsX5_tellAct := by decide +kernel
  have lk41 : Cond.fieldLink RX5 41 "CureTown$GuestDay" "places" "[I" ∈ wsX5_tellAct := by decide +kernel
  unfold f_5_tellAct at h
  obtain ⟨H, hH⟩ : ∃ H, H = s.heap := ⟨_, rfl⟩
  obtain ⟨locs, hlc⟩ : ∃ q : List Loc, q = [] := ⟨_, rfl⟩
  have hP : va_P D vwCl (ww dX 120 cA ad σ) s.heap := hP
  have hS : va_S (inA 120 ad) s.heap s.heap [] := hS
  rw [← hlc] at hS ⊢
  rw [show W p l e (headSpec wsX5_tellAct rm_5_tellAct).room s m args below meth c s.heap locs 0 0 QQ = W p l e (headSpec wsX5_tellAct rm_5_tellAct).room s m args below meth c H locs 0 0 QQ by rw [hH]]
  have hS : va_S (inA 120 ad) s.heap H locs := by rw [hH]; exact hS
  have hP : va_P D vwCl (ww dX 120 cA ad σ) H := by rw [hH]; exact hP
  clear hH hlc
  refine lv_iload_n hx hb dX5_tellAct_0 rfl (lv_at hl 1 rfl) ?_
  refine lv_bipush (v := 90) hx hb dX5_tellAct_1 (by decide) ?_
  have hJ27 : ∀ (σ1 : St), j_5_tellAct_27 n i0 a1 σ1 = some res → ∀ (H : Heap) (locs : List Loc) (ls : Array Slot), va_P D vwCl (ww dX 120 cA ad σ1) H → va_S (inA 120 ad) s.heap H locs → lv_has ls 2 [(0, .ref (ad (76 + i0))), (1, .int a1)] → W p l e (headSpec wsX5_tellAct rm_5_tellAct).room s m args below meth c H locs 0 0 QQ (F0 m 27 ls []) := by
    clear h hP hS hl
    intro  σ1 h H locs ls hP hS hl
    unfold j_5_tellAct_27 at h
    refine lv_iload_n hx hb dX5_tellAct_27 rfl (lv_at hl 1 rfl) ?_
    refine lv_bipush (v := 50) hx hb dX5_tellAct_28 (by decide) ?_
    have hJ71 : ∀ (σ21 : St), j_5_tellAct_71 n i0 a1 σ21 = some res → ∀ (H : Heap) (locs : List Loc) (ls : Array Slot), va_P D vwCl (ww dX 120 cA ad σ21) H → va_S (inA 120 ad) s.heap H locs → lv_has ls 2 [(0, .ref (ad (76 + i0))), (1, .int a1)] → W p l e (headSpec wsX5_tellAct rm_5_tellAct).room s m args below meth c H locs 0 0 QQ (F0 m 71 ls []) := by
      clear h hP hS hl
      intro  σ21 h H locs ls hP hS hl
      unfold j_5_tellAct_71 at h
      refine lv_iload_n hx hb dX5_tellAct_71 rfl (lv_at hl 1 rfl) ?_
      refine lv_bipush (v := 10) hx hb dX5_tellAct_72 (by decide) ?_
      refine lv_icmp_lt (tgt := 100) hx hb dX5_tellAct_74 (by decide) (fun c27 => ?_) (fun c27 => ?_)
      · have h := it_t c27 h
        refine lv_iconst (v := (-1)) hx hb dX5_tellAct_100 (by decide) ?_
        subst hQQ
        exact x_ri (σ0 := (fun _ _ => 0, fun _ _ => 0)) X hr hlocks hP hS (Option.some.inj h) dX5_tellAct_101
      · have h := it_f c27 h
        refine lv_iload_n hx hb dX5_tellAct_77 rfl (lv_at hl 1 rfl) ?_
        refine lv_bipush (v := 10) hx hb dX5_tellAct_78 (by decide) ?_
        refine lv_isub hx hb dX5_tellAct_80 ?_
        refine lv_topi (fun v28 ev28 => ?_)
        have h := nm_some ev28 h
        refine lv_aload_n hx hb dX5_tellAct_81 rfl (lv_at hl 0 rfl) ?_
        refine x_gi X hP (j := 2) (fam_lt h0 (by decide)) (dX_76 h0) rfl rfl (by decide) in5 lk18 dX5_tellAct_82 ?_
        refine lv_icmp_ge (tgt := 100) hx hb dX5_tellAct_85 (by decide) (fun c29 => ?_) (fun c29 => ?_)
        · have h := it_t c29 h
          refine lv_iconst (v := (-1)) hx hb dX5_tellAct_100 (by decide) ?_
          subst hQQ
          exact x_ri (σ0 := (fun _ _ => 0, fun _ _ => 0)) X hr hlocks hP hS (Option.some.inj h) dX5_tellAct_101
        · have h := it_f c29 h
          refine lv_aload_n hx hb dX5_tellAct_88 rfl (lv_at hl 0 rfl) ?_
          refine x_gr X hP (j := 6) (fam_lt h0 (by decide)) (dX_76 h0) rfl rfl (by decide) in5 lk31 dX5_tellAct_89 ?_
          refine lv_iload_n hx hb dX5_tellAct_92 rfl (lv_at hl 1 rfl) ?_
          refine lv_bipush (v := 10) hx hb dX5_tellAct_93 (by decide) ?_
          refine lv_isub hx hb dX5_tellAct_95 ?_
          refine lv_topi (fun v30 ev30 => ?_)
          have h := nm_some ev30 h
          obtain ⟨g31, h⟩ := gd_some h
          refine x_ai X hP (fam_lt h0 (by decide)) (dX_84 h0) g31 dX5_tellAct_96 ?_
          refine lv_goto (tgt := 101) hx hb dX5_tellAct_97 (by decide) ?_
          subst hQQ
          exact x_ri (σ0 := (fun _ _ => 0, fun _ _ => 0)) X hr hlocks hP hS (Option.some.inj h) dX5_tellAct_101
    refine lv_icmp_lt (tgt := 71) hx hb dX5_tellAct_30 (by decide) (fun c32 => ?_) (fun c32 => ?_)
    · have h := it_t c32 h
      exact hJ71   σ1 h H locs ls hP hS (lv_sub hl [0, 1] rfl)
    · have h := it_f c32 h
      refine lv_iload_n hx hb dX5_tellAct_33 rfl (lv_at hl 1 rfl) ?_
      refine lv_bipush (v := 50) hx hb dX5_tellAct_34 (by decide) ?_
      refine lv_isub hx hb dX5_tellAct_36 ?_
      refine lv_topi (fun v33 ev33 => ?_)
      have h := nm_some ev33 h
      refine lv_aload_n hx hb dX5_tellAct_37 rfl (lv_at hl 0 rfl) ?_
      refine x_gi X hP (j := 2) (fam_lt h0 (by decide)) (dX_76 h0) rfl rfl (by decide) in5 lk18 dX5_tellAct_38 ?_
      refine lv_icmp_ge (tgt := 71) hx hb dX5_tellAct_41 (by decide) (fun c34 => ?_) (fun c34 => ?_)
      · have h := it_t c34 h
        exact hJ71   σ1 h H locs ls hP hS (lv_sub hl [0, 1] rfl)
      · have h := it_f c34 h
        refine lv_aload_n hx hb dX5_tellAct_44 rfl (lv_at hl 0 rfl) ?_
        refine x_gr X hP (j := 8) (fam_lt h0 (by decide)) (dX_76 h0) rfl rfl (by decide) in5 lk38 dX5_tellAct_45 ?_
        refine lv_iload_n hx hb dX5_tellAct_48 rfl (lv_at hl 1 rfl) ?_
        refine lv_bipush (v := 50) hx hb dX5_tellAct_49 (by decide) ?_
        refine lv_isub hx hb dX5_tellAct_51 ?_
        refine lv_topi (fun v35 ev35 => ?_)
        have h := nm_some ev35 h
        obtain ⟨g36, h⟩ := gd_some h
        refine x_ai X hP (fam_lt h0 (by decide)) (dX_100 h0) g36 dX5_tellAct_52 ?_
        refine lv_iconst (v := 1) hx hb dX5_tellAct_53 (by decide) ?_
        refine lv_icmp_ne (tgt := 69) hx hb dX5_tellAct_54 (by decide) (fun c37 => ?_) (fun c37 => ?_)
        · have h := it_f c37 h
          refine lv_iconst (v := (-1)) hx hb dX5_tellAct_69 (by decide) ?_
          subst hQQ
          exact x_ri (σ0 := (fun _ _ => 0, fun _ _ => 0)) X hr hlocks hP hS (Option.some.inj h) dX5_tellAct_70
        · have h := it_t c37 h
          refine lv_aload_n hx hb dX5_tellAct_57 rfl (lv_at hl 0 rfl) ?_
          refine x_gr X hP (j := 9) (fam_lt h0 (by decide)) (dX_76 h0) rfl rfl (by decide) in5 lk41 dX5_tellAct_58 ?_
          refine lv_iload_n hx hb dX5_tellAct_61 rfl (lv_at hl 1 rfl) ?_
          refine lv_bipush (v := 50) hx hb dX5_tellAct_62 (by decide) ?_
          refine lv_isub hx hb dX5_tellAct_64 ?_
          refine lv_topi (fun v38 ev38 => ?_)
          have h := nm_some ev38 h
          obtain ⟨g39, h⟩ := gd_some h
          refine x_ai X hP (fam_lt h0 (by decide)) (dX_108 h0) g39 dX5_tellAct_65 ?_
          refine lv_goto (tgt := 70) hx hb dX5_tellAct_66 (by decide) ?_
          subst hQQ
          exact x_ri (σ0 := (fun _ _ => 0, fun _ _ => 0)) X hr hlocks hP hS (Option.some.inj h) dX5_tellAct_70
  refine lv_icmp_lt (tgt := 27) hx hb dX5_tellAct_3 (by decide) (fun c40 => ?_) (fun c40 => ?_)
  · have h := it_t c40 h
    exact hJ27   σ h H locs ls hP hS (lv_sub hl [0, 1] rfl)
  · have h := it_f c40 h
    refine lv_iload_n hx hb dX5_tellAct_6 rfl (lv_at hl 1 rfl) ?_
    refine lv_bipush (v := 90) hx hb dX5_tellAct_7 (by decide) ?_
    refine lv_isub hx hb dX5_tellAct_9 ?_
    refine lv_topi (fun v41 ev41 => ?_)
    have h := nm_some ev41 h
    refine lv_aload_n hx hb dX5_tellAct_10 rfl (lv_at hl 0 rfl) ?_
    refine x_gi X hP (j := 2) (fam_lt h0 (by decide)) (dX_76 h0) rfl rfl (by decide) in5 lk18 dX5_tellAct_11 ?_
    refine lv_icmp_ge (tgt := 27) hx hb dX5_tellAct_14 (by decide) (fun c42 => ?_) (fun c42 => ?_)
    · have h := it_t c42 h
      exact hJ27   σ h H locs ls hP hS (lv_sub hl [0, 1] rfl)
    · have h := it_f c42 h
      refine lv_aload_n hx hb dX5_tellAct_17 rfl (lv_at hl 0 rfl) ?_
      refine x_gr X hP (j := 8) (fam_lt h0 (by decide)) (dX_76 h0) rfl rfl (by decide) in5 lk38 dX5_tellAct_18 ?_
      refine lv_iload_n hx hb dX5_tellAct_21 rfl (lv_at hl 1 rfl) ?_
      refine lv_bipush (v := 90) hx hb dX5_tellAct_22 (by decide) ?_
      refine lv_isub hx hb dX5_tellAct_24 ?_
      refine lv_topi (fun v43 ev43 => ?_)
      have h := nm_some ev43 h
      obtain ⟨g44, h⟩ := gd_some h
      refine x_ai X hP (fam_lt h0 (by decide)) (dX_100 h0) g44 dX5_tellAct_25 ?_
      subst hQQ
      exact x_ri (σ0 := (fun _ _ => 0, fun _ _ => 0)) X hr hlocks hP hS (Option.some.inj h) dX5_tellAct_26
def f_5_tell (n : Nat) (σ : St) (i0 : Nat) (a1 : Int32) : Option (Int32 × St) :=
  if a1 = 0 then
    some ((σ.1 (76 + i0) 2), σ)
  else if a1 = 1 then
    some ((σ.1 (76 + i0) 3), σ)
  else if a1 = 2 then
    some ((σ.1 (76 + i0) 4), σ)
  else if a1 = 3 then
    if (σ.1 (76 + i0) 5) = 0 then
      some (0, σ)
    else
      some (1, σ)
  else 
    (f_5_tellAct n σ i0 a1).bind fun r6 =>
    some (r6.1, r6.2)
abbrev rm_5_tell : Room := { frames := 1, cells := 0, slots := 0, locals := 21 }
set_option maxRecDepth 100000 in
set_option maxHeartbeats 4000000 in
theorem k_5_tell (l : Launch) (D : va_G) (cA : Nat → ClassId) (ad : Nat → Nat) (z : ZX) (hj : inj 120 ad) (n : Nat) (σ : St) (i0 : Nat) (a1 : Int32) (h0 : i0 < 8) {res : Int32 × St} (h : f_5_tell n σ i0 a1 = some res) : MXi l D dX 120 cA ad (EX ad z) yX5_tell wsX5_tell rm_5_tell [.ref (ad (76 + i0)), .int a1] σ res := by
  refine Met.ofW (cc := cX5_tell) (maxL := 2) (ret := (some .int)) (by decide) rfl ?_
  intro p e s m args below meth c s₁ B hml hv
  obtain ⟨hargs, hP, hK, hE⟩ := hv
  have hx := B.exec
  have hb := B.bytes
  have hr := B.returns
  have hts := atoms_spec (ws := wsX5_tell) B.pre
  have hown : s.vm.findClass RX5 = some m.cls := findClass_of_methodNamed B.named
  have hlocks := B.notSynchronized
  have X : Cx p s m args c cX5_tell 2 RX5 wsX5_tell D dX 120 cA ad (EX ad z) := ⟨hx, hb, hml, hown, hts, hK, hj, hE, EX_ok ad z⟩
  have hS : va_S (inA 120 ad) s.heap s.heap [] := va_S.rf
  have hl := lv_entry ([.ref (ad (76 + i0)), .int a1]) (n := 2) (Nat.le_of_ble_eq_true rfl)
  rw [show entryFrame m args 2 = entryFrame m ([.ref (ad (76 + i0)), .int a1] : List Value).toArray 2 by rw [hargs]]
  rw [lg_entry_eq]
  generalize (lg_sl ([.ref (ad (76 + i0)), .int a1]) ++ List.replicate (2 - (lg_sl ([.ref (ad (76 + i0)), .int a1])).length) Slot.unset).toArray = ls at hl ⊢
  have hl : lv_has ls 2 [(0, .ref (ad (76 + i0))), (1, .int a1)] := hl
  obtain ⟨QQ, hQQ⟩ : ∃ Q, Q = MQ below (va_Qi (fun r u => r = res.1 ∧ u = res.2) (fun u t => va_P D vwCl (ww dX 120 cA ad u) t.heap) (inA 120 ad)) args s 0 0 (inA 120 ad) := ⟨_, rfl⟩
  show W p l e (headSpec wsX5_tell rm_5_tell).room s m args below meth c s.heap [] 0 0 (MQ below (va_Qi (fun r u => r = res.1 ∧ u = res.2) (fun u t => va_P D vwCl (ww dX 120 cA ad u) t.heap) (inA 120 ad)) args s 0 0 (inA 120 ad)) _
  rw [← hQQ]
  have in5 : ∀ w ∈ wsX50, w ∈ wsX5_tell := by decide +kernel
  have lk18 : Cond.fieldLink RX5 18 "CureTown$GuestDay" "done" "I" ∈ wsX5_tell := by decide +kernel
  have lk21 : Cond.fieldLink RX5 21 "CureTown$GuestDay" "over" "I" ∈ wsX5_tell := by decide +kernel
  have lk24 : Cond.fieldLink RX5 24 "CureTown$GuestDay" "glasses" "I" ∈ wsX5_tell := by decide +kernel
  have lk27 : Cond.fieldLink RX5 27 "CureTown$GuestDay" "isLost" "Z" ∈ wsX5_tell := by decide +kernel
  unfold f_5_tell at h
  obtain ⟨H, hH⟩ : ∃ H, H = s.heap := ⟨_, rfl⟩
  obtain ⟨locs, hlc⟩ : ∃ q : List Loc, q = [] := ⟨_, rfl⟩
  have hP : va_P D vwCl (ww dX 120 cA ad σ) s.heap := hP
  have hS : va_S (inA 120 ad) s.heap s.heap [] := hS
  rw [← hlc] at hS ⊢
  rw [show W p l e (headSpec wsX5_tell rm_5_tell).room s m args below meth c s.heap locs 0 0 QQ = W p l e (headSpec wsX5_tell rm_5_tell).room s m args below meth c H locs 0 0 QQ by rw [hH]]
  have hS : va_S (inA 120 ad) s.heap H locs := by rw [hH]; exact hS
  have hP : va_P D vwCl (ww dX 120 cA ad σ) H := by rw [hH]; exact hP
  clear hH hlc
  refine lv_iload_n hx hb dX5_tell_0 rfl (lv_at hl 1 rfl) ?_
  by_cases c1 : a1 = 0
  · have h := it_t c1 h
    refine lv_tableIn (off := 31) (tgt := 32) hx hb dX5_tell_1 (by rw [c1]; decide) (by rw [c1]; decide) (by rw [c1]; rfl) (by decide) ?_
    refine lv_aload_n hx hb dX5_tell_32 rfl (lv_at hl 0 rfl) ?_
    refine x_gi X hP (j := 2) (fam_lt h0 (by decide)) (dX_76 h0) rfl rfl (by decide) in5 lk18 dX5_tell_33 ?_
    subst hQQ
    exact x_ri (σ0 := (fun _ _ => 0, fun _ _ => 0)) X hr hlocks hP hS (Option.some.inj h) dX5_tell_36
  · have h := it_f c1 h
    by_cases c2 : a1 = 1
    · have h := it_t c2 h
      refine lv_tableIn (off := 36) (tgt := 37) hx hb dX5_tell_1 (by rw [c2]; decide) (by rw [c2]; decide) (by rw [c2]; rfl) (by decide) ?_
      refine lv_aload_n hx hb dX5_tell_37 rfl (lv_at hl 0 rfl) ?_
      refine x_gi X hP (j := 3) (fam_lt h0 (by decide)) (dX_76 h0) rfl rfl (by decide) in5 lk21 dX5_tell_38 ?_
      subst hQQ
      exact x_ri (σ0 := (fun _ _ => 0, fun _ _ => 0)) X hr hlocks hP hS (Option.some.inj h) dX5_tell_41
    · have h := it_f c2 h
      by_cases c3 : a1 = 2
      · have h := it_t c3 h
        refine lv_tableIn (off := 41) (tgt := 42) hx hb dX5_tell_1 (by rw [c3]; decide) (by rw [c3]; decide) (by rw [c3]; rfl) (by decide) ?_
        refine lv_aload_n hx hb dX5_tell_42 rfl (lv_at hl 0 rfl) ?_
        refine x_gi X hP (j := 4) (fam_lt h0 (by decide)) (dX_76 h0) rfl rfl (by decide) in5 lk24 dX5_tell_43 ?_
        subst hQQ
        exact x_ri (σ0 := (fun _ _ => 0, fun _ _ => 0)) X hr hlocks hP hS (Option.some.inj h) dX5_tell_46
      · have h := it_f c3 h
        by_cases c4 : a1 = 3
        · have h := it_t c4 h
          refine lv_tableIn (off := 46) (tgt := 47) hx hb dX5_tell_1 (by rw [c4]; decide) (by rw [c4]; decide) (by rw [c4]; rfl) (by decide) ?_
          refine lv_aload_n hx hb dX5_tell_47 rfl (lv_at hl 0 rfl) ?_
          refine x_gi X hP (j := 5) (fam_lt h0 (by decide)) (dX_76 h0) rfl rfl (by decide) in5 lk27 dX5_tell_48 ?_
          refine lv_if_eq (tgt := 58) hx hb dX5_tell_51 (by decide) (fun c5 => ?_) (fun c5 => ?_)
          · have h := it_t c5 h
            refine lv_iconst (v := 0) hx hb dX5_tell_58 (by decide) ?_
            subst hQQ
            exact x_ri (σ0 := (fun _ _ => 0, fun _ _ => 0)) X hr hlocks hP hS (Option.some.inj h) dX5_tell_59
          · have h := it_f c5 h
            refine lv_iconst (v := 1) hx hb dX5_tell_54 (by decide) ?_
            refine lv_goto (tgt := 59) hx hb dX5_tell_55 (by decide) ?_
            subst hQQ
            exact x_ri (σ0 := (fun _ _ => 0, fun _ _ => 0)) X hr hlocks hP hS (Option.some.inj h) dX5_tell_59
        · have h := it_f c4 h
          refine lv_tableOut (tgt := 60) hx hb dX5_tell_1 (tb_out 3 (tb_c c4 <| (tb_c c3 <| (tb_c c2 <| (tb_c c1 <| tb_0))))) (by decide) ?_
          refine lv_aload_n hx hb dX5_tell_60 rfl (lv_at hl 0 rfl) ?_
          refine lv_iload_n hx hb dX5_tell_61 rfl (lv_at hl 1 rfl) ?_
          obtain ⟨r6, k7, h⟩ := bd_some h
          refine x_Vi (rest := []) X hP hS (k_5_tellAct l D cA ad z hj n σ i0 a1 h0 k7) (fam_lt h0 (by decide)) (dX_76 h0) rfl 1 gX5_tell_X5_tellAct rfl rfl rfl (by decide +kernel) ⟨Nat.le_of_ble_eq_true rfl, Nat.le_of_ble_eq_true rfl⟩ rfl hl.1 rfl (Nat.le_of_ble_eq_true rfl) dX5_tell_62 ⟨Nat.zero_le _, Nat.zero_le _⟩ (fun H locs hP hS => ?_)
          subst hQQ
          exact x_ri (σ0 := (fun _ _ => 0, fun _ _ => 0)) X hr hlocks hP hS (Option.some.inj h) dX5_tell_65
def f_4_come (n : Nat) (σ : St) (i0 : Nat) (a1 : Int32) (a2 : Int32) (a3 : Int32) (a4 : Int32) (a5 : Int32) : Option (St) :=
  nm (si σ (36 + i0) 0 a1) fun σ1 =>
  nm (si σ1 (36 + i0) 1 a2) fun σ2 =>
  nm (si σ2 (36 + i0) 2 a3) fun σ3 =>
  nm (si σ3 (36 + i0) 3 a4) fun σ4 =>
  nm (si σ4 (36 + i0) 4 a5) fun σ5 =>
  some σ5
abbrev rm_4_come : Room := { frames := 0, cells := 0, slots := 0, locals := 0 }
set_option maxRecDepth 100000 in
set_option maxHeartbeats 4000000 in
theorem k_4_come (l : Launch) (D : va_G) (cA : Nat → ClassId) (ad : Nat → Nat) (z : ZX) (hj : inj 120 ad) (n : Nat) (σ : St) (i0 : Nat) (a1 : Int32) (a2 : Int32) (a3 : Int32) (a4 : Int32) (a5 : Int32) (h0 : i0 < 8) {res : St} (h : f_4_come n σ i0 a1 a2 a3 a4 a5 = some res) : MXv l D dX 120 cA ad (EX ad z) yX4_come wsX4_come rm_4_come [.ref (ad (36 + i0)), .int a1, .int a2, .int a3, .int a4, .int a5] σ res := by
  refine Met.ofW (cc := cX4_come) (maxL := 6) (ret := none) (by decide) rfl ?_
  intro p e s m args below meth c s₁ B hml hv
  obtain ⟨hargs, hP, hK, hE⟩ := hv
  have hx := B.exec
  have hb := B.bytes
  have hr := B.returns
  have hts := atoms_spec (ws := wsX4_come) B.pre
  have hown : s.vm.findClass RX4 = some m.cls := findClass_of_methodNamed B.named
  have hlocks := B.notSynchronized
  have X : Cx p s m args c cX4_come 6 RX4 wsX4_come D dX 120 cA ad (EX ad z) := ⟨hx, hb, hml, hown, hts, hK, hj, hE, EX_ok ad z⟩
  have hS : va_S (inA 120 ad) s.heap s.heap [] := va_S.rf
  have hl := lv_entry ([.ref (ad (36 + i0)), .int a1, .int a2, .int a3, .int a4, .int a5]) (n := 6) (Nat.le_of_ble_eq_true rfl)
  rw [show entryFrame m args 6 = entryFrame m ([.ref (ad (36 + i0)), .int a1, .int a2, .int a3, .int a4, .int a5] : List Value).toArray 6 by rw [hargs]]
  rw [lg_entry_eq]
  generalize (lg_sl ([.ref (ad (36 + i0)), .int a1, .int a2, .int a3, .int a4, .int a5]) ++ List.replicate (6 - (lg_sl ([.ref (ad (36 + i0)), .int a1, .int a2, .int a3, .int a4, .int a5])).length) Slot.unset).toArray = ls at hl ⊢
  have hl : lv_has ls 6 [(0, .ref (ad (36 + i0))), (1, .int a1), (2, .int a2), (3, .int a3), (4, .int a4), (5, .int a5)] := hl
  obtain ⟨QQ, hQQ⟩ : ∃ Q, Q = MQ below (va_Qv (fun u => u = res) (fun u t => va_P D vwCl (ww dX 120 cA ad u) t.heap) (inA 120 ad)) args s 0 0 (inA 120 ad) := ⟨_, rfl⟩
  show W p l e (headSpec wsX4_come rm_4_come).room s m args below meth c s.heap [] 0 0 (MQ below (va_Qv (fun u => u = res) (fun u t => va_P D vwCl (ww dX 120 cA ad u) t.heap) (inA 120 ad)) args s 0 0 (inA 120 ad)) _
  rw [← hQQ]
  have in4 : ∀ w ∈ wsX40, w ∈ wsX4_come := by decide +kernel
  have lk7 : Cond.fieldLink RX4 7 "CureTown$Guest" "rank" "I" ∈ wsX4_come := by decide +kernel
  have lk13 : Cond.fieldLink RX4 13 "CureTown$Guest" "regimen" "I" ∈ wsX4_come := by decide +kernel
  have lk16 : Cond.fieldLink RX4 16 "CureTown$Guest" "from" "I" ∈ wsX4_come := by decide +kernel
  have lk19 : Cond.fieldLink RX4 19 "CureTown$Guest" "to" "I" ∈ wsX4_come := by decide +kernel
  have lk22 : Cond.fieldLink RX4 22 "CureTown$Guest" "bound" "I" ∈ wsX4_come := by decide +kernel
  unfold f_4_come at h
  obtain ⟨H, hH⟩ : ∃ H, H = s.heap := ⟨_, rfl⟩
  obtain ⟨locs, hlc⟩ : ∃ q : List Loc, q = [] := ⟨_, rfl⟩
  have hP : va_P D vwCl (ww dX 120 cA ad σ) s.heap := hP
  have hS : va_S (inA 120 ad) s.heap s.heap [] := hS
  rw [← hlc] at hS ⊢
  rw [show W p l e (headSpec wsX4_come rm_4_come).room s m args below meth c s.heap locs 0 0 QQ = W p l e (headSpec wsX4_come rm_4_come).room s m args below meth c H locs 0 0 QQ by rw [hH]]
  have hS : va_S (inA 120 ad) s.heap H locs := by rw [hH]; exact hS
  have hP : va_P D vwCl (ww dX 120 cA ad σ) H := by rw [hH]; exact hP
  clear hH hlc
  refine lv_aload_n hx hb dX4_come_0 rfl (lv_at hl 0 rfl) ?_
  refine lv_iload_n hx hb dX4_come_1 rfl (lv_at hl 1 rfl) ?_
  refine x_pi X hP hS (j := 0) (fam_lt h0 (by decide)) (dX_36 h0) rfl rfl (by decide) in4 tyX4_ok nmX4 lk7 rfl rfl rfl rfl dX4_come_2 (fun σ1 eσ1 H locs hP hS => ?_)
  have h := nm_some eσ1 h
  refine lv_aload_n hx hb dX4_come_5 rfl (lv_at hl 0 rfl) ?_
  refine lv_iload_n hx hb dX4_come_6 rfl (lv_at hl 2 rfl) ?_
  refine x_pi X hP hS (j := 1) (fam_lt h0 (by decide)) (dX_36 h0) rfl rfl (by decide) in4 tyX4_ok nmX4 lk13 rfl rfl rfl rfl dX4_come_7 (fun σ2 eσ2 H locs hP hS => ?_)
  have h := nm_some eσ2 h
  refine lv_aload_n hx hb dX4_come_10 rfl (lv_at hl 0 rfl) ?_
  refine lv_iload_n hx hb dX4_come_11 rfl (lv_at hl 3 rfl) ?_
  refine x_pi X hP hS (j := 2) (fam_lt h0 (by decide)) (dX_36 h0) rfl rfl (by decide) in4 tyX4_ok nmX4 lk16 rfl rfl rfl rfl dX4_come_12 (fun σ3 eσ3 H locs hP hS => ?_)
  have h := nm_some eσ3 h
  refine lv_aload_n hx hb dX4_come_15 rfl (lv_at hl 0 rfl) ?_
  refine lv_iload hx hb dX4_come_16 (lv_at hl 4 rfl) ?_
  refine x_pi X hP hS (j := 3) (fam_lt h0 (by decide)) (dX_36 h0) rfl rfl (by decide) in4 tyX4_ok nmX4 lk19 rfl rfl rfl rfl dX4_come_18 (fun σ4 eσ4 H locs hP hS => ?_)
  have h := nm_some eσ4 h
  refine lv_aload_n hx hb dX4_come_21 rfl (lv_at hl 0 rfl) ?_
  refine lv_iload hx hb dX4_come_22 (lv_at hl 5 rfl) ?_
  refine x_pi X hP hS (j := 4) (fam_lt h0 (by decide)) (dX_36 h0) rfl rfl (by decide) in4 tyX4_ok nmX4 lk22 rfl rfl rfl rfl dX4_come_24 (fun σ5 eσ5 H locs hP hS => ?_)
  have h := nm_some eσ5 h
  subst hQQ
  exact x_rv X hr hlocks hP hS (Option.some.inj h) dX4_come_27
def f_7_closeDay (n : Nat) (σ : St) (i0 : Nat) (a1 : Int32) (a2 : Int32) : Option (St) :=
  nm ((σ.1 (22 + i0) 2) - (σ.1 (22 + i0) 1)) fun v1 =>
  nm ((σ.1 (22 + i0) 0) * v1) fun v2 =>
  nm (v2 - a2) fun v3 =>
  nm (v3 / 10) fun v4 =>
  nm ((σ.1 (22 + i0) 4) + v2) fun v5 =>
  nm (si σ (22 + i0) 4 v5) fun σ6 =>
  nm ((σ6.1 (22 + i0) 5) + a2) fun v7 =>
  nm (si σ6 (22 + i0) 5 v7) fun σ8 =>
  nm ((σ8.1 (22 + i0) 6) + v4) fun v9 =>
  nm (si σ8 (22 + i0) 6 v9) fun σ10 =>
  nm (v3 - v3 / 10 * 10) fun v11 =>
  nm ((σ10.1 (22 + i0) 7) + v11) fun v12 =>
  nm (si σ10 (22 + i0) 7 v12) fun σ13 =>
  gd (inb a1 100) <| nm (si σ13 (26 + i0) (a1.toNatClampNeg) v4) fun σ15 =>
  some σ15
abbrev rm_7_closeDay : Room := { frames := 0, cells := 0, slots := 0, locals := 0 }
set_option maxRecDepth 100000 in
set_option maxHeartbeats 4000000 in
theorem k_7_closeDay (l : Launch) (D : va_G) (cA : Nat → ClassId) (ad : Nat → Nat) (z : ZX) (hj : inj 120 ad) (n : Nat) (σ : St) (i0 : Nat) (a1 : Int32) (a2 : Int32) (h0 : i0 < 4) {res : St} (h : f_7_closeDay n σ i0 a1 a2 = some res) : MXv l D dX 120 cA ad (EX ad z) yX7_closeDay wsX7_closeDay rm_7_closeDay [.ref (ad (22 + i0)), .int a1, .int a2] σ res := by
  refine Met.ofW (cc := cX7_closeDay) (maxL := 6) (ret := none) (by decide) rfl ?_
  intro p e s m args below meth c s₁ B hml hv
  obtain ⟨hargs, hP, hK, hE⟩ := hv
  have hx := B.exec
  have hb := B.bytes
  have hr := B.returns
  have hts := atoms_spec (ws := wsX7_closeDay) B.pre
  have hown : s.vm.findClass RX7 = some m.cls := findClass_of_methodNamed B.named
  have hlocks := B.notSynchronized
  have X : Cx p s m args c cX7_closeDay 6 RX7 wsX7_closeDay D dX 120 cA ad (EX ad z) := ⟨hx, hb, hml, hown, hts, hK, hj, hE, EX_ok ad z⟩
  have hS : va_S (inA 120 ad) s.heap s.heap [] := va_S.rf
  have hl := lv_entry ([.ref (ad (22 + i0)), .int a1, .int a2]) (n := 6) (Nat.le_of_ble_eq_true rfl)
  rw [show entryFrame m args 6 = entryFrame m ([.ref (ad (22 + i0)), .int a1, .int a2] : List Value).toArray 6 by rw [hargs]]
  rw [lg_entry_eq]
  generalize (lg_sl ([.ref (ad (22 + i0)), .int a1, .int a2]) ++ List.replicate (6 - (lg_sl ([.ref (ad (22 + i0)), .int a1, .int a2])).length) Slot.unset).toArray = ls at hl ⊢
  have hl : lv_has ls 6 [(0, .ref (ad (22 + i0))), (1, .int a1), (2, .int a2)] := hl
  obtain ⟨QQ, hQQ⟩ : ∃ Q, Q = MQ below (va_Qv (fun u => u = res) (fun u t => va_P D vwCl (ww dX 120 cA ad u) t.heap) (inA 120 ad)) args s 0 0 (inA 120 ad) := ⟨_, rfl⟩
  show W p l e (headSpec wsX7_closeDay rm_7_closeDay).room s m args below meth c s.heap [] 0 0 (MQ below (va_Qv (fun u => u = res) (fun u t => va_P D vwCl (ww dX 120 cA ad u) t.heap) (inA 120 ad)) args s 0 0 (inA 120 ad)) _
  rw [← hQQ]
  have in7 : ∀ w ∈ wsX70, w ∈ wsX7_closeDay := by decide +kernel
  have lk9 : Cond.fieldLink RX7 9 "CureTown$Spring" "glasses" "I" ∈ wsX7_closeDay := by decide +kernel
  have lk18 : Cond.fieldLink RX7 18 "CureTown$Spring" "until" "I" ∈ wsX7_closeDay := by decide +kernel
  have lk15 : Cond.fieldLink RX7 15 "CureTown$Spring" "from" "I" ∈ wsX7_closeDay := by decide +kernel
  have lk24 : Cond.fieldLink RX7 24 "CureTown$Spring" "allGiven" "I" ∈ wsX7_closeDay := by decide +kernel
  have lk27 : Cond.fieldLink RX7 27 "CureTown$Spring" "allTaken" "I" ∈ wsX7_closeDay := by decide +kernel
  have lk30 : Cond.fieldLink RX7 30 "CureTown$Spring" "allFilled" "I" ∈ wsX7_closeDay := by decide +kernel
  have lk33 : Cond.fieldLink RX7 33 "CureTown$Spring" "allRunOff" "I" ∈ wsX7_closeDay := by decide +kernel
  have lk36 : Cond.fieldLink RX7 36 "CureTown$Spring" "bottlesOf" "[I" ∈ wsX7_closeDay := by decide +kernel
  unfold f_7_closeDay at h
  obtain ⟨H, hH⟩ : ∃ H, H = s.heap := ⟨_, rfl⟩
  obtain ⟨locs, hlc⟩ : ∃ q : List Loc, q = [] := ⟨_, rfl⟩
  have hP : va_P D vwCl (ww dX 120 cA ad σ) s.heap := hP
  have hS : va_S (inA 120 ad) s.heap s.heap [] := hS
  rw [← hlc] at hS ⊢
  rw [show W p l e (headSpec wsX7_closeDay rm_7_closeDay).room s m args below meth c s.heap locs 0 0 QQ = W p l e (headSpec wsX7_closeDay rm_7_closeDay).room s m args below meth c H locs 0 0 QQ by rw [hH]]
  have hS : va_S (inA 120 ad) s.heap H locs := by rw [hH]; exact hS
  have hP : va_P D vwCl (ww dX 120 cA ad σ) H := by rw [hH]; exact hP
  clear hH hlc
  refine lv_aload_n hx hb dX7_closeDay_0 rfl (lv_at hl 0 rfl) ?_
  refine x_gi X hP (j := 0) (fam_lt h0 (by decide)) (dX_22 h0) rfl rfl (by decide) in7 lk9 dX7_closeDay_1 ?_
  refine lv_aload_n hx hb dX7_closeDay_4 rfl (lv_at hl 0 rfl) ?_
  refine x_gi X hP (j := 2) (fam_lt h0 (by decide)) (dX_22 h0) rfl rfl (by decide) in7 lk18 dX7_closeDay_5 ?_
  refine lv_aload_n hx hb dX7_closeDay_8 rfl (lv_at hl 0 rfl) ?_
  refine x_gi X hP (j := 1) (fam_lt h0 (by decide)) (dX_22 h0) rfl rfl (by decide) in7 lk15 dX7_closeDay_9 ?_
  refine lv_isub hx hb dX7_closeDay_12 ?_
  refine lv_topi (fun v1 ev1 => ?_)
  have h := nm_some ev1 h
  refine lv_imul hx hb dX7_closeDay_13 ?_
  refine lv_topi (fun v2 ev2 => ?_)
  have h := nm_some ev2 h
  refine lv_istore_n (lv' := [(3, .int v2), (0, .ref (ad (22 + i0))), (1, .int a1), (2, .int a2)]) hx hb dX7_closeDay_14 rfl hl (by decide) rfl (fun ls hl => ?_)
  refine lv_iload_n hx hb dX7_closeDay_15 rfl (lv_at hl 0 rfl) ?_
  refine lv_iload_n hx hb dX7_closeDay_16 rfl (lv_at hl 3 rfl) ?_
  refine lv_isub hx hb dX7_closeDay_17 ?_
  refine lv_topi (fun v3 ev3 => ?_)
  have h := nm_some ev3 h
  refine lv_istore (lv' := [(4, .int v3), (3, .int v2), (0, .ref (ad (22 + i0))), (1, .int a1), (2, .int a2)]) hx hb dX7_closeDay_18 hl (by decide) rfl (fun ls hl => ?_)
  refine lv_iload hx hb dX7_closeDay_20 (lv_at hl 0 rfl) ?_
  refine lv_bipush (v := 10) hx hb dX7_closeDay_22 (by decide) ?_
  refine lv_idiv hx hb dX7_closeDay_24 (by decide) ?_
  refine lv_topi (fun v4 ev4 => ?_)
  have h := nm_some ev4 h
  refine lv_istore (lv' := [(5, .int v4), (4, .int v3), (3, .int v2), (0, .ref (ad (22 + i0))), (1, .int a1), (2, .int a2)]) hx hb dX7_closeDay_25 hl (by decide) rfl (fun ls hl => ?_)
  refine lv_aload_n hx hb dX7_closeDay_27 rfl (lv_at hl 3 rfl) ?_
  refine lv_dup hx hb dX7_closeDay_28 rfl ?_
  refine x_gi X hP (j := 4) (fam_lt h0 (by decide)) (dX_22 h0) rfl rfl (by decide) in7 lk24 dX7_closeDay_29 ?_
  refine lv_iload_n hx hb dX7_closeDay_32 rfl (lv_at hl 2 rfl) ?_
  refine lv_iadd hx hb dX7_closeDay_33 ?_
  refine lv_topi (fun v5 ev5 => ?_)
  have h := nm_some ev5 h
  refine x_pi X hP hS (j := 4) (fam_lt h0 (by decide)) (dX_22 h0) rfl rfl (by decide) in7 tyX7_ok nmX7 lk24 rfl rfl rfl rfl dX7_closeDay_34 (fun σ6 eσ6 H locs hP hS => ?_)
  have h := nm_some eσ6 h
  refine lv_aload_n hx hb dX7_closeDay_37 rfl (lv_at hl 3 rfl) ?_
  refine lv_dup hx hb dX7_closeDay_38 rfl ?_
  refine x_gi X hP (j := 5) (fam_lt h0 (by decide)) (dX_22 h0) rfl rfl (by decide) in7 lk27 dX7_closeDay_39 ?_
  refine lv_iload_n hx hb dX7_closeDay_42 rfl (lv_at hl 5 rfl) ?_
  refine lv_iadd hx hb dX7_closeDay_43 ?_
  refine lv_topi (fun v7 ev7 => ?_)
  have h := nm_some ev7 h
  refine x_pi X hP hS (j := 5) (fam_lt h0 (by decide)) (dX_22 h0) rfl rfl (by decide) in7 tyX7_ok nmX7 lk27 rfl rfl rfl rfl dX7_closeDay_44 (fun σ8 eσ8 H locs hP hS => ?_)
  have h := nm_some eσ8 h
  refine lv_aload_n hx hb dX7_closeDay_47 rfl (lv_at hl 3 rfl) ?_
  refine lv_dup hx hb dX7_closeDay_48 rfl ?_
  refine x_gi X hP (j := 6) (fam_lt h0 (by decide)) (dX_22 h0) rfl rfl (by decide) in7 lk30 dX7_closeDay_49 ?_
  refine lv_iload hx hb dX7_closeDay_52 (lv_at hl 0 rfl) ?_
  refine lv_iadd hx hb dX7_closeDay_54 ?_
  refine lv_topi (fun v9 ev9 => ?_)
  have h := nm_some ev9 h
  refine x_pi X hP hS (j := 6) (fam_lt h0 (by decide)) (dX_22 h0) rfl rfl (by decide) in7 tyX7_ok nmX7 lk30 rfl rfl rfl rfl dX7_closeDay_55 (fun σ10 eσ10 H locs hP hS => ?_)
  have h := nm_some eσ10 h
  refine lv_aload_n hx hb dX7_closeDay_58 rfl (lv_at hl 3 rfl) ?_
  refine lv_dup hx hb dX7_closeDay_59 rfl ?_
  refine x_gi X hP (j := 7) (fam_lt h0 (by decide)) (dX_22 h0) rfl rfl (by decide) in7 lk33 dX7_closeDay_60 ?_
  refine lv_iload hx hb dX7_closeDay_63 (lv_at hl 1 rfl) ?_
  refine lv_bipush (v := 10) hx hb dX7_closeDay_65 (by decide) ?_
  refine lv_irem hx hb dX7_closeDay_67 (by decide) ?_
  refine lv_topi (fun v11 ev11 => ?_)
  have h := nm_some ev11 h
  refine lv_iadd hx hb dX7_closeDay_68 ?_
  refine lv_topi (fun v12 ev12 => ?_)
  have h := nm_some ev12 h
  refine x_pi X hP hS (j := 7) (fam_lt h0 (by decide)) (dX_22 h0) rfl rfl (by decide) in7 tyX7_ok nmX7 lk33 rfl rfl rfl rfl dX7_closeDay_69 (fun σ13 eσ13 H locs hP hS => ?_)
  have h := nm_some eσ13 h
  refine lv_aload_n hx hb dX7_closeDay_72 rfl (lv_at hl 3 rfl) ?_
  refine x_gr X hP (j := 8) (fam_lt h0 (by decide)) (dX_22 h0) rfl rfl (by decide) in7 lk36 dX7_closeDay_73 ?_
  refine lv_iload_n hx hb dX7_closeDay_76 rfl (lv_at hl 4 rfl) ?_
  refine lv_iload hx hb dX7_closeDay_77 (lv_at hl 0 rfl) ?_
  obtain ⟨g14, h⟩ := gd_some h
  refine x_si X hP hS (fam_lt h0 (by decide)) (dX_26 h0) g14 dX7_closeDay_79 (fun σ15 eσ15 H locs hP hS => ?_)
  have h := nm_some eσ15 h
  subst hQQ
  exact x_rv X hr hlocks hP hS (Option.some.inj h) dX7_closeDay_80
def f_10_isBelow (n : Nat) (σ : St) (a0 : Int32) (a1 : Int32) : Option (Int32 × St) :=
  if a0 < 0 then
    some (0, σ)
  else
    if a1 ≤ a0 then
      some (0, σ)
    else
      some (1, σ)
abbrev rm_10_isBelow : Room := { frames := 0, cells := 0, slots := 0, locals := 0 }
set_option maxRecDepth 100000 in
set_option maxHeartbeats 4000000 in
theorem k_10_isBelow (l : Launch) (D : va_G) (cA : Nat → ClassId) (ad : Nat → Nat) (z : ZX) (hj : inj 120 ad) (n : Nat) (σ : St) (a0 : Int32) (a1 : Int32)  {res : Int32 × St} (h : f_10_isBelow n σ a0 a1 = some res) : MXi l D dX 120 cA ad (EX ad z) yX10_isBelow wsX10_isBelow rm_10_isBelow [.int a0, .int a1] σ res := by
  refine Met.ofW (cc := cX10_isBelow) (maxL := 2) (ret := (some .boolean)) (by decide) rfl ?_
  intro p e s m args below meth c s₁ B hml hv
  obtain ⟨hargs, hP, hK, hE⟩ := hv
  have hx := B.exec
  have hb := B.bytes
  have hr := B.returns
  have hts := atoms_spec (ws := wsX10_isBelow) B.pre
  have hown : s.vm.findClass RX10 = some m.cls := findClass_of_methodNamed B.named
  have hlocks := B.notSynchronized
  have X : Cx p s m args c cX10_isBelow 2 RX10 wsX10_isBelow D dX 120 cA ad (EX ad z) := ⟨hx, hb, hml, hown, hts, hK, hj, hE, EX_ok ad z⟩
  have hS : va_S (inA 120 ad) s.heap s.heap [] := va_S.rf
  have hl := lv_entry ([.int a0, .int a1]) (n := 2) (Nat.le_of_ble_eq_true rfl)
  rw [show entryFrame m args 2 = entryFrame m ([.int a0, .int a1] : List Value).toArray 2 by rw [hargs]]
  rw [lg_entry_eq]
  generalize (lg_sl ([.int a0, .int a1]) ++ List.replicate (2 - (lg_sl ([.int a0, .int a1])).length) Slot.unset).toArray = ls at hl ⊢
  have hl : lv_has ls 2 [(0, .int a0), (1, .int a1)] := hl
  obtain ⟨QQ, hQQ⟩ : ∃ Q, Q = MQ below (va_Qi (fun r u => r = res.1 ∧ u = res.2) (fun u t => va_P D vwCl (ww dX 120 cA ad u) t.heap) (inA 120 ad)) args s 0 0 (inA 120 ad) := ⟨_, rfl⟩
  show W p l e (headSpec wsX10_isBelow rm_10_isBelow).room s m args below meth c s.heap [] 0 0 (MQ below (va_Qi (fun r u => r = res.1 ∧ u = res.2) (fun u t => va_P D vwCl (ww dX 120 cA ad u) t.heap) (inA 120 ad)) args s 0 0 (inA 120 ad)) _
  rw [← hQQ]
  unfold f_10_isBelow at h
  obtain ⟨H, hH⟩ : ∃ H, H = s.heap := ⟨_, rfl⟩
  obtain ⟨locs, hlc⟩ : ∃ q : List Loc, q = [] := ⟨_, rfl⟩
  have hP : va_P D vwCl (ww dX 120 cA ad σ) s.heap := hP
  have hS : va_S (inA 120 ad) s.heap s.heap [] := hS
  rw [← hlc] at hS ⊢
  rw [show W p l e (headSpec wsX10_isBelow rm_10_isBelow).room s m args below meth c s.heap locs 0 0 QQ = W p l e (headSpec wsX10_isBelow rm_10_isBelow).room s m args below meth c H locs 0 0 QQ by rw [hH]]
  have hS : va_S (inA 120 ad) s.heap H locs := by rw [hH]; exact hS
  have hP : va_P D vwCl (ww dX 120 cA ad σ) H := by rw [hH]; exact hP
  clear hH hlc
  refine lv_iload_n hx hb dX10_isBelow_0 rfl (lv_at hl 0 rfl) ?_
  refine lv_if_lt (tgt := 13) hx hb dX10_isBelow_1 (by decide) (fun c1 => ?_) (fun c1 => ?_)
  · have h := it_t c1 h
    refine lv_iconst (v := 0) hx hb dX10_isBelow_13 (by decide) ?_
    subst hQQ
    exact x_rz X hr hlocks hP hS (by decide +kernel) (Option.some.inj h) dX10_isBelow_14
  · have h := it_f c1 h
    refine lv_iload_n hx hb dX10_isBelow_4 rfl (lv_at hl 0 rfl) ?_
    refine lv_iload_n hx hb dX10_isBelow_5 rfl (lv_at hl 1 rfl) ?_
    refine lv_icmp_ge (tgt := 13) hx hb dX10_isBelow_6 (by decide) (fun c2 => ?_) (fun c2 => ?_)
    · have h := it_t c2 h
      refine lv_iconst (v := 0) hx hb dX10_isBelow_13 (by decide) ?_
      subst hQQ
      exact x_rz X hr hlocks hP hS (by decide +kernel) (Option.some.inj h) dX10_isBelow_14
    · have h := it_f c2 h
      refine lv_iconst (v := 1) hx hb dX10_isBelow_9 (by decide) ?_
      refine lv_goto (tgt := 14) hx hb dX10_isBelow_10 (by decide) ?_
      subst hQQ
      exact x_rz X hr hlocks hP hS (by decide +kernel) (Option.some.inj h) dX10_isBelow_14
def f_9_isThere (n : Nat) (σ : St) (a1 : Int32) (a2 : Int32) : Option (Int32 × St) :=
  (f_10_isBelow n σ a1 (σ.1 1 5)).bind fun r1 =>
  if r1.1 = 0 then
    some (0, r1.2)
  else
    gd (inb a1 8) <| if a2 < (r1.2.1 (36 + a1.toNatClampNeg) 2) then
      some (0, r1.2)
    else
      if (r1.2.1 (36 + a1.toNatClampNeg) 3) ≤ a2 then
        some (0, r1.2)
      else
        some (1, r1.2)
abbrev rm_9_isThere : Room := { frames := 1, cells := 0, slots := 0, locals := 21 }
set_option maxRecDepth 100000 in
set_option maxHeartbeats 4000000 in
theorem k_9_isThere (l : Launch) (D : va_G) (cA : Nat → ClassId) (ad : Nat → Nat) (z : ZX) (hj : inj 120 ad) (n : Nat) (σ : St) (a1 : Int32) (a2 : Int32)  {res : Int32 × St} (h : f_9_isThere n σ a1 a2 = some res) : MXi l D dX 120 cA ad (EX ad z) yX9_isThere wsX9_isThere rm_9_isThere [.ref (ad 1), .int a1, .int a2] σ res := by
  refine Met.ofW (cc := cX9_isThere) (maxL := 3) (ret := (some .boolean)) (by decide) rfl ?_
  intro p e s m args below meth c s₁ B hml hv
  obtain ⟨hargs, hP, hK, hE⟩ := hv
  have hx := B.exec
  have hb := B.bytes
  have hr := B.returns
  have hts := atoms_spec (ws := wsX9_isThere) B.pre
  have hown : s.vm.findClass RX9 = some m.cls := findClass_of_methodNamed B.named
  have hlocks := B.notSynchronized
  have X : Cx p s m args c cX9_isThere 3 RX9 wsX9_isThere D dX 120 cA ad (EX ad z) := ⟨hx, hb, hml, hown, hts, hK, hj, hE, EX_ok ad z⟩
  have hS : va_S (inA 120 ad) s.heap s.heap [] := va_S.rf
  have hl := lv_entry ([.ref (ad 1), .int a1, .int a2]) (n := 3) (Nat.le_of_ble_eq_true rfl)
  rw [show entryFrame m args 3 = entryFrame m ([.ref (ad 1), .int a1, .int a2] : List Value).toArray 3 by rw [hargs]]
  rw [lg_entry_eq]
  generalize (lg_sl ([.ref (ad 1), .int a1, .int a2]) ++ List.replicate (3 - (lg_sl ([.ref (ad 1), .int a1, .int a2])).length) Slot.unset).toArray = ls at hl ⊢
  have hl : lv_has ls 3 [(0, .ref (ad 1)), (1, .int a1), (2, .int a2)] := hl
  obtain ⟨QQ, hQQ⟩ : ∃ Q, Q = MQ below (va_Qi (fun r u => r = res.1 ∧ u = res.2) (fun u t => va_P D vwCl (ww dX 120 cA ad u) t.heap) (inA 120 ad)) args s 0 0 (inA 120 ad) := ⟨_, rfl⟩
  show W p l e (headSpec wsX9_isThere rm_9_isThere).room s m args below meth c s.heap [] 0 0 (MQ below (va_Qi (fun r u => r = res.1 ∧ u = res.2) (fun u t => va_P D vwCl (ww dX 120 cA ad u) t.heap) (inA 120 ad)) args s 0 0 (inA 120 ad)) _
  rw [← hQQ]
  have hNB := hE.1
  have in9 : ∀ w ∈ wsX90, w ∈ wsX9_isThere := by decide +kernel
  have in4 : ∀ w ∈ wsX40, w ∈ wsX9_isThere := by decide +kernel
  have lk40 : Cond.fieldLink RX9 40 "CureTown$Town" "guestCount" "I" ∈ wsX9_isThere := by decide +kernel
  have lk25 : Cond.fieldLink RX9 25 "CureTown$Town" "guests" "[LCureTown$Guest;" ∈ wsX9_isThere := by decide +kernel
  have lk51 : Cond.fieldLink RX9 51 "CureTown$Guest" "from" "I" ∈ wsX9_isThere := by decide +kernel
  have lk54 : Cond.fieldLink RX9 54 "CureTown$Guest" "to" "I" ∈ wsX9_isThere := by decide +kernel
  unfold f_9_isThere at h
  obtain ⟨H, hH⟩ : ∃ H, H = s.heap := ⟨_, rfl⟩
  obtain ⟨locs, hlc⟩ : ∃ q : List Loc, q = [] := ⟨_, rfl⟩
  have hP : va_P D vwCl (ww dX 120 cA ad σ) s.heap := hP
  have hS : va_S (inA 120 ad) s.heap s.heap [] := hS
  rw [← hlc] at hS ⊢
  rw [show W p l e (headSpec wsX9_isThere rm_9_isThere).room s m args below meth c s.heap locs 0 0 QQ = W p l e (headSpec wsX9_isThere rm_9_isThere).room s m args below meth c H locs 0 0 QQ by rw [hH]]
  have hS : va_S (inA 120 ad) s.heap H locs := by rw [hH]; exact hS
  have hP : va_P D vwCl (ww dX 120 cA ad σ) H := by rw [hH]; exact hP
  clear hH hlc
  refine lv_iload_n hx hb dX9_isThere_0 rfl (lv_at hl 1 rfl) ?_
  refine lv_aload_n hx hb dX9_isThere_1 rfl (lv_at hl 0 rfl) ?_
  refine x_gi X hP (j := 5) (by decide) (dX_1) rfl rfl (by decide) in9 lk40 dX9_isThere_2 ?_
  obtain ⟨r1, k2, h⟩ := bd_some h
  refine x_Ni (host := "CureTown") (rest := []) X hP hS (k_10_isBelow l D cA ad z hj n σ a1 (σ.1 1 5) k2) 2 gX9_isThere_X10_isBelow_n47 rfl rfl rfl hNB (by decide +kernel) (by decide +kernel) (by decide +kernel) ⟨Nat.le_of_ble_eq_true rfl, Nat.le_of_ble_eq_true rfl⟩ rfl hl.1 rfl (Nat.le_of_ble_eq_true rfl) dX9_isThere_5 ⟨Nat.zero_le _, Nat.zero_le _⟩ (fun H locs hP hS => ?_)
  refine lv_if_eq (tgt := 41) hx hb dX9_isThere_8 (by decide) (fun c3 => ?_) (fun c3 => ?_)
  · have h := it_t c3 h
    refine lv_iconst (v := 0) hx hb dX9_isThere_41 (by decide) ?_
    subst hQQ
    exact x_rz X hr hlocks hP hS (by decide +kernel) (Option.some.inj h) dX9_isThere_42
  · have h := it_f c3 h
    refine lv_aload_n hx hb dX9_isThere_11 rfl (lv_at hl 0 rfl) ?_
    refine x_gr X hP (j := 2) (by decide) (dX_1) rfl rfl (by decide) in9 lk25 dX9_isThere_12 ?_
    refine lv_iload_n hx hb dX9_isThere_15 rfl (lv_at hl 1 rfl) ?_
    obtain ⟨g4, h⟩ := gd_some h
    refine x_ar X hP (by decide) (dX_4) g4 dX9_isThere_16 ?_
    refine x_gi X hP (j := 2) (fam_lt (inb_lt g4) (by decide)) (dX_36 (inb_lt g4)) rfl rfl (by decide) in4 lk51 dX9_isThere_17 ?_
    refine lv_iload_n hx hb dX9_isThere_20 rfl (lv_at hl 2 rfl) ?_
    refine lv_icmp_gt (tgt := 41) hx hb dX9_isThere_21 (by decide) (fun c5 => ?_) (fun c5 => ?_)
    · have h := it_t c5 h
      refine lv_iconst (v := 0) hx hb dX9_isThere_41 (by decide) ?_
      subst hQQ
      exact x_rz X hr hlocks hP hS (by decide +kernel) (Option.some.inj h) dX9_isThere_42
    · have h := it_f c5 h
      refine lv_iload_n hx hb dX9_isThere_24 rfl (lv_at hl 2 rfl) ?_
      refine lv_aload_n hx hb dX9_isThere_25 rfl (lv_at hl 0 rfl) ?_
      refine x_gr X hP (j := 2) (by decide) (dX_1) rfl rfl (by decide) in9 lk25 dX9_isThere_26 ?_
      refine lv_iload_n hx hb dX9_isThere_29 rfl (lv_at hl 1 rfl) ?_
      refine x_ar X hP (by decide) (dX_4) g4 dX9_isThere_30 ?_
      refine x_gi X hP (j := 3) (fam_lt (inb_lt g4) (by decide)) (dX_36 (inb_lt g4)) rfl rfl (by decide) in4 lk54 dX9_isThere_31 ?_
      refine lv_icmp_ge (tgt := 41) hx hb dX9_isThere_34 (by decide) (fun c6 => ?_) (fun c6 => ?_)
      · have h := it_t c6 h
        refine lv_iconst (v := 0) hx hb dX9_isThere_41 (by decide) ?_
        subst hQQ
        exact x_rz X hr hlocks hP hS (by decide +kernel) (Option.some.inj h) dX9_isThere_42
      · have h := it_f c6 h
        refine lv_iconst (v := 1) hx hb dX9_isThere_37 (by decide) ?_
        refine lv_goto (tgt := 42) hx hb dX9_isThere_38 (by decide) ?_
        subst hQQ
        exact x_rz X hr hlocks hP hS (by decide +kernel) (Option.some.inj h) dX9_isThere_42
def b_9_countThere_4 (n : Nat) (a1 : Int32) (t2 : Int32 × Int32 × St) : Option ((Int32 × Int32 × St) ⊕ (Int32 × Int32 × St)) :=
  if (t2.2.2.1 1 5) ≤ t2.2.1 then
    some (.inr (t2.1, t2.2.1, t2.2.2))
  else
    (f_9_isThere n t2.2.2 t2.2.1 a1).bind fun r4 =>
    if r4.1 = 0 then
      nm (t2.2.1 + 1) fun v7 =>
      some (.inl (t2.1, v7, r4.2))
    else
      nm (t2.1 + 1) fun v8 =>
      nm (t2.2.1 + 1) fun v9 =>
      some (.inl (v8, v9, r4.2))
def f_9_countThere (n : Nat) (σ : St) (a1 : Int32) : Option (Int32 × St) :=
  (lq (b_9_countThere_4 n a1) n (0, 0, σ)).bind fun t1010 =>
  some (t1010.1, t1010.2.2)
abbrev rm_9_countThere : Room := { frames := 2, cells := 0, slots := 0, locals := 43 }
set_option maxRecDepth 100000 in
set_option maxHeartbeats 4000000 in
theorem k_9_countThere (l : Launch) (D : va_G) (cA : Nat → ClassId) (ad : Nat → Nat) (z : ZX) (hj : inj 120 ad) (n : Nat) (σ : St) (a1 : Int32)  {res : Int32 × St} (h : f_9_countThere n σ a1 = some res) : MXi l D dX 120 cA ad (EX ad z) yX9_countThere wsX9_countThere rm_9_countThere [.ref (ad 1), .int a1] σ res := by
  refine Met.ofW (cc := cX9_countThere) (maxL := 4) (ret := (some .int)) (by decide) rfl ?_
  intro p e s m args below meth c s₁ B hml hv
  obtain ⟨hargs, hP, hK, hE⟩ := hv
  have hx := B.exec
  have hb := B.bytes
  have hr := B.returns
  have hts := atoms_spec (ws := wsX9_countThere) B.pre
  have hown : s.vm.findClass RX9 = some m.cls := findClass_of_methodNamed B.named
  have hlocks := B.notSynchronized
  have X : Cx p s m args c cX9_countThere 4 RX9 wsX9_countThere D dX 120 cA ad (EX ad z) := ⟨hx, hb, hml, hown, hts, hK, hj, hE, EX_ok ad z⟩
  have hS : va_S (inA 120 ad) s.heap s.heap [] := va_S.rf
  have hl := lv_entry ([.ref (ad 1), .int a1]) (n := 4) (Nat.le_of_ble_eq_true rfl)
  rw [show entryFrame m args 4 = entryFrame m ([.ref (ad 1), .int a1] : List Value).toArray 4 by rw [hargs]]
  rw [lg_entry_eq]
  generalize (lg_sl ([.ref (ad 1), .int a1]) ++ List.replicate (4 - (lg_sl ([.ref (ad 1), .int a1])).length) Slot.unset).toArray = ls at hl ⊢
  have hl : lv_has ls 4 [(0, .ref (ad 1)), (1, .int a1)] := hl
  obtain ⟨QQ, hQQ⟩ : ∃ Q, Q = MQ below (va_Qi (fun r u => r = res.1 ∧ u = res.2) (fun u t => va_P D vwCl (ww dX 120 cA ad u) t.heap) (inA 120 ad)) args s 0 0 (inA 120 ad) := ⟨_, rfl⟩
  show W p l e (headSpec wsX9_countThere rm_9_countThere).room s m args below meth c s.heap [] 0 0 (MQ below (va_Qi (fun r u => r = res.1 ∧ u = res.2) (fun u t => va_P D vwCl (ww dX 120 cA ad u) t.heap) (inA 120 ad)) args s 0 0 (inA 120 ad)) _
  rw [← hQQ]
  have in9 : ∀ w ∈ wsX90, w ∈ wsX9_countThere := by decide +kernel
  have lk40 : Cond.fieldLink RX9 40 "CureTown$Town" "guestCount" "I" ∈ wsX9_countThere := by decide +kernel
  unfold f_9_countThere at h
  obtain ⟨H, hH⟩ : ∃ H, H = s.heap := ⟨_, rfl⟩
  obtain ⟨locs, hlc⟩ : ∃ q : List Loc, q = [] := ⟨_, rfl⟩
  have hP : va_P D vwCl (ww dX 120 cA ad σ) s.heap := hP
  have hS : va_S (inA 120 ad) s.heap s.heap [] := hS
  rw [← hlc] at hS ⊢
  rw [show W p l e (headSpec wsX9_countThere rm_9_countThere).room s m args below meth c s.heap locs 0 0 QQ = W p l e (headSpec wsX9_countThere rm_9_countThere).room s m args below meth c H locs 0 0 QQ by rw [hH]]
  have hS : va_S (inA 120 ad) s.heap H locs := by rw [hH]; exact hS
  have hP : va_P D vwCl (ww dX 120 cA ad σ) H := by rw [hH]; exact hP
  clear hH hlc
  refine lv_iconst (v := 0) hx hb dX9_countThere_0 (by decide) ?_
  refine lv_istore_n (lv' := [(2, .int 0), (0, .ref (ad 1)), (1, .int a1)]) hx hb dX9_countThere_1 rfl hl (by decide) rfl (fun ls hl => ?_)
  refine lv_iconst (v := 0) hx hb dX9_countThere_2 (by decide) ?_
  refine lv_istore_n (lv' := [(3, .int 0), (2, .int 0), (0, .ref (ad 1)), (1, .int a1)]) hx hb dX9_countThere_3 rfl hl (by decide) rfl (fun ls hl => ?_)
  obtain ⟨t1010, o1012, h⟩ := bd_some h
  refine lq_rule (P := fun t2 : Int32 × Int32 × St => ∀ (H : Heap) (locs : List Loc) (ls : Array Slot), va_P D vwCl (ww dX 120 cA ad t2.2.2) H → va_S (inA 120 ad) s.heap H locs → lv_has ls 4 [(0, .ref (ad 1)), (1, .int a1), (2, .int t2.1), (3, .int t2.2.1)] → W p l e (headSpec wsX9_countThere rm_9_countThere).room s m args below meth c H locs 0 0 QQ (F0 m 4 ls [])) (X := fun t1010 : Int32 × Int32 × St => ∀ (H : Heap) (locs : List Loc) (ls : Array Slot), va_P D vwCl (ww dX 120 cA ad t1010.2.2) H → va_S (inA 120 ad) s.heap H locs → lv_has ls 4 [(0, .ref (ad 1)), (1, .int a1), (2, .int t1010.1), (3, .int t1010.2.1)] → W p l e (headSpec wsX9_countThere rm_9_countThere).room s m args below meth c H locs 0 0 QQ (F0 m 30 ls [])) ?_ n _ _ o1012 ?_ H locs ls hP hS (lv_sub hl [2, 3, 1, 0] rfl)
  · clear h hP hS hl
    intro t2 rL1 h hCL1 hEL1 H locs ls hP hS hl
    unfold b_9_countThere_4 at h
    refine lv_iload_n hx hb dX9_countThere_4 rfl (lv_at hl 3 rfl) ?_
    refine lv_aload_n hx hb dX9_countThere_5 rfl (lv_at hl 0 rfl) ?_
    refine x_gi X hP (j := 5) (by decide) (dX_1) rfl rfl (by decide) in9 lk40 dX9_countThere_6 ?_
    refine lv_icmp_ge (tgt := 30) hx hb dX9_countThere_9 (by decide) (fun c3 => ?_) (fun c3 => ?_)
    · have h := it_t c3 h
      exact hEL1 _ (Option.some.inj h).symm H locs ls hP hS (lv_sub hl [0, 1, 2, 3] rfl)
    · have h := it_f c3 h
      refine lv_aload_n hx hb dX9_countThere_12 rfl (lv_at hl 0 rfl) ?_
      refine lv_iload_n hx hb dX9_countThere_13 rfl (lv_at hl 3 rfl) ?_
      refine lv_iload_n hx hb dX9_countThere_14 rfl (lv_at hl 1 rfl) ?_
      obtain ⟨r4, k5, h⟩ := bd_some h
      refine x_Vi (rest := []) X hP hS (k_9_isThere l D cA ad z hj n t2.2.2 t2.2.1 a1 k5) (by decide) (dX_1) rfl 2 gX9_countThere_X9_isThere rfl rfl rfl (by decide +kernel) ⟨Nat.le_of_ble_eq_true rfl, Nat.le_of_ble_eq_true rfl⟩ rfl hl.1 rfl (Nat.le_of_ble_eq_true rfl) dX9_countThere_15 ⟨Nat.zero_le _, Nat.zero_le _⟩ (fun H locs hP hS => ?_)
      refine lv_if_eq (tgt := 24) hx hb dX9_countThere_18 (by decide) (fun c6 => ?_) (fun c6 => ?_)
      · have h := it_t c6 h
        obtain ⟨v7, ev7⟩ : ∃ y : Int32, y = t2.2.1 + 1 := ⟨_, rfl⟩
        have h := nm_some ev7 h
        refine lv_iinc (v := v7) (lv' := [(3, .int v7), (0, .ref (ad 1)), (1, .int a1), (2, .int t2.1)]) hx hb dX9_countThere_24 hl (k := 3) rfl (by rw [ev7]; rfl) (by decide) rfl (fun ls hl => ?_)
        refine lv_goto (tgt := 4) hx hb dX9_countThere_27 (by decide) ?_
        exact hCL1 _ (Option.some.inj h).symm H locs ls hP hS (lv_sub hl [1, 2, 3, 0] rfl)
      · have h := it_f c6 h
        obtain ⟨v8, ev8⟩ : ∃ y : Int32, y = t2.1 + 1 := ⟨_, rfl⟩
        have h := nm_some ev8 h
        refine lv_iinc (v := v8) (lv' := [(2, .int v8), (0, .ref (ad 1)), (1, .int a1), (3, .int t2.2.1)]) hx hb dX9_countThere_21 hl (k := 2) rfl (by rw [ev8]; rfl) (by decide) rfl (fun ls hl => ?_)
        obtain ⟨v9, ev9⟩ : ∃ y : Int32, y = t2.2.1 + 1 := ⟨_, rfl⟩
        have h := nm_some ev9 h
        refine lv_iinc (v := v9) (lv' := [(3, .int v9), (2, .int v8), (0, .ref (ad 1)), (1, .int a1)]) hx hb dX9_countThere_24 hl (k := 3) rfl (by rw [ev9]; rfl) (by decide) rfl (fun ls hl => ?_)
        refine lv_goto (tgt := 4) hx hb dX9_countThere_27 (by decide) ?_
        exact hCL1 _ (Option.some.inj h).symm H locs ls hP hS (lv_sub hl [2, 3, 1, 0] rfl)
  · intro H locs ls hP hS hl
    refine lv_iload_n hx hb dX9_countThere_30 rfl (lv_at hl 2 rfl) ?_
    subst hQQ
    exact x_ri (σ0 := (fun _ _ => 0, fun _ _ => 0)) X hr hlocks hP hS (Option.some.inj h) dX9_countThere_31
def b_9_countBottles_11 (n : Nat) (a2 : Int32) (t5 : Int32 × Int32 × St) : Option ((Int32 × Int32 × St) ⊕ (Int32 × Int32 × St)) :=
  if 100 ≤ t5.2.1 then
    some (.inr (t5.1, t5.2.1, t5.2.2))
  else
    gd (inb a2 4) <| gd (inb t5.2.1 100) <| nm (t5.1 + (t5.2.2.1 (26 + a2.toNatClampNeg) t5.2.1.toNatClampNeg)) fun v9 =>
    nm (t5.2.1 + 1) fun v10 =>
    some (.inl (v9, v10, t5.2.2))
def b_9_countBottles_4 (n : Nat)  (t2 : Int32 × Int32 × St) : Option ((Int32 × Int32 × St) ⊕ (Int32 × Int32 × St)) :=
  if 4 ≤ t2.2.1 then
    some (.inr (t2.1, t2.2.1, t2.2.2))
  else
    (lq (b_9_countBottles_11 n t2.2.1) n (t2.1, 0, t2.2.2)).bind fun t1011 =>
    nm (t2.2.1 + 1) fun v1014 =>
    some (.inl (t1011.1, v1014, t1011.2.2))
def f_9_countBottles (n : Nat) (σ : St)  : Option (Int32 × St) :=
  (lq (b_9_countBottles_4 n ) n (0, 0, σ)).bind fun t2015 =>
  some (t2015.1, t2015.2.2)
abbrev rm_9_countBottles : Room := { frames := 0, cells := 0, slots := 0, locals := 0 }
set_option maxRecDepth 100000 in
set_option maxHeartbeats 4000000 in
theorem k_9_countBottles (l : Launch) (D : va_G) (cA : Nat → ClassId) (ad : Nat → Nat) (z : ZX) (hj : inj 120 ad) (n : Nat) (σ : St)   {res : Int32 × St} (h : f_9_countBottles n σ  = some res) : MXi l D dX 120 cA ad (EX ad z) yX9_countBottles wsX9_countBottles rm_9_countBottles [.ref (ad 1)] σ res := by
  refine Met.ofW (cc := cX9_countBottles) (maxL := 4) (ret := (some .int)) (by decide) rfl ?_
  intro p e s m args below meth c s₁ B hml hv
  obtain ⟨hargs, hP, hK, hE⟩ := hv
  have hx := B.exec
  have hb := B.bytes
  have hr := B.returns
  have hts := atoms_spec (ws := wsX9_countBottles) B.pre
  have hown : s.vm.findClass RX9 = some m.cls := findClass_of_methodNamed B.named
  have hlocks := B.notSynchronized
  have X : Cx p s m args c cX9_countBottles 4 RX9 wsX9_countBottles D dX 120 cA ad (EX ad z) := ⟨hx, hb, hml, hown, hts, hK, hj, hE, EX_ok ad z⟩
  have hS : va_S (inA 120 ad) s.heap s.heap [] := va_S.rf
  have hl := lv_entry ([.ref (ad 1)]) (n := 4) (Nat.le_of_ble_eq_true rfl)
  rw [show entryFrame m args 4 = entryFrame m ([.ref (ad 1)] : List Value).toArray 4 by rw [hargs]]
  rw [lg_entry_eq]
  generalize (lg_sl ([.ref (ad 1)]) ++ List.replicate (4 - (lg_sl ([.ref (ad 1)])).length) Slot.unset).toArray = ls at hl ⊢
  have hl : lv_has ls 4 [(0, .ref (ad 1))] := hl
  obtain ⟨QQ, hQQ⟩ : ∃ Q, Q = MQ below (va_Qi (fun r u => r = res.1 ∧ u = res.2) (fun u t => va_P D vwCl (ww dX 120 cA ad u) t.heap) (inA 120 ad)) args s 0 0 (inA 120 ad) := ⟨_, rfl⟩
  show W p l e (headSpec wsX9_countBottles rm_9_countBottles).room s m args below meth c s.heap [] 0 0 (MQ below (va_Qi (fun r u => r = res.1 ∧ u = res.2) (fun u t => va_P D vwCl (ww dX 120 cA ad u) t.heap) (inA 120 ad)) args s 0 0 (inA 120 ad)) _
  rw [← hQQ]
  have in9 : ∀ w ∈ wsX90, w ∈ wsX9_countBottles := by decide +kernel
  have in7 : ∀ w ∈ wsX70, w ∈ wsX9_countBottles := by decide +kernel
  have lk11 : Cond.fieldLink RX9 11 "CureTown$Town" "springs" "[LCureTown$Spring;" ∈ wsX9_countBottles := by decide +kernel
  have lk60 : Cond.fieldLink RX9 60 "CureTown$Spring" "bottlesOf" "[I" ∈ wsX9_countBottles := by decide +kernel
  unfold f_9_countBottles at h
  obtain ⟨H, hH⟩ : ∃ H, H = s.heap := ⟨_, rfl⟩
  obtain ⟨locs, hlc⟩ : ∃ q : List Loc, q = [] := ⟨_, rfl⟩
  have hP : va_P D vwCl (ww dX 120 cA ad σ) s.heap := hP
  have hS : va_S (inA 120 ad) s.heap s.heap [] := hS
  rw [← hlc] at hS ⊢
  rw [show W p l e (headSpec wsX9_countBottles rm_9_countBottles).room s m args below meth c s.heap locs 0 0 QQ = W p l e (headSpec wsX9_countBottles rm_9_countBottles).room s m args below meth c H locs 0 0 QQ by rw [hH]]
  have hS : va_S (inA 120 ad) s.heap H locs := by rw [hH]; exact hS
  have hP : va_P D vwCl (ww dX 120 cA ad σ) H := by rw [hH]; exact hP
  clear hH hlc
  refine lv_iconst (v := 0) hx hb dX9_countBottles_0 (by decide) ?_
  refine lv_istore_n (lv' := [(1, .int 0), (0, .ref (ad 1))]) hx hb dX9_countBottles_1 rfl hl (by decide) rfl (fun ls hl => ?_)
  refine lv_iconst (v := 0) hx hb dX9_countBottles_2 (by decide) ?_
  refine lv_istore_n (lv' := [(2, .int 0), (1, .int 0), (0, .ref (ad 1))]) hx hb dX9_countBottles_3 rfl hl (by decide) rfl (fun ls hl => ?_)
  obtain ⟨t2015, o2017, h⟩ := bd_some h
  refine lq_rule (P := fun t2 : Int32 × Int32 × St => ∀ (H : Heap) (locs : List Loc) (ls : Array Slot), va_P D vwCl (ww dX 120 cA ad t2.2.2) H → va_S (inA 120 ad) s.heap H locs → lv_has ls 4 [(0, .ref (ad 1)), (1, .int t2.1), (2, .int t2.2.1)] → W p l e (headSpec wsX9_countBottles rm_9_countBottles).room s m args below meth c H locs 0 0 QQ (F0 m 4 ls [])) (X := fun t2015 : Int32 × Int32 × St => ∀ (H : Heap) (locs : List Loc) (ls : Array Slot), va_P D vwCl (ww dX 120 cA ad t2015.2.2) H → va_S (inA 120 ad) s.heap H locs → lv_has ls 4 [(0, .ref (ad 1)), (1, .int t2015.1), (2, .int t2015.2.1)] → W p l e (headSpec wsX9_countBottles rm_9_countBottles).room s m args below meth c H locs 0 0 QQ (F0 m 43 ls [])) ?_ n _ _ o2017 ?_ H locs ls hP hS (lv_sub hl [2, 1, 0] rfl)
  · clear h hP hS hl
    intro t2 rL1 h hCL1 hEL1 H locs ls hP hS hl
    unfold b_9_countBottles_4 at h
    refine lv_iload_n hx hb dX9_countBottles_4 rfl (lv_at hl 2 rfl) ?_
    refine lv_iconst (v := 4) hx hb dX9_countBottles_5 (by decide) ?_
    refine lv_icmp_ge (tgt := 43) hx hb dX9_countBottles_6 (by decide) (fun c3 => ?_) (fun c3 => ?_)
    · have h := it_t c3 h
      exact hEL1 _ (Option.some.inj h).symm H locs ls hP hS (lv_sub hl [0, 1, 2] rfl)
    · have h := it_f c3 h
      refine lv_iconst (v := 0) hx hb dX9_countBottles_9 (by decide) ?_
      refine lv_istore_n (lv' := [(3, .int 0), (0, .ref (ad 1)), (1, .int t2.1), (2, .int t2.2.1)]) hx hb dX9_countBottles_10 rfl hl (by decide) rfl (fun ls hl => ?_)
      obtain ⟨t1011, o1013, h⟩ := bd_some h
      refine lq_rule (P := fun t5 : Int32 × Int32 × St => ∀ (H : Heap) (locs : List Loc) (ls : Array Slot), va_P D vwCl (ww dX 120 cA ad t5.2.2) H → va_S (inA 120 ad) s.heap H locs → lv_has ls 4 [(0, .ref (ad 1)), (1, .int t5.1), (2, .int t2.2.1), (3, .int t5.2.1)] → W p l e (headSpec wsX9_countBottles rm_9_countBottles).room s m args below meth c H locs 0 0 QQ (F0 m 11 ls [])) (X := fun t1011 : Int32 × Int32 × St => ∀ (H : Heap) (locs : List Loc) (ls : Array Slot), va_P D vwCl (ww dX 120 cA ad t1011.2.2) H → va_S (inA 120 ad) s.heap H locs → lv_has ls 4 [(0, .ref (ad 1)), (1, .int t1011.1), (2, .int t2.2.1), (3, .int t1011.2.1)] → W p l e (headSpec wsX9_countBottles rm_9_countBottles).room s m args below meth c H locs 0 0 QQ (F0 m 37 ls [])) ?_ n _ _ o1013 ?_ H locs ls hP hS (lv_sub hl [1, 2, 3, 0] rfl)
      · clear h hP hS hl
        intro t5 rL4 h hCL4 hEL4 H locs ls hP hS hl
        unfold b_9_countBottles_11 at h
        refine lv_iload_n hx hb dX9_countBottles_11 rfl (lv_at hl 3 rfl) ?_
        refine lv_bipush (v := 100) hx hb dX9_countBottles_12 (by decide) ?_
        refine lv_icmp_ge (tgt := 37) hx hb dX9_countBottles_14 (by decide) (fun c6 => ?_) (fun c6 => ?_)
        · have h := it_t c6 h
          exact hEL4 _ (Option.some.inj h).symm H locs ls hP hS (lv_sub hl [0, 1, 2, 3] rfl)
        · have h := it_f c6 h
          refine lv_iload_n hx hb dX9_countBottles_17 rfl (lv_at hl 1 rfl) ?_
          refine lv_aload_n hx hb dX9_countBottles_18 rfl (lv_at hl 0 rfl) ?_
          refine x_gr X hP (j := 0) (by decide) (dX_1) rfl rfl (by decide) in9 lk11 dX9_countBottles_19 ?_
          refine lv_iload_n hx hb dX9_countBottles_22 rfl (lv_at hl 2 rfl) ?_
          obtain ⟨g7, h⟩ := gd_some h
          refine x_ar X hP (by decide) (dX_2) g7 dX9_countBottles_23 ?_
          refine x_gr X hP (j := 8) (fam_lt (inb_lt g7) (by decide)) (dX_22 (inb_lt g7)) rfl rfl (by decide) in7 lk60 dX9_countBottles_24 ?_
          refine lv_iload_n hx hb dX9_countBottles_27 rfl (lv_at hl 3 rfl) ?_
          obtain ⟨g8, h⟩ := gd_some h
          refine x_ai X hP (fam_lt (inb_lt g7) (by decide)) (dX_26 (inb_lt g7)) g8 dX9_countBottles_28 ?_
          refine lv_iadd hx hb dX9_countBottles_29 ?_
          refine lv_topi (fun v9 ev9 => ?_)
          have h := nm_some ev9 h
          refine lv_istore_n (lv' := [(1, .int v9), (0, .ref (ad 1)), (2, .int t2.2.1), (3, .int t5.2.1)]) hx hb dX9_countBottles_30 rfl hl (by decide) rfl (fun ls hl => ?_)
          obtain ⟨v10, ev10⟩ : ∃ y : Int32, y = t5.2.1 + 1 := ⟨_, rfl⟩
          have h := nm_some ev10 h
          refine lv_iinc (v := v10) (lv' := [(3, .int v10), (1, .int v9), (0, .ref (ad 1)), (2, .int t2.2.1)]) hx hb dX9_countBottles_31 hl (k := 3) rfl (by rw [ev10]; rfl) (by decide) rfl (fun ls hl => ?_)
          refine lv_goto (tgt := 11) hx hb dX9_countBottles_34 (by decide) ?_
          exact hCL4 _ (Option.some.inj h).symm H locs ls hP hS (lv_sub hl [2, 1, 3, 0] rfl)
      · intro H locs ls hP hS hl
        obtain ⟨v1014, ev1014⟩ : ∃ y : Int32, y = t2.2.1 + 1 := ⟨_, rfl⟩
        have h := nm_some ev1014 h
        refine lv_iinc (v := v1014) (lv' := [(2, .int v1014), (0, .ref (ad 1)), (1, .int t1011.1), (3, .int t1011.2.1)]) hx hb dX9_countBottles_37 hl (k := 2) rfl (by rw [ev1014]; rfl) (by decide) rfl (fun ls hl => ?_)
        refine lv_goto (tgt := 4) hx hb dX9_countBottles_40 (by decide) ?_
        exact hCL1 _ (Option.some.inj h).symm H locs ls hP hS (lv_sub hl [1, 2, 0] rfl)
  · intro H locs ls hP hS hl
    refine lv_iload_n hx hb dX9_countBottles_43 rfl (lv_at hl 1 rfl) ?_
    subst hQQ
    exact x_ri (σ0 := (fun _ _ => 0, fun _ _ => 0)) X hr hlocks hP hS (Option.some.inj h) dX9_countBottles_44
