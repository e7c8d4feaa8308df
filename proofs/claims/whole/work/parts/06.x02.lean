def f_3_isMultiple (n : Nat) (σ : St) (a0 : Int32) (a1 : Int32) : Option (Int32 × St) :=
  if a1 ≤ 0 then
    some (0, σ)
  else
    gd (nzb a1) <| nm (a0 - a0 / a1 * a1) fun v3 =>
    if v3 = 0 then
      some (1, σ)
    else
      some (0, σ)
abbrev rm_3_isMultiple : Room := { frames := 0, cells := 0, slots := 0, locals := 0 }
set_option maxRecDepth 100000 in
set_option maxHeartbeats 4000000 in
theorem k_3_isMultiple (l : Launch) (D : va_G) (cA : Nat → ClassId) (ad : Nat → Nat) (z : ZX) (hj : inj 120 ad) (n : Nat) (σ : St) (a0 : Int32) (a1 : Int32)  {res : Int32 × St} (h : f_3_isMultiple n σ a0 a1 = some res) : MXi l D dX 120 cA ad (EX ad z) yX3_isMultiple wsX3_isMultiple rm_3_isMultiple [.int a0, .int a1] σ res := by
  refine Met.ofW (cc := cX3_isMultiple) (maxL := 2) (ret := (some .boolean)) (by decide) rfl ?_
  intro p e s m args below meth c s₁ B hml hv
  obtain ⟨hargs, hP, hK, hE⟩ := hv
  have hx := B.exec
  have hb := B.bytes
  have hr := B.returns
  have hts := atoms_spec (ws := wsX3_isMultiple) B.pre
  have hown : s.vm.findClass RX3 = some m.cls := findClass_of_methodNamed B.named
  have hlocks := B.notSynchronized
  have X : Cx p s m args c cX3_isMultiple 2 RX3 wsX3_isMultiple D dX 120 cA ad (EX ad z) := ⟨hx, hb, hml, hown, hts, hK, hj, hE, EX_ok ad z⟩
  have hS : va_S (inA 120 ad) s.heap s.heap [] := va_S.rf
  have hl := lv_entry ([.int a0, .int a1]) (n := 2) (Nat.le_of_ble_eq_true rfl)
  rw [show entryFrame m args 2 = entryFrame m ([.int a0, .int a1] : List Value).toArray 2 by rw [hargs]]
  rw [lg_entry_eq]
  generalize (lg_sl ([.int a0, .int a1]) ++ List.replicate (2 - (lg_sl ([.int a0, .int a1])).length) Slot.unset).toArray = ls at hl ⊢
  have hl : lv_has ls 2 [(0, .int a0), (1, .int a1)] := hl
  obtain ⟨QQ, hQQ⟩ : ∃ Q, Q = MQ below (va_Qi (fun r u => r = res.1 ∧ u = res.2) (fun u t => va_P D vwCl (ww dX 120 cA ad u) t.heap) (inA 120 ad)) args s 0 0 (inA 120 ad) := ⟨_, rfl⟩
  show W p l e (headSpec wsX3_isMultiple rm_3_isMultiple).room s m args below meth c s.heap [] 0 0 (MQ below (va_Qi (fun r u => r = res.1 ∧ u = res.2) (fun u t => va_P D vwCl (ww dX 120 cA ad u) t.heap) (inA 120 ad)) args s 0 0 (inA 120 ad)) _
  rw [← hQQ]
  unfold f_3_isMultiple at h
  obtain ⟨H, hH⟩ : ∃ H, H = s.heap := ⟨_, rfl⟩
  obtain ⟨locs, hlc⟩ : ∃ q : List Loc, q = [] := ⟨_, rfl⟩
  have hP : va_P D vwCl (ww dX 120 cA ad σ) s.heap := hP
  have hS : va_S (inA 120 ad) s.heap s.heap [] := hS
  rw [← hlc] at hS ⊢
  rw [show W p l e (headSpec wsX3_isMultiple rm_3_isMultiple).room s m args below meth c s.heap locs 0 0 QQ = W p l e (headSpec wsX3_isMultiple rm_3_isMultiple).room s m args below meth c H locs 0 0 QQ by rw [hH]]
  have hS : va_S (inA 120 ad) s.heap H locs := by rw [hH]; exact hS
  have hP : va_P D vwCl (ww dX 120 cA ad σ) H := by rw [hH]; exact hP
  clear hH hlc
  refine lv_iload_n hx hb dX3_isMultiple_0 rfl (lv_at hl 1 rfl) ?_
  refine lv_if_le (tgt := 14) hx hb dX3_isMultiple_1 (by decide) (fun c1 => ?_) (fun c1 => ?_)
  · have h := it_t c1 h
    refine lv_iconst (v := 0) hx hb dX3_isMultiple_14 (by decide) ?_
    subst hQQ
    exact x_rz X hr hlocks hP hS (by decide +kernel) (Option.some.inj h) dX3_isMultiple_15
  · have h := it_f c1 h
    refine lv_iload_n hx hb dX3_isMultiple_4 rfl (lv_at hl 0 rfl) ?_
    refine lv_iload_n hx hb dX3_isMultiple_5 rfl (lv_at hl 1 rfl) ?_
    obtain ⟨g2, h⟩ := gd_some h
    refine lv_irem hx hb dX3_isMultiple_6 (nzb_ne g2) ?_
    refine lv_topi (fun v3 ev3 => ?_)
    have h := nm_some ev3 h
    refine lv_if_ne (tgt := 14) hx hb dX3_isMultiple_7 (by decide) (fun c4 => ?_) (fun c4 => ?_)
    · have h := it_f c4 h
      refine lv_iconst (v := 0) hx hb dX3_isMultiple_14 (by decide) ?_
      subst hQQ
      exact x_rz X hr hlocks hP hS (by decide +kernel) (Option.some.inj h) dX3_isMultiple_15
    · have h := it_t c4 h
      refine lv_iconst (v := 1) hx hb dX3_isMultiple_10 (by decide) ?_
      refine lv_goto (tgt := 15) hx hb dX3_isMultiple_11 (by decide) ?_
      subst hQQ
      exact x_rz X hr hlocks hP hS (by decide +kernel) (Option.some.inj h) dX3_isMultiple_15
def f_3_bits (n : Nat) (σ : St) (a0 : Int32) (a1 : Int32) : Option (Int64 × St) :=
  nm ((1 : Int64) <<< (Int32.toInt64 a1 &&& 63)) fun v1 =>
  nm ((v1 : Int64) - 1) fun v2 =>
  nm ((v2 : Int64) <<< (Int32.toInt64 a0 &&& 63)) fun v3 =>
  some (v3, σ)
abbrev rm_3_bits : Room := { frames := 0, cells := 0, slots := 0, locals := 0 }
set_option maxRecDepth 100000 in
set_option maxHeartbeats 4000000 in
theorem k_3_bits (l : Launch) (D : va_G) (cA : Nat → ClassId) (ad : Nat → Nat) (z : ZX) (hj : inj 120 ad) (n : Nat) (σ : St) (a0 : Int32) (a1 : Int32)  {res : Int64 × St} (h : f_3_bits n σ a0 a1 = some res) : MXl l D dX 120 cA ad (EX ad z) yX3_bits wsX3_bits rm_3_bits [.int a0, .int a1] σ res := by
  refine Met.ofW (cc := cX3_bits) (maxL := 2) (ret := (some .long)) (by decide) rfl ?_
  intro p e s m args below meth c s₁ B hml hv
  obtain ⟨hargs, hP, hK, hE⟩ := hv
  have hx := B.exec
  have hb := B.bytes
  have hr := B.returns
  have hts := atoms_spec (ws := wsX3_bits) B.pre
  have hown : s.vm.findClass RX3 = some m.cls := findClass_of_methodNamed B.named
  have hlocks := B.notSynchronized
  have X : Cx p s m args c cX3_bits 2 RX3 wsX3_bits D dX 120 cA ad (EX ad z) := ⟨hx, hb, hml, hown, hts, hK, hj, hE, EX_ok ad z⟩
  have hS : va_S (inA 120 ad) s.heap s.heap [] := va_S.rf
  have hl := lv_entry ([.int a0, .int a1]) (n := 2) (Nat.le_of_ble_eq_true rfl)
  rw [show entryFrame m args 2 = entryFrame m ([.int a0, .int a1] : List Value).toArray 2 by rw [hargs]]
  rw [lg_entry_eq]
  generalize (lg_sl ([.int a0, .int a1]) ++ List.replicate (2 - (lg_sl ([.int a0, .int a1])).length) Slot.unset).toArray = ls at hl ⊢
  have hl : lv_has ls 2 [(0, .int a0), (1, .int a1)] := hl
  obtain ⟨QQ, hQQ⟩ : ∃ Q, Q = MQ below (va_Ql (fun r u => r = res.1 ∧ u = res.2) (fun u t => va_P D vwCl (ww dX 120 cA ad u) t.heap) (inA 120 ad)) args s 0 0 (inA 120 ad) := ⟨_, rfl⟩
  show W p l e (headSpec wsX3_bits rm_3_bits).room s m args below meth c s.heap [] 0 0 (MQ below (va_Ql (fun r u => r = res.1 ∧ u = res.2) (fun u t => va_P D vwCl (ww dX 120 cA ad u) t.heap) (inA 120 ad)) args s 0 0 (inA 120 ad)) _
  rw [← hQQ]
  unfold f_3_bits at h
  obtain ⟨H, hH⟩ : ∃ H, H = s.heap := ⟨_, rfl⟩
  obtain ⟨locs, hlc⟩ : ∃ q : List Loc, q = [] := ⟨_, rfl⟩
  have hP : va_P D vwCl (ww dX 120 cA ad σ) s.heap := hP
  have hS : va_S (inA 120 ad) s.heap s.heap [] := hS
  rw [← hlc] at hS ⊢
  rw [show W p l e (headSpec wsX3_bits rm_3_bits).room s m args below meth c s.heap locs 0 0 QQ = W p l e (headSpec wsX3_bits rm_3_bits).room s m args below meth c H locs 0 0 QQ by rw [hH]]
  have hS : va_S (inA 120 ad) s.heap H locs := by rw [hH]; exact hS
  have hP : va_P D vwCl (ww dX 120 cA ad σ) H := by rw [hH]; exact hP
  clear hH hlc
  refine lv_lconst (v := 1) hx hb dX3_bits_0 (by decide) ?_
  refine lv_iload_n hx hb dX3_bits_1 rfl (lv_at hl 1 rfl) ?_
  refine lv_lshl hx hb dX3_bits_2 rfl ?_
  refine lv_topl (fun v1 ev1 => ?_)
  have h := nm_some ev1 h
  refine lv_lconst (v := 1) hx hb dX3_bits_3 (by decide) ?_
  refine lv_lsub hx hb dX3_bits_4 ?_
  refine lv_topl (fun v2 ev2 => ?_)
  have h := nm_some ev2 h
  refine lv_iload_n hx hb dX3_bits_5 rfl (lv_at hl 0 rfl) ?_
  refine lv_lshl hx hb dX3_bits_6 rfl ?_
  refine lv_topl (fun v3 ev3 => ?_)
  have h := nm_some ev3 h
  subst hQQ
  exact x_rl X hr hlocks hP hS (Option.some.inj h) dX3_bits_7
def b_3_countTaken_4 (n : Nat) (a1 : Int32) (t2 : Int32 × Int32 × St) : Option ((Int32 × Int32 × St) ⊕ (Int32 × Int32 × St)) :=
  if 48 ≤ t2.2.1 then
    some (.inr (t2.1, t2.2.1, t2.2.2))
  else
    gd (inb a1 4) <| gd (inb t2.2.1 48) <| nm (t2.1 + (t2.2.2.1 (116 + a1.toNatClampNeg) t2.2.1.toNatClampNeg)) fun v6 =>
    nm (t2.2.1 + 1) fun v7 =>
    some (.inl (v6, v7, t2.2.2))
def f_3_countTaken (n : Nat) (σ : St) (a1 : Int32) : Option (Int32 × St) :=
  (lq (b_3_countTaken_4 n a1) n (0, 0, σ)).bind fun t1008 =>
  some (t1008.1, t1008.2.2)
abbrev rm_3_countTaken : Room := { frames := 0, cells := 0, slots := 0, locals := 0 }
set_option maxRecDepth 100000 in
set_option maxHeartbeats 4000000 in
theorem k_3_countTaken (l : Launch) (D : va_G) (cA : Nat → ClassId) (ad : Nat → Nat) (z : ZX) (hj : inj 120 ad) (n : Nat) (σ : St) (a1 : Int32)  {res : Int32 × St} (h : f_3_countTaken n σ a1 = some res) : MXi l D dX 120 cA ad (EX ad z) yX3_countTaken wsX3_countTaken rm_3_countTaken [.ref (ad 11), .int a1] σ res := by
  refine Met.ofW (cc := cX3_countTaken) (maxL := 4) (ret := (some .int)) (by decide) rfl ?_
  intro p e s m args below meth c s₁ B hml hv
  obtain ⟨hargs, hP, hK, hE⟩ := hv
  have hx := B.exec
  have hb := B.bytes
  have hr := B.returns
  have hts := atoms_spec (ws := wsX3_countTaken) B.pre
  have hown : s.vm.findClass RX3 = some m.cls := findClass_of_methodNamed B.named
  have hlocks := B.notSynchronized
  have X : Cx p s m args c cX3_countTaken 4 RX3 wsX3_countTaken D dX 120 cA ad (EX ad z) := ⟨hx, hb, hml, hown, hts, hK, hj, hE, EX_ok ad z⟩
  have hS : va_S (inA 120 ad) s.heap s.heap [] := va_S.rf
  have hl := lv_entry ([.ref (ad 11), .int a1]) (n := 4) (Nat.le_of_ble_eq_true rfl)
  rw [show entryFrame m args 4 = entryFrame m ([.ref (ad 11), .int a1] : List Value).toArray 4 by rw [hargs]]
  rw [lg_entry_eq]
  generalize (lg_sl ([.ref (ad 11), .int a1]) ++ List.replicate (4 - (lg_sl ([.ref (ad 11), .int a1])).length) Slot.unset).toArray = ls at hl ⊢
  have hl : lv_has ls 4 [(0, .ref (ad 11)), (1, .int a1)] := hl
  obtain ⟨QQ, hQQ⟩ : ∃ Q, Q = MQ below (va_Qi (fun r u => r = res.1 ∧ u = res.2) (fun u t => va_P D vwCl (ww dX 120 cA ad u) t.heap) (inA 120 ad)) args s 0 0 (inA 120 ad) := ⟨_, rfl⟩
  show W p l e (headSpec wsX3_countTaken rm_3_countTaken).room s m args below meth c s.heap [] 0 0 (MQ below (va_Qi (fun r u => r = res.1 ∧ u = res.2) (fun u t => va_P D vwCl (ww dX 120 cA ad u) t.heap) (inA 120 ad)) args s 0 0 (inA 120 ad)) _
  rw [← hQQ]
  have in3 : ∀ w ∈ wsX30, w ∈ wsX3_countTaken := by decide +kernel
  have lk19 : Cond.fieldLink RX3 19 "CureTown$DayPlan" "glassesTaken" "[[I" ∈ wsX3_countTaken := by decide +kernel
  unfold f_3_countTaken at h
  obtain ⟨H, hH⟩ : ∃ H, H = s.heap := ⟨_, rfl⟩
  obtain ⟨locs, hlc⟩ : ∃ q : List Loc, q = [] := ⟨_, rfl⟩
  have hP : va_P D vwCl (ww dX 120 cA ad σ) s.heap := hP
  have hS : va_S (inA 120 ad) s.heap s.heap [] := hS
  rw [← hlc] at hS ⊢
  rw [show W p l e (headSpec wsX3_countTaken rm_3_countTaken).room s m args below meth c s.heap locs 0 0 QQ = W p l e (headSpec wsX3_countTaken rm_3_countTaken).room s m args below meth c H locs 0 0 QQ by rw [hH]]
  have hS : va_S (inA 120 ad) s.heap H locs := by rw [hH]; exact hS
  have hP : va_P D vwCl (ww dX 120 cA ad σ) H := by rw [hH]; exact hP
  clear hH hlc
  refine lv_iconst (v := 0) hx hb dX3_countTaken_0 (by decide) ?_
  refine lv_istore_n (lv' := [(2, .int 0), (0, .ref (ad 11)), (1, .int a1)]) hx hb dX3_countTaken_1 rfl hl (by decide) rfl (fun ls hl => ?_)
  refine lv_iconst (v := 0) hx hb dX3_countTaken_2 (by decide) ?_
  refine lv_istore_n (lv' := [(3, .int 0), (2, .int 0), (0, .ref (ad 11)), (1, .int a1)]) hx hb dX3_countTaken_3 rfl hl (by decide) rfl (fun ls hl => ?_)
  obtain ⟨t1008, o1010, h⟩ := bd_some h
  refine lq_rule (P := fun t2 : Int32 × Int32 × St => ∀ (H : Heap) (locs : List Loc) (ls : Array Slot), va_P D vwCl (ww dX 120 cA ad t2.2.2) H → va_S (inA 120 ad) s.heap H locs → lv_has ls 4 [(0, .ref (ad 11)), (1, .int a1), (2, .int t2.1), (3, .int t2.2.1)] → W p l e (headSpec wsX3_countTaken rm_3_countTaken).room s m args below meth c H locs 0 0 QQ (F0 m 4 ls [])) (X := fun t1008 : Int32 × Int32 × St => ∀ (H : Heap) (locs : List Loc) (ls : Array Slot), va_P D vwCl (ww dX 120 cA ad t1008.2.2) H → va_S (inA 120 ad) s.heap H locs → lv_has ls 4 [(0, .ref (ad 11)), (1, .int a1), (2, .int t1008.1), (3, .int t1008.2.1)] → W p l e (headSpec wsX3_countTaken rm_3_countTaken).room s m args below meth c H locs 0 0 QQ (F0 m 27 ls [])) ?_ n _ _ o1010 ?_ H locs ls hP hS (lv_sub hl [2, 3, 1, 0] rfl)
  · clear h hP hS hl
    intro t2 rL1 h hCL1 hEL1 H locs ls hP hS hl
    unfold b_3_countTaken_4 at h
    refine lv_iload_n hx hb dX3_countTaken_4 rfl (lv_at hl 3 rfl) ?_
    refine lv_bipush (v := 48) hx hb dX3_countTaken_5 (by decide) ?_
    refine lv_icmp_ge (tgt := 27) hx hb dX3_countTaken_7 (by decide) (fun c3 => ?_) (fun c3 => ?_)
    · have h := it_t c3 h
      exact hEL1 _ (Option.some.inj h).symm H locs ls hP hS (lv_sub hl [0, 1, 2, 3] rfl)
    · have h := it_f c3 h
      refine lv_iload_n hx hb dX3_countTaken_10 rfl (lv_at hl 2 rfl) ?_
      refine lv_aload_n hx hb dX3_countTaken_11 rfl (lv_at hl 0 rfl) ?_
      refine x_gr X hP (j := 1) (by decide) (dX_11) rfl rfl (by decide) in3 lk19 dX3_countTaken_12 ?_
      refine lv_iload_n hx hb dX3_countTaken_15 rfl (lv_at hl 1 rfl) ?_
      obtain ⟨g4, h⟩ := gd_some h
      refine x_arr X hP (by decide) (dX_13) g4 dX3_countTaken_16 ?_
      refine lv_iload_n hx hb dX3_countTaken_17 rfl (lv_at hl 3 rfl) ?_
      obtain ⟨g5, h⟩ := gd_some h
      refine x_ai X hP (fam_lt (inb_lt g4) (by decide)) (dX_116 (inb_lt g4)) g5 dX3_countTaken_18 ?_
      refine lv_iadd hx hb dX3_countTaken_19 ?_
      refine lv_topi (fun v6 ev6 => ?_)
      have h := nm_some ev6 h
      refine lv_istore_n (lv' := [(2, .int v6), (0, .ref (ad 11)), (1, .int a1), (3, .int t2.2.1)]) hx hb dX3_countTaken_20 rfl hl (by decide) rfl (fun ls hl => ?_)
      obtain ⟨v7, ev7⟩ : ∃ y : Int32, y = t2.2.1 + 1 := ⟨_, rfl⟩
      have h := nm_some ev7 h
      refine lv_iinc (v := v7) (lv' := [(3, .int v7), (2, .int v6), (0, .ref (ad 11)), (1, .int a1)]) hx hb dX3_countTaken_21 hl (k := 3) rfl (by rw [ev7]; rfl) (by decide) rfl (fun ls hl => ?_)
      refine lv_goto (tgt := 4) hx hb dX3_countTaken_24 (by decide) ?_
      exact hCL1 _ (Option.some.inj h).symm H locs ls hP hS (lv_sub hl [2, 3, 1, 0] rfl)
  · intro H locs ls hP hS hl
    refine lv_iload_n hx hb dX3_countTaken_27 rfl (lv_at hl 2 rfl) ?_
    subst hQQ
    exact x_ri (σ0 := (fun _ _ => 0, fun _ _ => 0)) X hr hlocks hP hS (Option.some.inj h) dX3_countTaken_28
def b_3_findFree_3 (n : Nat) (a2 : Int32) (a3 : Int64) (t2 : Int32 × St) : Option ((Int32 × St) ⊕ ((Int32 × St) ⊕ (Int32 × St))) :=
  if 6 ≤ t2.1 then
    some (.inr (.inr (t2.1, t2.2)))
  else
    gd (inb t2.1 6) <| if (t2.2.1 (30 + t2.1.toNatClampNeg) 1) = 0 then
      nm (t2.1 + 1) fun v6 =>
      some (.inl (v6, t2.2))
    else
      if (t2.2.1 (30 + t2.1.toNatClampNeg) 0) = a2 then
        nm (((t2.2.2 14 t2.1.toNatClampNeg) : Int64) &&& a3) fun v9 =>
        nm (lg_cmp v9 0) fun v10 =>
        if v10 = 0 then
          some (.inr (.inl (t2.1, t2.2)))
        else
          nm (t2.1 + 1) fun v12 =>
          some (.inl (v12, t2.2))
      else
        nm (t2.1 + 1) fun v8 =>
        some (.inl (v8, t2.2))
def f_3_findFree (n : Nat) (σ : St) (a2 : Int32) (a3 : Int64) : Option (Int32 × St) :=
  (lq (b_3_findFree_3 n a2 a3) n (0, σ)).bind <| Sum.elim (fun rr => some rr) fun t1013 =>
  some ((-1), t1013.2)
abbrev rm_3_findFree : Room := { frames := 0, cells := 0, slots := 0, locals := 0 }
set_option maxRecDepth 100000 in
set_option maxHeartbeats 4000000 in
theorem k_3_findFree (l : Launch) (D : va_G) (cA : Nat → ClassId) (ad : Nat → Nat) (z : ZX) (hj : inj 120 ad) (n : Nat) (σ : St) (a2 : Int32) (a3 : Int64)  {res : Int32 × St} (h : f_3_findFree n σ a2 a3 = some res) : MXi l D dX 120 cA ad (EX ad z) yX3_findFree wsX3_findFree rm_3_findFree [.ref (ad 11), .ref (ad 3), .int a2, .long a3] σ res := by
  refine Met.ofW (cc := cX3_findFree) (maxL := 6) (ret := (some .int)) (by decide) rfl ?_
  intro p e s m args below meth c s₁ B hml hv
  obtain ⟨hargs, hP, hK, hE⟩ := hv
  have hx := B.exec
  have hb := B.bytes
  have hr := B.returns
  have hts := atoms_spec (ws := wsX3_findFree) B.pre
  have hown : s.vm.findClass RX3 = some m.cls := findClass_of_methodNamed B.named
  have hlocks := B.notSynchronized
  have X : Cx p s m args c cX3_findFree 6 RX3 wsX3_findFree D dX 120 cA ad (EX ad z) := ⟨hx, hb, hml, hown, hts, hK, hj, hE, EX_ok ad z⟩
  have hS : va_S (inA 120 ad) s.heap s.heap [] := va_S.rf
  have hl := lv_entry ([.ref (ad 11), .ref (ad 3), .int a2, .long a3]) (n := 6) (Nat.le_of_ble_eq_true rfl)
  rw [show entryFrame m args 6 = entryFrame m ([.ref (ad 11), .ref (ad 3), .int a2, .long a3] : List Value).toArray 6 by rw [hargs]]
  rw [lg_entry_eq]
  generalize (lg_sl ([.ref (ad 11), .ref (ad 3), .int a2, .long a3]) ++ List.replicate (6 - (lg_sl ([.ref (ad 11), .ref (ad 3), .int a2, .long a3])).length) Slot.unset).toArray = ls at hl ⊢
  have hl : lv_has ls 6 [(0, .ref (ad 11)), (1, .ref (ad 3)), (2, .int a2), (3, .long a3)] := hl
  obtain ⟨QQ, hQQ⟩ : ∃ Q, Q = MQ below (va_Qi (fun r u => r = res.1 ∧ u = res.2) (fun u t => va_P D vwCl (ww dX 120 cA ad u) t.heap) (inA 120 ad)) args s 0 0 (inA 120 ad) := ⟨_, rfl⟩
  show W p l e (headSpec wsX3_findFree rm_3_findFree).room s m args below meth c s.heap [] 0 0 (MQ below (va_Qi (fun r u => r = res.1 ∧ u = res.2) (fun u t => va_P D vwCl (ww dX 120 cA ad u) t.heap) (inA 120 ad)) args s 0 0 (inA 120 ad)) _
  rw [← hQQ]
  have in0 : ∀ w ∈ wsX00, w ∈ wsX3_findFree := by decide +kernel
  have in3 : ∀ w ∈ wsX30, w ∈ wsX3_findFree := by decide +kernel
  have lk177 : Cond.fieldLink RX3 177 "CureTown$Bath" "isOpen" "Z" ∈ wsX3_findFree := by decide +kernel
  have lk182 : Cond.fieldLink RX3 182 "CureTown$Bath" "kind" "I" ∈ wsX3_findFree := by decide +kernel
  have lk22 : Cond.fieldLink RX3 22 "CureTown$DayPlan" "bathsLet" "[J" ∈ wsX3_findFree := by decide +kernel
  unfold f_3_findFree at h
  obtain ⟨H, hH⟩ : ∃ H, H = s.heap := ⟨_, rfl⟩
  obtain ⟨locs, hlc⟩ : ∃ q : List Loc, q = [] := ⟨_, rfl⟩
  have hP : va_P D vwCl (ww dX 120 cA ad σ) s.heap := hP
  have hS : va_S (inA 120 ad) s.heap s.heap [] := hS
  rw [← hlc] at hS ⊢
  rw [show W p l e (headSpec wsX3_findFree rm_3_findFree).room s m args below meth c s.heap locs 0 0 QQ = W p l e (headSpec wsX3_findFree rm_3_findFree).room s m args below meth c H locs 0 0 QQ by rw [hH]]
  have hS : va_S (inA 120 ad) s.heap H locs := by rw [hH]; exact hS
  have hP : va_P D vwCl (ww dX 120 cA ad σ) H := by rw [hH]; exact hP
  clear hH hlc
  refine lv_iconst (v := 0) hx hb dX3_findFree_0 (by decide) ?_
  refine lv_istore (lv' := [(5, .int 0), (0, .ref (ad 11)), (1, .ref (ad 3)), (2, .int a2), (3, .long a3)]) hx hb dX3_findFree_1 hl (by decide) rfl (fun ls hl => ?_)
  obtain ⟨y1014, o1015, h⟩ := bd_some h
  refine lq_rule (P := fun t2 : Int32 × St => ∀ (H : Heap) (locs : List Loc) (ls : Array Slot), va_P D vwCl (ww dX 120 cA ad t2.2) H → va_S (inA 120 ad) s.heap H locs → lv_has ls 6 [(0, .ref (ad 11)), (1, .ref (ad 3)), (2, .int a2), (3, .long a3), (5, .int t2.1)] → W p l e (headSpec wsX3_findFree rm_3_findFree).room s m args below meth c H locs 0 0 QQ (F0 m 3 ls [])) (X := fun y1014 : (Int32 × St) ⊕ (Int32 × St) => Sum.elim (fun rr => rr = res) (fun t1013 => ∀ (H : Heap) (locs : List Loc) (ls : Array Slot), va_P D vwCl (ww dX 120 cA ad t1013.2) H → va_S (inA 120 ad) s.heap H locs → lv_has ls 6 [(0, .ref (ad 11)), (1, .ref (ad 3)), (2, .int a2), (3, .long a3), (5, .int t1013.1)] → W p l e (headSpec wsX3_findFree rm_3_findFree).room s m args below meth c H locs 0 0 QQ (F0 m 54 ls [])) y1014) ?_ n _ _ o1015 ?_ H locs ls hP hS (lv_sub hl [1, 2, 3, 4, 0] rfl)
  · clear h hP hS hl
    intro t2 rL1 h hCL1 hEL1 H locs ls hP hS hl
    unfold b_3_findFree_3 at h
    refine lv_iload hx hb dX3_findFree_3 (lv_at hl 4 rfl) ?_
    refine lv_bipush (v := 6) hx hb dX3_findFree_5 (by decide) ?_
    refine lv_icmp_ge (tgt := 54) hx hb dX3_findFree_7 (by decide) (fun c3 => ?_) (fun c3 => ?_)
    · have h := it_t c3 h
      exact hEL1 _ (Option.some.inj h).symm H locs ls hP hS (lv_sub hl [0, 1, 2, 3, 4] rfl)
    · have h := it_f c3 h
      refine lv_aload_n hx hb dX3_findFree_10 rfl (lv_at hl 1 rfl) ?_
      refine lv_iload hx hb dX3_findFree_11 (lv_at hl 4 rfl) ?_
      obtain ⟨g4, h⟩ := gd_some h
      refine x_ar X hP (by decide) (dX_3) g4 dX3_findFree_13 ?_
      refine x_gi X hP (j := 1) (fam_lt (inb_lt g4) (by decide)) (dX_30 (inb_lt g4)) rfl rfl (by decide) in0 lk177 dX3_findFree_14 ?_
      refine lv_if_eq (tgt := 48) hx hb dX3_findFree_17 (by decide) (fun c5 => ?_) (fun c5 => ?_)
      · have h := it_t c5 h
        obtain ⟨v6, ev6⟩ : ∃ y : Int32, y = t2.1 + 1 := ⟨_, rfl⟩
        have h := nm_some ev6 h
        refine lv_iinc (v := v6) (lv' := [(5, .int v6), (0, .ref (ad 11)), (1, .ref (ad 3)), (2, .int a2), (3, .long a3)]) hx hb dX3_findFree_48 hl (k := 4) rfl (by rw [ev6]; rfl) (by decide) rfl (fun ls hl => ?_)
        refine lv_goto (tgt := 3) hx hb dX3_findFree_51 (by decide) ?_
        exact hCL1 _ (Option.some.inj h).symm H locs ls hP hS (lv_sub hl [1, 2, 3, 4, 0] rfl)
      · have h := it_f c5 h
        refine lv_aload_n hx hb dX3_findFree_20 rfl (lv_at hl 1 rfl) ?_
        refine lv_iload hx hb dX3_findFree_21 (lv_at hl 4 rfl) ?_
        refine x_ar X hP (by decide) (dX_3) g4 dX3_findFree_23 ?_
        refine x_gi X hP (j := 0) (fam_lt (inb_lt g4) (by decide)) (dX_30 (inb_lt g4)) rfl rfl (by decide) in0 lk182 dX3_findFree_24 ?_
        refine lv_iload_n hx hb dX3_findFree_27 rfl (lv_at hl 2 rfl) ?_
        refine lv_icmp_ne (tgt := 48) hx hb dX3_findFree_28 (by decide) (fun c7 => ?_) (fun c7 => ?_)
        · have h := it_f c7 h
          obtain ⟨v8, ev8⟩ : ∃ y : Int32, y = t2.1 + 1 := ⟨_, rfl⟩
          have h := nm_some ev8 h
          refine lv_iinc (v := v8) (lv' := [(5, .int v8), (0, .ref (ad 11)), (1, .ref (ad 3)), (2, .int a2), (3, .long a3)]) hx hb dX3_findFree_48 hl (k := 4) rfl (by rw [ev8]; rfl) (by decide) rfl (fun ls hl => ?_)
          refine lv_goto (tgt := 3) hx hb dX3_findFree_51 (by decide) ?_
          exact hCL1 _ (Option.some.inj h).symm H locs ls hP hS (lv_sub hl [1, 2, 3, 4, 0] rfl)
        · have h := it_t c7 h
          refine lv_aload_n hx hb dX3_findFree_31 rfl (lv_at hl 0 rfl) ?_
          refine x_gr X hP (j := 2) (by decide) (dX_11) rfl rfl (by decide) in3 lk22 dX3_findFree_32 ?_
          refine lv_iload hx hb dX3_findFree_35 (lv_at hl 4 rfl) ?_
          refine x_al X hP (by decide) (dX_14) g4 dX3_findFree_37 ?_
          refine lv_lload_n hx hb dX3_findFree_38 rfl (lv_at hl 3 rfl) ?_
          refine lv_land hx hb dX3_findFree_39 ?_
          refine lv_topl (fun v9 ev9 => ?_)
          have h := nm_some ev9 h
          refine lv_lconst (v := 0) hx hb dX3_findFree_40 (by decide) ?_
          refine W.lcmp hx hb dX3_findFree_41 ?_
          refine lv_topi (fun v10 ev10 => ?_)
          have h := nm_some ev10 h
          refine lv_if_ne (tgt := 48) hx hb dX3_findFree_42 (by decide) (fun c11 => ?_) (fun c11 => ?_)
          · have h := it_f c11 h
            obtain ⟨v12, ev12⟩ : ∃ y : Int32, y = t2.1 + 1 := ⟨_, rfl⟩
            have h := nm_some ev12 h
            refine lv_iinc (v := v12) (lv' := [(5, .int v12), (0, .ref (ad 11)), (1, .ref (ad 3)), (2, .int a2), (3, .long a3)]) hx hb dX3_findFree_48 hl (k := 4) rfl (by rw [ev12]; rfl) (by decide) rfl (fun ls hl => ?_)
            refine lv_goto (tgt := 3) hx hb dX3_findFree_51 (by decide) ?_
            exact hCL1 _ (Option.some.inj h).symm H locs ls hP hS (lv_sub hl [1, 2, 3, 4, 0] rfl)
          · have h := it_t c11 h
            refine lv_iload hx hb dX3_findFree_45 (lv_at hl 4 rfl) ?_
            subst hQQ
            exact x_ri (σ0 := (fun _ _ => 0, fun _ _ => 0)) X hr hlocks hP hS (hEL1 _ (Option.some.inj h).symm) dX3_findFree_47
  · rcases y1014 with rr | t1013
    · have h := el_l h
      exact (Option.some.inj h)
    · have h := el_r h
      intro H locs ls hP hS hl
      refine lv_iconst (v := (-1)) hx hb dX3_findFree_54 (by decide) ?_
      subst hQQ
      exact x_ri (σ0 := (fun _ _ => 0, fun _ _ => 0)) X hr hlocks hP hS (Option.some.inj h) dX3_findFree_55
def f_3_addRest (n : Nat) (σ : St) (i0 : Nat) (a1 : Int32) : Option (St) :=
  nm ((σ.1 (76 + i0) 0) + a1) fun v1 =>
  if v1 ≤ 48 then
    (f_5_note n σ i0 2 (σ.1 (76 + i0) 0) a1 (-1)).bind fun r3 =>
    some r3
  else
    nm (si σ (76 + i0) 5 1) fun σ5 =>
    some σ5
abbrev rm_3_addRest : Room := { frames := 1, cells := 0, slots := 0, locals := 24 }
set_option maxRecDepth 100000 in
set_option maxHeartbeats 4000000 in
theorem k_3_addRest (l : Launch) (D : va_G) (cA : Nat → ClassId) (ad : Nat → Nat) (z : ZX) (hj : inj 120 ad) (n : Nat) (σ : St) (i0 : Nat) (a1 : Int32) (h0 : i0 < 8) {res : St} (h : f_3_addRest n σ i0 a1 = some res) : MXv l D dX 120 cA ad (EX ad z) yX3_addRest wsX3_addRest rm_3_addRest [.ref (ad (76 + i0)), .int a1] σ res := by
  refine Met.ofW (cc := cX3_addRest) (maxL := 2) (ret := none) (by decide) rfl ?_
  intro p e s m args below meth c s₁ B hml hv
  obtain ⟨hargs, hP, hK, hE⟩ := hv
  have hx := B.exec
  have hb := B.bytes
  have hr := B.returns
  have hts := atoms_spec (ws := wsX3_addRest) B.pre
  have hown : s.vm.findClass RX3 = some m.cls := findClass_of_methodNamed B.named
  have hlocks := B.notSynchronized
  have X : Cx p s m args c cX3_addRest 2 RX3 wsX3_addRest D dX 120 cA ad (EX ad z) := ⟨hx, hb, hml, hown, hts, hK, hj, hE, EX_ok ad z⟩
  have hS : va_S (inA 120 ad) s.heap s.heap [] := va_S.rf
  have hl := lv_entry ([.ref (ad (76 + i0)), .int a1]) (n := 2) (Nat.le_of_ble_eq_true rfl)
  rw [show entryFrame m args 2 = entryFrame m ([.ref (ad (76 + i0)), .int a1] : List Value).toArray 2 by rw [hargs]]
  rw [lg_entry_eq]
  generalize (lg_sl ([.ref (ad (76 + i0)), .int a1]) ++ List.replicate (2 - (lg_sl ([.ref (ad (76 + i0)), .int a1])).length) Slot.unset).toArray = ls at hl ⊢
  have hl : lv_has ls 2 [(0, .ref (ad (76 + i0))), (1, .int a1)] := hl
  obtain ⟨QQ, hQQ⟩ : ∃ Q, Q = MQ below (va_Qv (fun u => u = res) (fun u t => va_P D vwCl (ww dX 120 cA ad u) t.heap) (inA 120 ad)) args s 0 0 (inA 120 ad) := ⟨_, rfl⟩
  show W p l e (headSpec wsX3_addRest rm_3_addRest).room s m args below meth c s.heap [] 0 0 (MQ below (va_Qv (fun u => u = res) (fun u t => va_P D vwCl (ww dX 120 cA ad u) t.heap) (inA 120 ad)) args s 0 0 (inA 120 ad)) _
  rw [← hQQ]
  have in5 : ∀ w ∈ wsX50, w ∈ wsX3_addRest := by decide +kernel
  have lk144 : Cond.fieldLink RX3 144 "CureTown$GuestDay" "now" "I" ∈ wsX3_addRest := by decide +kernel
  have lk81 : Cond.fieldLink RX3 81 "CureTown$GuestDay" "isLost" "Z" ∈ wsX3_addRest := by decide +kernel
  unfold f_3_addRest at h
  obtain ⟨H, hH⟩ : ∃ H, H = s.heap := ⟨_, rfl⟩
  obtain ⟨locs, hlc⟩ : ∃ q : List Loc, q = [] := ⟨_, rfl⟩
  have hP : va_P D vwCl (ww dX 120 cA ad σ) s.heap := hP
  have hS : va_S (inA 120 ad) s.heap s.heap [] := hS
  rw [← hlc] at hS ⊢
  rw [show W p l e (headSpec wsX3_addRest rm_3_addRest).room s m args below meth c s.heap locs 0 0 QQ = W p l e (headSpec wsX3_addRest rm_3_addRest).room s m args below meth c H locs 0 0 QQ by rw [hH]]
  have hS : va_S (inA 120 ad) s.heap H locs := by rw [hH]; exact hS
  have hP : va_P D vwCl (ww dX 120 cA ad σ) H := by rw [hH]; exact hP
  clear hH hlc
  refine lv_aload_n hx hb dX3_addRest_0 rfl (lv_at hl 0 rfl) ?_
  refine x_gi X hP (j := 0) (fam_lt h0 (by decide)) (dX_76 h0) rfl rfl (by decide) in5 lk144 dX3_addRest_1 ?_
  refine lv_iload_n hx hb dX3_addRest_4 rfl (lv_at hl 1 rfl) ?_
  refine lv_iadd hx hb dX3_addRest_5 ?_
  refine lv_topi (fun v1 ev1 => ?_)
  have h := nm_some ev1 h
  refine lv_bipush (v := 48) hx hb dX3_addRest_6 (by decide) ?_
  refine lv_icmp_le (tgt := 19) hx hb dX3_addRest_8 (by decide) (fun c2 => ?_) (fun c2 => ?_)
  · have h := it_t c2 h
    refine lv_aload_n hx hb dX3_addRest_19 rfl (lv_at hl 0 rfl) ?_
    refine lv_iconst (v := 2) hx hb dX3_addRest_20 (by decide) ?_
    refine lv_aload_n hx hb dX3_addRest_21 rfl (lv_at hl 0 rfl) ?_
    refine x_gi X hP (j := 0) (fam_lt h0 (by decide)) (dX_76 h0) rfl rfl (by decide) in5 lk144 dX3_addRest_22 ?_
    refine lv_iload_n hx hb dX3_addRest_25 rfl (lv_at hl 1 rfl) ?_
    refine lv_iconst (v := (-1)) hx hb dX3_addRest_26 (by decide) ?_
    obtain ⟨r3, k4, h⟩ := bd_some h
    refine x_Vv (rest := []) X hP hS (k_5_note l D cA ad z hj n σ i0 2 (σ.1 (76 + i0) 0) a1 (-1) h0 k4) (fam_lt h0 (by decide)) (dX_76 h0) rfl 4 gX3_addRest_X5_note rfl rfl rfl (by decide +kernel) ⟨Nat.le_of_ble_eq_true rfl, Nat.le_of_ble_eq_true rfl⟩ rfl hl.1 rfl (Nat.le_of_ble_eq_true rfl) dX3_addRest_27 ⟨Nat.zero_le _, Nat.zero_le _⟩ (fun H locs hP hS => ?_)
    subst hQQ
    exact x_rv X hr hlocks hP hS (Option.some.inj h) dX3_addRest_30
  · have h := it_f c2 h
    refine lv_aload_n hx hb dX3_addRest_11 rfl (lv_at hl 0 rfl) ?_
    refine lv_iconst (v := 1) hx hb dX3_addRest_12 (by decide) ?_
    refine x_pi X hP hS (j := 5) (fam_lt h0 (by decide)) (dX_76 h0) rfl rfl (by decide) in5 tyX5_ok nmX5 lk81 rfl rfl (by decide +kernel) (by decide +kernel) dX3_addRest_13 (fun σ5 eσ5 H locs hP hS => ?_)
    have h := nm_some eσ5 h
    refine lv_goto (tgt := 30) hx hb dX3_addRest_16 (by decide) ?_
    subst hQQ
    exact x_rv X hr hlocks hP hS (Option.some.inj h) dX3_addRest_30
def b_3_addBath_6 (n : Nat) (i2 : Nat) (a3 : Int32) (a4 : Int32) (t3 : Int32 × St) : Option ((Int32 × St) ⊕ ((St) ⊕ (Int32 × St))) :=
  nm (t3.1 + a4) fun v4 =>
  if 48 < v4 then
    some (.inr (.inr (t3.1, t3.2)))
  else
    (f_3_bits n t3.2 t3.1 a4).bind fun r6 =>
    (f_3_findFree n r6.2 a3 r6.1).bind fun r8 =>
    if r8.1 = (-1) then
      nm (t3.1 + 1) fun v11 =>
      some (.inl (v11, r8.2))
    else
      gd (inb r8.1 6) <| (f_3_bits n r8.2 t3.1 a4).bind fun r13 =>
      nm (((r8.2.2 14 r8.1.toNatClampNeg) : Int64) ||| r13.1) fun v15 =>
      nm (sl r13.2 14 (r8.1.toNatClampNeg) v15) fun σ16 =>
      (f_5_note n σ16 i2 1 t3.1 a4 r8.1).bind fun r17 =>
      some (.inr (.inl r17))
def f_3_addBath (n : Nat) (σ : St) (i2 : Nat) (a3 : Int32) (a4 : Int32) : Option (St) :=
  nm ((σ.1 (76 + i2) 0)) fun v1 =>
  (lq (b_3_addBath_6 n i2 a3 a4) n (v1, σ)).bind <| Sum.elim (fun rr => some rr) fun t1019 =>
  nm (si t1019.2 (76 + i2) 5 1) fun σ1022 =>
  some σ1022
abbrev rm_3_addBath : Room := { frames := 1, cells := 0, slots := 0, locals := 25 }
set_option maxRecDepth 100000 in
set_option maxHeartbeats 4000000 in
theorem k_3_addBath (l : Launch) (D : va_G) (cA : Nat → ClassId) (ad : Nat → Nat) (z : ZX) (hj : inj 120 ad) (n : Nat) (σ : St) (i2 : Nat) (a3 : Int32) (a4 : Int32) (h2 : i2 < 8) {res : St} (h : f_3_addBath n σ i2 a3 a4 = some res) : MXv l D dX 120 cA ad (EX ad z) yX3_addBath wsX3_addBath rm_3_addBath [.ref (ad 11), .ref (ad 3), .ref (ad (76 + i2)), .int a3, .int a4] σ res := by
  refine Met.ofW (cc := cX3_addBath) (maxL := 7) (ret := none) (by decide) rfl ?_
  intro p e s m args below meth c s₁ B hml hv
  obtain ⟨hargs, hP, hK, hE⟩ := hv
  have hx := B.exec
  have hb := B.bytes
  have hr := B.returns
  have hts := atoms_spec (ws := wsX3_addBath) B.pre
  have hown : s.vm.findClass RX3 = some m.cls := findClass_of_methodNamed B.named
  have hlocks := B.notSynchronized
  have X : Cx p s m args c cX3_addBath 7 RX3 wsX3_addBath D dX 120 cA ad (EX ad z) := ⟨hx, hb, hml, hown, hts, hK, hj, hE, EX_ok ad z⟩
  have hS : va_S (inA 120 ad) s.heap s.heap [] := va_S.rf
  have hl := lv_entry ([.ref (ad 11), .ref (ad 3), .ref (ad (76 + i2)), .int a3, .int a4]) (n := 7) (Nat.le_of_ble_eq_true rfl)
  rw [show entryFrame m args 7 = entryFrame m ([.ref (ad 11), .ref (ad 3), .ref (ad (76 + i2)), .int a3, .int a4] : List Value).toArray 7 by rw [hargs]]
  rw [lg_entry_eq]
  generalize (lg_sl ([.ref (ad 11), .ref (ad 3), .ref (ad (76 + i2)), .int a3, .int a4]) ++ List.replicate (7 - (lg_sl ([.ref (ad 11), .ref (ad 3), .ref (ad (76 + i2)), .int a3, .int a4])).length) Slot.unset).toArray = ls at hl ⊢
  have hl : lv_has ls 7 [(0, .ref (ad 11)), (1, .ref (ad 3)), (2, .ref (ad (76 + i2))), (3, .int a3), (4, .int a4)] := hl
  obtain ⟨QQ, hQQ⟩ : ∃ Q, Q = MQ below (va_Qv (fun u => u = res) (fun u t => va_P D vwCl (ww dX 120 cA ad u) t.heap) (inA 120 ad)) args s 0 0 (inA 120 ad) := ⟨_, rfl⟩
  show W p l e (headSpec wsX3_addBath rm_3_addBath).room s m args below meth c s.heap [] 0 0 (MQ below (va_Qv (fun u => u = res) (fun u t => va_P D vwCl (ww dX 120 cA ad u) t.heap) (inA 120 ad)) args s 0 0 (inA 120 ad)) _
  rw [← hQQ]
  have in5 : ∀ w ∈ wsX50, w ∈ wsX3_addBath := by decide +kernel
  have in3 : ∀ w ∈ wsX30, w ∈ wsX3_addBath := by decide +kernel
  have lk144 : Cond.fieldLink RX3 144 "CureTown$GuestDay" "now" "I" ∈ wsX3_addBath := by decide +kernel
  have lk22 : Cond.fieldLink RX3 22 "CureTown$DayPlan" "bathsLet" "[J" ∈ wsX3_addBath := by decide +kernel
  have lk81 : Cond.fieldLink RX3 81 "CureTown$GuestDay" "isLost" "Z" ∈ wsX3_addBath := by decide +kernel
  unfold f_3_addBath at h
  obtain ⟨H, hH⟩ : ∃ H, H = s.heap := ⟨_, rfl⟩
  obtain ⟨locs, hlc⟩ : ∃ q : List Loc, q = [] := ⟨_, rfl⟩
  have hP : va_P D vwCl (ww dX 120 cA ad σ) s.heap := hP
  have hS : va_S (inA 120 ad) s.heap s.heap [] := hS
  rw [← hlc] at hS ⊢
  rw [show W p l e (headSpec wsX3_addBath rm_3_addBath).room s m args below meth c s.heap locs 0 0 QQ = W p l e (headSpec wsX3_addBath rm_3_addBath).room s m args below meth c H locs 0 0 QQ by rw [hH]]
  have hS : va_S (inA 120 ad) s.heap H locs := by rw [hH]; exact hS
  have hP : va_P D vwCl (ww dX 120 cA ad σ) H := by rw [hH]; exact hP
  clear hH hlc
  refine lv_aload_n hx hb dX3_addBath_0 rfl (lv_at hl 2 rfl) ?_
  refine x_gi X hP (j := 0) (fam_lt h2 (by decide)) (dX_76 h2) rfl rfl (by decide) in5 lk144 dX3_addBath_1 ?_
  refine lv_topi (fun v1 ev1 => ?_)
  have h := nm_some ev1 h
  refine lv_istore (lv' := [(5, .int v1), (0, .ref (ad 11)), (1, .ref (ad 3)), (2, .ref (ad (76 + i2))), (3, .int a3), (4, .int a4)]) hx hb dX3_addBath_4 hl (by decide) rfl (fun ls hl => ?_)
  obtain ⟨y1020, o1021, h⟩ := bd_some h
  refine lq_rule (P := fun t3 : Int32 × St => ∀ (H : Heap) (locs : List Loc) (ls : Array Slot), va_P D vwCl (ww dX 120 cA ad t3.2) H → va_S (inA 120 ad) s.heap H locs → lv_has ls 7 [(0, .ref (ad 11)), (1, .ref (ad 3)), (2, .ref (ad (76 + i2))), (3, .int a3), (4, .int a4), (5, .int t3.1)] → W p l e (headSpec wsX3_addBath rm_3_addBath).room s m args below meth c H locs 0 0 QQ (F0 m 6 ls [])) (X := fun y1020 : (St) ⊕ (Int32 × St) => Sum.elim (fun rr => rr = res) (fun t1019 => ∀ (H : Heap) (locs : List Loc) (ls : Array Slot), va_P D vwCl (ww dX 120 cA ad t1019.2) H → va_S (inA 120 ad) s.heap H locs → lv_has ls 7 [(0, .ref (ad 11)), (1, .ref (ad 3)), (2, .ref (ad (76 + i2))), (3, .int a3), (4, .int a4), (5, .int t1019.1)] → W p l e (headSpec wsX3_addBath rm_3_addBath).room s m args below meth c H locs 0 0 QQ (F0 m 72 ls [])) y1020) ?_ n _ _ o1021 ?_ H locs ls hP hS (lv_sub hl [1, 2, 3, 4, 5, 0] rfl)
  · clear h hP hS hl
    intro t3 rL2 h hCL2 hEL2 H locs ls hP hS hl
    unfold b_3_addBath_6 at h
    refine lv_iload hx hb dX3_addBath_6 (lv_at hl 5 rfl) ?_
    refine lv_iload hx hb dX3_addBath_8 (lv_at hl 4 rfl) ?_
    refine lv_iadd hx hb dX3_addBath_10 ?_
    refine lv_topi (fun v4 ev4 => ?_)
    have h := nm_some ev4 h
    refine lv_bipush (v := 48) hx hb dX3_addBath_11 (by decide) ?_
    refine lv_icmp_gt (tgt := 72) hx hb dX3_addBath_13 (by decide) (fun c5 => ?_) (fun c5 => ?_)
    · have h := it_t c5 h
      exact hEL2 _ (Option.some.inj h).symm H locs ls hP hS (lv_sub hl [0, 1, 2, 3, 4, 5] rfl)
    · have h := it_f c5 h
      refine lv_aload_n hx hb dX3_addBath_16 rfl (lv_at hl 0 rfl) ?_
      refine lv_aload_n hx hb dX3_addBath_17 rfl (lv_at hl 1 rfl) ?_
      refine lv_iload_n hx hb dX3_addBath_18 rfl (lv_at hl 3 rfl) ?_
      refine lv_iload hx hb dX3_addBath_19 (lv_at hl 5 rfl) ?_
      refine lv_iload hx hb dX3_addBath_21 (lv_at hl 4 rfl) ?_
      obtain ⟨r6, k7, h⟩ := bd_some h
      refine x_Sl (rest := [.int a3, .ref (ad 3), .ref (ad 11)]) X hP hS (k_3_bits l D cA ad z hj n t3.2 t3.1 a4 k7) 2 gX3_addBath_X3_bits rfl rfl rfl (by decide +kernel) ⟨Nat.le_of_ble_eq_true rfl, Nat.le_of_ble_eq_true rfl⟩ rfl hl.1 rfl (Nat.le_of_ble_eq_true rfl) dX3_addBath_23 ⟨Nat.zero_le _, Nat.zero_le _⟩ (fun H locs hP hS => ?_)
      obtain ⟨r8, k9, h⟩ := bd_some h
      refine x_Vi (rest := []) X hP hS (k_3_findFree l D cA ad z hj n r6.2 a3 r6.1 k9) (by decide) (dX_11) rfl 3 gX3_addBath_X3_findFree rfl rfl rfl (by decide +kernel) ⟨Nat.le_of_ble_eq_true rfl, Nat.le_of_ble_eq_true rfl⟩ rfl hl.1 rfl (Nat.le_of_ble_eq_true rfl) dX3_addBath_26 ⟨Nat.zero_le _, Nat.zero_le _⟩ (fun H locs hP hS => ?_)
      refine lv_istore (lv' := [(6, .int r8.1), (0, .ref (ad 11)), (1, .ref (ad 3)), (2, .ref (ad (76 + i2))), (3, .int a3), (4, .int a4), (5, .int t3.1)]) hx hb dX3_addBath_29 hl (by decide) rfl (fun ls hl => ?_)
      refine lv_iload hx hb dX3_addBath_31 (lv_at hl 0 rfl) ?_
      refine lv_iconst (v := (-1)) hx hb dX3_addBath_33 (by decide) ?_
      refine lv_icmp_eq (tgt := 66) hx hb dX3_addBath_34 (by decide) (fun c10 => ?_) (fun c10 => ?_)
      · have h := it_t c10 h
        obtain ⟨v11, ev11⟩ : ∃ y : Int32, y = t3.1 + 1 := ⟨_, rfl⟩
        have h := nm_some ev11 h
        refine lv_iinc (v := v11) (lv' := [(5, .int v11), (6, .int r8.1), (0, .ref (ad 11)), (1, .ref (ad 3)), (2, .ref (ad (76 + i2))), (3, .int a3), (4, .int a4)]) hx hb dX3_addBath_66 hl (k := 6) rfl (by rw [ev11]; rfl) (by decide) rfl (fun ls hl => ?_)
        refine lv_goto (tgt := 6) hx hb dX3_addBath_69 (by decide) ?_
        exact hCL2 _ (Option.some.inj h).symm H locs ls hP hS (lv_sub hl [2, 3, 4, 5, 6, 0] rfl)
      · have h := it_f c10 h
        refine lv_aload_n hx hb dX3_addBath_37 rfl (lv_at hl 1 rfl) ?_
        refine x_gr X hP (j := 2) (by decide) (dX_11) rfl rfl (by decide) in3 lk22 dX3_addBath_38 ?_
        refine lv_iload hx hb dX3_addBath_41 (lv_at hl 0 rfl) ?_
        refine lv_dup2_11 hx hb dX3_addBath_43 rfl rfl ?_
        obtain ⟨g12, h⟩ := gd_some h
        refine x_al X hP (by decide) (dX_14) g12 dX3_addBath_44 ?_
        refine lv_iload hx hb dX3_addBath_45 (lv_at hl 6 rfl) ?_
        refine lv_iload hx hb dX3_addBath_47 (lv_at hl 5 rfl) ?_
        obtain ⟨r13, k14, h⟩ := bd_some h
        refine x_Sl (rest := [.long (r8.2.2 14 r8.1.toNatClampNeg), .int r8.1, .ref (ad 14)]) X hP hS (k_3_bits l D cA ad z hj n r8.2 t3.1 a4 k14) 2 gX3_addBath_X3_bits rfl rfl rfl (by decide +kernel) ⟨Nat.le_of_ble_eq_true rfl, Nat.le_of_ble_eq_true rfl⟩ rfl hl.1 rfl (Nat.le_of_ble_eq_true rfl) dX3_addBath_49 ⟨Nat.zero_le _, Nat.zero_le _⟩ (fun H locs hP hS => ?_)
        refine lv_lor hx hb dX3_addBath_52 ?_
        refine lv_topl (fun v15 ev15 => ?_)
        have h := nm_some ev15 h
        refine x_sl X hP hS (by decide) (dX_14) g12 dX3_addBath_53 (fun σ16 eσ16 H locs hP hS => ?_)
        have h := nm_some eσ16 h
        refine lv_aload_n hx hb dX3_addBath_54 rfl (lv_at hl 3 rfl) ?_
        refine lv_iconst (v := 1) hx hb dX3_addBath_55 (by decide) ?_
        refine lv_iload hx hb dX3_addBath_56 (lv_at hl 6 rfl) ?_
        refine lv_iload hx hb dX3_addBath_58 (lv_at hl 5 rfl) ?_
        refine lv_iload hx hb dX3_addBath_60 (lv_at hl 0 rfl) ?_
        obtain ⟨r17, k18, h⟩ := bd_some h
        refine x_Vv (rest := []) X hP hS (k_5_note l D cA ad z hj n σ16 i2 1 t3.1 a4 r8.1 h2 k18) (fam_lt h2 (by decide)) (dX_76 h2) rfl 4 gX3_addBath_X5_note rfl rfl rfl (by decide +kernel) ⟨Nat.le_of_ble_eq_true rfl, Nat.le_of_ble_eq_true rfl⟩ rfl hl.1 rfl (Nat.le_of_ble_eq_true rfl) dX3_addBath_62 ⟨Nat.zero_le _, Nat.zero_le _⟩ (fun H locs hP hS => ?_)
        subst hQQ
        exact x_rv X hr hlocks hP hS (hEL2 _ (Option.some.inj h).symm) dX3_addBath_65
  · rcases y1020 with rr | t1019
    · have h := el_l h
      exact (Option.some.inj h)
    · have h := el_r h
      intro H locs ls hP hS hl
      refine lv_aload_n hx hb dX3_addBath_72 rfl (lv_at hl 2 rfl) ?_
      refine lv_iconst (v := 1) hx hb dX3_addBath_73 (by decide) ?_
      refine x_pi X hP hS (j := 5) (fam_lt h2 (by decide)) (dX_76 h2) rfl rfl (by decide) in5 tyX5_ok nmX5 lk81 rfl rfl (by decide +kernel) (by decide +kernel) dX3_addBath_74 (fun σ1022 eσ1022 H locs hP hS => ?_)
      have h := nm_some eσ1022 h
      subst hQQ
      exact x_rv X hr hlocks hP hS (Option.some.inj h) dX3_addBath_77
def b_3_addGlass_27 (n : Nat) (i1 : Nat) (i2 : Nat) (a4 : Int32) (t5 : Int32 × St) : Option ((Int32 × St) ⊕ (Int32 × St)) :=
  if (t5.2.1 (22 + i1) 2) ≤ t5.1 then
    some (.inr (t5.1, t5.2))
  else
    gd (inb a4 4) <| gd (inb t5.1 48) <| if (t5.2.1 (116 + a4.toNatClampNeg) t5.1.toNatClampNeg) < (t5.2.1 (22 + i1) 0) then
      some (.inr (t5.1, t5.2))
    else
      nm (t5.1 + 1) fun v10 =>
      some (.inl (v10, t5.2))
def f_3_addGlass (n : Nat) (σ : St) (i1 : Nat) (i2 : Nat) (a3 : Int32) (a4 : Int32) : Option (St) :=
  nm ((σ.1 (76 + i2) 1) + (σ.1 (22 + i1) 3)) fun v1 =>
  if v1 ≤ a3 then
    nm (if (σ.1 (76 + i2) 0) < (σ.1 (22 + i1) 1) then (σ.1 (22 + i1) 1) else (σ.1 (76 + i2) 0)) fun v3 =>
    (lq (b_3_addGlass_27 n i1 i2 a4) n (v3, σ)).bind fun t1011 =>
    if t1011.1 < (t1011.2.1 (22 + i1) 2) then
      gd (inb a4 4) <| gd (inb t1011.1 48) <| nm ((t1011.2.1 (116 + a4.toNatClampNeg) t1011.1.toNatClampNeg) + 1) fun v1017 =>
      nm (si t1011.2 (116 + a4.toNatClampNeg) (t1011.1.toNatClampNeg) v1017) fun σ1018 =>
      nm ((σ1018.1 (76 + i2) 1) + (σ1018.1 (22 + i1) 3)) fun v1019 =>
      nm (si σ1018 (76 + i2) 1 v1019) fun σ1020 =>
      nm ((σ1020.1 (76 + i2) 4) + 1) fun v1021 =>
      nm (si σ1020 (76 + i2) 4 v1021) fun σ1022 =>
      (f_5_note n σ1022 i2 0 t1011.1 1 a4).bind fun r1023 =>
      some r1023
    else
      nm (si t1011.2 (76 + i2) 5 1) fun σ1025 =>
      some σ1025
  else
    some σ
abbrev rm_3_addGlass : Room := { frames := 1, cells := 0, slots := 0, locals := 24 }
set_option maxRecDepth 100000 in
set_option maxHeartbeats 4000000 in
theorem k_3_addGlass (l : Launch) (D : va_G) (cA : Nat → ClassId) (ad : Nat → Nat) (z : ZX) (hj : inj 120 ad) (n : Nat) (σ : St) (i1 : Nat) (i2 : Nat) (a3 : Int32) (a4 : Int32) (h1 : i1 < 4) (h2 : i2 < 8) {res : St} (h : f_3_addGlass n σ i1 i2 a3 a4 = some res) : MXv l D dX 120 cA ad (EX ad z) yX3_addGlass wsX3_addGlass rm_3_addGlass [.ref (ad 11), .ref (ad (22 + i1)), .ref (ad (76 + i2)), .int a3, .int a4] σ res := by
  refine Met.ofW (cc := cX3_addGlass) (maxL := 6) (ret := none) (by decide) rfl ?_
  intro p e s m args below meth c s₁ B hml hv
  obtain ⟨hargs, hP, hK, hE⟩ := hv
  have hx := B.exec
  have hb := B.bytes
  have hr := B.returns
  have hts := atoms_spec (ws := wsX3_addGlass) B.pre
  have hown : s.vm.findClass RX3 = some m.cls := findClass_of_methodNamed B.named
  have hlocks := B.notSynchronized
  have X : Cx p s m args c cX3_addGlass 6 RX3 wsX3_addGlass D dX 120 cA ad (EX ad z) := ⟨hx, hb, hml, hown, hts, hK, hj, hE, EX_ok ad z⟩
  have hS : va_S (inA 120 ad) s.heap s.heap [] := va_S.rf
  have hl := lv_entry ([.ref (ad 11), .ref (ad (22 + i1)), .ref (ad (76 + i2)), .int a3, .int a4]) (n := 6) (Nat.le_of_ble_eq_true rfl)
  rw [show entryFrame m args 6 = entryFrame m ([.ref (ad 11), .ref (ad (22 + i1)), .ref (ad (76 + i2)), .int a3, .int a4] : List Value).toArray 6 by rw [hargs]]
  rw [lg_entry_eq]
  generalize (lg_sl ([.ref (ad 11), .ref (ad (22 + i1)), .ref (ad (76 + i2)), .int a3, .int a4]) ++ List.replicate (6 - (lg_sl ([.ref (ad 11), .ref (ad (22 + i1)), .ref (ad (76 + i2)), .int a3, .int a4])).length) Slot.unset).toArray = ls at hl ⊢
  have hl : lv_has ls 6 [(0, .ref (ad 11)), (1, .ref (ad (22 + i1))), (2, .ref (ad (76 + i2))), (3, .int a3), (4, .int a4)] := hl
  obtain ⟨QQ, hQQ⟩ : ∃ Q, Q = MQ below (va_Qv (fun u => u = res) (fun u t => va_P D vwCl (ww dX 120 cA ad u) t.heap) (inA 120 ad)) args s 0 0 (inA 120 ad) := ⟨_, rfl⟩
  show W p l e (headSpec wsX3_addGlass rm_3_addGlass).room s m args below meth c s.heap [] 0 0 (MQ below (va_Qv (fun u => u = res) (fun u t => va_P D vwCl (ww dX 120 cA ad u) t.heap) (inA 120 ad)) args s 0 0 (inA 120 ad)) _
  rw [← hQQ]
  have in5 : ∀ w ∈ wsX50, w ∈ wsX3_addGlass := by decide +kernel
  have in7 : ∀ w ∈ wsX70, w ∈ wsX3_addGlass := by decide +kernel
  have in3 : ∀ w ∈ wsX30, w ∈ wsX3_addGlass := by decide +kernel
  have lk153 : Cond.fieldLink RX3 153 "CureTown$GuestDay" "strength" "I" ∈ wsX3_addGlass := by decide +kernel
  have lk156 : Cond.fieldLink RX3 156 "CureTown$Spring" "strength" "I" ∈ wsX3_addGlass := by decide +kernel
  have lk144 : Cond.fieldLink RX3 144 "CureTown$GuestDay" "now" "I" ∈ wsX3_addGlass := by decide +kernel
  have lk159 : Cond.fieldLink RX3 159 "CureTown$Spring" "from" "I" ∈ wsX3_addGlass := by decide +kernel
  have ml147max : Cond.methodLink RX3 147 Lib.Math.max.name ∈ wsX3_addGlass := by decide +kernel
  have ms147max : Cond.static Lib.Math.max.name ∈ wsX3_addGlass := by decide +kernel
  have mi147max : Cond.initialized "java/lang/Math" ∈ wsX3_addGlass := by decide +kernel
  have mc147max : Cond.code Lib.Math.max.name Lib.Math.max.code 2 (some .int) ∈ wsX3_addGlass := by decide +kernel
  have lk162 : Cond.fieldLink RX3 162 "CureTown$Spring" "until" "I" ∈ wsX3_addGlass := by decide +kernel
  have lk19 : Cond.fieldLink RX3 19 "CureTown$DayPlan" "glassesTaken" "[[I" ∈ wsX3_addGlass := by decide +kernel
  have lk165 : Cond.fieldLink RX3 165 "CureTown$Spring" "glasses" "I" ∈ wsX3_addGlass := by decide +kernel
  have lk168 : Cond.fieldLink RX3 168 "CureTown$GuestDay" "glasses" "I" ∈ wsX3_addGlass := by decide +kernel
  have lk81 : Cond.fieldLink RX3 81 "CureTown$GuestDay" "isLost" "Z" ∈ wsX3_addGlass := by decide +kernel
  unfold f_3_addGlass at h
  obtain ⟨H, hH⟩ : ∃ H, H = s.heap := ⟨_, rfl⟩
  obtain ⟨locs, hlc⟩ : ∃ q : List Loc, q = [] := ⟨_, rfl⟩
  have hP : va_P D vwCl (ww dX 120 cA ad σ) s.heap := hP
  have hS : va_S (inA 120 ad) s.heap s.heap [] := hS
  rw [← hlc] at hS ⊢
  rw [show W p l e (headSpec wsX3_addGlass rm_3_addGlass).room s m args below meth c s.heap locs 0 0 QQ = W p l e (headSpec wsX3_addGlass rm_3_addGlass).room s m args below meth c H locs 0 0 QQ by rw [hH]]
  have hS : va_S (inA 120 ad) s.heap H locs := by rw [hH]; exact hS
  have hP : va_P D vwCl (ww dX 120 cA ad σ) H := by rw [hH]; exact hP
  clear hH hlc
  refine lv_aload_n hx hb dX3_addGlass_0 rfl (lv_at hl 2 rfl) ?_
  refine x_gi X hP (j := 1) (fam_lt h2 (by decide)) (dX_76 h2) rfl rfl (by decide) in5 lk153 dX3_addGlass_1 ?_
  refine lv_aload_n hx hb dX3_addGlass_4 rfl (lv_at hl 1 rfl) ?_
  refine x_gi X hP (j := 3) (fam_lt h1 (by decide)) (dX_22 h1) rfl rfl (by decide) in7 lk156 dX3_addGlass_5 ?_
  refine lv_iadd hx hb dX3_addGlass_8 ?_
  refine lv_topi (fun v1 ev1 => ?_)
  have h := nm_some ev1 h
  refine lv_iload_n hx hb dX3_addGlass_9 rfl (lv_at hl 3 rfl) ?_
  refine lv_icmp_le (tgt := 14) hx hb dX3_addGlass_10 (by decide) (fun c2 => ?_) (fun c2 => ?_)
  · have h := it_t c2 h
    refine lv_aload_n hx hb dX3_addGlass_14 rfl (lv_at hl 2 rfl) ?_
    refine x_gi X hP (j := 0) (fam_lt h2 (by decide)) (dX_76 h2) rfl rfl (by decide) in5 lk144 dX3_addGlass_15 ?_
    refine lv_aload_n hx hb dX3_addGlass_18 rfl (lv_at hl 1 rfl) ?_
    refine x_gi X hP (j := 1) (fam_lt h1 (by decide)) (dX_22 h1) rfl rfl (by decide) in7 lk159 dX3_addGlass_19 ?_
    refine va_mmax hx hb (hml.trans hl.1.symm) X.2.2.2.1 (X.2.2.2.2.1 _ ml147max) (X.2.2.2.2.1 _ ms147max) (X.2.2.2.2.1 _ mi147max) (X.2.2.2.2.1 _ mc147max) (Nat.le_of_ble_eq_true rfl) (Nat.le_of_ble_eq_true rfl) (Nat.zero_le _) (Nat.zero_le _) dX3_addGlass_22 ?_
    refine lv_topi (fun v3 ev3 => ?_)
    have h := nm_some ev3 h
    refine lv_istore (lv' := [(5, .int v3), (0, .ref (ad 11)), (1, .ref (ad (22 + i1))), (2, .ref (ad (76 + i2))), (3, .int a3), (4, .int a4)]) hx hb dX3_addGlass_25 hl (by decide) rfl (fun ls hl => ?_)
    obtain ⟨t1011, o1013, h⟩ := bd_some h
    refine lq_rule (P := fun t5 : Int32 × St => ∀ (H : Heap) (locs : List Loc) (ls : Array Slot), va_P D vwCl (ww dX 120 cA ad t5.2) H → va_S (inA 120 ad) s.heap H locs → lv_has ls 6 [(0, .ref (ad 11)), (1, .ref (ad (22 + i1))), (2, .ref (ad (76 + i2))), (4, .int a4), (5, .int t5.1)] → W p l e (headSpec wsX3_addGlass rm_3_addGlass).room s m args below meth c H locs 0 0 QQ (F0 m 27 ls [])) (X := fun t1011 : Int32 × St => ∀ (H : Heap) (locs : List Loc) (ls : Array Slot), va_P D vwCl (ww dX 120 cA ad t1011.2) H → va_S (inA 120 ad) s.heap H locs → lv_has ls 6 [(0, .ref (ad 11)), (1, .ref (ad (22 + i1))), (2, .ref (ad (76 + i2))), (4, .int a4), (5, .int t1011.1)] → W p l e (headSpec wsX3_addGlass rm_3_addGlass).room s m args below meth c H locs 0 0 QQ (F0 m 59 ls [])) ?_ n _ _ o1013 ?_ H locs ls hP hS (lv_sub hl [1, 2, 3, 5, 0] rfl)
    · clear h hP hS hl
      intro t5 rL4 h hCL4 hEL4 H locs ls hP hS hl
      unfold b_3_addGlass_27 at h
      refine lv_iload hx hb dX3_addGlass_27 (lv_at hl 4 rfl) ?_
      refine lv_aload_n hx hb dX3_addGlass_29 rfl (lv_at hl 1 rfl) ?_
      refine x_gi X hP (j := 2) (fam_lt h1 (by decide)) (dX_22 h1) rfl rfl (by decide) in7 lk162 dX3_addGlass_30 ?_
      refine lv_icmp_ge (tgt := 59) hx hb dX3_addGlass_33 (by decide) (fun c6 => ?_) (fun c6 => ?_)
      · have h := it_t c6 h
        exact hEL4 _ (Option.some.inj h).symm H locs ls hP hS (lv_sub hl [0, 1, 2, 3, 4] rfl)
      · have h := it_f c6 h
        refine lv_aload_n hx hb dX3_addGlass_36 rfl (lv_at hl 0 rfl) ?_
        refine x_gr X hP (j := 1) (by decide) (dX_11) rfl rfl (by decide) in3 lk19 dX3_addGlass_37 ?_
        refine lv_iload hx hb dX3_addGlass_40 (lv_at hl 3 rfl) ?_
        obtain ⟨g7, h⟩ := gd_some h
        refine x_arr X hP (by decide) (dX_13) g7 dX3_addGlass_42 ?_
        refine lv_iload hx hb dX3_addGlass_43 (lv_at hl 4 rfl) ?_
        obtain ⟨g8, h⟩ := gd_some h
        refine x_ai X hP (fam_lt (inb_lt g7) (by decide)) (dX_116 (inb_lt g7)) g8 dX3_addGlass_45 ?_
        refine lv_aload_n hx hb dX3_addGlass_46 rfl (lv_at hl 1 rfl) ?_
        refine x_gi X hP (j := 0) (fam_lt h1 (by decide)) (dX_22 h1) rfl rfl (by decide) in7 lk165 dX3_addGlass_47 ?_
        refine lv_icmp_lt (tgt := 59) hx hb dX3_addGlass_50 (by decide) (fun c9 => ?_) (fun c9 => ?_)
        · have h := it_t c9 h
          exact hEL4 _ (Option.some.inj h).symm H locs ls hP hS (lv_sub hl [0, 1, 2, 3, 4] rfl)
        · have h := it_f c9 h
          obtain ⟨v10, ev10⟩ : ∃ y : Int32, y = t5.1 + 1 := ⟨_, rfl⟩
          have h := nm_some ev10 h
          refine lv_iinc (v := v10) (lv' := [(5, .int v10), (0, .ref (ad 11)), (1, .ref (ad (22 + i1))), (2, .ref (ad (76 + i2))), (4, .int a4)]) hx hb dX3_addGlass_53 hl (k := 4) rfl (by rw [ev10]; rfl) (by decide) rfl (fun ls hl => ?_)
          refine lv_goto (tgt := 27) hx hb dX3_addGlass_56 (by decide) ?_
          exact hCL4 _ (Option.some.inj h).symm H locs ls hP hS (lv_sub hl [1, 2, 3, 4, 0] rfl)
    · intro H locs ls hP hS hl
      refine lv_iload hx hb dX3_addGlass_59 (lv_at hl 4 rfl) ?_
      refine lv_aload_n hx hb dX3_addGlass_61 rfl (lv_at hl 1 rfl) ?_
      refine x_gi X hP (j := 2) (fam_lt h1 (by decide)) (dX_22 h1) rfl rfl (by decide) in7 lk162 dX3_addGlass_62 ?_
      refine lv_icmp_lt (tgt := 74) hx hb dX3_addGlass_65 (by decide) (fun c1014 => ?_) (fun c1014 => ?_)
      · have h := it_t c1014 h
        refine lv_aload_n hx hb dX3_addGlass_74 rfl (lv_at hl 0 rfl) ?_
        refine x_gr X hP (j := 1) (by decide) (dX_11) rfl rfl (by decide) in3 lk19 dX3_addGlass_75 ?_
        refine lv_iload hx hb dX3_addGlass_78 (lv_at hl 3 rfl) ?_
        obtain ⟨g1015, h⟩ := gd_some h
        refine x_arr X hP (by decide) (dX_13) g1015 dX3_addGlass_80 ?_
        refine lv_iload hx hb dX3_addGlass_81 (lv_at hl 4 rfl) ?_
        refine lv_dup2_11 hx hb dX3_addGlass_83 rfl rfl ?_
        obtain ⟨g1016, h⟩ := gd_some h
        refine x_ai X hP (fam_lt (inb_lt g1015) (by decide)) (dX_116 (inb_lt g1015)) g1016 dX3_addGlass_84 ?_
        refine lv_iconst (v := 1) hx hb dX3_addGlass_85 (by decide) ?_
        refine lv_iadd hx hb dX3_addGlass_86 ?_
        refine lv_topi (fun v1017 ev1017 => ?_)
        have h := nm_some ev1017 h
        refine x_si X hP hS (fam_lt (inb_lt g1015) (by decide)) (dX_116 (inb_lt g1015)) g1016 dX3_addGlass_87 (fun σ1018 eσ1018 H locs hP hS => ?_)
        have h := nm_some eσ1018 h
        refine lv_aload_n hx hb dX3_addGlass_88 rfl (lv_at hl 2 rfl) ?_
        refine lv_dup hx hb dX3_addGlass_89 rfl ?_
        refine x_gi X hP (j := 1) (fam_lt h2 (by decide)) (dX_76 h2) rfl rfl (by decide) in5 lk153 dX3_addGlass_90 ?_
        refine lv_aload_n hx hb dX3_addGlass_93 rfl (lv_at hl 1 rfl) ?_
        refine x_gi X hP (j := 3) (fam_lt h1 (by decide)) (dX_22 h1) rfl rfl (by decide) in7 lk156 dX3_addGlass_94 ?_
        refine lv_iadd hx hb dX3_addGlass_97 ?_
        refine lv_topi (fun v1019 ev1019 => ?_)
        have h := nm_some ev1019 h
        refine x_pi X hP hS (j := 1) (fam_lt h2 (by decide)) (dX_76 h2) rfl rfl (by decide) in5 tyX5_ok nmX5 lk153 rfl rfl rfl rfl dX3_addGlass_98 (fun σ1020 eσ1020 H locs hP hS => ?_)
        have h := nm_some eσ1020 h
        refine lv_aload_n hx hb dX3_addGlass_101 rfl (lv_at hl 2 rfl) ?_
        refine lv_dup hx hb dX3_addGlass_102 rfl ?_
        refine x_gi X hP (j := 4) (fam_lt h2 (by decide)) (dX_76 h2) rfl rfl (by decide) in5 lk168 dX3_addGlass_103 ?_
        refine lv_iconst (v := 1) hx hb dX3_addGlass_106 (by decide) ?_
        refine lv_iadd hx hb dX3_addGlass_107 ?_
        refine lv_topi (fun v1021 ev1021 => ?_)
        have h := nm_some ev1021 h
        refine x_pi X hP hS (j := 4) (fam_lt h2 (by decide)) (dX_76 h2) rfl rfl (by decide) in5 tyX5_ok nmX5 lk168 rfl rfl rfl rfl dX3_addGlass_108 (fun σ1022 eσ1022 H locs hP hS => ?_)
        have h := nm_some eσ1022 h
        refine lv_aload_n hx hb dX3_addGlass_111 rfl (lv_at hl 2 rfl) ?_
        refine lv_iconst (v := 0) hx hb dX3_addGlass_112 (by decide) ?_
        refine lv_iload hx hb dX3_addGlass_113 (lv_at hl 4 rfl) ?_
        refine lv_iconst (v := 1) hx hb dX3_addGlass_115 (by decide) ?_
        refine lv_iload hx hb dX3_addGlass_116 (lv_at hl 3 rfl) ?_
        obtain ⟨r1023, k1024, h⟩ := bd_some h
        refine x_Vv (rest := []) X hP hS (k_5_note l D cA ad z hj n σ1022 i2 0 t1011.1 1 a4 h2 k1024) (fam_lt h2 (by decide)) (dX_76 h2) rfl 4 gX3_addGlass_X5_note rfl rfl rfl (by decide +kernel) ⟨Nat.le_of_ble_eq_true rfl, Nat.le_of_ble_eq_true rfl⟩ rfl hl.1 rfl (Nat.le_of_ble_eq_true rfl) dX3_addGlass_118 ⟨Nat.zero_le _, Nat.zero_le _⟩ (fun H locs hP hS => ?_)
        subst hQQ
        exact x_rv X hr hlocks hP hS (Option.some.inj h) dX3_addGlass_121
      · have h := it_f c1014 h
        refine lv_aload_n hx hb dX3_addGlass_68 rfl (lv_at hl 2 rfl) ?_
        refine lv_iconst (v := 1) hx hb dX3_addGlass_69 (by decide) ?_
        refine x_pi X hP hS (j := 5) (fam_lt h2 (by decide)) (dX_76 h2) rfl rfl (by decide) in5 tyX5_ok nmX5 lk81 rfl rfl (by decide +kernel) (by decide +kernel) dX3_addGlass_70 (fun σ1025 eσ1025 H locs hP hS => ?_)
        have h := nm_some eσ1025 h
        subst hQQ
        exact x_rv X hr hlocks hP hS (Option.some.inj h) dX3_addGlass_73
  · have h := it_f c2 h
    subst hQQ
    exact x_rv X hr hlocks hP hS (Option.some.inj h) dX3_addGlass_13
def f_3_addAct (n : Nat) (σ : St) (i2 : Nat) (a3 : Int32) (i4 : Nat) (a5 : Int32) : Option (St) :=
  gd (inb a5 30) <| nm ((σ.1 (60 + i4) a5.toNatClampNeg)) fun v2 =>
  nm ((σ.1 (52 + i4) a5.toNatClampNeg)) fun v3 =>
  if v3 = 0 then
    gd (inb v2 4) <| (f_3_addGlass n σ v2.toNatClampNeg i2 a3 v2).bind fun r6 =>
    some r6
  else if v3 = 1 then
    (f_3_addBath n σ i2 v2 (σ.1 (68 + i4) a5.toNatClampNeg)).bind fun r9 =>
    some r9
  else if v3 = 2 then
    (f_3_addRest n σ i2 v2).bind fun r12 =>
    some r12
  else 
    nm (if (σ.1 (76 + i2) 0) < v2 then v2 else (σ.1 (76 + i2) 0)) fun v14 =>
    nm (si σ (76 + i2) 0 v14) fun σ15 =>
    some σ15
abbrev rm_3_addAct : Room := { frames := 2, cells := 0, slots := 0, locals := 51 }
set_option maxRecDepth 100000 in
set_option maxHeartbeats 4000000 in
theorem k_3_addAct (l : Launch) (D : va_G) (cA : Nat → ClassId) (ad : Nat → Nat) (z : ZX) (hj : inj 120 ad) (n : Nat) (σ : St) (i2 : Nat) (a3 : Int32) (i4 : Nat) (a5 : Int32) (h2 : i2 < 8) (h4 : i4 < 8) {res : St} (h : f_3_addAct n σ i2 a3 i4 a5 = some res) : MXv l D dX 120 cA ad (EX ad z) yX3_addAct wsX3_addAct rm_3_addAct [.ref (ad 11), .ref (ad 1), .ref (ad (76 + i2)), .int a3, .ref (ad (44 + i4)), .int a5] σ res := by
  refine Met.ofW (cc := cX3_addAct) (maxL := 7) (ret := none) (by decide) rfl ?_
  intro p e s m args below meth c s₁ B hml hv
  obtain ⟨hargs, hP, hK, hE⟩ := hv
  have hx := B.exec
  have hb := B.bytes
  have hr := B.returns
  have hts := atoms_spec (ws := wsX3_addAct) B.pre
  have hown : s.vm.findClass RX3 = some m.cls := findClass_of_methodNamed B.named
  have hlocks := B.notSynchronized
  have X : Cx p s m args c cX3_addAct 7 RX3 wsX3_addAct D dX 120 cA ad (EX ad z) := ⟨hx, hb, hml, hown, hts, hK, hj, hE, EX_ok ad z⟩
  have hS : va_S (inA 120 ad) s.heap s.heap [] := va_S.rf
  have hl := lv_entry ([.ref (ad 11), .ref (ad 1), .ref (ad (76 + i2)), .int a3, .ref (ad (44 + i4)), .int a5]) (n := 7) (Nat.le_of_ble_eq_true rfl)
  rw [show entryFrame m args 7 = entryFrame m ([.ref (ad 11), .ref (ad 1), .ref (ad (76 + i2)), .int a3, .ref (ad (44 + i4)), .int a5] : List Value).toArray 7 by rw [hargs]]
  rw [lg_entry_eq]
  generalize (lg_sl ([.ref (ad 11), .ref (ad 1), .ref (ad (76 + i2)), .int a3, .ref (ad (44 + i4)), .int a5]) ++ List.replicate (7 - (lg_sl ([.ref (ad 11), .ref (ad 1), .ref (ad (76 + i2)), .int a3, .ref (ad (44 + i4)), .int a5])).length) Slot.unset).toArray = ls at hl ⊢
  have hl : lv_has ls 7 [(0, .ref (ad 11)), (1, .ref (ad 1)), (2, .ref (ad (76 + i2))), (3, .int a3), (4, .ref (ad (44 + i4))), (5, .int a5)] := hl
  obtain ⟨QQ, hQQ⟩ : ∃ Q, Q = MQ below (va_Qv (fun u => u = res) (fun u t => va_P D vwCl (ww dX 120 cA ad u) t.heap) (inA 120 ad)) args s 0 0 (inA 120 ad) := ⟨_, rfl⟩
  show W p l e (headSpec wsX3_addAct rm_3_addAct).room s m args below meth c s.heap [] 0 0 (MQ below (va_Qv (fun u => u = res) (fun u t => va_P D vwCl (ww dX 120 cA ad u) t.heap) (inA 120 ad)) args s 0 0 (inA 120 ad)) _
  rw [← hQQ]
  have in6 : ∀ w ∈ wsX60, w ∈ wsX3_addAct := by decide +kernel
  have in9 : ∀ w ∈ wsX90, w ∈ wsX3_addAct := by decide +kernel
  have in5 : ∀ w ∈ wsX50, w ∈ wsX3_addAct := by decide +kernel
  have lk89 : Cond.fieldLink RX3 89 "CureTown$Regimen" "firsts" "[I" ∈ wsX3_addAct := by decide +kernel
  have lk85 : Cond.fieldLink RX3 85 "CureTown$Regimen" "kinds" "[I" ∈ wsX3_addAct := by decide +kernel
  have lk124 : Cond.fieldLink RX3 124 "CureTown$Town" "springs" "[LCureTown$Spring;" ∈ wsX3_addAct := by decide +kernel
  have lk132 : Cond.fieldLink RX3 132 "CureTown$Town" "baths" "[LCureTown$Bath;" ∈ wsX3_addAct := by decide +kernel
  have lk95 : Cond.fieldLink RX3 95 "CureTown$Regimen" "seconds" "[I" ∈ wsX3_addAct := by decide +kernel
  have lk144 : Cond.fieldLink RX3 144 "CureTown$GuestDay" "now" "I" ∈ wsX3_addAct := by decide +kernel
  have ml147max : Cond.methodLink RX3 147 Lib.Math.max.name ∈ wsX3_addAct := by decide +kernel
  have ms147max : Cond.static Lib.Math.max.name ∈ wsX3_addAct := by decide +kernel
  have mi147max : Cond.initialized "java/lang/Math" ∈ wsX3_addAct := by decide +kernel
  have mc147max : Cond.code Lib.Math.max.name Lib.Math.max.code 2 (some .int) ∈ wsX3_addAct := by decide +kernel
  unfold f_3_addAct at h
  obtain ⟨H, hH⟩ : ∃ H, H = s.heap := ⟨_, rfl⟩
  obtain ⟨locs, hlc⟩ : ∃ q : List Loc, q = [] := ⟨_, rfl⟩
  have hP : va_P D vwCl (ww dX 120 cA ad σ) s.heap := hP
  have hS : va_S (inA 120 ad) s.heap s.heap [] := hS
  rw [← hlc] at hS ⊢
  rw [show W p l e (headSpec wsX3_addAct rm_3_addAct).room s m args below meth c s.heap locs 0 0 QQ = W p l e (headSpec wsX3_addAct rm_3_addAct).room s m args below meth c H locs 0 0 QQ by rw [hH]]
  have hS : va_S (inA 120 ad) s.heap H locs := by rw [hH]; exact hS
  have hP : va_P D vwCl (ww dX 120 cA ad σ) H := by rw [hH]; exact hP
  clear hH hlc
  refine lv_aload hx hb dX3_addAct_0 (lv_at hl 4 rfl) ?_
  refine x_gr X hP (j := 3) (fam_lt h4 (by decide)) (dX_44 h4) rfl rfl (by decide) in6 lk89 dX3_addAct_2 ?_
  refine lv_iload hx hb dX3_addAct_5 (lv_at hl 5 rfl) ?_
  obtain ⟨g1, h⟩ := gd_some h
  refine x_ai X hP (fam_lt h4 (by decide)) (dX_60 h4) g1 dX3_addAct_7 ?_
  refine lv_topi (fun v2 ev2 => ?_)
  have h := nm_some ev2 h
  refine lv_istore (lv' := [(6, .int v2), (0, .ref (ad 11)), (1, .ref (ad 1)), (2, .ref (ad (76 + i2))), (3, .int a3), (4, .ref (ad (44 + i4))), (5, .int a5)]) hx hb dX3_addAct_8 hl (by decide) rfl (fun ls hl => ?_)
  refine lv_aload hx hb dX3_addAct_10 (lv_at hl 5 rfl) ?_
  refine x_gr X hP (j := 2) (fam_lt h4 (by decide)) (dX_44 h4) rfl rfl (by decide) in6 lk85 dX3_addAct_12 ?_
  refine lv_iload hx hb dX3_addAct_15 (lv_at hl 6 rfl) ?_
  refine x_ai X hP (fam_lt h4 (by decide)) (dX_52 h4) g1 dX3_addAct_17 ?_
  refine lv_topi (fun v3 ev3 => ?_)
  have h := nm_some ev3 h
  by_cases c4 : v3 = 0
  · have h := it_t c4 h
    refine lv_tableIn (off := 26) (tgt := 44) hx hb dX3_addAct_18 (by rw [c4]; decide) (by rw [c4]; decide) (by rw [c4]; rfl) (by decide) ?_
    refine lv_aload_n hx hb dX3_addAct_44 rfl (lv_at hl 1 rfl) ?_
    refine lv_aload_n hx hb dX3_addAct_45 rfl (lv_at hl 2 rfl) ?_
    refine x_gr X hP (j := 0) (by decide) (dX_1) rfl rfl (by decide) in9 lk124 dX3_addAct_46 ?_
    refine lv_iload hx hb dX3_addAct_49 (lv_at hl 0 rfl) ?_
    obtain ⟨g5, h⟩ := gd_some h
    refine x_ar X hP (by decide) (dX_2) g5 dX3_addAct_51 ?_
    refine lv_aload_n hx hb dX3_addAct_52 rfl (lv_at hl 3 rfl) ?_
    refine lv_iload_n hx hb dX3_addAct_53 rfl (lv_at hl 4 rfl) ?_
    refine lv_iload hx hb dX3_addAct_54 (lv_at hl 0 rfl) ?_
    obtain ⟨r6, k7, h⟩ := bd_some h
    refine x_Vv (rest := []) X hP hS (k_3_addGlass l D cA ad z hj n σ v2.toNatClampNeg i2 a3 v2 (inb_lt g5) h2 k7) (by decide) (dX_11) rfl 4 gX3_addAct_X3_addGlass rfl rfl rfl (by decide +kernel) ⟨Nat.le_of_ble_eq_true rfl, Nat.le_of_ble_eq_true rfl⟩ rfl hl.1 rfl (Nat.le_of_ble_eq_true rfl) dX3_addAct_56 ⟨Nat.zero_le _, Nat.zero_le _⟩ (fun H locs hP hS => ?_)
    refine lv_goto (tgt := 106) hx hb dX3_addAct_59 (by decide) ?_
    subst hQQ
    exact x_rv X hr hlocks hP hS (Option.some.inj h) dX3_addAct_106
  · have h := it_f c4 h
    by_cases c8 : v3 = 1
    · have h := it_t c8 h
      refine lv_tableIn (off := 44) (tgt := 62) hx hb dX3_addAct_18 (by rw [c8]; decide) (by rw [c8]; decide) (by rw [c8]; rfl) (by decide) ?_
      refine lv_aload_n hx hb dX3_addAct_62 rfl (lv_at hl 1 rfl) ?_
      refine lv_aload_n hx hb dX3_addAct_63 rfl (lv_at hl 2 rfl) ?_
      refine x_gr X hP (j := 1) (by decide) (dX_1) rfl rfl (by decide) in9 lk132 dX3_addAct_64 ?_
      refine lv_aload_n hx hb dX3_addAct_67 rfl (lv_at hl 3 rfl) ?_
      refine lv_iload hx hb dX3_addAct_68 (lv_at hl 0 rfl) ?_
      refine lv_aload hx hb dX3_addAct_70 (lv_at hl 5 rfl) ?_
      refine x_gr X hP (j := 4) (fam_lt h4 (by decide)) (dX_44 h4) rfl rfl (by decide) in6 lk95 dX3_addAct_72 ?_
      refine lv_iload hx hb dX3_addAct_75 (lv_at hl 6 rfl) ?_
      refine x_ai X hP (fam_lt h4 (by decide)) (dX_68 h4) g1 dX3_addAct_77 ?_
      obtain ⟨r9, k10, h⟩ := bd_some h
      refine x_Vv (rest := []) X hP hS (k_3_addBath l D cA ad z hj n σ i2 v2 (σ.1 (68 + i4) a5.toNatClampNeg) h2 k10) (by decide) (dX_11) rfl 4 gX3_addAct_X3_addBath rfl rfl rfl (by decide +kernel) ⟨Nat.le_of_ble_eq_true rfl, Nat.le_of_ble_eq_true rfl⟩ rfl hl.1 rfl (Nat.le_of_ble_eq_true rfl) dX3_addAct_78 ⟨Nat.zero_le _, Nat.zero_le _⟩ (fun H locs hP hS => ?_)
      refine lv_goto (tgt := 106) hx hb dX3_addAct_81 (by decide) ?_
      subst hQQ
      exact x_rv X hr hlocks hP hS (Option.some.inj h) dX3_addAct_106
    · have h := it_f c8 h
      by_cases c11 : v3 = 2
      · have h := it_t c11 h
        refine lv_tableIn (off := 66) (tgt := 84) hx hb dX3_addAct_18 (by rw [c11]; decide) (by rw [c11]; decide) (by rw [c11]; rfl) (by decide) ?_
        refine lv_aload_n hx hb dX3_addAct_84 rfl (lv_at hl 3 rfl) ?_
        refine lv_iload hx hb dX3_addAct_85 (lv_at hl 0 rfl) ?_
        obtain ⟨r12, k13, h⟩ := bd_some h
        refine x_Sv (rest := []) X hP hS (k_3_addRest l D cA ad z hj n σ i2 v2 h2 k13) 2 gX3_addAct_X3_addRest rfl rfl rfl (by decide +kernel) ⟨Nat.le_of_ble_eq_true rfl, Nat.le_of_ble_eq_true rfl⟩ rfl hl.1 rfl (Nat.le_of_ble_eq_true rfl) dX3_addAct_87 ⟨Nat.zero_le _, Nat.zero_le _⟩ (fun H locs hP hS => ?_)
        refine lv_goto (tgt := 106) hx hb dX3_addAct_90 (by decide) ?_
        subst hQQ
        exact x_rv X hr hlocks hP hS (Option.some.inj h) dX3_addAct_106
      · have h := it_f c11 h
        refine lv_tableOut (tgt := 93) hx hb dX3_addAct_18 (tb_out 2 (tb_c c11 <| (tb_c c8 <| (tb_c c4 <| tb_0)))) (by decide) ?_
        refine lv_aload_n hx hb dX3_addAct_93 rfl (lv_at hl 3 rfl) ?_
        refine lv_aload_n hx hb dX3_addAct_94 rfl (lv_at hl 3 rfl) ?_
        refine x_gi X hP (j := 0) (fam_lt h2 (by decide)) (dX_76 h2) rfl rfl (by decide) in5 lk144 dX3_addAct_95 ?_
        refine lv_iload hx hb dX3_addAct_98 (lv_at hl 0 rfl) ?_
        refine va_mmax hx hb (hml.trans hl.1.symm) X.2.2.2.1 (X.2.2.2.2.1 _ ml147max) (X.2.2.2.2.1 _ ms147max) (X.2.2.2.2.1 _ mi147max) (X.2.2.2.2.1 _ mc147max) (Nat.le_of_ble_eq_true rfl) (Nat.le_of_ble_eq_true rfl) (Nat.zero_le _) (Nat.zero_le _) dX3_addAct_100 ?_
        refine lv_topi (fun v14 ev14 => ?_)
        have h := nm_some ev14 h
        refine x_pi X hP hS (j := 0) (fam_lt h2 (by decide)) (dX_76 h2) rfl rfl (by decide) in5 tyX5_ok nmX5 lk144 rfl rfl rfl rfl dX3_addAct_103 (fun σ15 eσ15 H locs hP hS => ?_)
        have h := nm_some eσ15 h
        subst hQQ
        exact x_rv X hr hlocks hP hS (Option.some.inj h) dX3_addAct_106
def b_3_addGuest_42 (n : Nat) (a3 : Int32) (i4 : Nat) (i5 : Nat) (i6 : Nat) (t6 : Int32 × Int32 × St) : Option ((Int32 × Int32 × St) ⊕ (Int32 × Int32 × St)) :=
  if (t6.2.2.1 (44 + i5) 1) ≤ t6.2.1 then
    some (.inr (t6.1, t6.2.1, t6.2.2))
  else
    if (t6.2.2.1 (76 + i6) 5) = 0 then
      if t6.1 ≤ t6.2.1 then
        gd (inb t6.2.1 30) <| if (t6.2.2.1 (52 + i5) t6.2.1.toNatClampNeg) = 4 then
          (f_3_isMultiple n t6.2.2 a3 (t6.2.2.1 (60 + i5) t6.2.1.toNatClampNeg)).bind fun r15 =>
          if r15.1 = 0 then
            nm ((r15.2.1 (68 + i5) t6.2.1.toNatClampNeg)) fun v18 =>
            nm (t6.2.1 + 1) fun v19 =>
            some (.inl (v18, v19, r15.2))
          else
            nm (t6.2.1 + 1) fun v20 =>
            nm (t6.2.1 + 1) fun v21 =>
            some (.inl (v20, v21, r15.2))
        else
          (f_3_addAct n t6.2.2 i6 (t6.2.2.1 (36 + i4) 4) i5 t6.2.1).bind fun r12 =>
          nm (t6.2.1 + 1) fun v14 =>
          some (.inl (t6.1, v14, r12))
      else
        nm (t6.2.1 + 1) fun v22 =>
        some (.inl (t6.1, v22, t6.2.2))
    else
      some (.inr (t6.1, t6.2.1, t6.2.2))
def f_3_addGuest (n : Nat) (σ : St) (a2 : Int32) (a3 : Int32) : Option (St) :=
  gd (inb a2 8) <| gd (inb (σ.1 (36 + a2.toNatClampNeg) 1) 8) <| (f_5_clear n σ a2.toNatClampNeg).bind fun r3 =>
  (lq (b_3_addGuest_42 n a3 a2.toNatClampNeg ((σ.1 (36 + a2.toNatClampNeg) 1).toNatClampNeg) a2.toNatClampNeg) n (0, 0, r3)).bind fun t1023 =>
  some t1023.2.2
abbrev rm_3_addGuest : Room := { frames := 3, cells := 0, slots := 0, locals := 77 }
set_option maxRecDepth 100000 in
set_option maxHeartbeats 4000000 in
theorem k_3_addGuest (l : Launch) (D : va_G) (cA : Nat → ClassId) (ad : Nat → Nat) (z : ZX) (hj : inj 120 ad) (n : Nat) (σ : St) (a2 : Int32) (a3 : Int32)  {res : St} (h : f_3_addGuest n σ a2 a3 = some res) : MXv l D dX 120 cA ad (EX ad z) yX3_addGuest wsX3_addGuest rm_3_addGuest [.ref (ad 11), .ref (ad 1), .int a2, .int a3] σ res := by
  refine Met.ofW (cc := cX3_addGuest) (maxL := 9) (ret := none) (by decide) rfl ?_
  intro p e s m args below meth c s₁ B hml hv
  obtain ⟨hargs, hP, hK, hE⟩ := hv
  have hx := B.exec
  have hb := B.bytes
  have hr := B.returns
  have hts := atoms_spec (ws := wsX3_addGuest) B.pre
  have hown : s.vm.findClass RX3 = some m.cls := findClass_of_methodNamed B.named
  have hlocks := B.notSynchronized
  have X : Cx p s m args c cX3_addGuest 9 RX3 wsX3_addGuest D dX 120 cA ad (EX ad z) := ⟨hx, hb, hml, hown, hts, hK, hj, hE, EX_ok ad z⟩
  have hS : va_S (inA 120 ad) s.heap s.heap [] := va_S.rf
  have hl := lv_entry ([.ref (ad 11), .ref (ad 1), .int a2, .int a3]) (n := 9) (Nat.le_of_ble_eq_true rfl)
  rw [show entryFrame m args 9 = entryFrame m ([.ref (ad 11), .ref (ad 1), .int a2, .int a3] : List Value).toArray 9 by rw [hargs]]
  rw [lg_entry_eq]
  generalize (lg_sl ([.ref (ad 11), .ref (ad 1), .int a2, .int a3]) ++ List.replicate (9 - (lg_sl ([.ref (ad 11), .ref (ad 1), .int a2, .int a3])).length) Slot.unset).toArray = ls at hl ⊢
  have hl : lv_has ls 9 [(0, .ref (ad 11)), (1, .ref (ad 1)), (2, .int a2), (3, .int a3)] := hl
  obtain ⟨QQ, hQQ⟩ : ∃ Q, Q = MQ below (va_Qv (fun u => u = res) (fun u t => va_P D vwCl (ww dX 120 cA ad u) t.heap) (inA 120 ad)) args s 0 0 (inA 120 ad) := ⟨_, rfl⟩
  show W p l e (headSpec wsX3_addGuest rm_3_addGuest).room s m args below meth c s.heap [] 0 0 (MQ below (va_Qv (fun u => u = res) (fun u t => va_P D vwCl (ww dX 120 cA ad u) t.heap) (inA 120 ad)) args s 0 0 (inA 120 ad)) _
  rw [← hQQ]
  have in9 : ∀ w ∈ wsX90, w ∈ wsX3_addGuest := by decide +kernel
  have in2 : ∀ w ∈ wsX20, w ∈ wsX3_addGuest := by decide +kernel
  have in4 : ∀ w ∈ wsX40, w ∈ wsX3_addGuest := by decide +kernel
  have in3 : ∀ w ∈ wsX30, w ∈ wsX3_addGuest := by decide +kernel
  have in6 : ∀ w ∈ wsX60, w ∈ wsX3_addGuest := by decide +kernel
  have in5 : ∀ w ∈ wsX50, w ∈ wsX3_addGuest := by decide +kernel
  have lk36 : Cond.fieldLink RX3 36 "CureTown$Town" "guests" "[LCureTown$Guest;" ∈ wsX3_addGuest := by decide +kernel
  have lk62 : Cond.fieldLink RX3 62 "CureTown$Town" "book" "LCureTown$Book;" ∈ wsX3_addGuest := by decide +kernel
  have lk66 : Cond.fieldLink RX3 66 "CureTown$Book" "regimens" "[LCureTown$Regimen;" ∈ wsX3_addGuest := by decide +kernel
  have lk72 : Cond.fieldLink RX3 72 "CureTown$Guest" "regimen" "I" ∈ wsX3_addGuest := by decide +kernel
  have lk11 : Cond.fieldLink RX3 11 "CureTown$DayPlan" "rows" "[LCureTown$GuestDay;" ∈ wsX3_addGuest := by decide +kernel
  have lk76 : Cond.fieldLink RX3 76 "CureTown$Regimen" "count" "I" ∈ wsX3_addGuest := by decide +kernel
  have lk81 : Cond.fieldLink RX3 81 "CureTown$GuestDay" "isLost" "Z" ∈ wsX3_addGuest := by decide +kernel
  have lk85 : Cond.fieldLink RX3 85 "CureTown$Regimen" "kinds" "[I" ∈ wsX3_addGuest := by decide +kernel
  have lk98 : Cond.fieldLink RX3 98 "CureTown$Guest" "bound" "I" ∈ wsX3_addGuest := by decide +kernel
  have lk89 : Cond.fieldLink RX3 89 "CureTown$Regimen" "firsts" "[I" ∈ wsX3_addGuest := by decide +kernel
  have lk95 : Cond.fieldLink RX3 95 "CureTown$Regimen" "seconds" "[I" ∈ wsX3_addGuest := by decide +kernel
  unfold f_3_addGuest at h
  obtain ⟨H, hH⟩ : ∃ H, H = s.heap := ⟨_, rfl⟩
  obtain ⟨locs, hlc⟩ : ∃ q : List Loc, q = [] := ⟨_, rfl⟩
  have hP : va_P D vwCl (ww dX 120 cA ad σ) s.heap := hP
  have hS : va_S (inA 120 ad) s.heap s.heap [] := hS
  rw [← hlc] at hS ⊢
  rw [show W p l e (headSpec wsX3_addGuest rm_3_addGuest).room s m args below meth c s.heap locs 0 0 QQ = W p l e (headSpec wsX3_addGuest rm_3_addGuest).room s m args below meth c H locs 0 0 QQ by rw [hH]]
  have hS : va_S (inA 120 ad) s.heap H locs := by rw [hH]; exact hS
  have hP : va_P D vwCl (ww dX 120 cA ad σ) H := by rw [hH]; exact hP
  clear hH hlc
  refine lv_aload_n hx hb dX3_addGuest_0 rfl (lv_at hl 1 rfl) ?_
  refine x_gr X hP (j := 2) (by decide) (dX_1) rfl rfl (by decide) in9 lk36 dX3_addGuest_1 ?_
  refine lv_iload_n hx hb dX3_addGuest_4 rfl (lv_at hl 2 rfl) ?_
  obtain ⟨g1, h⟩ := gd_some h
  refine x_ar X hP (by decide) (dX_4) g1 dX3_addGuest_5 ?_
  refine lv_astore (lv' := [(4, .ref (ad (36 + a2.toNatClampNeg))), (0, .ref (ad 11)), (1, .ref (ad 1)), (2, .int a2), (3, .int a3)]) hx hb dX3_addGuest_6 hl (by decide) rfl (fun ls hl => ?_)
  refine lv_aload_n hx hb dX3_addGuest_8 rfl (lv_at hl 2 rfl) ?_
  refine x_gr X hP (j := 4) (by decide) (dX_1) rfl rfl (by decide) in9 lk62 dX3_addGuest_9 ?_
  refine x_gr X hP (j := 1) (by decide) (dX_6) rfl rfl (by decide) in2 lk66 dX3_addGuest_12 ?_
  refine lv_aload hx hb dX3_addGuest_15 (lv_at hl 0 rfl) ?_
  refine x_gi X hP (j := 1) (fam_lt (inb_lt g1) (by decide)) (dX_36 (inb_lt g1)) rfl rfl (by decide) in4 lk72 dX3_addGuest_17 ?_
  obtain ⟨g2, h⟩ := gd_some h
  refine x_ar X hP (by decide) (dX_9) g2 dX3_addGuest_20 ?_
  refine lv_astore (lv' := [(5, .ref (ad (44 + (σ.1 (36 + a2.toNatClampNeg) 1).toNatClampNeg))), (4, .ref (ad (36 + a2.toNatClampNeg))), (0, .ref (ad 11)), (1, .ref (ad 1)), (2, .int a2), (3, .int a3)]) hx hb dX3_addGuest_21 hl (by decide) rfl (fun ls hl => ?_)
  refine lv_aload_n hx hb dX3_addGuest_23 rfl (lv_at hl 2 rfl) ?_
  refine x_gr X hP (j := 0) (by decide) (dX_11) rfl rfl (by decide) in3 lk11 dX3_addGuest_24 ?_
  refine lv_iload_n hx hb dX3_addGuest_27 rfl (lv_at hl 4 rfl) ?_
  refine x_ar X hP (by decide) (dX_12) g1 dX3_addGuest_28 ?_
  refine lv_astore (lv' := [(6, .ref (ad (76 + a2.toNatClampNeg))), (5, .ref (ad (44 + (σ.1 (36 + a2.toNatClampNeg) 1).toNatClampNeg))), (4, .ref (ad (36 + a2.toNatClampNeg))), (0, .ref (ad 11)), (1, .ref (ad 1)), (2, .int a2), (3, .int a3)]) hx hb dX3_addGuest_29 hl (by decide) rfl (fun ls hl => ?_)
  refine lv_aload hx hb dX3_addGuest_31 (lv_at hl 0 rfl) ?_
  obtain ⟨r3, k4, h⟩ := bd_some h
  refine x_Vv (rest := []) X hP hS (k_5_clear l D cA ad z hj n σ a2.toNatClampNeg (inb_lt g1) k4) (fam_lt (inb_lt g1) (by decide)) (dX_76 (inb_lt g1)) rfl 0 gX3_addGuest_X5_clear rfl rfl rfl (by decide +kernel) ⟨Nat.le_of_ble_eq_true rfl, Nat.le_of_ble_eq_true rfl⟩ rfl hl.1 rfl (Nat.le_of_ble_eq_true rfl) dX3_addGuest_33 ⟨Nat.zero_le _, Nat.zero_le _⟩ (fun H locs hP hS => ?_)
  refine lv_iconst (v := 0) hx hb dX3_addGuest_36 (by decide) ?_
  refine lv_istore (lv' := [(7, .int 0), (6, .ref (ad (76 + a2.toNatClampNeg))), (5, .ref (ad (44 + (σ.1 (36 + a2.toNatClampNeg) 1).toNatClampNeg))), (4, .ref (ad (36 + a2.toNatClampNeg))), (0, .ref (ad 11)), (1, .ref (ad 1)), (2, .int a2), (3, .int a3)]) hx hb dX3_addGuest_37 hl (by decide) rfl (fun ls hl => ?_)
  refine lv_iconst (v := 0) hx hb dX3_addGuest_39 (by decide) ?_
  refine lv_istore (lv' := [(8, .int 0), (7, .int 0), (6, .ref (ad (76 + a2.toNatClampNeg))), (5, .ref (ad (44 + (σ.1 (36 + a2.toNatClampNeg) 1).toNatClampNeg))), (4, .ref (ad (36 + a2.toNatClampNeg))), (0, .ref (ad 11)), (1, .ref (ad 1)), (2, .int a2), (3, .int a3)]) hx hb dX3_addGuest_40 hl (by decide) rfl (fun ls hl => ?_)
  obtain ⟨t1023, o1025, h⟩ := bd_some h
  refine lq_rule (P := fun t6 : Int32 × Int32 × St => ∀ (H : Heap) (locs : List Loc) (ls : Array Slot), va_P D vwCl (ww dX 120 cA ad t6.2.2) H → va_S (inA 120 ad) s.heap H locs → lv_has ls 9 [(0, .ref (ad 11)), (1, .ref (ad 1)), (3, .int a3), (4, .ref (ad (36 + a2.toNatClampNeg))), (5, .ref (ad (44 + (σ.1 (36 + a2.toNatClampNeg) 1).toNatClampNeg))), (6, .ref (ad (76 + a2.toNatClampNeg))), (7, .int t6.1), (8, .int t6.2.1)] → W p l e (headSpec wsX3_addGuest rm_3_addGuest).room s m args below meth c H locs 0 0 QQ (F0 m 42 ls [])) (X := fun t1023 : Int32 × Int32 × St => ∀ (H : Heap) (locs : List Loc) (ls : Array Slot), va_P D vwCl (ww dX 120 cA ad t1023.2.2) H → va_S (inA 120 ad) s.heap H locs → lv_has ls 9 [(0, .ref (ad 11)), (1, .ref (ad 1)), (3, .int a3), (4, .ref (ad (36 + a2.toNatClampNeg))), (5, .ref (ad (44 + (σ.1 (36 + a2.toNatClampNeg) 1).toNatClampNeg))), (6, .ref (ad (76 + a2.toNatClampNeg))), (7, .int t1023.1), (8, .int t1023.2.1)] → W p l e (headSpec wsX3_addGuest rm_3_addGuest).room s m args below meth c H locs 0 0 QQ (F0 m 139 ls [])) ?_ n _ _ o1025 ?_ H locs ls hP hS (lv_sub hl [5, 6, 8, 4, 3, 2, 1, 0] rfl)
  · clear h hP hS hl
    intro t6 rL5 h hCL5 hEL5 H locs ls hP hS hl
    unfold b_3_addGuest_42 at h
    refine lv_iload hx hb dX3_addGuest_42 (lv_at hl 7 rfl) ?_
    refine lv_aload hx hb dX3_addGuest_44 (lv_at hl 4 rfl) ?_
    refine x_gi X hP (j := 1) (fam_lt (inb_lt g2) (by decide)) (dX_44 (inb_lt g2)) rfl rfl (by decide) in6 lk76 dX3_addGuest_46 ?_
    refine lv_icmp_ge (tgt := 139) hx hb dX3_addGuest_49 (by decide) (fun c7 => ?_) (fun c7 => ?_)
    · have h := it_t c7 h
      exact hEL5 _ (Option.some.inj h).symm H locs ls hP hS (lv_sub hl [0, 1, 2, 3, 4, 5, 6, 7] rfl)
    · have h := it_f c7 h
      refine lv_aload hx hb dX3_addGuest_52 (lv_at hl 5 rfl) ?_
      refine x_gi X hP (j := 5) (fam_lt (inb_lt g1) (by decide)) (dX_76 (inb_lt g1)) rfl rfl (by decide) in5 lk81 dX3_addGuest_54 ?_
      refine lv_if_ne (tgt := 139) hx hb dX3_addGuest_57 (by decide) (fun c8 => ?_) (fun c8 => ?_)
      · have h := it_f c8 h
        exact hEL5 _ (Option.some.inj h).symm H locs ls hP hS (lv_sub hl [0, 1, 2, 3, 4, 5, 6, 7] rfl)
      · have h := it_t c8 h
        refine lv_iload hx hb dX3_addGuest_60 (lv_at hl 7 rfl) ?_
        refine lv_iload hx hb dX3_addGuest_62 (lv_at hl 6 rfl) ?_
        refine lv_icmp_ge (tgt := 70) hx hb dX3_addGuest_64 (by decide) (fun c9 => ?_) (fun c9 => ?_)
        · have h := it_t c9 h
          refine lv_aload hx hb dX3_addGuest_70 (lv_at hl 4 rfl) ?_
          refine x_gr X hP (j := 2) (fam_lt (inb_lt g2) (by decide)) (dX_44 (inb_lt g2)) rfl rfl (by decide) in6 lk85 dX3_addGuest_72 ?_
          refine lv_iload hx hb dX3_addGuest_75 (lv_at hl 7 rfl) ?_
          obtain ⟨g10, h⟩ := gd_some h
          refine x_ai X hP (fam_lt (inb_lt g2) (by decide)) (dX_52 (inb_lt g2)) g10 dX3_addGuest_77 ?_
          refine lv_iconst (v := 4) hx hb dX3_addGuest_78 (by decide) ?_
          refine lv_icmp_ne (tgt := 117) hx hb dX3_addGuest_79 (by decide) (fun c11 => ?_) (fun c11 => ?_)
          · have h := it_f c11 h
            refine lv_aload_n hx hb dX3_addGuest_117 rfl (lv_at hl 0 rfl) ?_
            refine lv_aload_n hx hb dX3_addGuest_118 rfl (lv_at hl 1 rfl) ?_
            refine lv_aload hx hb dX3_addGuest_119 (lv_at hl 5 rfl) ?_
            refine lv_aload hx hb dX3_addGuest_121 (lv_at hl 3 rfl) ?_
            refine x_gi X hP (j := 4) (fam_lt (inb_lt g1) (by decide)) (dX_36 (inb_lt g1)) rfl rfl (by decide) in4 lk98 dX3_addGuest_123 ?_
            refine lv_aload hx hb dX3_addGuest_126 (lv_at hl 4 rfl) ?_
            refine lv_iload hx hb dX3_addGuest_128 (lv_at hl 7 rfl) ?_
            obtain ⟨r12, k13, h⟩ := bd_some h
            refine x_Vv (rest := []) X hP hS (k_3_addAct l D cA ad z hj n t6.2.2 a2.toNatClampNeg (t6.2.2.1 (36 + a2.toNatClampNeg) 4) ((σ.1 (36 + a2.toNatClampNeg) 1).toNatClampNeg) t6.2.1 (inb_lt g1) (inb_lt g2) k13) (by decide) (dX_11) rfl 5 gX3_addGuest_X3_addAct rfl rfl rfl (by decide +kernel) ⟨Nat.le_of_ble_eq_true rfl, Nat.le_of_ble_eq_true rfl⟩ rfl hl.1 rfl (Nat.le_of_ble_eq_true rfl) dX3_addGuest_130 ⟨Nat.zero_le _, Nat.zero_le _⟩ (fun H locs hP hS => ?_)
            obtain ⟨v14, ev14⟩ : ∃ y : Int32, y = t6.2.1 + 1 := ⟨_, rfl⟩
            have h := nm_some ev14 h
            refine lv_iinc (v := v14) (lv' := [(8, .int v14), (0, .ref (ad 11)), (1, .ref (ad 1)), (3, .int a3), (4, .ref (ad (36 + a2.toNatClampNeg))), (5, .ref (ad (44 + (σ.1 (36 + a2.toNatClampNeg) 1).toNatClampNeg))), (6, .ref (ad (76 + a2.toNatClampNeg))), (7, .int t6.1)]) hx hb dX3_addGuest_133 hl (k := 7) rfl (by rw [ev14]; rfl) (by decide) rfl (fun ls hl => ?_)
            refine lv_goto (tgt := 42) hx hb dX3_addGuest_136 (by decide) ?_
            exact hCL5 _ (Option.some.inj h).symm H locs ls hP hS (lv_sub hl [1, 2, 3, 4, 5, 6, 7, 0] rfl)
          · have h := it_t c11 h
            refine lv_iload_n hx hb dX3_addGuest_82 rfl (lv_at hl 2 rfl) ?_
            refine lv_aload hx hb dX3_addGuest_83 (lv_at hl 4 rfl) ?_
            refine x_gr X hP (j := 3) (fam_lt (inb_lt g2) (by decide)) (dX_44 (inb_lt g2)) rfl rfl (by decide) in6 lk89 dX3_addGuest_85 ?_
            refine lv_iload hx hb dX3_addGuest_88 (lv_at hl 7 rfl) ?_
            refine x_ai X hP (fam_lt (inb_lt g2) (by decide)) (dX_60 (inb_lt g2)) g10 dX3_addGuest_90 ?_
            obtain ⟨r15, k16, h⟩ := bd_some h
            refine x_Si (rest := []) X hP hS (k_3_isMultiple l D cA ad z hj n t6.2.2 a3 (t6.2.2.1 (60 + (σ.1 (36 + a2.toNatClampNeg) 1).toNatClampNeg) t6.2.1.toNatClampNeg) k16) 2 gX3_addGuest_X3_isMultiple rfl rfl rfl (by decide +kernel) ⟨Nat.le_of_ble_eq_true rfl, Nat.le_of_ble_eq_true rfl⟩ rfl hl.1 rfl (Nat.le_of_ble_eq_true rfl) dX3_addGuest_91 ⟨Nat.zero_le _, Nat.zero_le _⟩ (fun H locs hP hS => ?_)
            refine lv_if_eq (tgt := 104) hx hb dX3_addGuest_94 (by decide) (fun c17 => ?_) (fun c17 => ?_)
            · have h := it_t c17 h
              refine lv_aload hx hb dX3_addGuest_104 (lv_at hl 4 rfl) ?_
              refine x_gr X hP (j := 4) (fam_lt (inb_lt g2) (by decide)) (dX_44 (inb_lt g2)) rfl rfl (by decide) in6 lk95 dX3_addGuest_106 ?_
              refine lv_iload hx hb dX3_addGuest_109 (lv_at hl 7 rfl) ?_
              refine x_ai X hP (fam_lt (inb_lt g2) (by decide)) (dX_68 (inb_lt g2)) g10 dX3_addGuest_111 ?_
              refine lv_topi (fun v18 ev18 => ?_)
              have h := nm_some ev18 h
              refine lv_istore (lv' := [(7, .int v18), (0, .ref (ad 11)), (1, .ref (ad 1)), (3, .int a3), (4, .ref (ad (36 + a2.toNatClampNeg))), (5, .ref (ad (44 + (σ.1 (36 + a2.toNatClampNeg) 1).toNatClampNeg))), (6, .ref (ad (76 + a2.toNatClampNeg))), (8, .int t6.2.1)]) hx hb dX3_addGuest_112 hl (by decide) rfl (fun ls hl => ?_)
              refine lv_goto (tgt := 133) hx hb dX3_addGuest_114 (by decide) ?_
              obtain ⟨v19, ev19⟩ : ∃ y : Int32, y = t6.2.1 + 1 := ⟨_, rfl⟩
              have h := nm_some ev19 h
              refine lv_iinc (v := v19) (lv' := [(8, .int v19), (7, .int v18), (0, .ref (ad 11)), (1, .ref (ad 1)), (3, .int a3), (4, .ref (ad (36 + a2.toNatClampNeg))), (5, .ref (ad (44 + (σ.1 (36 + a2.toNatClampNeg) 1).toNatClampNeg))), (6, .ref (ad (76 + a2.toNatClampNeg)))]) hx hb dX3_addGuest_133 hl (k := 7) rfl (by rw [ev19]; rfl) (by decide) rfl (fun ls hl => ?_)
              refine lv_goto (tgt := 42) hx hb dX3_addGuest_136 (by decide) ?_
              exact hCL5 _ (Option.some.inj h).symm H locs ls hP hS (lv_sub hl [2, 3, 4, 5, 6, 7, 1, 0] rfl)
            · have h := it_f c17 h
              refine lv_iload hx hb dX3_addGuest_97 (lv_at hl 7 rfl) ?_
              refine lv_iconst (v := 1) hx hb dX3_addGuest_99 (by decide) ?_
              refine lv_iadd hx hb dX3_addGuest_100 ?_
              refine lv_topi (fun v20 ev20 => ?_)
              have h := nm_some ev20 h
              refine lv_goto (tgt := 112) hx hb dX3_addGuest_101 (by decide) ?_
              refine lv_istore (lv' := [(7, .int v20), (0, .ref (ad 11)), (1, .ref (ad 1)), (3, .int a3), (4, .ref (ad (36 + a2.toNatClampNeg))), (5, .ref (ad (44 + (σ.1 (36 + a2.toNatClampNeg) 1).toNatClampNeg))), (6, .ref (ad (76 + a2.toNatClampNeg))), (8, .int t6.2.1)]) hx hb dX3_addGuest_112 hl (by decide) rfl (fun ls hl => ?_)
              refine lv_goto (tgt := 133) hx hb dX3_addGuest_114 (by decide) ?_
              obtain ⟨v21, ev21⟩ : ∃ y : Int32, y = t6.2.1 + 1 := ⟨_, rfl⟩
              have h := nm_some ev21 h
              refine lv_iinc (v := v21) (lv' := [(8, .int v21), (7, .int v20), (0, .ref (ad 11)), (1, .ref (ad 1)), (3, .int a3), (4, .ref (ad (36 + a2.toNatClampNeg))), (5, .ref (ad (44 + (σ.1 (36 + a2.toNatClampNeg) 1).toNatClampNeg))), (6, .ref (ad (76 + a2.toNatClampNeg)))]) hx hb dX3_addGuest_133 hl (k := 7) rfl (by rw [ev21]; rfl) (by decide) rfl (fun ls hl => ?_)
              refine lv_goto (tgt := 42) hx hb dX3_addGuest_136 (by decide) ?_
              exact hCL5 _ (Option.some.inj h).symm H locs ls hP hS (lv_sub hl [2, 3, 4, 5, 6, 7, 1, 0] rfl)
        · have h := it_f c9 h
          refine lv_goto (tgt := 133) hx hb dX3_addGuest_67 (by decide) ?_
          obtain ⟨v22, ev22⟩ : ∃ y : Int32, y = t6.2.1 + 1 := ⟨_, rfl⟩
          have h := nm_some ev22 h
          refine lv_iinc (v := v22) (lv' := [(8, .int v22), (0, .ref (ad 11)), (1, .ref (ad 1)), (3, .int a3), (4, .ref (ad (36 + a2.toNatClampNeg))), (5, .ref (ad (44 + (σ.1 (36 + a2.toNatClampNeg) 1).toNatClampNeg))), (6, .ref (ad (76 + a2.toNatClampNeg))), (7, .int t6.1)]) hx hb dX3_addGuest_133 hl (k := 7) rfl (by rw [ev22]; rfl) (by decide) rfl (fun ls hl => ?_)
          refine lv_goto (tgt := 42) hx hb dX3_addGuest_136 (by decide) ?_
          exact hCL5 _ (Option.some.inj h).symm H locs ls hP hS (lv_sub hl [1, 2, 3, 4, 5, 6, 7, 0] rfl)
  · intro H locs ls hP hS hl
    subst hQQ
    exact x_rv X hr hlocks hP hS (Option.some.inj h) dX3_addGuest_139
def b_3_removeGuest_9 (n : Nat) (i2 : Nat) (t3 : Int32 × St) : Option ((Int32 × St) ⊕ (Int32 × St)) :=
  if (t3.2.1 (76 + i2) 2) ≤ t3.1 then
    some (.inr (t3.1, t3.2))
  else
    gd (inb t3.1 30) <| if (t3.2.1 (100 + i2) t3.1.toNatClampNeg) = 0 then
      gd (inb (t3.2.1 (108 + i2) t3.1.toNatClampNeg) 4) <| gd (inb (t3.2.1 (84 + i2) t3.1.toNatClampNeg) 48) <| nm ((t3.2.1 (116 + (t3.2.1 (108 + i2) t3.1.toNatClampNeg).toNatClampNeg) (t3.2.1 (84 + i2) t3.1.toNatClampNeg).toNatClampNeg) - 1) fun v18 =>
      nm (si t3.2 (116 + (t3.2.1 (108 + i2) t3.1.toNatClampNeg).toNatClampNeg) ((t3.2.1 (84 + i2) t3.1.toNatClampNeg).toNatClampNeg) v18) fun σ19 =>
      nm (t3.1 + 1) fun v20 =>
      some (.inl (v20, σ19))
    else
      if (t3.2.1 (100 + i2) t3.1.toNatClampNeg) = 1 then
        gd (inb (t3.2.1 (108 + i2) t3.1.toNatClampNeg) 6) <| (f_3_bits n t3.2 (t3.2.1 (84 + i2) t3.1.toNatClampNeg) (t3.2.1 (92 + i2) t3.1.toNatClampNeg)).bind fun r10 =>
        nm ((r10.1 : Int64) ^^^ (-1)) fun v12 =>
        nm (((t3.2.2 14 (t3.2.1 (108 + i2) t3.1.toNatClampNeg).toNatClampNeg) : Int64) &&& v12) fun v13 =>
        nm (sl r10.2 14 ((t3.2.1 (108 + i2) t3.1.toNatClampNeg).toNatClampNeg) v13) fun σ14 =>
        nm (t3.1 + 1) fun v15 =>
        some (.inl (v15, σ14))
      else
        nm (t3.1 + 1) fun v8 =>
        some (.inl (v8, t3.2))
def f_3_removeGuest (n : Nat) (σ : St) (a1 : Int32) : Option (St) :=
  gd (inb a1 8) <| (lq (b_3_removeGuest_9 n a1.toNatClampNeg) n (0, σ)).bind fun t1021 =>
  some t1021.2
abbrev rm_3_removeGuest : Room := { frames := 1, cells := 0, slots := 0, locals := 21 }
set_option maxRecDepth 100000 in
set_option maxHeartbeats 4000000 in
theorem k_3_removeGuest (l : Launch) (D : va_G) (cA : Nat → ClassId) (ad : Nat → Nat) (z : ZX) (hj : inj 120 ad) (n : Nat) (σ : St) (a1 : Int32)  {res : St} (h : f_3_removeGuest n σ a1 = some res) : MXv l D dX 120 cA ad (EX ad z) yX3_removeGuest wsX3_removeGuest rm_3_removeGuest [.ref (ad 11), .int a1] σ res := by
  refine Met.ofW (cc := cX3_removeGuest) (maxL := 4) (ret := none) (by decide) rfl ?_
  intro p e s m args below meth c s₁ B hml hv
  obtain ⟨hargs, hP, hK, hE⟩ := hv
  have hx := B.exec
  have hb := B.bytes
  have hr := B.returns
  have hts := atoms_spec (ws := wsX3_removeGuest) B.pre
  have hown : s.vm.findClass RX3 = some m.cls := findClass_of_methodNamed B.named
  have hlocks := B.notSynchronized
  have X : Cx p s m args c cX3_removeGuest 4 RX3 wsX3_removeGuest D dX 120 cA ad (EX ad z) := ⟨hx, hb, hml, hown, hts, hK, hj, hE, EX_ok ad z⟩
  have hS : va_S (inA 120 ad) s.heap s.heap [] := va_S.rf
  have hl := lv_entry ([.ref (ad 11), .int a1]) (n := 4) (Nat.le_of_ble_eq_true rfl)
  rw [show entryFrame m args 4 = entryFrame m ([.ref (ad 11), .int a1] : List Value).toArray 4 by rw [hargs]]
  rw [lg_entry_eq]
  generalize (lg_sl ([.ref (ad 11), .int a1]) ++ List.replicate (4 - (lg_sl ([.ref (ad 11), .int a1])).length) Slot.unset).toArray = ls at hl ⊢
  have hl : lv_has ls 4 [(0, .ref (ad 11)), (1, .int a1)] := hl
  obtain ⟨QQ, hQQ⟩ : ∃ Q, Q = MQ below (va_Qv (fun u => u = res) (fun u t => va_P D vwCl (ww dX 120 cA ad u) t.heap) (inA 120 ad)) args s 0 0 (inA 120 ad) := ⟨_, rfl⟩
  show W p l e (headSpec wsX3_removeGuest rm_3_removeGuest).room s m args below meth c s.heap [] 0 0 (MQ below (va_Qv (fun u => u = res) (fun u t => va_P D vwCl (ww dX 120 cA ad u) t.heap) (inA 120 ad)) args s 0 0 (inA 120 ad)) _
  rw [← hQQ]
  have in3 : ∀ w ∈ wsX30, w ∈ wsX3_removeGuest := by decide +kernel
  have in5 : ∀ w ∈ wsX50, w ∈ wsX3_removeGuest := by decide +kernel
  have lk11 : Cond.fieldLink RX3 11 "CureTown$DayPlan" "rows" "[LCureTown$GuestDay;" ∈ wsX3_removeGuest := by decide +kernel
  have lk105 : Cond.fieldLink RX3 105 "CureTown$GuestDay" "done" "I" ∈ wsX3_removeGuest := by decide +kernel
  have lk108 : Cond.fieldLink RX3 108 "CureTown$GuestDay" "kinds" "[I" ∈ wsX3_removeGuest := by decide +kernel
  have lk22 : Cond.fieldLink RX3 22 "CureTown$DayPlan" "bathsLet" "[J" ∈ wsX3_removeGuest := by decide +kernel
  have lk109 : Cond.fieldLink RX3 109 "CureTown$GuestDay" "places" "[I" ∈ wsX3_removeGuest := by decide +kernel
  have lk112 : Cond.fieldLink RX3 112 "CureTown$GuestDay" "begins" "[I" ∈ wsX3_removeGuest := by decide +kernel
  have lk115 : Cond.fieldLink RX3 115 "CureTown$GuestDay" "quarters" "[I" ∈ wsX3_removeGuest := by decide +kernel
  have lc122 : Cond.constantLong RX3 122 (-1) ∈ wsX3_removeGuest := by decide +kernel
  have lk19 : Cond.fieldLink RX3 19 "CureTown$DayPlan" "glassesTaken" "[[I" ∈ wsX3_removeGuest := by decide +kernel
  unfold f_3_removeGuest at h
  obtain ⟨H, hH⟩ : ∃ H, H = s.heap := ⟨_, rfl⟩
  obtain ⟨locs, hlc⟩ : ∃ q : List Loc, q = [] := ⟨_, rfl⟩
  have hP : va_P D vwCl (ww dX 120 cA ad σ) s.heap := hP
  have hS : va_S (inA 120 ad) s.heap s.heap [] := hS
  rw [← hlc] at hS ⊢
  rw [show W p l e (headSpec wsX3_removeGuest rm_3_removeGuest).room s m args below meth c s.heap locs 0 0 QQ = W p l e (headSpec wsX3_removeGuest rm_3_removeGuest).room s m args below meth c H locs 0 0 QQ by rw [hH]]
  have hS : va_S (inA 120 ad) s.heap H locs := by rw [hH]; exact hS
  have hP : va_P D vwCl (ww dX 120 cA ad σ) H := by rw [hH]; exact hP
  clear hH hlc
  refine lv_aload_n hx hb dX3_removeGuest_0 rfl (lv_at hl 0 rfl) ?_
  refine x_gr X hP (j := 0) (by decide) (dX_11) rfl rfl (by decide) in3 lk11 dX3_removeGuest_1 ?_
  refine lv_iload_n hx hb dX3_removeGuest_4 rfl (lv_at hl 1 rfl) ?_
  obtain ⟨g1, h⟩ := gd_some h
  refine x_ar X hP (by decide) (dX_12) g1 dX3_removeGuest_5 ?_
  refine lv_astore_n (lv' := [(2, .ref (ad (76 + a1.toNatClampNeg))), (0, .ref (ad 11)), (1, .int a1)]) hx hb dX3_removeGuest_6 rfl hl (by decide) rfl (fun ls hl => ?_)
  refine lv_iconst (v := 0) hx hb dX3_removeGuest_7 (by decide) ?_
  refine lv_istore_n (lv' := [(3, .int 0), (2, .ref (ad (76 + a1.toNatClampNeg))), (0, .ref (ad 11)), (1, .int a1)]) hx hb dX3_removeGuest_8 rfl hl (by decide) rfl (fun ls hl => ?_)
  obtain ⟨t1021, o1023, h⟩ := bd_some h
  refine lq_rule (P := fun t3 : Int32 × St => ∀ (H : Heap) (locs : List Loc) (ls : Array Slot), va_P D vwCl (ww dX 120 cA ad t3.2) H → va_S (inA 120 ad) s.heap H locs → lv_has ls 4 [(0, .ref (ad 11)), (2, .ref (ad (76 + a1.toNatClampNeg))), (3, .int t3.1)] → W p l e (headSpec wsX3_removeGuest rm_3_removeGuest).room s m args below meth c H locs 0 0 QQ (F0 m 9 ls [])) (X := fun t1021 : Int32 × St => ∀ (H : Heap) (locs : List Loc) (ls : Array Slot), va_P D vwCl (ww dX 120 cA ad t1021.2) H → va_S (inA 120 ad) s.heap H locs → lv_has ls 4 [(0, .ref (ad 11)), (2, .ref (ad (76 + a1.toNatClampNeg))), (3, .int t1021.1)] → W p l e (headSpec wsX3_removeGuest rm_3_removeGuest).room s m args below meth c H locs 0 0 QQ (F0 m 100 ls [])) ?_ n _ _ o1023 ?_ H locs ls hP hS (lv_sub hl [2, 1, 0] rfl)
  · clear h hP hS hl
    intro t3 rL2 h hCL2 hEL2 H locs ls hP hS hl
    unfold b_3_removeGuest_9 at h
    refine lv_iload_n hx hb dX3_removeGuest_9 rfl (lv_at hl 2 rfl) ?_
    refine lv_aload_n hx hb dX3_removeGuest_10 rfl (lv_at hl 1 rfl) ?_
    refine x_gi X hP (j := 2) (fam_lt (inb_lt g1) (by decide)) (dX_76 (inb_lt g1)) rfl rfl (by decide) in5 lk105 dX3_removeGuest_11 ?_
    refine lv_icmp_ge (tgt := 100) hx hb dX3_removeGuest_14 (by decide) (fun c4 => ?_) (fun c4 => ?_)
    · have h := it_t c4 h
      exact hEL2 _ (Option.some.inj h).symm H locs ls hP hS (lv_sub hl [0, 1, 2] rfl)
    · have h := it_f c4 h
      refine lv_aload_n hx hb dX3_removeGuest_17 rfl (lv_at hl 1 rfl) ?_
      refine x_gr X hP (j := 8) (fam_lt (inb_lt g1) (by decide)) (dX_76 (inb_lt g1)) rfl rfl (by decide) in5 lk108 dX3_removeGuest_18 ?_
      refine lv_iload_n hx hb dX3_removeGuest_21 rfl (lv_at hl 2 rfl) ?_
      obtain ⟨g5, h⟩ := gd_some h
      refine x_ai X hP (fam_lt (inb_lt g1) (by decide)) (dX_100 (inb_lt g1)) g5 dX3_removeGuest_22 ?_
      refine lv_if_ne (tgt := 51) hx hb dX3_removeGuest_23 (by decide) (fun c6 => ?_) (fun c6 => ?_)
      · have h := it_f c6 h
        refine lv_aload_n hx hb dX3_removeGuest_51 rfl (lv_at hl 1 rfl) ?_
        refine x_gr X hP (j := 8) (fam_lt (inb_lt g1) (by decide)) (dX_76 (inb_lt g1)) rfl rfl (by decide) in5 lk108 dX3_removeGuest_52 ?_
        refine lv_iload_n hx hb dX3_removeGuest_55 rfl (lv_at hl 2 rfl) ?_
        refine x_ai X hP (fam_lt (inb_lt g1) (by decide)) (dX_100 (inb_lt g1)) g5 dX3_removeGuest_56 ?_
        refine lv_iconst (v := 1) hx hb dX3_removeGuest_57 (by decide) ?_
        refine lv_icmp_ne (tgt := 94) hx hb dX3_removeGuest_58 (by decide) (fun c7 => ?_) (fun c7 => ?_)
        · have h := it_f c7 h
          obtain ⟨v8, ev8⟩ : ∃ y : Int32, y = t3.1 + 1 := ⟨_, rfl⟩
          have h := nm_some ev8 h
          refine lv_iinc (v := v8) (lv' := [(3, .int v8), (0, .ref (ad 11)), (2, .ref (ad (76 + a1.toNatClampNeg)))]) hx hb dX3_removeGuest_94 hl (k := 2) rfl (by rw [ev8]; rfl) (by decide) rfl (fun ls hl => ?_)
          refine lv_goto (tgt := 9) hx hb dX3_removeGuest_97 (by decide) ?_
          exact hCL2 _ (Option.some.inj h).symm H locs ls hP hS (lv_sub hl [1, 2, 0] rfl)
        · have h := it_t c7 h
          refine lv_aload_n hx hb dX3_removeGuest_61 rfl (lv_at hl 0 rfl) ?_
          refine x_gr X hP (j := 2) (by decide) (dX_11) rfl rfl (by decide) in3 lk22 dX3_removeGuest_62 ?_
          refine lv_aload_n hx hb dX3_removeGuest_65 rfl (lv_at hl 1 rfl) ?_
          refine x_gr X hP (j := 9) (fam_lt (inb_lt g1) (by decide)) (dX_76 (inb_lt g1)) rfl rfl (by decide) in5 lk109 dX3_removeGuest_66 ?_
          refine lv_iload_n hx hb dX3_removeGuest_69 rfl (lv_at hl 2 rfl) ?_
          refine x_ai X hP (fam_lt (inb_lt g1) (by decide)) (dX_108 (inb_lt g1)) g5 dX3_removeGuest_70 ?_
          refine lv_dup2_11 hx hb dX3_removeGuest_71 rfl rfl ?_
          obtain ⟨g9, h⟩ := gd_some h
          refine x_al X hP (by decide) (dX_14) g9 dX3_removeGuest_72 ?_
          refine lv_aload_n hx hb dX3_removeGuest_73 rfl (lv_at hl 1 rfl) ?_
          refine x_gr X hP (j := 6) (fam_lt (inb_lt g1) (by decide)) (dX_76 (inb_lt g1)) rfl rfl (by decide) in5 lk112 dX3_removeGuest_74 ?_
          refine lv_iload_n hx hb dX3_removeGuest_77 rfl (lv_at hl 2 rfl) ?_
          refine x_ai X hP (fam_lt (inb_lt g1) (by decide)) (dX_84 (inb_lt g1)) g5 dX3_removeGuest_78 ?_
          refine lv_aload_n hx hb dX3_removeGuest_79 rfl (lv_at hl 1 rfl) ?_
          refine x_gr X hP (j := 7) (fam_lt (inb_lt g1) (by decide)) (dX_76 (inb_lt g1)) rfl rfl (by decide) in5 lk115 dX3_removeGuest_80 ?_
          refine lv_iload_n hx hb dX3_removeGuest_83 rfl (lv_at hl 2 rfl) ?_
          refine x_ai X hP (fam_lt (inb_lt g1) (by decide)) (dX_92 (inb_lt g1)) g5 dX3_removeGuest_84 ?_
          obtain ⟨r10, k11, h⟩ := bd_some h
          refine x_Sl (rest := [.long (t3.2.2 14 (t3.2.1 (108 + a1.toNatClampNeg) t3.1.toNatClampNeg).toNatClampNeg), .int (t3.2.1 (108 + a1.toNatClampNeg) t3.1.toNatClampNeg), .ref (ad 14)]) X hP hS (k_3_bits l D cA ad z hj n t3.2 (t3.2.1 (84 + a1.toNatClampNeg) t3.1.toNatClampNeg) (t3.2.1 (92 + a1.toNatClampNeg) t3.1.toNatClampNeg) k11) 2 gX3_removeGuest_X3_bits rfl rfl rfl (by decide +kernel) ⟨Nat.le_of_ble_eq_true rfl, Nat.le_of_ble_eq_true rfl⟩ rfl hl.1 rfl (Nat.le_of_ble_eq_true rfl) dX3_removeGuest_85 ⟨Nat.zero_le _, Nat.zero_le _⟩ (fun H locs hP hS => ?_)
          refine lv_ldc2 (own := RX3) (v := (-1)) hx hb X.2.2.2.1 (X.2.2.2.2.1 _ lc122) dX3_removeGuest_88 ?_
          refine lv_lxor hx hb dX3_removeGuest_91 ?_
          refine lv_topl (fun v12 ev12 => ?_)
          have h := nm_some ev12 h
          refine lv_land hx hb dX3_removeGuest_92 ?_
          refine lv_topl (fun v13 ev13 => ?_)
          have h := nm_some ev13 h
          refine x_sl X hP hS (by decide) (dX_14) g9 dX3_removeGuest_93 (fun σ14 eσ14 H locs hP hS => ?_)
          have h := nm_some eσ14 h
          obtain ⟨v15, ev15⟩ : ∃ y : Int32, y = t3.1 + 1 := ⟨_, rfl⟩
          have h := nm_some ev15 h
          refine lv_iinc (v := v15) (lv' := [(3, .int v15), (0, .ref (ad 11)), (2, .ref (ad (76 + a1.toNatClampNeg)))]) hx hb dX3_removeGuest_94 hl (k := 2) rfl (by rw [ev15]; rfl) (by decide) rfl (fun ls hl => ?_)
          refine lv_goto (tgt := 9) hx hb dX3_removeGuest_97 (by decide) ?_
          exact hCL2 _ (Option.some.inj h).symm H locs ls hP hS (lv_sub hl [1, 2, 0] rfl)
      · have h := it_t c6 h
        refine lv_aload_n hx hb dX3_removeGuest_26 rfl (lv_at hl 0 rfl) ?_
        refine x_gr X hP (j := 1) (by decide) (dX_11) rfl rfl (by decide) in3 lk19 dX3_removeGuest_27 ?_
        refine lv_aload_n hx hb dX3_removeGuest_30 rfl (lv_at hl 1 rfl) ?_
        refine x_gr X hP (j := 9) (fam_lt (inb_lt g1) (by decide)) (dX_76 (inb_lt g1)) rfl rfl (by decide) in5 lk109 dX3_removeGuest_31 ?_
        refine lv_iload_n hx hb dX3_removeGuest_34 rfl (lv_at hl 2 rfl) ?_
        refine x_ai X hP (fam_lt (inb_lt g1) (by decide)) (dX_108 (inb_lt g1)) g5 dX3_removeGuest_35 ?_
        obtain ⟨g16, h⟩ := gd_some h
        refine x_arr X hP (by decide) (dX_13) g16 dX3_removeGuest_36 ?_
        refine lv_aload_n hx hb dX3_removeGuest_37 rfl (lv_at hl 1 rfl) ?_
        refine x_gr X hP (j := 6) (fam_lt (inb_lt g1) (by decide)) (dX_76 (inb_lt g1)) rfl rfl (by decide) in5 lk112 dX3_removeGuest_38 ?_
        refine lv_iload_n hx hb dX3_removeGuest_41 rfl (lv_at hl 2 rfl) ?_
        refine x_ai X hP (fam_lt (inb_lt g1) (by decide)) (dX_84 (inb_lt g1)) g5 dX3_removeGuest_42 ?_
        refine lv_dup2_11 hx hb dX3_removeGuest_43 rfl rfl ?_
        obtain ⟨g17, h⟩ := gd_some h
        refine x_ai X hP (fam_lt (inb_lt g16) (by decide)) (dX_116 (inb_lt g16)) g17 dX3_removeGuest_44 ?_
        refine lv_iconst (v := 1) hx hb dX3_removeGuest_45 (by decide) ?_
        refine lv_isub hx hb dX3_removeGuest_46 ?_
        refine lv_topi (fun v18 ev18 => ?_)
        have h := nm_some ev18 h
        refine x_si X hP hS (fam_lt (inb_lt g16) (by decide)) (dX_116 (inb_lt g16)) g17 dX3_removeGuest_47 (fun σ19 eσ19 H locs hP hS => ?_)
        have h := nm_some eσ19 h
        refine lv_goto (tgt := 94) hx hb dX3_removeGuest_48 (by decide) ?_
        obtain ⟨v20, ev20⟩ : ∃ y : Int32, y = t3.1 + 1 := ⟨_, rfl⟩
        have h := nm_some ev20 h
        refine lv_iinc (v := v20) (lv' := [(3, .int v20), (0, .ref (ad 11)), (2, .ref (ad (76 + a1.toNatClampNeg)))]) hx hb dX3_removeGuest_94 hl (k := 2) rfl (by rw [ev20]; rfl) (by decide) rfl (fun ls hl => ?_)
        refine lv_goto (tgt := 9) hx hb dX3_removeGuest_97 (by decide) ?_
        exact hCL2 _ (Option.some.inj h).symm H locs ls hP hS (lv_sub hl [1, 2, 0] rfl)
  · intro H locs ls hP hS hl
    subst hQQ
    exact x_rv X hr hlocks hP hS (Option.some.inj h) dX3_removeGuest_100
