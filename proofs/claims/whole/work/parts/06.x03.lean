def b_J7_fill_53178_5 (n : Nat) (i0 : Nat) (a1 : Int32) (t2 : Int32 × St) : Option ((Int32 × St) ⊕ (Int32 × St)) :=
  if 48 ≤ t2.1 then
    some (.inr (t2.1, t2.2))
  else
    gd (inb t2.1 48) <| nm (si t2.2 (116 + i0) (t2.1.toNatClampNeg) a1) fun σ5 =>
    nm (t2.1 + 1) fun v6 =>
    some (.inl (v6, σ5))
def f_J7_fill_53178 (n : Nat) (σ : St) (i0 : Nat) (a1 : Int32) : Option (St) :=
  (lq (b_J7_fill_53178_5 n i0 a1) n (0, σ)).bind fun t1007 =>
  some t1007.2
abbrev rm_J7_fill_53178 : Room := { frames := 0, cells := 0, slots := 0, locals := 0 }
set_option maxRecDepth 100000 in
set_option maxHeartbeats 4000000 in
theorem k_J7_fill_53178 (l : Launch) (D : va_G) (cA : Nat → ClassId) (ad : Nat → Nat) (z : ZX) (hj : inj 120 ad) (n : Nat) (σ : St) (i0 : Nat) (a1 : Int32) (h0 : i0 < 4) {res : St} (h : f_J7_fill_53178 n σ i0 a1 = some res) : MXv l D dX 120 cA ad (EX ad z) yJ7_fill_53178 wsJ7_fill_53178 rm_J7_fill_53178 [.ref (ad (116 + i0)), .int a1] σ res := by
  refine Met.ofW (cc := cJ7_fill_53178) (maxL := 4) (ret := none) (by decide) rfl ?_
  intro p e s m args below meth c s₁ B hml hv
  obtain ⟨hargs, hP, hK, hE⟩ := hv
  have hx := B.exec
  have hb := B.bytes
  have hr := B.returns
  have hts := atoms_spec (ws := wsJ7_fill_53178) B.pre
  have hown : s.vm.findClass RJ7 = some m.cls := findClass_of_methodNamed B.named
  have hlocks := B.notSynchronized
  have X : Cx p s m args c cJ7_fill_53178 4 RJ7 wsJ7_fill_53178 D dX 120 cA ad (EX ad z) := ⟨hx, hb, hml, hown, hts, hK, hj, hE, EX_ok ad z⟩
  have hS : va_S (inA 120 ad) s.heap s.heap [] := va_S.rf
  have hl := lv_entry ([.ref (ad (116 + i0)), .int a1]) (n := 4) (Nat.le_of_ble_eq_true rfl)
  rw [show entryFrame m args 4 = entryFrame m ([.ref (ad (116 + i0)), .int a1] : List Value).toArray 4 by rw [hargs]]
  rw [lg_entry_eq]
  generalize (lg_sl ([.ref (ad (116 + i0)), .int a1]) ++ List.replicate (4 - (lg_sl ([.ref (ad (116 + i0)), .int a1])).length) Slot.unset).toArray = ls at hl ⊢
  have hl : lv_has ls 4 [(0, .ref (ad (116 + i0))), (1, .int a1)] := hl
  obtain ⟨QQ, hQQ⟩ : ∃ Q, Q = MQ below (va_Qv (fun u => u = res) (fun u t => va_P D vwCl (ww dX 120 cA ad u) t.heap) (inA 120 ad)) args s 0 0 (inA 120 ad) := ⟨_, rfl⟩
  show W p l e (headSpec wsJ7_fill_53178 rm_J7_fill_53178).room s m args below meth c s.heap [] 0 0 (MQ below (va_Qv (fun u => u = res) (fun u t => va_P D vwCl (ww dX 120 cA ad u) t.heap) (inA 120 ad)) args s 0 0 (inA 120 ad)) _
  rw [← hQQ]
  unfold f_J7_fill_53178 at h
  obtain ⟨H, hH⟩ : ∃ H, H = s.heap := ⟨_, rfl⟩
  obtain ⟨locs, hlc⟩ : ∃ q : List Loc, q = [] := ⟨_, rfl⟩
  have hP : va_P D vwCl (ww dX 120 cA ad σ) s.heap := hP
  have hS : va_S (inA 120 ad) s.heap s.heap [] := hS
  rw [← hlc] at hS ⊢
  rw [show W p l e (headSpec wsJ7_fill_53178 rm_J7_fill_53178).room s m args below meth c s.heap locs 0 0 QQ = W p l e (headSpec wsJ7_fill_53178 rm_J7_fill_53178).room s m args below meth c H locs 0 0 QQ by rw [hH]]
  have hS : va_S (inA 120 ad) s.heap H locs := by rw [hH]; exact hS
  have hP : va_P D vwCl (ww dX 120 cA ad σ) H := by rw [hH]; exact hP
  clear hH hlc
  refine lv_iconst (v := 0) hx hb dJ7_fill_53178_0 (by decide) ?_
  refine lv_istore_n (lv' := [(2, .int 0), (0, .ref (ad (116 + i0))), (1, .int a1)]) hx hb dJ7_fill_53178_1 rfl hl (by decide) rfl (fun ls hl => ?_)
  refine lv_aload_n hx hb dJ7_fill_53178_2 rfl (lv_at hl 1 rfl) ?_
  refine x_len X hP (v := 48) (fam_lt h0 (by decide)) (dX_116 h0) rfl dJ7_fill_53178_3 ?_
  refine lv_istore_n (lv' := [(3, .int 48), (2, .int 0), (0, .ref (ad (116 + i0))), (1, .int a1)]) hx hb dJ7_fill_53178_4 rfl hl (by decide) rfl (fun ls hl => ?_)
  obtain ⟨t1007, o1009, h⟩ := bd_some h
  refine lq_rule (P := fun t2 : Int32 × St => ∀ (H : Heap) (locs : List Loc) (ls : Array Slot), va_P D vwCl (ww dX 120 cA ad t2.2) H → va_S (inA 120 ad) s.heap H locs → lv_has ls 4 [(0, .ref (ad (116 + i0))), (1, .int a1), (2, .int t2.1), (3, .int 48)] → W p l e (headSpec wsJ7_fill_53178 rm_J7_fill_53178).room s m args below meth c H locs 0 0 QQ (F0 m 5 ls [])) (X := fun t1007 : Int32 × St => ∀ (H : Heap) (locs : List Loc) (ls : Array Slot), va_P D vwCl (ww dX 120 cA ad t1007.2) H → va_S (inA 120 ad) s.heap H locs → lv_has ls 4 [(0, .ref (ad (116 + i0))), (1, .int a1), (2, .int t1007.1), (3, .int 48)] → W p l e (headSpec wsJ7_fill_53178 rm_J7_fill_53178).room s m args below meth c H locs 0 0 QQ (F0 m 20 ls [])) ?_ n _ _ o1009 ?_ H locs ls hP hS (lv_sub hl [2, 3, 1, 0] rfl)
  · clear h hP hS hl
    intro t2 rL1 h hCL1 hEL1 H locs ls hP hS hl
    unfold b_J7_fill_53178_5 at h
    refine lv_iload_n hx hb dJ7_fill_53178_5 rfl (lv_at hl 2 rfl) ?_
    refine lv_iload_n hx hb dJ7_fill_53178_6 rfl (lv_at hl 3 rfl) ?_
    refine lv_icmp_ge (tgt := 20) hx hb dJ7_fill_53178_7 (by decide) (fun c3 => ?_) (fun c3 => ?_)
    · have h := it_t c3 h
      exact hEL1 _ (Option.some.inj h).symm H locs ls hP hS (lv_sub hl [0, 1, 2, 3] rfl)
    · have h := it_f c3 h
      refine lv_aload_n hx hb dJ7_fill_53178_10 rfl (lv_at hl 0 rfl) ?_
      refine lv_iload_n hx hb dJ7_fill_53178_11 rfl (lv_at hl 2 rfl) ?_
      refine lv_iload_n hx hb dJ7_fill_53178_12 rfl (lv_at hl 1 rfl) ?_
      obtain ⟨g4, h⟩ := gd_some h
      refine x_si X hP hS (fam_lt h0 (by decide)) (dX_116 h0) g4 dJ7_fill_53178_13 (fun σ5 eσ5 H locs hP hS => ?_)
      have h := nm_some eσ5 h
      obtain ⟨v6, ev6⟩ : ∃ y : Int32, y = t2.1 + 1 := ⟨_, rfl⟩
      have h := nm_some ev6 h
      refine lv_iinc (v := v6) (lv' := [(2, .int v6), (0, .ref (ad (116 + i0))), (1, .int a1), (3, .int 48)]) hx hb dJ7_fill_53178_14 hl (k := 2) rfl (by rw [ev6]; rfl) (by decide) rfl (fun ls hl => ?_)
      refine lv_goto (tgt := 5) hx hb dJ7_fill_53178_17 (by decide) ?_
      exact hCL1 _ (Option.some.inj h).symm H locs ls hP hS (lv_sub hl [1, 2, 0, 3] rfl)
  · intro H locs ls hP hS hl
    subst hQQ
    exact x_rv X hr hlocks hP hS (Option.some.inj h) dJ7_fill_53178_20
def b_J7_fill_d0a16_6 (n : Nat) (a1 : Int64) (t2 : Int32 × St) : Option ((Int32 × St) ⊕ (Int32 × St)) :=
  if 6 ≤ t2.1 then
    some (.inr (t2.1, t2.2))
  else
    gd (inb t2.1 6) <| nm (sl t2.2 14 (t2.1.toNatClampNeg) a1) fun σ5 =>
    nm (t2.1 + 1) fun v6 =>
    some (.inl (v6, σ5))
def f_J7_fill_d0a16 (n : Nat) (σ : St) (a1 : Int64) : Option (St) :=
  (lq (b_J7_fill_d0a16_6 n a1) n (0, σ)).bind fun t1007 =>
  some t1007.2
abbrev rm_J7_fill_d0a16 : Room := { frames := 0, cells := 0, slots := 0, locals := 0 }
set_option maxRecDepth 100000 in
set_option maxHeartbeats 4000000 in
theorem k_J7_fill_d0a16 (l : Launch) (D : va_G) (cA : Nat → ClassId) (ad : Nat → Nat) (z : ZX) (hj : inj 120 ad) (n : Nat) (σ : St) (a1 : Int64)  {res : St} (h : f_J7_fill_d0a16 n σ a1 = some res) : MXv l D dX 120 cA ad (EX ad z) yJ7_fill_d0a16 wsJ7_fill_d0a16 rm_J7_fill_d0a16 [.ref (ad 14), .long a1] σ res := by
  refine Met.ofW (cc := cJ7_fill_d0a16) (maxL := 5) (ret := none) (by decide) rfl ?_
  intro p e s m args below meth c s₁ B hml hv
  obtain ⟨hargs, hP, hK, hE⟩ := hv
  have hx := B.exec
  have hb := B.bytes
  have hr := B.returns
  have hts := atoms_spec (ws := wsJ7_fill_d0a16) B.pre
  have hown : s.vm.findClass RJ7 = some m.cls := findClass_of_methodNamed B.named
  have hlocks := B.notSynchronized
  have X : Cx p s m args c cJ7_fill_d0a16 5 RJ7 wsJ7_fill_d0a16 D dX 120 cA ad (EX ad z) := ⟨hx, hb, hml, hown, hts, hK, hj, hE, EX_ok ad z⟩
  have hS : va_S (inA 120 ad) s.heap s.heap [] := va_S.rf
  have hl := lv_entry ([.ref (ad 14), .long a1]) (n := 5) (Nat.le_of_ble_eq_true rfl)
  rw [show entryFrame m args 5 = entryFrame m ([.ref (ad 14), .long a1] : List Value).toArray 5 by rw [hargs]]
  rw [lg_entry_eq]
  generalize (lg_sl ([.ref (ad 14), .long a1]) ++ List.replicate (5 - (lg_sl ([.ref (ad 14), .long a1])).length) Slot.unset).toArray = ls at hl ⊢
  have hl : lv_has ls 5 [(0, .ref (ad 14)), (1, .long a1)] := hl
  obtain ⟨QQ, hQQ⟩ : ∃ Q, Q = MQ below (va_Qv (fun u => u = res) (fun u t => va_P D vwCl (ww dX 120 cA ad u) t.heap) (inA 120 ad)) args s 0 0 (inA 120 ad) := ⟨_, rfl⟩
  show W p l e (headSpec wsJ7_fill_d0a16 rm_J7_fill_d0a16).room s m args below meth c s.heap [] 0 0 (MQ below (va_Qv (fun u => u = res) (fun u t => va_P D vwCl (ww dX 120 cA ad u) t.heap) (inA 120 ad)) args s 0 0 (inA 120 ad)) _
  rw [← hQQ]
  unfold f_J7_fill_d0a16 at h
  obtain ⟨H, hH⟩ : ∃ H, H = s.heap := ⟨_, rfl⟩
  obtain ⟨locs, hlc⟩ : ∃ q : List Loc, q = [] := ⟨_, rfl⟩
  have hP : va_P D vwCl (ww dX 120 cA ad σ) s.heap := hP
  have hS : va_S (inA 120 ad) s.heap s.heap [] := hS
  rw [← hlc] at hS ⊢
  rw [show W p l e (headSpec wsJ7_fill_d0a16 rm_J7_fill_d0a16).room s m args below meth c s.heap locs 0 0 QQ = W p l e (headSpec wsJ7_fill_d0a16 rm_J7_fill_d0a16).room s m args below meth c H locs 0 0 QQ by rw [hH]]
  have hS : va_S (inA 120 ad) s.heap H locs := by rw [hH]; exact hS
  have hP : va_P D vwCl (ww dX 120 cA ad σ) H := by rw [hH]; exact hP
  clear hH hlc
  refine lv_iconst (v := 0) hx hb dJ7_fill_d0a16_0 (by decide) ?_
  refine lv_istore_n (lv' := [(3, .int 0), (0, .ref (ad 14)), (1, .long a1)]) hx hb dJ7_fill_d0a16_1 rfl hl (by decide) rfl (fun ls hl => ?_)
  refine lv_aload_n hx hb dJ7_fill_d0a16_2 rfl (lv_at hl 1 rfl) ?_
  refine x_len X hP (v := 6) (by decide) (dX_14) rfl dJ7_fill_d0a16_3 ?_
  refine lv_istore (lv' := [(4, .int 6), (3, .int 0), (0, .ref (ad 14)), (1, .long a1)]) hx hb dJ7_fill_d0a16_4 hl (by decide) rfl (fun ls hl => ?_)
  obtain ⟨t1007, o1009, h⟩ := bd_some h
  refine lq_rule (P := fun t2 : Int32 × St => ∀ (H : Heap) (locs : List Loc) (ls : Array Slot), va_P D vwCl (ww dX 120 cA ad t2.2) H → va_S (inA 120 ad) s.heap H locs → lv_has ls 5 [(0, .ref (ad 14)), (1, .long a1), (3, .int t2.1), (4, .int 6)] → W p l e (headSpec wsJ7_fill_d0a16 rm_J7_fill_d0a16).room s m args below meth c H locs 0 0 QQ (F0 m 6 ls [])) (X := fun t1007 : Int32 × St => ∀ (H : Heap) (locs : List Loc) (ls : Array Slot), va_P D vwCl (ww dX 120 cA ad t1007.2) H → va_S (inA 120 ad) s.heap H locs → lv_has ls 5 [(0, .ref (ad 14)), (1, .long a1), (3, .int t1007.1), (4, .int 6)] → W p l e (headSpec wsJ7_fill_d0a16 rm_J7_fill_d0a16).room s m args below meth c H locs 0 0 QQ (F0 m 22 ls [])) ?_ n _ _ o1009 ?_ H locs ls hP hS (lv_sub hl [2, 3, 1, 0] rfl)
  · clear h hP hS hl
    intro t2 rL1 h hCL1 hEL1 H locs ls hP hS hl
    unfold b_J7_fill_d0a16_6 at h
    refine lv_iload_n hx hb dJ7_fill_d0a16_6 rfl (lv_at hl 2 rfl) ?_
    refine lv_iload hx hb dJ7_fill_d0a16_7 (lv_at hl 3 rfl) ?_
    refine lv_icmp_ge (tgt := 22) hx hb dJ7_fill_d0a16_9 (by decide) (fun c3 => ?_) (fun c3 => ?_)
    · have h := it_t c3 h
      exact hEL1 _ (Option.some.inj h).symm H locs ls hP hS (lv_sub hl [0, 1, 2, 3] rfl)
    · have h := it_f c3 h
      refine lv_aload_n hx hb dJ7_fill_d0a16_12 rfl (lv_at hl 0 rfl) ?_
      refine lv_iload_n hx hb dJ7_fill_d0a16_13 rfl (lv_at hl 2 rfl) ?_
      refine lv_lload_n hx hb dJ7_fill_d0a16_14 rfl (lv_at hl 1 rfl) ?_
      obtain ⟨g4, h⟩ := gd_some h
      refine x_sl X hP hS (by decide) (dX_14) g4 dJ7_fill_d0a16_15 (fun σ5 eσ5 H locs hP hS => ?_)
      have h := nm_some eσ5 h
      obtain ⟨v6, ev6⟩ : ∃ y : Int32, y = t2.1 + 1 := ⟨_, rfl⟩
      have h := nm_some ev6 h
      refine lv_iinc (v := v6) (lv' := [(3, .int v6), (0, .ref (ad 14)), (1, .long a1), (4, .int 6)]) hx hb dJ7_fill_d0a16_16 hl (k := 2) rfl (by rw [ev6]; rfl) (by decide) rfl (fun ls hl => ?_)
      refine lv_goto (tgt := 6) hx hb dJ7_fill_d0a16_19 (by decide) ?_
      exact hCL1 _ (Option.some.inj h).symm H locs ls hP hS (lv_sub hl [1, 2, 0, 3] rfl)
  · intro H locs ls hP hS hl
    subst hQQ
    exact x_rv X hr hlocks hP hS (Option.some.inj h) dJ7_fill_d0a16_22
def b_3_clear_2 (n : Nat)  (t2 : Int32 × St) : Option ((Int32 × St) ⊕ (Int32 × St)) :=
  if 4 ≤ t2.1 then
    some (.inr (t2.1, t2.2))
  else
    gd (inb t2.1 4) <| (f_J7_fill_53178 n t2.2 t2.1.toNatClampNeg 0).bind fun r5 =>
    nm (t2.1 + 1) fun v7 =>
    some (.inl (v7, r5))
def f_3_clear (n : Nat) (σ : St)  : Option (St) :=
  (lq (b_3_clear_2 n ) n (0, σ)).bind fun t1008 =>
  (f_J7_fill_d0a16 n t1008.2 0).bind fun r1011 =>
  some r1011
abbrev rm_3_clear : Room := { frames := 1, cells := 0, slots := 0, locals := 24 }
set_option maxRecDepth 100000 in
set_option maxHeartbeats 4000000 in
theorem k_3_clear (l : Launch) (D : va_G) (cA : Nat → ClassId) (ad : Nat → Nat) (z : ZX) (hj : inj 120 ad) (n : Nat) (σ : St)   {res : St} (h : f_3_clear n σ  = some res) : MXv l D dX 120 cA ad (EX ad z) yX3_clear wsX3_clear rm_3_clear [.ref (ad 11)] σ res := by
  refine Met.ofW (cc := cX3_clear) (maxL := 2) (ret := none) (by decide) rfl ?_
  intro p e s m args below meth c s₁ B hml hv
  obtain ⟨hargs, hP, hK, hE⟩ := hv
  have hx := B.exec
  have hb := B.bytes
  have hr := B.returns
  have hts := atoms_spec (ws := wsX3_clear) B.pre
  have hown : s.vm.findClass RX3 = some m.cls := findClass_of_methodNamed B.named
  have hlocks := B.notSynchronized
  have X : Cx p s m args c cX3_clear 2 RX3 wsX3_clear D dX 120 cA ad (EX ad z) := ⟨hx, hb, hml, hown, hts, hK, hj, hE, EX_ok ad z⟩
  have hS : va_S (inA 120 ad) s.heap s.heap [] := va_S.rf
  have hl := lv_entry ([.ref (ad 11)]) (n := 2) (Nat.le_of_ble_eq_true rfl)
  rw [show entryFrame m args 2 = entryFrame m ([.ref (ad 11)] : List Value).toArray 2 by rw [hargs]]
  rw [lg_entry_eq]
  generalize (lg_sl ([.ref (ad 11)]) ++ List.replicate (2 - (lg_sl ([.ref (ad 11)])).length) Slot.unset).toArray = ls at hl ⊢
  have hl : lv_has ls 2 [(0, .ref (ad 11))] := hl
  obtain ⟨QQ, hQQ⟩ : ∃ Q, Q = MQ below (va_Qv (fun u => u = res) (fun u t => va_P D vwCl (ww dX 120 cA ad u) t.heap) (inA 120 ad)) args s 0 0 (inA 120 ad) := ⟨_, rfl⟩
  show W p l e (headSpec wsX3_clear rm_3_clear).room s m args below meth c s.heap [] 0 0 (MQ below (va_Qv (fun u => u = res) (fun u t => va_P D vwCl (ww dX 120 cA ad u) t.heap) (inA 120 ad)) args s 0 0 (inA 120 ad)) _
  rw [← hQQ]
  have in3 : ∀ w ∈ wsX30, w ∈ wsX3_clear := by decide +kernel
  have lk19 : Cond.fieldLink RX3 19 "CureTown$DayPlan" "glassesTaken" "[[I" ∈ wsX3_clear := by decide +kernel
  have lk22 : Cond.fieldLink RX3 22 "CureTown$DayPlan" "bathsLet" "[J" ∈ wsX3_clear := by decide +kernel
  unfold f_3_clear at h
  obtain ⟨H, hH⟩ : ∃ H, H = s.heap := ⟨_, rfl⟩
  obtain ⟨locs, hlc⟩ : ∃ q : List Loc, q = [] := ⟨_, rfl⟩
  have hP : va_P D vwCl (ww dX 120 cA ad σ) s.heap := hP
  have hS : va_S (inA 120 ad) s.heap s.heap [] := hS
  rw [← hlc] at hS ⊢
  rw [show W p l e (headSpec wsX3_clear rm_3_clear).room s m args below meth c s.heap locs 0 0 QQ = W p l e (headSpec wsX3_clear rm_3_clear).room s m args below meth c H locs 0 0 QQ by rw [hH]]
  have hS : va_S (inA 120 ad) s.heap H locs := by rw [hH]; exact hS
  have hP : va_P D vwCl (ww dX 120 cA ad σ) H := by rw [hH]; exact hP
  clear hH hlc
  refine lv_iconst (v := 0) hx hb dX3_clear_0 (by decide) ?_
  refine lv_istore_n (lv' := [(1, .int 0), (0, .ref (ad 11))]) hx hb dX3_clear_1 rfl hl (by decide) rfl (fun ls hl => ?_)
  obtain ⟨t1008, o1010, h⟩ := bd_some h
  refine lq_rule (P := fun t2 : Int32 × St => ∀ (H : Heap) (locs : List Loc) (ls : Array Slot), va_P D vwCl (ww dX 120 cA ad t2.2) H → va_S (inA 120 ad) s.heap H locs → lv_has ls 2 [(0, .ref (ad 11)), (1, .int t2.1)] → W p l e (headSpec wsX3_clear rm_3_clear).room s m args below meth c H locs 0 0 QQ (F0 m 2 ls [])) (X := fun t1008 : Int32 × St => ∀ (H : Heap) (locs : List Loc) (ls : Array Slot), va_P D vwCl (ww dX 120 cA ad t1008.2) H → va_S (inA 120 ad) s.heap H locs → lv_has ls 2 [(0, .ref (ad 11)), (1, .int t1008.1)] → W p l e (headSpec wsX3_clear rm_3_clear).room s m args below meth c H locs 0 0 QQ (F0 m 23 ls [])) ?_ n _ _ o1010 ?_ H locs ls hP hS (lv_sub hl [1, 0] rfl)
  · clear h hP hS hl
    intro t2 rL1 h hCL1 hEL1 H locs ls hP hS hl
    unfold b_3_clear_2 at h
    refine lv_iload_n hx hb dX3_clear_2 rfl (lv_at hl 1 rfl) ?_
    refine lv_iconst (v := 4) hx hb dX3_clear_3 (by decide) ?_
    refine lv_icmp_ge (tgt := 23) hx hb dX3_clear_4 (by decide) (fun c3 => ?_) (fun c3 => ?_)
    · have h := it_t c3 h
      exact hEL1 _ (Option.some.inj h).symm H locs ls hP hS (lv_sub hl [0, 1] rfl)
    · have h := it_f c3 h
      refine lv_aload_n hx hb dX3_clear_7 rfl (lv_at hl 0 rfl) ?_
      refine x_gr X hP (j := 1) (by decide) (dX_11) rfl rfl (by decide) in3 lk19 dX3_clear_8 ?_
      refine lv_iload_n hx hb dX3_clear_11 rfl (lv_at hl 1 rfl) ?_
      obtain ⟨g4, h⟩ := gd_some h
      refine x_arr X hP (by decide) (dX_13) g4 dX3_clear_12 ?_
      refine lv_iconst (v := 0) hx hb dX3_clear_13 (by decide) ?_
      obtain ⟨r5, k6, h⟩ := bd_some h
      refine x_Sv (rest := []) X hP hS (k_J7_fill_53178 l D cA ad z hj n t2.2 t2.1.toNatClampNeg 0 (inb_lt g4) k6) 2 gX3_clear_J7_fill_53178 rfl rfl rfl (by decide +kernel) ⟨Nat.le_of_ble_eq_true rfl, Nat.le_of_ble_eq_true rfl⟩ rfl hl.1 rfl (Nat.le_of_ble_eq_true rfl) dX3_clear_14 ⟨Nat.zero_le _, Nat.zero_le _⟩ (fun H locs hP hS => ?_)
      obtain ⟨v7, ev7⟩ : ∃ y : Int32, y = t2.1 + 1 := ⟨_, rfl⟩
      have h := nm_some ev7 h
      refine lv_iinc (v := v7) (lv' := [(1, .int v7), (0, .ref (ad 11))]) hx hb dX3_clear_17 hl (k := 1) rfl (by rw [ev7]; rfl) (by decide) rfl (fun ls hl => ?_)
      refine lv_goto (tgt := 2) hx hb dX3_clear_20 (by decide) ?_
      exact hCL1 _ (Option.some.inj h).symm H locs ls hP hS (lv_sub hl [1, 0] rfl)
  · intro H locs ls hP hS hl
    refine lv_aload_n hx hb dX3_clear_23 rfl (lv_at hl 0 rfl) ?_
    refine x_gr X hP (j := 2) (by decide) (dX_11) rfl rfl (by decide) in3 lk22 dX3_clear_24 ?_
    refine lv_lconst (v := 0) hx hb dX3_clear_27 (by decide) ?_
    obtain ⟨r1011, k1012, h⟩ := bd_some h
    refine x_Sv (rest := []) X hP hS (k_J7_fill_d0a16 l D cA ad z hj n t1008.2 0 k1012) 2 gX3_clear_J7_fill_d0a16 rfl rfl rfl (by decide +kernel) ⟨Nat.le_of_ble_eq_true rfl, Nat.le_of_ble_eq_true rfl⟩ rfl hl.1 rfl (Nat.le_of_ble_eq_true rfl) dX3_clear_28 ⟨Nat.zero_le _, Nat.zero_le _⟩ (fun H locs hP hS => ?_)
    subst hQQ
    exact x_rv X hr hlocks hP hS (Option.some.inj h) dX3_clear_31
def b_3_layOutByRank_14 (n : Nat) (a2 : Int32) (a3 : Int32) (t7 : Int32 × St) : Option ((Int32 × St) ⊕ (Int32 × St)) :=
  if (t7.2.1 1 5) ≤ t7.1 then
    some (.inr (t7.1, t7.2))
  else
    gd (inb t7.1 8) <| if (t7.2.1 (36 + t7.1.toNatClampNeg) 0) = a3 then
      (f_9_isThere n t7.2 t7.1 a2).bind fun r12 =>
      if r12.1 = 0 then
        nm (t7.1 + 1) fun v15 =>
        some (.inl (v15, r12.2))
      else
        (f_3_addGuest n r12.2 t7.1 a2).bind fun r16 =>
        nm (t7.1 + 1) fun v18 =>
        some (.inl (v18, r16))
    else
      nm (t7.1 + 1) fun v11 =>
      some (.inl (v11, t7.2))
def b_3_layOutByRank_6 (n : Nat) (a2 : Int32) (t4 : Int32 × St) : Option ((Int32 × St) ⊕ (Int32 × St)) :=
  if 4 ≤ t4.1 then
    some (.inr (t4.1, t4.2))
  else
    (lq (b_3_layOutByRank_14 n a2 t4.1) n (0, t4.2)).bind fun t1019 =>
    nm (t4.1 + 1) fun v1022 =>
    some (.inl (v1022, t1019.2))
def f_3_layOutByRank (n : Nat) (σ : St) (a2 : Int32) : Option (St) :=
  (f_3_clear n σ ).bind fun r1 =>
  (lq (b_3_layOutByRank_6 n a2) n (0, r1)).bind fun t2023 =>
  some t2023.2
abbrev rm_3_layOutByRank : Room := { frames := 4, cells := 0, slots := 0, locals := 105 }
set_option maxRecDepth 100000 in
set_option maxHeartbeats 4000000 in
theorem k_3_layOutByRank (l : Launch) (D : va_G) (cA : Nat → ClassId) (ad : Nat → Nat) (z : ZX) (hj : inj 120 ad) (n : Nat) (σ : St) (a2 : Int32)  {res : St} (h : f_3_layOutByRank n σ a2 = some res) : MXv l D dX 120 cA ad (EX ad z) yX3_layOutByRank wsX3_layOutByRank rm_3_layOutByRank [.ref (ad 11), .ref (ad 1), .int a2] σ res := by
  refine Met.ofW (cc := cX3_layOutByRank) (maxL := 5) (ret := none) (by decide) rfl ?_
  intro p e s m args below meth c s₁ B hml hv
  obtain ⟨hargs, hP, hK, hE⟩ := hv
  have hx := B.exec
  have hb := B.bytes
  have hr := B.returns
  have hts := atoms_spec (ws := wsX3_layOutByRank) B.pre
  have hown : s.vm.findClass RX3 = some m.cls := findClass_of_methodNamed B.named
  have hlocks := B.notSynchronized
  have X : Cx p s m args c cX3_layOutByRank 5 RX3 wsX3_layOutByRank D dX 120 cA ad (EX ad z) := ⟨hx, hb, hml, hown, hts, hK, hj, hE, EX_ok ad z⟩
  have hS : va_S (inA 120 ad) s.heap s.heap [] := va_S.rf
  have hl := lv_entry ([.ref (ad 11), .ref (ad 1), .int a2]) (n := 5) (Nat.le_of_ble_eq_true rfl)
  rw [show entryFrame m args 5 = entryFrame m ([.ref (ad 11), .ref (ad 1), .int a2] : List Value).toArray 5 by rw [hargs]]
  rw [lg_entry_eq]
  generalize (lg_sl ([.ref (ad 11), .ref (ad 1), .int a2]) ++ List.replicate (5 - (lg_sl ([.ref (ad 11), .ref (ad 1), .int a2])).length) Slot.unset).toArray = ls at hl ⊢
  have hl : lv_has ls 5 [(0, .ref (ad 11)), (1, .ref (ad 1)), (2, .int a2)] := hl
  obtain ⟨QQ, hQQ⟩ : ∃ Q, Q = MQ below (va_Qv (fun u => u = res) (fun u t => va_P D vwCl (ww dX 120 cA ad u) t.heap) (inA 120 ad)) args s 0 0 (inA 120 ad) := ⟨_, rfl⟩
  show W p l e (headSpec wsX3_layOutByRank rm_3_layOutByRank).room s m args below meth c s.heap [] 0 0 (MQ below (va_Qv (fun u => u = res) (fun u t => va_P D vwCl (ww dX 120 cA ad u) t.heap) (inA 120 ad)) args s 0 0 (inA 120 ad)) _
  rw [← hQQ]
  have in9 : ∀ w ∈ wsX90, w ∈ wsX3_layOutByRank := by decide +kernel
  have in4 : ∀ w ∈ wsX40, w ∈ wsX3_layOutByRank := by decide +kernel
  have lk30 : Cond.fieldLink RX3 30 "CureTown$Town" "guestCount" "I" ∈ wsX3_layOutByRank := by decide +kernel
  have lk36 : Cond.fieldLink RX3 36 "CureTown$Town" "guests" "[LCureTown$Guest;" ∈ wsX3_layOutByRank := by decide +kernel
  have lk40 : Cond.fieldLink RX3 40 "CureTown$Guest" "rank" "I" ∈ wsX3_layOutByRank := by decide +kernel
  unfold f_3_layOutByRank at h
  obtain ⟨H, hH⟩ : ∃ H, H = s.heap := ⟨_, rfl⟩
  obtain ⟨locs, hlc⟩ : ∃ q : List Loc, q = [] := ⟨_, rfl⟩
  have hP : va_P D vwCl (ww dX 120 cA ad σ) s.heap := hP
  have hS : va_S (inA 120 ad) s.heap s.heap [] := hS
  rw [← hlc] at hS ⊢
  rw [show W p l e (headSpec wsX3_layOutByRank rm_3_layOutByRank).room s m args below meth c s.heap locs 0 0 QQ = W p l e (headSpec wsX3_layOutByRank rm_3_layOutByRank).room s m args below meth c H locs 0 0 QQ by rw [hH]]
  have hS : va_S (inA 120 ad) s.heap H locs := by rw [hH]; exact hS
  have hP : va_P D vwCl (ww dX 120 cA ad σ) H := by rw [hH]; exact hP
  clear hH hlc
  refine lv_aload_n hx hb dX3_layOutByRank_0 rfl (lv_at hl 0 rfl) ?_
  obtain ⟨r1, k2, h⟩ := bd_some h
  refine x_Vv (rest := []) X hP hS (k_3_clear l D cA ad z hj n σ  k2) (by decide) (dX_11) rfl 0 gX3_layOutByRank_X3_clear rfl rfl rfl (by decide +kernel) ⟨Nat.le_of_ble_eq_true rfl, Nat.le_of_ble_eq_true rfl⟩ rfl hl.1 rfl (Nat.le_of_ble_eq_true rfl) dX3_layOutByRank_1 ⟨Nat.zero_le _, Nat.zero_le _⟩ (fun H locs hP hS => ?_)
  refine lv_iconst (v := 0) hx hb dX3_layOutByRank_4 (by decide) ?_
  refine lv_istore_n (lv' := [(3, .int 0), (0, .ref (ad 11)), (1, .ref (ad 1)), (2, .int a2)]) hx hb dX3_layOutByRank_5 rfl hl (by decide) rfl (fun ls hl => ?_)
  obtain ⟨t2023, o2025, h⟩ := bd_some h
  refine lq_rule (P := fun t4 : Int32 × St => ∀ (H : Heap) (locs : List Loc) (ls : Array Slot), va_P D vwCl (ww dX 120 cA ad t4.2) H → va_S (inA 120 ad) s.heap H locs → lv_has ls 5 [(0, .ref (ad 11)), (1, .ref (ad 1)), (2, .int a2), (3, .int t4.1)] → W p l e (headSpec wsX3_layOutByRank rm_3_layOutByRank).room s m args below meth c H locs 0 0 QQ (F0 m 6 ls [])) (X := fun t2023 : Int32 × St => ∀ (H : Heap) (locs : List Loc) (ls : Array Slot), va_P D vwCl (ww dX 120 cA ad t2023.2) H → va_S (inA 120 ad) s.heap H locs → lv_has ls 5 [(0, .ref (ad 11)), (1, .ref (ad 1)), (2, .int a2), (3, .int t2023.1)] → W p l e (headSpec wsX3_layOutByRank rm_3_layOutByRank).room s m args below meth c H locs 0 0 QQ (F0 m 67 ls [])) ?_ n _ _ o2025 ?_ H locs ls hP hS (lv_sub hl [1, 2, 3, 0] rfl)
  · clear h hP hS hl
    intro t4 rL3 h hCL3 hEL3 H locs ls hP hS hl
    unfold b_3_layOutByRank_6 at h
    refine lv_iload_n hx hb dX3_layOutByRank_6 rfl (lv_at hl 3 rfl) ?_
    refine lv_iconst (v := 4) hx hb dX3_layOutByRank_7 (by decide) ?_
    refine lv_icmp_ge (tgt := 67) hx hb dX3_layOutByRank_8 (by decide) (fun c5 => ?_) (fun c5 => ?_)
    · have h := it_t c5 h
      exact hEL3 _ (Option.some.inj h).symm H locs ls hP hS (lv_sub hl [0, 1, 2, 3] rfl)
    · have h := it_f c5 h
      refine lv_iconst (v := 0) hx hb dX3_layOutByRank_11 (by decide) ?_
      refine lv_istore (lv' := [(4, .int 0), (0, .ref (ad 11)), (1, .ref (ad 1)), (2, .int a2), (3, .int t4.1)]) hx hb dX3_layOutByRank_12 hl (by decide) rfl (fun ls hl => ?_)
      obtain ⟨t1019, o1021, h⟩ := bd_some h
      refine lq_rule (P := fun t7 : Int32 × St => ∀ (H : Heap) (locs : List Loc) (ls : Array Slot), va_P D vwCl (ww dX 120 cA ad t7.2) H → va_S (inA 120 ad) s.heap H locs → lv_has ls 5 [(0, .ref (ad 11)), (1, .ref (ad 1)), (2, .int a2), (3, .int t4.1), (4, .int t7.1)] → W p l e (headSpec wsX3_layOutByRank rm_3_layOutByRank).room s m args below meth c H locs 0 0 QQ (F0 m 14 ls [])) (X := fun t1019 : Int32 × St => ∀ (H : Heap) (locs : List Loc) (ls : Array Slot), va_P D vwCl (ww dX 120 cA ad t1019.2) H → va_S (inA 120 ad) s.heap H locs → lv_has ls 5 [(0, .ref (ad 11)), (1, .ref (ad 1)), (2, .int a2), (3, .int t4.1), (4, .int t1019.1)] → W p l e (headSpec wsX3_layOutByRank rm_3_layOutByRank).room s m args below meth c H locs 0 0 QQ (F0 m 61 ls [])) ?_ n _ _ o1021 ?_ H locs ls hP hS (lv_sub hl [1, 2, 3, 4, 0] rfl)
      · clear h hP hS hl
        intro t7 rL6 h hCL6 hEL6 H locs ls hP hS hl
        unfold b_3_layOutByRank_14 at h
        refine lv_iload hx hb dX3_layOutByRank_14 (lv_at hl 4 rfl) ?_
        refine lv_aload_n hx hb dX3_layOutByRank_16 rfl (lv_at hl 1 rfl) ?_
        refine x_gi X hP (j := 5) (by decide) (dX_1) rfl rfl (by decide) in9 lk30 dX3_layOutByRank_17 ?_
        refine lv_icmp_ge (tgt := 61) hx hb dX3_layOutByRank_20 (by decide) (fun c8 => ?_) (fun c8 => ?_)
        · have h := it_t c8 h
          exact hEL6 _ (Option.some.inj h).symm H locs ls hP hS (lv_sub hl [0, 1, 2, 3, 4] rfl)
        · have h := it_f c8 h
          refine lv_aload_n hx hb dX3_layOutByRank_23 rfl (lv_at hl 1 rfl) ?_
          refine x_gr X hP (j := 2) (by decide) (dX_1) rfl rfl (by decide) in9 lk36 dX3_layOutByRank_24 ?_
          refine lv_iload hx hb dX3_layOutByRank_27 (lv_at hl 4 rfl) ?_
          obtain ⟨g9, h⟩ := gd_some h
          refine x_ar X hP (by decide) (dX_4) g9 dX3_layOutByRank_29 ?_
          refine x_gi X hP (j := 0) (fam_lt (inb_lt g9) (by decide)) (dX_36 (inb_lt g9)) rfl rfl (by decide) in4 lk40 dX3_layOutByRank_30 ?_
          refine lv_iload_n hx hb dX3_layOutByRank_33 rfl (lv_at hl 3 rfl) ?_
          refine lv_icmp_ne (tgt := 55) hx hb dX3_layOutByRank_34 (by decide) (fun c10 => ?_) (fun c10 => ?_)
          · have h := it_f c10 h
            obtain ⟨v11, ev11⟩ : ∃ y : Int32, y = t7.1 + 1 := ⟨_, rfl⟩
            have h := nm_some ev11 h
            refine lv_iinc (v := v11) (lv' := [(4, .int v11), (0, .ref (ad 11)), (1, .ref (ad 1)), (2, .int a2), (3, .int t4.1)]) hx hb dX3_layOutByRank_55 hl (k := 4) rfl (by rw [ev11]; rfl) (by decide) rfl (fun ls hl => ?_)
            refine lv_goto (tgt := 14) hx hb dX3_layOutByRank_58 (by decide) ?_
            exact hCL6 _ (Option.some.inj h).symm H locs ls hP hS (lv_sub hl [1, 2, 3, 4, 0] rfl)
          · have h := it_t c10 h
            refine lv_aload_n hx hb dX3_layOutByRank_37 rfl (lv_at hl 1 rfl) ?_
            refine lv_iload hx hb dX3_layOutByRank_38 (lv_at hl 4 rfl) ?_
            refine lv_iload_n hx hb dX3_layOutByRank_40 rfl (lv_at hl 2 rfl) ?_
            obtain ⟨r12, k13, h⟩ := bd_some h
            refine x_Vi (rest := []) X hP hS (k_9_isThere l D cA ad z hj n t7.2 t7.1 a2 k13) (by decide) (dX_1) rfl 2 gX3_layOutByRank_X9_isThere rfl rfl rfl (by decide +kernel) ⟨Nat.le_of_ble_eq_true rfl, Nat.le_of_ble_eq_true rfl⟩ rfl hl.1 rfl (Nat.le_of_ble_eq_true rfl) dX3_layOutByRank_41 ⟨Nat.zero_le _, Nat.zero_le _⟩ (fun H locs hP hS => ?_)
            refine lv_if_eq (tgt := 55) hx hb dX3_layOutByRank_44 (by decide) (fun c14 => ?_) (fun c14 => ?_)
            · have h := it_t c14 h
              obtain ⟨v15, ev15⟩ : ∃ y : Int32, y = t7.1 + 1 := ⟨_, rfl⟩
              have h := nm_some ev15 h
              refine lv_iinc (v := v15) (lv' := [(4, .int v15), (0, .ref (ad 11)), (1, .ref (ad 1)), (2, .int a2), (3, .int t4.1)]) hx hb dX3_layOutByRank_55 hl (k := 4) rfl (by rw [ev15]; rfl) (by decide) rfl (fun ls hl => ?_)
              refine lv_goto (tgt := 14) hx hb dX3_layOutByRank_58 (by decide) ?_
              exact hCL6 _ (Option.some.inj h).symm H locs ls hP hS (lv_sub hl [1, 2, 3, 4, 0] rfl)
            · have h := it_f c14 h
              refine lv_aload_n hx hb dX3_layOutByRank_47 rfl (lv_at hl 0 rfl) ?_
              refine lv_aload_n hx hb dX3_layOutByRank_48 rfl (lv_at hl 1 rfl) ?_
              refine lv_iload hx hb dX3_layOutByRank_49 (lv_at hl 4 rfl) ?_
              refine lv_iload_n hx hb dX3_layOutByRank_51 rfl (lv_at hl 2 rfl) ?_
              obtain ⟨r16, k17, h⟩ := bd_some h
              refine x_Vv (rest := []) X hP hS (k_3_addGuest l D cA ad z hj n r12.2 t7.1 a2 k17) (by decide) (dX_11) rfl 3 gX3_layOutByRank_X3_addGuest rfl rfl rfl (by decide +kernel) ⟨Nat.le_of_ble_eq_true rfl, Nat.le_of_ble_eq_true rfl⟩ rfl hl.1 rfl (Nat.le_of_ble_eq_true rfl) dX3_layOutByRank_52 ⟨Nat.zero_le _, Nat.zero_le _⟩ (fun H locs hP hS => ?_)
              obtain ⟨v18, ev18⟩ : ∃ y : Int32, y = t7.1 + 1 := ⟨_, rfl⟩
              have h := nm_some ev18 h
              refine lv_iinc (v := v18) (lv' := [(4, .int v18), (0, .ref (ad 11)), (1, .ref (ad 1)), (2, .int a2), (3, .int t4.1)]) hx hb dX3_layOutByRank_55 hl (k := 4) rfl (by rw [ev18]; rfl) (by decide) rfl (fun ls hl => ?_)
              refine lv_goto (tgt := 14) hx hb dX3_layOutByRank_58 (by decide) ?_
              exact hCL6 _ (Option.some.inj h).symm H locs ls hP hS (lv_sub hl [1, 2, 3, 4, 0] rfl)
      · intro H locs ls hP hS hl
        obtain ⟨v1022, ev1022⟩ : ∃ y : Int32, y = t4.1 + 1 := ⟨_, rfl⟩
        have h := nm_some ev1022 h
        refine lv_iinc (v := v1022) (lv' := [(3, .int v1022), (0, .ref (ad 11)), (1, .ref (ad 1)), (2, .int a2), (4, .int t1019.1)]) hx hb dX3_layOutByRank_61 hl (k := 3) rfl (by rw [ev1022]; rfl) (by decide) rfl (fun ls hl => ?_)
        refine lv_goto (tgt := 6) hx hb dX3_layOutByRank_64 (by decide) ?_
        exact hCL3 _ (Option.some.inj h).symm H locs ls hP hS (lv_sub hl [1, 2, 3, 0] rfl)
  · intro H locs ls hP hS hl
    subst hQQ
    exact x_rv X hr hlocks hP hS (Option.some.inj h) dX3_layOutByRank_67
def f_1_isHopeless (n : Nat) (σ : St)  : Option (Int32 × St) :=
  if (σ.1 15 9) < (σ.1 15 7) then
    some (1, σ)
  else
    if (σ.1 15 9) = (σ.1 15 7) then
      if (σ.1 15 10) < (σ.1 15 8) then
        some (0, σ)
      else
        some (1, σ)
    else
      some (0, σ)
abbrev rm_1_isHopeless : Room := { frames := 0, cells := 0, slots := 0, locals := 0 }
set_option maxRecDepth 100000 in
set_option maxHeartbeats 4000000 in
theorem k_1_isHopeless (l : Launch) (D : va_G) (cA : Nat → ClassId) (ad : Nat → Nat) (z : ZX) (hj : inj 120 ad) (n : Nat) (σ : St)   {res : Int32 × St} (h : f_1_isHopeless n σ  = some res) : MXi l D dX 120 cA ad (EX ad z) yX1_isHopeless wsX1_isHopeless rm_1_isHopeless [.ref (ad 15)] σ res := by
  refine Met.ofW (cc := cX1_isHopeless) (maxL := 1) (ret := (some .boolean)) (by decide) rfl ?_
  intro p e s m args below meth c s₁ B hml hv
  obtain ⟨hargs, hP, hK, hE⟩ := hv
  have hx := B.exec
  have hb := B.bytes
  have hr := B.returns
  have hts := atoms_spec (ws := wsX1_isHopeless) B.pre
  have hown : s.vm.findClass RX1 = some m.cls := findClass_of_methodNamed B.named
  have hlocks := B.notSynchronized
  have X : Cx p s m args c cX1_isHopeless 1 RX1 wsX1_isHopeless D dX 120 cA ad (EX ad z) := ⟨hx, hb, hml, hown, hts, hK, hj, hE, EX_ok ad z⟩
  have hS : va_S (inA 120 ad) s.heap s.heap [] := va_S.rf
  have hl := lv_entry ([.ref (ad 15)]) (n := 1) (Nat.le_of_ble_eq_true rfl)
  rw [show entryFrame m args 1 = entryFrame m ([.ref (ad 15)] : List Value).toArray 1 by rw [hargs]]
  rw [lg_entry_eq]
  generalize (lg_sl ([.ref (ad 15)]) ++ List.replicate (1 - (lg_sl ([.ref (ad 15)])).length) Slot.unset).toArray = ls at hl ⊢
  have hl : lv_has ls 1 [(0, .ref (ad 15))] := hl
  obtain ⟨QQ, hQQ⟩ : ∃ Q, Q = MQ below (va_Qi (fun r u => r = res.1 ∧ u = res.2) (fun u t => va_P D vwCl (ww dX 120 cA ad u) t.heap) (inA 120 ad)) args s 0 0 (inA 120 ad) := ⟨_, rfl⟩
  show W p l e (headSpec wsX1_isHopeless rm_1_isHopeless).room s m args below meth c s.heap [] 0 0 (MQ below (va_Qi (fun r u => r = res.1 ∧ u = res.2) (fun u t => va_P D vwCl (ww dX 120 cA ad u) t.heap) (inA 120 ad)) args s 0 0 (inA 120 ad)) _
  rw [← hQQ]
  have in1 : ∀ w ∈ wsX10, w ∈ wsX1_isHopeless := by decide +kernel
  have lk41 : Cond.fieldLink RX1 41 "CureTown$BestSearch" "hopedDone" "I" ∈ wsX1_isHopeless := by decide +kernel
  have lk35 : Cond.fieldLink RX1 35 "CureTown$BestSearch" "bestDone" "I" ∈ wsX1_isHopeless := by decide +kernel
  have lk44 : Cond.fieldLink RX1 44 "CureTown$BestSearch" "hopedOver" "I" ∈ wsX1_isHopeless := by decide +kernel
  have lk38 : Cond.fieldLink RX1 38 "CureTown$BestSearch" "bestOver" "I" ∈ wsX1_isHopeless := by decide +kernel
  unfold f_1_isHopeless at h
  obtain ⟨H, hH⟩ : ∃ H, H = s.heap := ⟨_, rfl⟩
  obtain ⟨locs, hlc⟩ : ∃ q : List Loc, q = [] := ⟨_, rfl⟩
  have hP : va_P D vwCl (ww dX 120 cA ad σ) s.heap := hP
  have hS : va_S (inA 120 ad) s.heap s.heap [] := hS
  rw [← hlc] at hS ⊢
  rw [show W p l e (headSpec wsX1_isHopeless rm_1_isHopeless).room s m args below meth c s.heap locs 0 0 QQ = W p l e (headSpec wsX1_isHopeless rm_1_isHopeless).room s m args below meth c H locs 0 0 QQ by rw [hH]]
  have hS : va_S (inA 120 ad) s.heap H locs := by rw [hH]; exact hS
  have hP : va_P D vwCl (ww dX 120 cA ad σ) H := by rw [hH]; exact hP
  clear hH hlc
  refine lv_aload_n hx hb dX1_isHopeless_0 rfl (lv_at hl 0 rfl) ?_
  refine x_gi X hP (j := 9) (by decide) (dX_15) rfl rfl (by decide) in1 lk41 dX1_isHopeless_1 ?_
  refine lv_aload_n hx hb dX1_isHopeless_4 rfl (lv_at hl 0 rfl) ?_
  refine x_gi X hP (j := 7) (by decide) (dX_15) rfl rfl (by decide) in1 lk35 dX1_isHopeless_5 ?_
  refine lv_icmp_lt (tgt := 33) hx hb dX1_isHopeless_8 (by decide) (fun c1 => ?_) (fun c1 => ?_)
  · have h := it_t c1 h
    refine lv_iconst (v := 1) hx hb dX1_isHopeless_33 (by decide) ?_
    refine lv_goto (tgt := 38) hx hb dX1_isHopeless_34 (by decide) ?_
    subst hQQ
    exact x_rz X hr hlocks hP hS (by decide +kernel) (Option.some.inj h) dX1_isHopeless_38
  · have h := it_f c1 h
    refine lv_aload_n hx hb dX1_isHopeless_11 rfl (lv_at hl 0 rfl) ?_
    refine x_gi X hP (j := 9) (by decide) (dX_15) rfl rfl (by decide) in1 lk41 dX1_isHopeless_12 ?_
    refine lv_aload_n hx hb dX1_isHopeless_15 rfl (lv_at hl 0 rfl) ?_
    refine x_gi X hP (j := 7) (by decide) (dX_15) rfl rfl (by decide) in1 lk35 dX1_isHopeless_16 ?_
    refine lv_icmp_ne (tgt := 37) hx hb dX1_isHopeless_19 (by decide) (fun c2 => ?_) (fun c2 => ?_)
    · have h := it_f c2 h
      refine lv_iconst (v := 0) hx hb dX1_isHopeless_37 (by decide) ?_
      subst hQQ
      exact x_rz X hr hlocks hP hS (by decide +kernel) (Option.some.inj h) dX1_isHopeless_38
    · have h := it_t c2 h
      refine lv_aload_n hx hb dX1_isHopeless_22 rfl (lv_at hl 0 rfl) ?_
      refine x_gi X hP (j := 10) (by decide) (dX_15) rfl rfl (by decide) in1 lk44 dX1_isHopeless_23 ?_
      refine lv_aload_n hx hb dX1_isHopeless_26 rfl (lv_at hl 0 rfl) ?_
      refine x_gi X hP (j := 8) (by decide) (dX_15) rfl rfl (by decide) in1 lk38 dX1_isHopeless_27 ?_
      refine lv_icmp_lt (tgt := 37) hx hb dX1_isHopeless_30 (by decide) (fun c3 => ?_) (fun c3 => ?_)
      · have h := it_t c3 h
        refine lv_iconst (v := 0) hx hb dX1_isHopeless_37 (by decide) ?_
        subst hQQ
        exact x_rz X hr hlocks hP hS (by decide +kernel) (Option.some.inj h) dX1_isHopeless_38
      · have h := it_f c3 h
        refine lv_iconst (v := 1) hx hb dX1_isHopeless_33 (by decide) ?_
        refine lv_goto (tgt := 38) hx hb dX1_isHopeless_34 (by decide) ?_
        subst hQQ
        exact x_rz X hr hlocks hP hS (by decide +kernel) (Option.some.inj h) dX1_isHopeless_38
def f_1_place (n : Nat) (σ : St) (a2 : Int32) (a3 : Int32) : Option (St) :=
  gd (inb a2 6) <| gd (inb (σ.1 16 a2.toNatClampNeg) 8) <| nm (si σ 19 (a2.toNatClampNeg) 1) fun σ3 =>
  gd (inb a3 6) <| nm (si σ3 20 (a3.toNatClampNeg) (σ3.1 16 a2.toNatClampNeg)) fun σ5 =>
  nm ((σ5.1 (76 + (σ.1 16 a2.toNatClampNeg).toNatClampNeg) 2) - (σ5.1 17 a2.toNatClampNeg)) fun v6 =>
  nm ((σ5.1 15 9) + v6) fun v7 =>
  nm (si σ5 15 9 v7) fun σ8 =>
  nm ((σ8.1 (76 + (σ.1 16 a2.toNatClampNeg).toNatClampNeg) 3) - (σ8.1 18 a2.toNatClampNeg)) fun v9 =>
  nm ((σ8.1 15 10) + v9) fun v10 =>
  nm (si σ8 15 10 v10) fun σ11 =>
  some σ11
abbrev rm_1_place : Room := { frames := 0, cells := 0, slots := 0, locals := 0 }
set_option maxRecDepth 100000 in
set_option maxHeartbeats 4000000 in
theorem k_1_place (l : Launch) (D : va_G) (cA : Nat → ClassId) (ad : Nat → Nat) (z : ZX) (hj : inj 120 ad) (n : Nat) (σ : St) (a2 : Int32) (a3 : Int32)  {res : St} (h : f_1_place n σ a2 a3 = some res) : MXv l D dX 120 cA ad (EX ad z) yX1_place wsX1_place rm_1_place [.ref (ad 15), .ref (ad 11), .int a2, .int a3] σ res := by
  refine Met.ofW (cc := cX1_place) (maxL := 5) (ret := none) (by decide) rfl ?_
  intro p e s m args below meth c s₁ B hml hv
  obtain ⟨hargs, hP, hK, hE⟩ := hv
  have hx := B.exec
  have hb := B.bytes
  have hr := B.returns
  have hts := atoms_spec (ws := wsX1_place) B.pre
  have hown : s.vm.findClass RX1 = some m.cls := findClass_of_methodNamed B.named
  have hlocks := B.notSynchronized
  have X : Cx p s m args c cX1_place 5 RX1 wsX1_place D dX 120 cA ad (EX ad z) := ⟨hx, hb, hml, hown, hts, hK, hj, hE, EX_ok ad z⟩
  have hS : va_S (inA 120 ad) s.heap s.heap [] := va_S.rf
  have hl := lv_entry ([.ref (ad 15), .ref (ad 11), .int a2, .int a3]) (n := 5) (Nat.le_of_ble_eq_true rfl)
  rw [show entryFrame m args 5 = entryFrame m ([.ref (ad 15), .ref (ad 11), .int a2, .int a3] : List Value).toArray 5 by rw [hargs]]
  rw [lg_entry_eq]
  generalize (lg_sl ([.ref (ad 15), .ref (ad 11), .int a2, .int a3]) ++ List.replicate (5 - (lg_sl ([.ref (ad 15), .ref (ad 11), .int a2, .int a3])).length) Slot.unset).toArray = ls at hl ⊢
  have hl : lv_has ls 5 [(0, .ref (ad 15)), (1, .ref (ad 11)), (2, .int a2), (3, .int a3)] := hl
  obtain ⟨QQ, hQQ⟩ : ∃ Q, Q = MQ below (va_Qv (fun u => u = res) (fun u t => va_P D vwCl (ww dX 120 cA ad u) t.heap) (inA 120 ad)) args s 0 0 (inA 120 ad) := ⟨_, rfl⟩
  show W p l e (headSpec wsX1_place rm_1_place).room s m args below meth c s.heap [] 0 0 (MQ below (va_Qv (fun u => u = res) (fun u t => va_P D vwCl (ww dX 120 cA ad u) t.heap) (inA 120 ad)) args s 0 0 (inA 120 ad)) _
  rw [← hQQ]
  have in3 : ∀ w ∈ wsX30, w ∈ wsX1_place := by decide +kernel
  have in1 : ∀ w ∈ wsX10, w ∈ wsX1_place := by decide +kernel
  have in5 : ∀ w ∈ wsX50, w ∈ wsX1_place := by decide +kernel
  have lk73 : Cond.fieldLink RX1 73 "CureTown$DayPlan" "rows" "[LCureTown$GuestDay;" ∈ wsX1_place := by decide +kernel
  have lk9 : Cond.fieldLink RX1 9 "CureTown$BestSearch" "guests" "[I" ∈ wsX1_place := by decide +kernel
  have lk21 : Cond.fieldLink RX1 21 "CureTown$BestSearch" "isPlaced" "[Z" ∈ wsX1_place := by decide +kernel
  have lk25 : Cond.fieldLink RX1 25 "CureTown$BestSearch" "order" "[I" ∈ wsX1_place := by decide +kernel
  have lk41 : Cond.fieldLink RX1 41 "CureTown$BestSearch" "hopedDone" "I" ∈ wsX1_place := by decide +kernel
  have lk77 : Cond.fieldLink RX1 77 "CureTown$GuestDay" "done" "I" ∈ wsX1_place := by decide +kernel
  have lk15 : Cond.fieldLink RX1 15 "CureTown$BestSearch" "doneAlone" "[I" ∈ wsX1_place := by decide +kernel
  have lk44 : Cond.fieldLink RX1 44 "CureTown$BestSearch" "hopedOver" "I" ∈ wsX1_place := by decide +kernel
  have lk82 : Cond.fieldLink RX1 82 "CureTown$GuestDay" "over" "I" ∈ wsX1_place := by decide +kernel
  have lk18 : Cond.fieldLink RX1 18 "CureTown$BestSearch" "overAlone" "[I" ∈ wsX1_place := by decide +kernel
  unfold f_1_place at h
  obtain ⟨H, hH⟩ : ∃ H, H = s.heap := ⟨_, rfl⟩
  obtain ⟨locs, hlc⟩ : ∃ q : List Loc, q = [] := ⟨_, rfl⟩
  have hP : va_P D vwCl (ww dX 120 cA ad σ) s.heap := hP
  have hS : va_S (inA 120 ad) s.heap s.heap [] := hS
  rw [← hlc] at hS ⊢
  rw [show W p l e (headSpec wsX1_place rm_1_place).room s m args below meth c s.heap locs 0 0 QQ = W p l e (headSpec wsX1_place rm_1_place).room s m args below meth c H locs 0 0 QQ by rw [hH]]
  have hS : va_S (inA 120 ad) s.heap H locs := by rw [hH]; exact hS
  have hP : va_P D vwCl (ww dX 120 cA ad σ) H := by rw [hH]; exact hP
  clear hH hlc
  refine lv_aload_n hx hb dX1_place_0 rfl (lv_at hl 1 rfl) ?_
  refine x_gr X hP (j := 0) (by decide) (dX_11) rfl rfl (by decide) in3 lk73 dX1_place_1 ?_
  refine lv_aload_n hx hb dX1_place_4 rfl (lv_at hl 0 rfl) ?_
  refine x_gr X hP (j := 0) (by decide) (dX_15) rfl rfl (by decide) in1 lk9 dX1_place_5 ?_
  refine lv_iload_n hx hb dX1_place_8 rfl (lv_at hl 2 rfl) ?_
  obtain ⟨g1, h⟩ := gd_some h
  refine x_ai X hP (by decide) (dX_16) g1 dX1_place_9 ?_
  obtain ⟨g2, h⟩ := gd_some h
  refine x_ar X hP (by decide) (dX_12) g2 dX1_place_10 ?_
  refine lv_astore (lv' := [(4, .ref (ad (76 + (σ.1 16 a2.toNatClampNeg).toNatClampNeg))), (0, .ref (ad 15)), (1, .ref (ad 11)), (2, .int a2), (3, .int a3)]) hx hb dX1_place_11 hl (by decide) rfl (fun ls hl => ?_)
  refine lv_aload_n hx hb dX1_place_13 rfl (lv_at hl 1 rfl) ?_
  refine x_gr X hP (j := 3) (by decide) (dX_15) rfl rfl (by decide) in1 lk21 dX1_place_14 ?_
  refine lv_iload_n hx hb dX1_place_17 rfl (lv_at hl 3 rfl) ?_
  refine lv_iconst (v := 1) hx hb dX1_place_18 (by decide) ?_
  refine x_sz X hP hS (by decide) (dX_19) g1 (by decide +kernel) dX1_place_19 (fun σ3 eσ3 H locs hP hS => ?_)
  have h := nm_some eσ3 h
  refine lv_aload_n hx hb dX1_place_20 rfl (lv_at hl 1 rfl) ?_
  refine x_gr X hP (j := 4) (by decide) (dX_15) rfl rfl (by decide) in1 lk25 dX1_place_21 ?_
  refine lv_iload_n hx hb dX1_place_24 rfl (lv_at hl 4 rfl) ?_
  refine lv_aload_n hx hb dX1_place_25 rfl (lv_at hl 1 rfl) ?_
  refine x_gr X hP (j := 0) (by decide) (dX_15) rfl rfl (by decide) in1 lk9 dX1_place_26 ?_
  refine lv_iload_n hx hb dX1_place_29 rfl (lv_at hl 3 rfl) ?_
  refine x_ai X hP (by decide) (dX_16) g1 dX1_place_30 ?_
  obtain ⟨g4, h⟩ := gd_some h
  refine x_si X hP hS (by decide) (dX_20) g4 dX1_place_31 (fun σ5 eσ5 H locs hP hS => ?_)
  have h := nm_some eσ5 h
  refine lv_aload_n hx hb dX1_place_32 rfl (lv_at hl 1 rfl) ?_
  refine lv_dup hx hb dX1_place_33 rfl ?_
  refine x_gi X hP (j := 9) (by decide) (dX_15) rfl rfl (by decide) in1 lk41 dX1_place_34 ?_
  refine lv_aload hx hb dX1_place_37 (lv_at hl 0 rfl) ?_
  refine x_gi X hP (j := 2) (fam_lt (inb_lt g2) (by decide)) (dX_76 (inb_lt g2)) rfl rfl (by decide) in5 lk77 dX1_place_39 ?_
  refine lv_aload_n hx hb dX1_place_42 rfl (lv_at hl 1 rfl) ?_
  refine x_gr X hP (j := 1) (by decide) (dX_15) rfl rfl (by decide) in1 lk15 dX1_place_43 ?_
  refine lv_iload_n hx hb dX1_place_46 rfl (lv_at hl 3 rfl) ?_
  refine x_ai X hP (by decide) (dX_17) g1 dX1_place_47 ?_
  refine lv_isub hx hb dX1_place_48 ?_
  refine lv_topi (fun v6 ev6 => ?_)
  have h := nm_some ev6 h
  refine lv_iadd hx hb dX1_place_49 ?_
  refine lv_topi (fun v7 ev7 => ?_)
  have h := nm_some ev7 h
  refine x_pi X hP hS (j := 9) (by decide) (dX_15) rfl rfl (by decide) in1 tyX1_ok nmX1 lk41 rfl rfl rfl rfl dX1_place_50 (fun σ8 eσ8 H locs hP hS => ?_)
  have h := nm_some eσ8 h
  refine lv_aload_n hx hb dX1_place_53 rfl (lv_at hl 1 rfl) ?_
  refine lv_dup hx hb dX1_place_54 rfl ?_
  refine x_gi X hP (j := 10) (by decide) (dX_15) rfl rfl (by decide) in1 lk44 dX1_place_55 ?_
  refine lv_aload hx hb dX1_place_58 (lv_at hl 0 rfl) ?_
  refine x_gi X hP (j := 3) (fam_lt (inb_lt g2) (by decide)) (dX_76 (inb_lt g2)) rfl rfl (by decide) in5 lk82 dX1_place_60 ?_
  refine lv_aload_n hx hb dX1_place_63 rfl (lv_at hl 1 rfl) ?_
  refine x_gr X hP (j := 2) (by decide) (dX_15) rfl rfl (by decide) in1 lk18 dX1_place_64 ?_
  refine lv_iload_n hx hb dX1_place_67 rfl (lv_at hl 3 rfl) ?_
  refine x_ai X hP (by decide) (dX_18) g1 dX1_place_68 ?_
  refine lv_isub hx hb dX1_place_69 ?_
  refine lv_topi (fun v9 ev9 => ?_)
  have h := nm_some ev9 h
  refine lv_iadd hx hb dX1_place_70 ?_
  refine lv_topi (fun v10 ev10 => ?_)
  have h := nm_some ev10 h
  refine x_pi X hP hS (j := 10) (by decide) (dX_15) rfl rfl (by decide) in1 tyX1_ok nmX1 lk44 rfl rfl rfl rfl dX1_place_71 (fun σ11 eσ11 H locs hP hS => ?_)
  have h := nm_some eσ11 h
  subst hQQ
  exact x_rv X hr hlocks hP hS (Option.some.inj h) dX1_place_74
def f_1_unplace (n : Nat) (σ : St) (a2 : Int32) : Option (St) :=
  gd (inb a2 6) <| gd (inb (σ.1 16 a2.toNatClampNeg) 8) <| nm (si σ 19 (a2.toNatClampNeg) 0) fun σ3 =>
  nm ((σ3.1 (76 + (σ.1 16 a2.toNatClampNeg).toNatClampNeg) 2) - (σ3.1 17 a2.toNatClampNeg)) fun v4 =>
  nm ((σ3.1 15 9) - v4) fun v5 =>
  nm (si σ3 15 9 v5) fun σ6 =>
  nm ((σ6.1 (76 + (σ.1 16 a2.toNatClampNeg).toNatClampNeg) 3) - (σ6.1 18 a2.toNatClampNeg)) fun v7 =>
  nm ((σ6.1 15 10) - v7) fun v8 =>
  nm (si σ6 15 10 v8) fun σ9 =>
  some σ9
abbrev rm_1_unplace : Room := { frames := 0, cells := 0, slots := 0, locals := 0 }
set_option maxRecDepth 100000 in
set_option maxHeartbeats 4000000 in
theorem k_1_unplace (l : Launch) (D : va_G) (cA : Nat → ClassId) (ad : Nat → Nat) (z : ZX) (hj : inj 120 ad) (n : Nat) (σ : St) (a2 : Int32)  {res : St} (h : f_1_unplace n σ a2 = some res) : MXv l D dX 120 cA ad (EX ad z) yX1_unplace wsX1_unplace rm_1_unplace [.ref (ad 15), .ref (ad 11), .int a2] σ res := by
  refine Met.ofW (cc := cX1_unplace) (maxL := 4) (ret := none) (by decide) rfl ?_
  intro p e s m args below meth c s₁ B hml hv
  obtain ⟨hargs, hP, hK, hE⟩ := hv
  have hx := B.exec
  have hb := B.bytes
  have hr := B.returns
  have hts := atoms_spec (ws := wsX1_unplace) B.pre
  have hown : s.vm.findClass RX1 = some m.cls := findClass_of_methodNamed B.named
  have hlocks := B.notSynchronized
  have X : Cx p s m args c cX1_unplace 4 RX1 wsX1_unplace D dX 120 cA ad (EX ad z) := ⟨hx, hb, hml, hown, hts, hK, hj, hE, EX_ok ad z⟩
  have hS : va_S (inA 120 ad) s.heap s.heap [] := va_S.rf
  have hl := lv_entry ([.ref (ad 15), .ref (ad 11), .int a2]) (n := 4) (Nat.le_of_ble_eq_true rfl)
  rw [show entryFrame m args 4 = entryFrame m ([.ref (ad 15), .ref (ad 11), .int a2] : List Value).toArray 4 by rw [hargs]]
  rw [lg_entry_eq]
  generalize (lg_sl ([.ref (ad 15), .ref (ad 11), .int a2]) ++ List.replicate (4 - (lg_sl ([.ref (ad 15), .ref (ad 11), .int a2])).length) Slot.unset).toArray = ls at hl ⊢
  have hl : lv_has ls 4 [(0, .ref (ad 15)), (1, .ref (ad 11)), (2, .int a2)] := hl
  obtain ⟨QQ, hQQ⟩ : ∃ Q, Q = MQ below (va_Qv (fun u => u = res) (fun u t => va_P D vwCl (ww dX 120 cA ad u) t.heap) (inA 120 ad)) args s 0 0 (inA 120 ad) := ⟨_, rfl⟩
  show W p l e (headSpec wsX1_unplace rm_1_unplace).room s m args below meth c s.heap [] 0 0 (MQ below (va_Qv (fun u => u = res) (fun u t => va_P D vwCl (ww dX 120 cA ad u) t.heap) (inA 120 ad)) args s 0 0 (inA 120 ad)) _
  rw [← hQQ]
  have in3 : ∀ w ∈ wsX30, w ∈ wsX1_unplace := by decide +kernel
  have in1 : ∀ w ∈ wsX10, w ∈ wsX1_unplace := by decide +kernel
  have in5 : ∀ w ∈ wsX50, w ∈ wsX1_unplace := by decide +kernel
  have lk73 : Cond.fieldLink RX1 73 "CureTown$DayPlan" "rows" "[LCureTown$GuestDay;" ∈ wsX1_unplace := by decide +kernel
  have lk9 : Cond.fieldLink RX1 9 "CureTown$BestSearch" "guests" "[I" ∈ wsX1_unplace := by decide +kernel
  have lk21 : Cond.fieldLink RX1 21 "CureTown$BestSearch" "isPlaced" "[Z" ∈ wsX1_unplace := by decide +kernel
  have lk41 : Cond.fieldLink RX1 41 "CureTown$BestSearch" "hopedDone" "I" ∈ wsX1_unplace := by decide +kernel
  have lk77 : Cond.fieldLink RX1 77 "CureTown$GuestDay" "done" "I" ∈ wsX1_unplace := by decide +kernel
  have lk15 : Cond.fieldLink RX1 15 "CureTown$BestSearch" "doneAlone" "[I" ∈ wsX1_unplace := by decide +kernel
  have lk44 : Cond.fieldLink RX1 44 "CureTown$BestSearch" "hopedOver" "I" ∈ wsX1_unplace := by decide +kernel
  have lk82 : Cond.fieldLink RX1 82 "CureTown$GuestDay" "over" "I" ∈ wsX1_unplace := by decide +kernel
  have lk18 : Cond.fieldLink RX1 18 "CureTown$BestSearch" "overAlone" "[I" ∈ wsX1_unplace := by decide +kernel
  unfold f_1_unplace at h
  obtain ⟨H, hH⟩ : ∃ H, H = s.heap := ⟨_, rfl⟩
  obtain ⟨locs, hlc⟩ : ∃ q : List Loc, q = [] := ⟨_, rfl⟩
  have hP : va_P D vwCl (ww dX 120 cA ad σ) s.heap := hP
  have hS : va_S (inA 120 ad) s.heap s.heap [] := hS
  rw [← hlc] at hS ⊢
  rw [show W p l e (headSpec wsX1_unplace rm_1_unplace).room s m args below meth c s.heap locs 0 0 QQ = W p l e (headSpec wsX1_unplace rm_1_unplace).room s m args below meth c H locs 0 0 QQ by rw [hH]]
  have hS : va_S (inA 120 ad) s.heap H locs := by rw [hH]; exact hS
  have hP : va_P D vwCl (ww dX 120 cA ad σ) H := by rw [hH]; exact hP
  clear hH hlc
  refine lv_aload_n hx hb dX1_unplace_0 rfl (lv_at hl 1 rfl) ?_
  refine x_gr X hP (j := 0) (by decide) (dX_11) rfl rfl (by decide) in3 lk73 dX1_unplace_1 ?_
  refine lv_aload_n hx hb dX1_unplace_4 rfl (lv_at hl 0 rfl) ?_
  refine x_gr X hP (j := 0) (by decide) (dX_15) rfl rfl (by decide) in1 lk9 dX1_unplace_5 ?_
  refine lv_iload_n hx hb dX1_unplace_8 rfl (lv_at hl 2 rfl) ?_
  obtain ⟨g1, h⟩ := gd_some h
  refine x_ai X hP (by decide) (dX_16) g1 dX1_unplace_9 ?_
  obtain ⟨g2, h⟩ := gd_some h
  refine x_ar X hP (by decide) (dX_12) g2 dX1_unplace_10 ?_
  refine lv_astore_n (lv' := [(3, .ref (ad (76 + (σ.1 16 a2.toNatClampNeg).toNatClampNeg))), (0, .ref (ad 15)), (1, .ref (ad 11)), (2, .int a2)]) hx hb dX1_unplace_11 rfl hl (by decide) rfl (fun ls hl => ?_)
  refine lv_aload_n hx hb dX1_unplace_12 rfl (lv_at hl 1 rfl) ?_
  refine x_gr X hP (j := 3) (by decide) (dX_15) rfl rfl (by decide) in1 lk21 dX1_unplace_13 ?_
  refine lv_iload_n hx hb dX1_unplace_16 rfl (lv_at hl 3 rfl) ?_
  refine lv_iconst (v := 0) hx hb dX1_unplace_17 (by decide) ?_
  refine x_sz X hP hS (by decide) (dX_19) g1 (by decide +kernel) dX1_unplace_18 (fun σ3 eσ3 H locs hP hS => ?_)
  have h := nm_some eσ3 h
  refine lv_aload_n hx hb dX1_unplace_19 rfl (lv_at hl 1 rfl) ?_
  refine lv_dup hx hb dX1_unplace_20 rfl ?_
  refine x_gi X hP (j := 9) (by decide) (dX_15) rfl rfl (by decide) in1 lk41 dX1_unplace_21 ?_
  refine lv_aload_n hx hb dX1_unplace_24 rfl (lv_at hl 0 rfl) ?_
  refine x_gi X hP (j := 2) (fam_lt (inb_lt g2) (by decide)) (dX_76 (inb_lt g2)) rfl rfl (by decide) in5 lk77 dX1_unplace_25 ?_
  refine lv_aload_n hx hb dX1_unplace_28 rfl (lv_at hl 1 rfl) ?_
  refine x_gr X hP (j := 1) (by decide) (dX_15) rfl rfl (by decide) in1 lk15 dX1_unplace_29 ?_
  refine lv_iload_n hx hb dX1_unplace_32 rfl (lv_at hl 3 rfl) ?_
  refine x_ai X hP (by decide) (dX_17) g1 dX1_unplace_33 ?_
  refine lv_isub hx hb dX1_unplace_34 ?_
  refine lv_topi (fun v4 ev4 => ?_)
  have h := nm_some ev4 h
  refine lv_isub hx hb dX1_unplace_35 ?_
  refine lv_topi (fun v5 ev5 => ?_)
  have h := nm_some ev5 h
  refine x_pi X hP hS (j := 9) (by decide) (dX_15) rfl rfl (by decide) in1 tyX1_ok nmX1 lk41 rfl rfl rfl rfl dX1_unplace_36 (fun σ6 eσ6 H locs hP hS => ?_)
  have h := nm_some eσ6 h
  refine lv_aload_n hx hb dX1_unplace_39 rfl (lv_at hl 1 rfl) ?_
  refine lv_dup hx hb dX1_unplace_40 rfl ?_
  refine x_gi X hP (j := 10) (by decide) (dX_15) rfl rfl (by decide) in1 lk44 dX1_unplace_41 ?_
  refine lv_aload_n hx hb dX1_unplace_44 rfl (lv_at hl 0 rfl) ?_
  refine x_gi X hP (j := 3) (fam_lt (inb_lt g2) (by decide)) (dX_76 (inb_lt g2)) rfl rfl (by decide) in5 lk82 dX1_unplace_45 ?_
  refine lv_aload_n hx hb dX1_unplace_48 rfl (lv_at hl 1 rfl) ?_
  refine x_gr X hP (j := 2) (by decide) (dX_15) rfl rfl (by decide) in1 lk18 dX1_unplace_49 ?_
  refine lv_iload_n hx hb dX1_unplace_52 rfl (lv_at hl 3 rfl) ?_
  refine x_ai X hP (by decide) (dX_18) g1 dX1_unplace_53 ?_
  refine lv_isub hx hb dX1_unplace_54 ?_
  refine lv_topi (fun v7 ev7 => ?_)
  have h := nm_some ev7 h
  refine lv_isub hx hb dX1_unplace_55 ?_
  refine lv_topi (fun v8 ev8 => ?_)
  have h := nm_some ev8 h
  refine x_pi X hP hS (j := 10) (by decide) (dX_15) rfl rfl (by decide) in1 tyX1_ok nmX1 lk44 rfl rfl rfl rfl dX1_unplace_56 (fun σ9 eσ9 H locs hP hS => ?_)
  have h := nm_some eσ9 h
  subst hQQ
  exact x_rv X hr hlocks hP hS (Option.some.inj h) dX1_unplace_59
def f_1_keepOrder (n : Nat) (σ : St)  : Option (St) :=
  nm (si σ 15 7 (σ.1 15 9)) fun σ1 =>
  nm (si σ1 15 8 (σ1.1 15 10)) fun σ2 =>
  gd (inb (σ2.1 15 6) 7) <| nm (sr σ2 21 (va_cpy (σ2.1 20) (σ2.1 21) 0 0 (σ2.1 15 6).toNatClampNeg)) fun σ4 =>
  some σ4
abbrev rm_1_keepOrder : Room := { frames := 1, cells := 0, slots := 0, locals := 80 }
set_option maxRecDepth 100000 in
set_option maxHeartbeats 4000000 in
theorem k_1_keepOrder (l : Launch) (D : va_G) (cA : Nat → ClassId) (ad : Nat → Nat) (z : ZX) (hj : inj 120 ad) (n : Nat) (σ : St)   {res : St} (h : f_1_keepOrder n σ  = some res) : MXv l D dX 120 cA ad (EX ad z) yX1_keepOrder wsX1_keepOrder rm_1_keepOrder [.ref (ad 15)] σ res := by
  refine Met.ofW (cc := cX1_keepOrder) (maxL := 1) (ret := none) (by decide) rfl ?_
  intro p e s m args below meth c s₁ B hml hv
  obtain ⟨hargs, hP, hK, hE⟩ := hv
  have hx := B.exec
  have hb := B.bytes
  have hr := B.returns
  have hts := atoms_spec (ws := wsX1_keepOrder) B.pre
  have hown : s.vm.findClass RX1 = some m.cls := findClass_of_methodNamed B.named
  have hlocks := B.notSynchronized
  have X : Cx p s m args c cX1_keepOrder 1 RX1 wsX1_keepOrder D dX 120 cA ad (EX ad z) := ⟨hx, hb, hml, hown, hts, hK, hj, hE, EX_ok ad z⟩
  have hS : va_S (inA 120 ad) s.heap s.heap [] := va_S.rf
  have hl := lv_entry ([.ref (ad 15)]) (n := 1) (Nat.le_of_ble_eq_true rfl)
  rw [show entryFrame m args 1 = entryFrame m ([.ref (ad 15)] : List Value).toArray 1 by rw [hargs]]
  rw [lg_entry_eq]
  generalize (lg_sl ([.ref (ad 15)]) ++ List.replicate (1 - (lg_sl ([.ref (ad 15)])).length) Slot.unset).toArray = ls at hl ⊢
  have hl : lv_has ls 1 [(0, .ref (ad 15))] := hl
  obtain ⟨QQ, hQQ⟩ : ∃ Q, Q = MQ below (va_Qv (fun u => u = res) (fun u t => va_P D vwCl (ww dX 120 cA ad u) t.heap) (inA 120 ad)) args s 0 0 (inA 120 ad) := ⟨_, rfl⟩
  show W p l e (headSpec wsX1_keepOrder rm_1_keepOrder).room s m args below meth c s.heap [] 0 0 (MQ below (va_Qv (fun u => u = res) (fun u t => va_P D vwCl (ww dX 120 cA ad u) t.heap) (inA 120 ad)) args s 0 0 (inA 120 ad)) _
  rw [← hQQ]
  have in1 : ∀ w ∈ wsX10, w ∈ wsX1_keepOrder := by decide +kernel
  have lk41 : Cond.fieldLink RX1 41 "CureTown$BestSearch" "hopedDone" "I" ∈ wsX1_keepOrder := by decide +kernel
  have lk35 : Cond.fieldLink RX1 35 "CureTown$BestSearch" "bestDone" "I" ∈ wsX1_keepOrder := by decide +kernel
  have lk44 : Cond.fieldLink RX1 44 "CureTown$BestSearch" "hopedOver" "I" ∈ wsX1_keepOrder := by decide +kernel
  have lk38 : Cond.fieldLink RX1 38 "CureTown$BestSearch" "bestOver" "I" ∈ wsX1_keepOrder := by decide +kernel
  have lk25 : Cond.fieldLink RX1 25 "CureTown$BestSearch" "order" "[I" ∈ wsX1_keepOrder := by decide +kernel
  have lk28 : Cond.fieldLink RX1 28 "CureTown$BestSearch" "bestOrder" "[I" ∈ wsX1_keepOrder := by decide +kernel
  have lk31 : Cond.fieldLink RX1 31 "CureTown$BestSearch" "count" "I" ∈ wsX1_keepOrder := by decide +kernel
  have ml104 : Cond.methodLink RX1 104 arraycopyName ∈ wsX1_keepOrder := by decide +kernel
  have mn104 : Cond.native arraycopyName ∈ wsX1_keepOrder := by decide +kernel
  have ms104 : Cond.static arraycopyName ∈ wsX1_keepOrder := by decide +kernel
  have mi104 : Cond.initialized "java/lang/System" ∈ wsX1_keepOrder := by decide +kernel
  unfold f_1_keepOrder at h
  obtain ⟨H, hH⟩ : ∃ H, H = s.heap := ⟨_, rfl⟩
  obtain ⟨locs, hlc⟩ : ∃ q : List Loc, q = [] := ⟨_, rfl⟩
  have hP : va_P D vwCl (ww dX 120 cA ad σ) s.heap := hP
  have hS : va_S (inA 120 ad) s.heap s.heap [] := hS
  rw [← hlc] at hS ⊢
  rw [show W p l e (headSpec wsX1_keepOrder rm_1_keepOrder).room s m args below meth c s.heap locs 0 0 QQ = W p l e (headSpec wsX1_keepOrder rm_1_keepOrder).room s m args below meth c H locs 0 0 QQ by rw [hH]]
  have hS : va_S (inA 120 ad) s.heap H locs := by rw [hH]; exact hS
  have hP : va_P D vwCl (ww dX 120 cA ad σ) H := by rw [hH]; exact hP
  clear hH hlc
  refine lv_aload_n hx hb dX1_keepOrder_0 rfl (lv_at hl 0 rfl) ?_
  refine lv_aload_n hx hb dX1_keepOrder_1 rfl (lv_at hl 0 rfl) ?_
  refine x_gi X hP (j := 9) (by decide) (dX_15) rfl rfl (by decide) in1 lk41 dX1_keepOrder_2 ?_
  refine x_pi X hP hS (j := 7) (by decide) (dX_15) rfl rfl (by decide) in1 tyX1_ok nmX1 lk35 rfl rfl rfl rfl dX1_keepOrder_5 (fun σ1 eσ1 H locs hP hS => ?_)
  have h := nm_some eσ1 h
  refine lv_aload_n hx hb dX1_keepOrder_8 rfl (lv_at hl 0 rfl) ?_
  refine lv_aload_n hx hb dX1_keepOrder_9 rfl (lv_at hl 0 rfl) ?_
  refine x_gi X hP (j := 10) (by decide) (dX_15) rfl rfl (by decide) in1 lk44 dX1_keepOrder_10 ?_
  refine x_pi X hP hS (j := 8) (by decide) (dX_15) rfl rfl (by decide) in1 tyX1_ok nmX1 lk38 rfl rfl rfl rfl dX1_keepOrder_13 (fun σ2 eσ2 H locs hP hS => ?_)
  have h := nm_some eσ2 h
  refine lv_aload_n hx hb dX1_keepOrder_16 rfl (lv_at hl 0 rfl) ?_
  refine x_gr X hP (j := 4) (by decide) (dX_15) rfl rfl (by decide) in1 lk25 dX1_keepOrder_17 ?_
  refine lv_iconst (v := 0) hx hb dX1_keepOrder_20 (by decide) ?_
  refine lv_aload_n hx hb dX1_keepOrder_21 rfl (lv_at hl 0 rfl) ?_
  refine x_gr X hP (j := 5) (by decide) (dX_15) rfl rfl (by decide) in1 lk28 dX1_keepOrder_22 ?_
  refine lv_iconst (v := 0) hx hb dX1_keepOrder_25 (by decide) ?_
  refine lv_aload_n hx hb dX1_keepOrder_26 rfl (lv_at hl 0 rfl) ?_
  refine x_gi X hP (j := 6) (by decide) (dX_15) rfl rfl (by decide) in1 lk31 dX1_keepOrder_27 ?_
  obtain ⟨g3, h⟩ := gd_some h
  refine x_cpy X hP hS (by decide) (dX_20) (by decide) (dX_21) g3 (Nat.le_refl _) (Nat.le_refl _) ml104 mn104 ms104 mi104 hl.1 (Nat.le_of_ble_eq_true rfl) (by decide +kernel) dX1_keepOrder_30 (fun σ4 eσ4 H locs hP hS => ?_)
  have h := nm_some eσ4 h
  subst hQQ
  exact x_rv X hr hlocks hP hS (Option.some.inj h) dX1_keepOrder_33
def f_1_tell (n : Nat) (σ : St) (a1 : Int32) : Option (Int32 × St) :=
  if a1 = 0 then
    some ((σ.1 15 7), σ)
  else
    if a1 = 1 then
      some ((σ.1 15 8), σ)
    else
      if a1 < 10 then
        some ((-1), σ)
      else
        nm (a1 - 10) fun v4 =>
        if (σ.1 15 6) ≤ v4 then
          some ((-1), σ)
        else
          nm (a1 - 10) fun v6 =>
          gd (inb v6 6) <| some ((σ.1 21 v6.toNatClampNeg), σ)
abbrev rm_1_tell : Room := { frames := 0, cells := 0, slots := 0, locals := 0 }
set_option maxRecDepth 100000 in
set_option maxHeartbeats 4000000 in
theorem k_1_tell (l : Launch) (D : va_G) (cA : Nat → ClassId) (ad : Nat → Nat) (z : ZX) (hj : inj 120 ad) (n : Nat) (σ : St) (a1 : Int32)  {res : Int32 × St} (h : f_1_tell n σ a1 = some res) : MXi l D dX 120 cA ad (EX ad z) yX1_tell wsX1_tell rm_1_tell [.ref (ad 15), .int a1] σ res := by
  refine Met.ofW (cc := cX1_tell) (maxL := 2) (ret := (some .int)) (by decide) rfl ?_
  intro p e s m args below meth c s₁ B hml hv
  obtain ⟨hargs, hP, hK, hE⟩ := hv
  have hx := B.exec
  have hb := B.bytes
  have hr := B.returns
  have hts := atoms_spec (ws := wsX1_tell) B.pre
  have hown : s.vm.findClass RX1 = some m.cls := findClass_of_methodNamed B.named
  have hlocks := B.notSynchronized
  have X : Cx p s m args c cX1_tell 2 RX1 wsX1_tell D dX 120 cA ad (EX ad z) := ⟨hx, hb, hml, hown, hts, hK, hj, hE, EX_ok ad z⟩
  have hS : va_S (inA 120 ad) s.heap s.heap [] := va_S.rf
  have hl := lv_entry ([.ref (ad 15), .int a1]) (n := 2) (Nat.le_of_ble_eq_true rfl)
  rw [show entryFrame m args 2 = entryFrame m ([.ref (ad 15), .int a1] : List Value).toArray 2 by rw [hargs]]
  rw [lg_entry_eq]
  generalize (lg_sl ([.ref (ad 15), .int a1]) ++ List.replicate (2 - (lg_sl ([.ref (ad 15), .int a1])).length) Slot.unset).toArray = ls at hl ⊢
  have hl : lv_has ls 2 [(0, .ref (ad 15)), (1, .int a1)] := hl
  obtain ⟨QQ, hQQ⟩ : ∃ Q, Q = MQ below (va_Qi (fun r u => r = res.1 ∧ u = res.2) (fun u t => va_P D vwCl (ww dX 120 cA ad u) t.heap) (inA 120 ad)) args s 0 0 (inA 120 ad) := ⟨_, rfl⟩
  show W p l e (headSpec wsX1_tell rm_1_tell).room s m args below meth c s.heap [] 0 0 (MQ below (va_Qi (fun r u => r = res.1 ∧ u = res.2) (fun u t => va_P D vwCl (ww dX 120 cA ad u) t.heap) (inA 120 ad)) args s 0 0 (inA 120 ad)) _
  rw [← hQQ]
  have in1 : ∀ w ∈ wsX10, w ∈ wsX1_tell := by decide +kernel
  have lk31 : Cond.fieldLink RX1 31 "CureTown$BestSearch" "count" "I" ∈ wsX1_tell := by decide +kernel
  have lk28 : Cond.fieldLink RX1 28 "CureTown$BestSearch" "bestOrder" "[I" ∈ wsX1_tell := by decide +kernel
  have lk38 : Cond.fieldLink RX1 38 "CureTown$BestSearch" "bestOver" "I" ∈ wsX1_tell := by decide +kernel
  have lk35 : Cond.fieldLink RX1 35 "CureTown$BestSearch" "bestDone" "I" ∈ wsX1_tell := by decide +kernel
  unfold f_1_tell at h
  obtain ⟨H, hH⟩ : ∃ H, H = s.heap := ⟨_, rfl⟩
  obtain ⟨locs, hlc⟩ : ∃ q : List Loc, q = [] := ⟨_, rfl⟩
  have hP : va_P D vwCl (ww dX 120 cA ad σ) s.heap := hP
  have hS : va_S (inA 120 ad) s.heap s.heap [] := hS
  rw [← hlc] at hS ⊢
  rw [show W p l e (headSpec wsX1_tell rm_1_tell).room s m args below meth c s.heap locs 0 0 QQ = W p l e (headSpec wsX1_tell rm_1_tell).room s m args below meth c H locs 0 0 QQ by rw [hH]]
  have hS : va_S (inA 120 ad) s.heap H locs := by rw [hH]; exact hS
  have hP : va_P D vwCl (ww dX 120 cA ad σ) H := by rw [hH]; exact hP
  clear hH hlc
  refine lv_iload_n hx hb dX1_tell_0 rfl (lv_at hl 1 rfl) ?_
  refine lv_if_ne (tgt := 9) hx hb dX1_tell_1 (by decide) (fun c1 => ?_) (fun c1 => ?_)
  · have h := it_f c1 h
    refine lv_iload_n hx hb dX1_tell_9 rfl (lv_at hl 1 rfl) ?_
    refine lv_iconst (v := 1) hx hb dX1_tell_10 (by decide) ?_
    refine lv_icmp_ne (tgt := 19) hx hb dX1_tell_11 (by decide) (fun c2 => ?_) (fun c2 => ?_)
    · have h := it_f c2 h
      refine lv_iload_n hx hb dX1_tell_19 rfl (lv_at hl 1 rfl) ?_
      refine lv_bipush (v := 10) hx hb dX1_tell_20 (by decide) ?_
      refine lv_icmp_lt (tgt := 48) hx hb dX1_tell_22 (by decide) (fun c3 => ?_) (fun c3 => ?_)
      · have h := it_t c3 h
        refine lv_iconst (v := (-1)) hx hb dX1_tell_48 (by decide) ?_
        subst hQQ
        exact x_ri (σ0 := (fun _ _ => 0, fun _ _ => 0)) X hr hlocks hP hS (Option.some.inj h) dX1_tell_49
      · have h := it_f c3 h
        refine lv_iload_n hx hb dX1_tell_25 rfl (lv_at hl 1 rfl) ?_
        refine lv_bipush (v := 10) hx hb dX1_tell_26 (by decide) ?_
        refine lv_isub hx hb dX1_tell_28 ?_
        refine lv_topi (fun v4 ev4 => ?_)
        have h := nm_some ev4 h
        refine lv_aload_n hx hb dX1_tell_29 rfl (lv_at hl 0 rfl) ?_
        refine x_gi X hP (j := 6) (by decide) (dX_15) rfl rfl (by decide) in1 lk31 dX1_tell_30 ?_
        refine lv_icmp_ge (tgt := 48) hx hb dX1_tell_33 (by decide) (fun c5 => ?_) (fun c5 => ?_)
        · have h := it_t c5 h
          refine lv_iconst (v := (-1)) hx hb dX1_tell_48 (by decide) ?_
          subst hQQ
          exact x_ri (σ0 := (fun _ _ => 0, fun _ _ => 0)) X hr hlocks hP hS (Option.some.inj h) dX1_tell_49
        · have h := it_f c5 h
          refine lv_aload_n hx hb dX1_tell_36 rfl (lv_at hl 0 rfl) ?_
          refine x_gr X hP (j := 5) (by decide) (dX_15) rfl rfl (by decide) in1 lk28 dX1_tell_37 ?_
          refine lv_iload_n hx hb dX1_tell_40 rfl (lv_at hl 1 rfl) ?_
          refine lv_bipush (v := 10) hx hb dX1_tell_41 (by decide) ?_
          refine lv_isub hx hb dX1_tell_43 ?_
          refine lv_topi (fun v6 ev6 => ?_)
          have h := nm_some ev6 h
          obtain ⟨g7, h⟩ := gd_some h
          refine x_ai X hP (by decide) (dX_21) g7 dX1_tell_44 ?_
          refine lv_goto (tgt := 49) hx hb dX1_tell_45 (by decide) ?_
          subst hQQ
          exact x_ri (σ0 := (fun _ _ => 0, fun _ _ => 0)) X hr hlocks hP hS (Option.some.inj h) dX1_tell_49
    · have h := it_t c2 h
      refine lv_aload_n hx hb dX1_tell_14 rfl (lv_at hl 0 rfl) ?_
      refine x_gi X hP (j := 8) (by decide) (dX_15) rfl rfl (by decide) in1 lk38 dX1_tell_15 ?_
      subst hQQ
      exact x_ri (σ0 := (fun _ _ => 0, fun _ _ => 0)) X hr hlocks hP hS (Option.some.inj h) dX1_tell_18
  · have h := it_t c1 h
    refine lv_aload_n hx hb dX1_tell_4 rfl (lv_at hl 0 rfl) ?_
    refine x_gi X hP (j := 7) (by decide) (dX_15) rfl rfl (by decide) in1 lk35 dX1_tell_5 ?_
    subst hQQ
    exact x_ri (σ0 := (fun _ _ => 0, fun _ _ => 0)) X hr hlocks hP hS (Option.some.inj h) dX1_tell_8
def b_1_listGuests_8 (n : Nat) (a3 : Int32) (t3 : Int32 × St) : Option ((Int32 × St) ⊕ (Int32 × St)) :=
  if (t3.2.1 1 5) ≤ t3.1 then
    some (.inr (t3.1, t3.2))
  else
    if 6 ≤ (t3.2.1 15 6) then
      some (.inr (t3.1, t3.2))
    else
      (f_9_isThere n t3.2 t3.1 a3).bind fun r6 =>
      if r6.1 = 0 then
        nm (t3.1 + 1) fun v9 =>
        some (.inl (v9, r6.2))
      else
        (f_3_addGuest n r6.2 t3.1 a3).bind fun r10 =>
        gd (inb (r10.1 15 6) 6) <| nm (si r10 16 ((r10.1 15 6).toNatClampNeg) t3.1) fun σ13 =>
        gd (inb t3.1 8) <| gd (inb (σ13.1 15 6) 6) <| nm (si σ13 17 ((σ13.1 15 6).toNatClampNeg) (σ13.1 (76 + t3.1.toNatClampNeg) 2)) fun σ16 =>
        gd (inb (σ16.1 15 6) 6) <| nm (si σ16 18 ((σ16.1 15 6).toNatClampNeg) (σ16.1 (76 + t3.1.toNatClampNeg) 3)) fun σ18 =>
        gd (inb (σ18.1 15 6) 6) <| nm (si σ18 19 ((σ18.1 15 6).toNatClampNeg) 0) fun σ20 =>
        gd (inb (σ20.1 15 6) 6) <| nm ((σ20.1 15 9) + (σ20.1 17 (σ20.1 15 6).toNatClampNeg)) fun v22 =>
        nm (si σ20 15 9 v22) fun σ23 =>
        gd (inb (σ23.1 15 6) 6) <| nm ((σ23.1 15 10) + (σ23.1 18 (σ23.1 15 6).toNatClampNeg)) fun v25 =>
        nm (si σ23 15 10 v25) fun σ26 =>
        nm ((σ26.1 15 6) + 1) fun v27 =>
        nm (si σ26 15 6 v27) fun σ28 =>
        (f_3_removeGuest n σ28 t3.1).bind fun r29 =>
        nm (t3.1 + 1) fun v31 =>
        some (.inl (v31, r29))
def f_1_listGuests (n : Nat) (σ : St) (a3 : Int32) : Option (St) :=
  nm (si σ 15 6 0) fun σ1 =>
  (lq (b_1_listGuests_8 n a3) n (0, σ1)).bind fun t1032 =>
  some t1032.2
abbrev rm_1_listGuests : Room := { frames := 4, cells := 0, slots := 0, locals := 105 }
set_option maxRecDepth 100000 in
set_option maxHeartbeats 4000000 in
theorem k_1_listGuests (l : Launch) (D : va_G) (cA : Nat → ClassId) (ad : Nat → Nat) (z : ZX) (hj : inj 120 ad) (n : Nat) (σ : St) (a3 : Int32)  {res : St} (h : f_1_listGuests n σ a3 = some res) : MXv l D dX 120 cA ad (EX ad z) yX1_listGuests wsX1_listGuests rm_1_listGuests [.ref (ad 15), .ref (ad 1), .ref (ad 11), .int a3] σ res := by
  refine Met.ofW (cc := cX1_listGuests) (maxL := 5) (ret := none) (by decide) rfl ?_
  intro p e s m args below meth c s₁ B hml hv
  obtain ⟨hargs, hP, hK, hE⟩ := hv
  have hx := B.exec
  have hb := B.bytes
  have hr := B.returns
  have hts := atoms_spec (ws := wsX1_listGuests) B.pre
  have hown : s.vm.findClass RX1 = some m.cls := findClass_of_methodNamed B.named
  have hlocks := B.notSynchronized
  have X : Cx p s m args c cX1_listGuests 5 RX1 wsX1_listGuests D dX 120 cA ad (EX ad z) := ⟨hx, hb, hml, hown, hts, hK, hj, hE, EX_ok ad z⟩
  have hS : va_S (inA 120 ad) s.heap s.heap [] := va_S.rf
  have hl := lv_entry ([.ref (ad 15), .ref (ad 1), .ref (ad 11), .int a3]) (n := 5) (Nat.le_of_ble_eq_true rfl)
  rw [show entryFrame m args 5 = entryFrame m ([.ref (ad 15), .ref (ad 1), .ref (ad 11), .int a3] : List Value).toArray 5 by rw [hargs]]
  rw [lg_entry_eq]
  generalize (lg_sl ([.ref (ad 15), .ref (ad 1), .ref (ad 11), .int a3]) ++ List.replicate (5 - (lg_sl ([.ref (ad 15), .ref (ad 1), .ref (ad 11), .int a3])).length) Slot.unset).toArray = ls at hl ⊢
  have hl : lv_has ls 5 [(0, .ref (ad 15)), (1, .ref (ad 1)), (2, .ref (ad 11)), (3, .int a3)] := hl
  obtain ⟨QQ, hQQ⟩ : ∃ Q, Q = MQ below (va_Qv (fun u => u = res) (fun u t => va_P D vwCl (ww dX 120 cA ad u) t.heap) (inA 120 ad)) args s 0 0 (inA 120 ad) := ⟨_, rfl⟩
  show W p l e (headSpec wsX1_listGuests rm_1_listGuests).room s m args below meth c s.heap [] 0 0 (MQ below (va_Qv (fun u => u = res) (fun u t => va_P D vwCl (ww dX 120 cA ad u) t.heap) (inA 120 ad)) args s 0 0 (inA 120 ad)) _
  rw [← hQQ]
  have in1 : ∀ w ∈ wsX10, w ∈ wsX1_listGuests := by decide +kernel
  have in9 : ∀ w ∈ wsX90, w ∈ wsX1_listGuests := by decide +kernel
  have in3 : ∀ w ∈ wsX30, w ∈ wsX1_listGuests := by decide +kernel
  have in5 : ∀ w ∈ wsX50, w ∈ wsX1_listGuests := by decide +kernel
  have lk31 : Cond.fieldLink RX1 31 "CureTown$BestSearch" "count" "I" ∈ wsX1_listGuests := by decide +kernel
  have lk64 : Cond.fieldLink RX1 64 "CureTown$Town" "guestCount" "I" ∈ wsX1_listGuests := by decide +kernel
  have lk9 : Cond.fieldLink RX1 9 "CureTown$BestSearch" "guests" "[I" ∈ wsX1_listGuests := by decide +kernel
  have lk15 : Cond.fieldLink RX1 15 "CureTown$BestSearch" "doneAlone" "[I" ∈ wsX1_listGuests := by decide +kernel
  have lk73 : Cond.fieldLink RX1 73 "CureTown$DayPlan" "rows" "[LCureTown$GuestDay;" ∈ wsX1_listGuests := by decide +kernel
  have lk77 : Cond.fieldLink RX1 77 "CureTown$GuestDay" "done" "I" ∈ wsX1_listGuests := by decide +kernel
  have lk18 : Cond.fieldLink RX1 18 "CureTown$BestSearch" "overAlone" "[I" ∈ wsX1_listGuests := by decide +kernel
  have lk82 : Cond.fieldLink RX1 82 "CureTown$GuestDay" "over" "I" ∈ wsX1_listGuests := by decide +kernel
  have lk21 : Cond.fieldLink RX1 21 "CureTown$BestSearch" "isPlaced" "[Z" ∈ wsX1_listGuests := by decide +kernel
  have lk41 : Cond.fieldLink RX1 41 "CureTown$BestSearch" "hopedDone" "I" ∈ wsX1_listGuests := by decide +kernel
  have lk44 : Cond.fieldLink RX1 44 "CureTown$BestSearch" "hopedOver" "I" ∈ wsX1_listGuests := by decide +kernel
  unfold f_1_listGuests at h
  obtain ⟨H, hH⟩ : ∃ H, H = s.heap := ⟨_, rfl⟩
  obtain ⟨locs, hlc⟩ : ∃ q : List Loc, q = [] := ⟨_, rfl⟩
  have hP : va_P D vwCl (ww dX 120 cA ad σ) s.heap := hP
  have hS : va_S (inA 120 ad) s.heap s.heap [] := hS
  rw [← hlc] at hS ⊢
  rw [show W p l e (headSpec wsX1_listGuests rm_1_listGuests).room s m args below meth c s.heap locs 0 0 QQ = W p l e (headSpec wsX1_listGuests rm_1_listGuests).room s m args below meth c H locs 0 0 QQ by rw [hH]]
  have hS : va_S (inA 120 ad) s.heap H locs := by rw [hH]; exact hS
  have hP : va_P D vwCl (ww dX 120 cA ad σ) H := by rw [hH]; exact hP
  clear hH hlc
  refine lv_aload_n hx hb dX1_listGuests_0 rfl (lv_at hl 0 rfl) ?_
  refine lv_iconst (v := 0) hx hb dX1_listGuests_1 (by decide) ?_
  refine x_pi X hP hS (j := 6) (by decide) (dX_15) rfl rfl (by decide) in1 tyX1_ok nmX1 lk31 rfl rfl rfl rfl dX1_listGuests_2 (fun σ1 eσ1 H locs hP hS => ?_)
  have h := nm_some eσ1 h
  refine lv_iconst (v := 0) hx hb dX1_listGuests_5 (by decide) ?_
  refine lv_istore (lv' := [(4, .int 0), (0, .ref (ad 15)), (1, .ref (ad 1)), (2, .ref (ad 11)), (3, .int a3)]) hx hb dX1_listGuests_6 hl (by decide) rfl (fun ls hl => ?_)
  obtain ⟨t1032, o1034, h⟩ := bd_some h
  refine lq_rule (P := fun t3 : Int32 × St => ∀ (H : Heap) (locs : List Loc) (ls : Array Slot), va_P D vwCl (ww dX 120 cA ad t3.2) H → va_S (inA 120 ad) s.heap H locs → lv_has ls 5 [(0, .ref (ad 15)), (1, .ref (ad 1)), (2, .ref (ad 11)), (3, .int a3), (4, .int t3.1)] → W p l e (headSpec wsX1_listGuests rm_1_listGuests).room s m args below meth c H locs 0 0 QQ (F0 m 8 ls [])) (X := fun t1032 : Int32 × St => ∀ (H : Heap) (locs : List Loc) (ls : Array Slot), va_P D vwCl (ww dX 120 cA ad t1032.2) H → va_S (inA 120 ad) s.heap H locs → lv_has ls 5 [(0, .ref (ad 15)), (1, .ref (ad 1)), (2, .ref (ad 11)), (3, .int a3), (4, .int t1032.1)] → W p l e (headSpec wsX1_listGuests rm_1_listGuests).room s m args below meth c H locs 0 0 QQ (F0 m 161 ls [])) ?_ n _ _ o1034 ?_ H locs ls hP hS (lv_sub hl [1, 2, 3, 4, 0] rfl)
  · clear h hP hS hl
    intro t3 rL2 h hCL2 hEL2 H locs ls hP hS hl
    unfold b_1_listGuests_8 at h
    refine lv_iload hx hb dX1_listGuests_8 (lv_at hl 4 rfl) ?_
    refine lv_aload_n hx hb dX1_listGuests_10 rfl (lv_at hl 1 rfl) ?_
    refine x_gi X hP (j := 5) (by decide) (dX_1) rfl rfl (by decide) in9 lk64 dX1_listGuests_11 ?_
    refine lv_icmp_ge (tgt := 161) hx hb dX1_listGuests_14 (by decide) (fun c4 => ?_) (fun c4 => ?_)
    · have h := it_t c4 h
      exact hEL2 _ (Option.some.inj h).symm H locs ls hP hS (lv_sub hl [0, 1, 2, 3, 4] rfl)
    · have h := it_f c4 h
      refine lv_aload_n hx hb dX1_listGuests_17 rfl (lv_at hl 0 rfl) ?_
      refine x_gi X hP (j := 6) (by decide) (dX_15) rfl rfl (by decide) in1 lk31 dX1_listGuests_18 ?_
      refine lv_bipush (v := 6) hx hb dX1_listGuests_21 (by decide) ?_
      refine lv_icmp_ge (tgt := 161) hx hb dX1_listGuests_23 (by decide) (fun c5 => ?_) (fun c5 => ?_)
      · have h := it_t c5 h
        exact hEL2 _ (Option.some.inj h).symm H locs ls hP hS (lv_sub hl [0, 1, 2, 3, 4] rfl)
      · have h := it_f c5 h
        refine lv_aload_n hx hb dX1_listGuests_26 rfl (lv_at hl 1 rfl) ?_
        refine lv_iload hx hb dX1_listGuests_27 (lv_at hl 4 rfl) ?_
        refine lv_iload_n hx hb dX1_listGuests_29 rfl (lv_at hl 3 rfl) ?_
        obtain ⟨r6, k7, h⟩ := bd_some h
        refine x_Vi (rest := []) X hP hS (k_9_isThere l D cA ad z hj n t3.2 t3.1 a3 k7) (by decide) (dX_1) rfl 2 gX1_listGuests_X9_isThere rfl rfl rfl (by decide +kernel) ⟨Nat.le_of_ble_eq_true rfl, Nat.le_of_ble_eq_true rfl⟩ rfl hl.1 rfl (Nat.le_of_ble_eq_true rfl) dX1_listGuests_30 ⟨Nat.zero_le _, Nat.zero_le _⟩ (fun H locs hP hS => ?_)
        refine lv_if_eq (tgt := 155) hx hb dX1_listGuests_33 (by decide) (fun c8 => ?_) (fun c8 => ?_)
        · have h := it_t c8 h
          obtain ⟨v9, ev9⟩ : ∃ y : Int32, y = t3.1 + 1 := ⟨_, rfl⟩
          have h := nm_some ev9 h
          refine lv_iinc (v := v9) (lv' := [(4, .int v9), (0, .ref (ad 15)), (1, .ref (ad 1)), (2, .ref (ad 11)), (3, .int a3)]) hx hb dX1_listGuests_155 hl (k := 4) rfl (by rw [ev9]; rfl) (by decide) rfl (fun ls hl => ?_)
          refine lv_goto (tgt := 8) hx hb dX1_listGuests_158 (by decide) ?_
          exact hCL2 _ (Option.some.inj h).symm H locs ls hP hS (lv_sub hl [1, 2, 3, 4, 0] rfl)
        · have h := it_f c8 h
          refine lv_aload_n hx hb dX1_listGuests_36 rfl (lv_at hl 2 rfl) ?_
          refine lv_aload_n hx hb dX1_listGuests_37 rfl (lv_at hl 1 rfl) ?_
          refine lv_iload hx hb dX1_listGuests_38 (lv_at hl 4 rfl) ?_
          refine lv_iload_n hx hb dX1_listGuests_40 rfl (lv_at hl 3 rfl) ?_
          obtain ⟨r10, k11, h⟩ := bd_some h
          refine x_Vv (rest := []) X hP hS (k_3_addGuest l D cA ad z hj n r6.2 t3.1 a3 k11) (by decide) (dX_11) rfl 3 gX1_listGuests_X3_addGuest rfl rfl rfl (by decide +kernel) ⟨Nat.le_of_ble_eq_true rfl, Nat.le_of_ble_eq_true rfl⟩ rfl hl.1 rfl (Nat.le_of_ble_eq_true rfl) dX1_listGuests_41 ⟨Nat.zero_le _, Nat.zero_le _⟩ (fun H locs hP hS => ?_)
          refine lv_aload_n hx hb dX1_listGuests_44 rfl (lv_at hl 0 rfl) ?_
          refine x_gr X hP (j := 0) (by decide) (dX_15) rfl rfl (by decide) in1 lk9 dX1_listGuests_45 ?_
          refine lv_aload_n hx hb dX1_listGuests_48 rfl (lv_at hl 0 rfl) ?_
          refine x_gi X hP (j := 6) (by decide) (dX_15) rfl rfl (by decide) in1 lk31 dX1_listGuests_49 ?_
          refine lv_iload hx hb dX1_listGuests_52 (lv_at hl 4 rfl) ?_
          obtain ⟨g12, h⟩ := gd_some h
          refine x_si X hP hS (by decide) (dX_16) g12 dX1_listGuests_54 (fun σ13 eσ13 H locs hP hS => ?_)
          have h := nm_some eσ13 h
          refine lv_aload_n hx hb dX1_listGuests_55 rfl (lv_at hl 0 rfl) ?_
          refine x_gr X hP (j := 1) (by decide) (dX_15) rfl rfl (by decide) in1 lk15 dX1_listGuests_56 ?_
          refine lv_aload_n hx hb dX1_listGuests_59 rfl (lv_at hl 0 rfl) ?_
          refine x_gi X hP (j := 6) (by decide) (dX_15) rfl rfl (by decide) in1 lk31 dX1_listGuests_60 ?_
          refine lv_aload_n hx hb dX1_listGuests_63 rfl (lv_at hl 2 rfl) ?_
          refine x_gr X hP (j := 0) (by decide) (dX_11) rfl rfl (by decide) in3 lk73 dX1_listGuests_64 ?_
          refine lv_iload hx hb dX1_listGuests_67 (lv_at hl 4 rfl) ?_
          obtain ⟨g14, h⟩ := gd_some h
          refine x_ar X hP (by decide) (dX_12) g14 dX1_listGuests_69 ?_
          refine x_gi X hP (j := 2) (fam_lt (inb_lt g14) (by decide)) (dX_76 (inb_lt g14)) rfl rfl (by decide) in5 lk77 dX1_listGuests_70 ?_
          obtain ⟨g15, h⟩ := gd_some h
          refine x_si X hP hS (by decide) (dX_17) g15 dX1_listGuests_73 (fun σ16 eσ16 H locs hP hS => ?_)
          have h := nm_some eσ16 h
          refine lv_aload_n hx hb dX1_listGuests_74 rfl (lv_at hl 0 rfl) ?_
          refine x_gr X hP (j := 2) (by decide) (dX_15) rfl rfl (by decide) in1 lk18 dX1_listGuests_75 ?_
          refine lv_aload_n hx hb dX1_listGuests_78 rfl (lv_at hl 0 rfl) ?_
          refine x_gi X hP (j := 6) (by decide) (dX_15) rfl rfl (by decide) in1 lk31 dX1_listGuests_79 ?_
          refine lv_aload_n hx hb dX1_listGuests_82 rfl (lv_at hl 2 rfl) ?_
          refine x_gr X hP (j := 0) (by decide) (dX_11) rfl rfl (by decide) in3 lk73 dX1_listGuests_83 ?_
          refine lv_iload hx hb dX1_listGuests_86 (lv_at hl 4 rfl) ?_
          refine x_ar X hP (by decide) (dX_12) g14 dX1_listGuests_88 ?_
          refine x_gi X hP (j := 3) (fam_lt (inb_lt g14) (by decide)) (dX_76 (inb_lt g14)) rfl rfl (by decide) in5 lk82 dX1_listGuests_89 ?_
          obtain ⟨g17, h⟩ := gd_some h
          refine x_si X hP hS (by decide) (dX_18) g17 dX1_listGuests_92 (fun σ18 eσ18 H locs hP hS => ?_)
          have h := nm_some eσ18 h
          refine lv_aload_n hx hb dX1_listGuests_93 rfl (lv_at hl 0 rfl) ?_
          refine x_gr X hP (j := 3) (by decide) (dX_15) rfl rfl (by decide) in1 lk21 dX1_listGuests_94 ?_
          refine lv_aload_n hx hb dX1_listGuests_97 rfl (lv_at hl 0 rfl) ?_
          refine x_gi X hP (j := 6) (by decide) (dX_15) rfl rfl (by decide) in1 lk31 dX1_listGuests_98 ?_
          refine lv_iconst (v := 0) hx hb dX1_listGuests_101 (by decide) ?_
          obtain ⟨g19, h⟩ := gd_some h
          refine x_sz X hP hS (by decide) (dX_19) g19 (by decide +kernel) dX1_listGuests_102 (fun σ20 eσ20 H locs hP hS => ?_)
          have h := nm_some eσ20 h
          refine lv_aload_n hx hb dX1_listGuests_103 rfl (lv_at hl 0 rfl) ?_
          refine lv_dup hx hb dX1_listGuests_104 rfl ?_
          refine x_gi X hP (j := 9) (by decide) (dX_15) rfl rfl (by decide) in1 lk41 dX1_listGuests_105 ?_
          refine lv_aload_n hx hb dX1_listGuests_108 rfl (lv_at hl 0 rfl) ?_
          refine x_gr X hP (j := 1) (by decide) (dX_15) rfl rfl (by decide) in1 lk15 dX1_listGuests_109 ?_
          refine lv_aload_n hx hb dX1_listGuests_112 rfl (lv_at hl 0 rfl) ?_
          refine x_gi X hP (j := 6) (by decide) (dX_15) rfl rfl (by decide) in1 lk31 dX1_listGuests_113 ?_
          obtain ⟨g21, h⟩ := gd_some h
          refine x_ai X hP (by decide) (dX_17) g21 dX1_listGuests_116 ?_
          refine lv_iadd hx hb dX1_listGuests_117 ?_
          refine lv_topi (fun v22 ev22 => ?_)
          have h := nm_some ev22 h
          refine x_pi X hP hS (j := 9) (by decide) (dX_15) rfl rfl (by decide) in1 tyX1_ok nmX1 lk41 rfl rfl rfl rfl dX1_listGuests_118 (fun σ23 eσ23 H locs hP hS => ?_)
          have h := nm_some eσ23 h
          refine lv_aload_n hx hb dX1_listGuests_121 rfl (lv_at hl 0 rfl) ?_
          refine lv_dup hx hb dX1_listGuests_122 rfl ?_
          refine x_gi X hP (j := 10) (by decide) (dX_15) rfl rfl (by decide) in1 lk44 dX1_listGuests_123 ?_
          refine lv_aload_n hx hb dX1_listGuests_126 rfl (lv_at hl 0 rfl) ?_
          refine x_gr X hP (j := 2) (by decide) (dX_15) rfl rfl (by decide) in1 lk18 dX1_listGuests_127 ?_
          refine lv_aload_n hx hb dX1_listGuests_130 rfl (lv_at hl 0 rfl) ?_
          refine x_gi X hP (j := 6) (by decide) (dX_15) rfl rfl (by decide) in1 lk31 dX1_listGuests_131 ?_
          obtain ⟨g24, h⟩ := gd_some h
          refine x_ai X hP (by decide) (dX_18) g24 dX1_listGuests_134 ?_
          refine lv_iadd hx hb dX1_listGuests_135 ?_
          refine lv_topi (fun v25 ev25 => ?_)
          have h := nm_some ev25 h
          refine x_pi X hP hS (j := 10) (by decide) (dX_15) rfl rfl (by decide) in1 tyX1_ok nmX1 lk44 rfl rfl rfl rfl dX1_listGuests_136 (fun σ26 eσ26 H locs hP hS => ?_)
          have h := nm_some eσ26 h
          refine lv_aload_n hx hb dX1_listGuests_139 rfl (lv_at hl 0 rfl) ?_
          refine lv_dup hx hb dX1_listGuests_140 rfl ?_
          refine x_gi X hP (j := 6) (by decide) (dX_15) rfl rfl (by decide) in1 lk31 dX1_listGuests_141 ?_
          refine lv_iconst (v := 1) hx hb dX1_listGuests_144 (by decide) ?_
          refine lv_iadd hx hb dX1_listGuests_145 ?_
          refine lv_topi (fun v27 ev27 => ?_)
          have h := nm_some ev27 h
          refine x_pi X hP hS (j := 6) (by decide) (dX_15) rfl rfl (by decide) in1 tyX1_ok nmX1 lk31 rfl rfl rfl rfl dX1_listGuests_146 (fun σ28 eσ28 H locs hP hS => ?_)
          have h := nm_some eσ28 h
          refine lv_aload_n hx hb dX1_listGuests_149 rfl (lv_at hl 2 rfl) ?_
          refine lv_iload hx hb dX1_listGuests_150 (lv_at hl 4 rfl) ?_
          obtain ⟨r29, k30, h⟩ := bd_some h
          refine x_Vv (rest := []) X hP hS (k_3_removeGuest l D cA ad z hj n σ28 t3.1 k30) (by decide) (dX_11) rfl 1 gX1_listGuests_X3_removeGuest rfl rfl rfl (by decide +kernel) ⟨Nat.le_of_ble_eq_true rfl, Nat.le_of_ble_eq_true rfl⟩ rfl hl.1 rfl (Nat.le_of_ble_eq_true rfl) dX1_listGuests_152 ⟨Nat.zero_le _, Nat.zero_le _⟩ (fun H locs hP hS => ?_)
          obtain ⟨v31, ev31⟩ : ∃ y : Int32, y = t3.1 + 1 := ⟨_, rfl⟩
          have h := nm_some ev31 h
          refine lv_iinc (v := v31) (lv' := [(4, .int v31), (0, .ref (ad 15)), (1, .ref (ad 1)), (2, .ref (ad 11)), (3, .int a3)]) hx hb dX1_listGuests_155 hl (k := 4) rfl (by rw [ev31]; rfl) (by decide) rfl (fun ls hl => ?_)
          refine lv_goto (tgt := 8) hx hb dX1_listGuests_158 (by decide) ?_
          exact hCL2 _ (Option.some.inj h).symm H locs ls hP hS (lv_sub hl [1, 2, 3, 4, 0] rfl)
  · intro H locs ls hP hS hl
    subst hQQ
    exact x_rv X hr hlocks hP hS (Option.some.inj h) dX1_listGuests_161
