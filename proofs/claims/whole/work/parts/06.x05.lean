def chr (b : Int32) : Int32 := ((b &&& 255).toUInt32 % 65536).toInt32
theorem chr_nar (b : Int32) : narrow .char (.int (chr b)) = .int (chr b) := pk_nc _
abbrev rm_J0_coder_7d493 : Room := { frames := 0, cells := 0, slots := 0, locals := 0 }
set_option maxRecDepth 100000 in
set_option maxHeartbeats 4000000 in
theorem k_J0_coder_7d493 (l : Launch) (D : va_G) (cA : Nat → ClassId) (ad : Nat → Nat) (z : ZX) (hj : inj 120 ad) (σ : St) (i : Nat) (hi : i < 6) : MXi l D dX 120 cA ad (EX ad z) yJ0_coder_7d493 wsJ0_coder_7d493 rm_J0_coder_7d493 [.ref (z.2.2.1 i)] σ ((0 : Int32), σ) := by
  suffices hm : ∀ res, res = ((0 : Int32), σ) → MXi l D dX 120 cA ad (EX ad z) yJ0_coder_7d493 wsJ0_coder_7d493 rm_J0_coder_7d493 [.ref (z.2.2.1 i)] σ res from hm _ rfl
  intro res hres
  refine Met.ofW (cc := cJ0_coder_7d493) (maxL := 1) (ret := (some .byte)) (by decide) rfl ?_
  intro p e s m args below meth c s₁ B hml hv
  obtain ⟨hargs, hP, hK, hE⟩ := hv
  have hx := B.exec
  have hb := B.bytes
  have hr := B.returns
  have hts := atoms_spec (ws := wsJ0_coder_7d493) B.pre
  have hown : s.vm.findClass RJ0 = some m.cls := findClass_of_methodNamed B.named
  have hlocks := B.notSynchronized
  have X : Cx p s m args c cJ0_coder_7d493 1 RJ0 wsJ0_coder_7d493 D dX 120 cA ad (EX ad z) := ⟨hx, hb, hml, hown, hts, hK, hj, hE, EX_ok ad z⟩
  have hS : va_S (inA 120 ad) s.heap s.heap [] := va_S.rf
  have hl := lv_entry ([.ref (z.2.2.1 i)]) (n := 1) (Nat.le_of_ble_eq_true rfl)
  rw [show entryFrame m args 1 = entryFrame m ([.ref (z.2.2.1 i)] : List Value).toArray 1 by rw [hargs]]
  rw [lg_entry_eq]
  generalize (lg_sl ([.ref (z.2.2.1 i)]) ++ List.replicate (1 - (lg_sl ([.ref (z.2.2.1 i)])).length) Slot.unset).toArray = ls at hl ⊢
  have hl : lv_has ls 1 [(0, .ref (z.2.2.1 i))] := hl
  obtain ⟨QQ, hQQ⟩ : ∃ Q, Q = MQ below (va_Qi (fun r u => r = res.1 ∧ u = res.2) (fun u t => va_P D vwCl (ww dX 120 cA ad u) t.heap) (inA 120 ad)) args s 0 0 (inA 120 ad) := ⟨_, rfl⟩
  show W p l e (headSpec wsJ0_coder_7d493 rm_J0_coder_7d493).room s m args below meth c s.heap [] 0 0 (MQ below (va_Qi (fun r u => r = res.1 ∧ u = res.2) (fun u t => va_P D vwCl (ww dX 120 cA ad u) t.heap) (inA 120 ad)) args s 0 0 (inA 120 ad)) _
  rw [← hQQ]
  skip
  obtain ⟨H, hH⟩ : ∃ H, H = s.heap := ⟨_, rfl⟩
  obtain ⟨locs, hlc⟩ : ∃ q : List Loc, q = [] := ⟨_, rfl⟩
  have hP : va_P D vwCl (ww dX 120 cA ad σ) s.heap := hP
  have hS : va_S (inA 120 ad) s.heap s.heap [] := hS
  rw [← hlc] at hS ⊢
  rw [show W p l e (headSpec wsJ0_coder_7d493 rm_J0_coder_7d493).room s m args below meth c s.heap locs 0 0 QQ = W p l e (headSpec wsJ0_coder_7d493 rm_J0_coder_7d493).room s m args below meth c H locs 0 0 QQ by rw [hH]]
  have hS : va_S (inA 120 ad) s.heap H locs := by rw [hH]; exact hS
  have hP : va_P D vwCl (ww dX 120 cA ad σ) H := by rw [hH]; exact hP
  clear hH hlc
  have f38 : Cond.fieldLink RJ0 38 "java/lang/String" "COMPACT_STRINGS" "Z" ∈ wsJ0_coder_7d493 := by decide +kernel
  have f15 : Cond.fieldLink RJ0 15 "java/lang/String" "coder" "B" ∈ wsJ0_coder_7d493 := by decide +kernel
  obtain ⟨-, -, -, -, -, -, -, hVK, -, hCS, -⟩ := hE
  refine va_gets hx hb hCS hS X.2.2.2.1 (X.2.2.2.2.1 _ f38) (fun _ h9 => h9) dJ0_coder_7d493_0 ?_
  refine lv_if_eq (tgt := 13) hx hb dJ0_coder_7d493_3 (by decide) (fun c1 => absurd c1 (by decide)) (fun _ => ?_)
  refine lv_aload_n hx hb dJ0_coder_7d493_6 rfl (lv_at hl 0 rfl) ?_
  refine vk_getf hx hb (hVK.1 i hi).2.1 hS X.2.2.2.1 (X.2.2.2.2.1 _ f15) (fun _ h9 => h9) dJ0_coder_7d493_7 ?_
  refine lv_goto (tgt := 14) hx hb dJ0_coder_7d493_10 (by decide) ?_
  subst hQQ
  exact x_rz X hr hlocks hP hS (by decide +kernel) hres.symm dJ0_coder_7d493_14
abbrev rm_J0_isLatin1_aae02 : Room := { frames := 0, cells := 0, slots := 0, locals := 0 }
set_option maxRecDepth 100000 in
set_option maxHeartbeats 4000000 in
theorem k_J0_isLatin1_aae02 (l : Launch) (D : va_G) (cA : Nat → ClassId) (ad : Nat → Nat) (z : ZX) (hj : inj 120 ad) (σ : St) (i : Nat) (hi : i < 6) : MXi l D dX 120 cA ad (EX ad z) yJ0_isLatin1_aae02 wsJ0_isLatin1_aae02 rm_J0_isLatin1_aae02 [.ref (z.2.2.1 i)] σ ((1 : Int32), σ) := by
  suffices hm : ∀ res, res = ((1 : Int32), σ) → MXi l D dX 120 cA ad (EX ad z) yJ0_isLatin1_aae02 wsJ0_isLatin1_aae02 rm_J0_isLatin1_aae02 [.ref (z.2.2.1 i)] σ res from hm _ rfl
  intro res hres
  refine Met.ofW (cc := cJ0_isLatin1_aae02) (maxL := 1) (ret := (some .boolean)) (by decide) rfl ?_
  intro p e s m args below meth c s₁ B hml hv
  obtain ⟨hargs, hP, hK, hE⟩ := hv
  have hx := B.exec
  have hb := B.bytes
  have hr := B.returns
  have hts := atoms_spec (ws := wsJ0_isLatin1_aae02) B.pre
  have hown : s.vm.findClass RJ0 = some m.cls := findClass_of_methodNamed B.named
  have hlocks := B.notSynchronized
  have X : Cx p s m args c cJ0_isLatin1_aae02 1 RJ0 wsJ0_isLatin1_aae02 D dX 120 cA ad (EX ad z) := ⟨hx, hb, hml, hown, hts, hK, hj, hE, EX_ok ad z⟩
  have hS : va_S (inA 120 ad) s.heap s.heap [] := va_S.rf
  have hl := lv_entry ([.ref (z.2.2.1 i)]) (n := 1) (Nat.le_of_ble_eq_true rfl)
  rw [show entryFrame m args 1 = entryFrame m ([.ref (z.2.2.1 i)] : List Value).toArray 1 by rw [hargs]]
  rw [lg_entry_eq]
  generalize (lg_sl ([.ref (z.2.2.1 i)]) ++ List.replicate (1 - (lg_sl ([.ref (z.2.2.1 i)])).length) Slot.unset).toArray = ls at hl ⊢
  have hl : lv_has ls 1 [(0, .ref (z.2.2.1 i))] := hl
  obtain ⟨QQ, hQQ⟩ : ∃ Q, Q = MQ below (va_Qi (fun r u => r = res.1 ∧ u = res.2) (fun u t => va_P D vwCl (ww dX 120 cA ad u) t.heap) (inA 120 ad)) args s 0 0 (inA 120 ad) := ⟨_, rfl⟩
  show W p l e (headSpec wsJ0_isLatin1_aae02 rm_J0_isLatin1_aae02).room s m args below meth c s.heap [] 0 0 (MQ below (va_Qi (fun r u => r = res.1 ∧ u = res.2) (fun u t => va_P D vwCl (ww dX 120 cA ad u) t.heap) (inA 120 ad)) args s 0 0 (inA 120 ad)) _
  rw [← hQQ]
  skip
  obtain ⟨H, hH⟩ : ∃ H, H = s.heap := ⟨_, rfl⟩
  obtain ⟨locs, hlc⟩ : ∃ q : List Loc, q = [] := ⟨_, rfl⟩
  have hP : va_P D vwCl (ww dX 120 cA ad σ) s.heap := hP
  have hS : va_S (inA 120 ad) s.heap s.heap [] := hS
  rw [← hlc] at hS ⊢
  rw [show W p l e (headSpec wsJ0_isLatin1_aae02 rm_J0_isLatin1_aae02).room s m args below meth c s.heap locs 0 0 QQ = W p l e (headSpec wsJ0_isLatin1_aae02 rm_J0_isLatin1_aae02).room s m args below meth c H locs 0 0 QQ by rw [hH]]
  have hS : va_S (inA 120 ad) s.heap H locs := by rw [hH]; exact hS
  have hP : va_P D vwCl (ww dX 120 cA ad σ) H := by rw [hH]; exact hP
  clear hH hlc
  have f38 : Cond.fieldLink RJ0 38 "java/lang/String" "COMPACT_STRINGS" "Z" ∈ wsJ0_isLatin1_aae02 := by decide +kernel
  have f15 : Cond.fieldLink RJ0 15 "java/lang/String" "coder" "B" ∈ wsJ0_isLatin1_aae02 := by decide +kernel
  obtain ⟨-, -, -, -, -, -, -, hVK, -, hCS, -⟩ := hE
  refine va_gets hx hb hCS hS X.2.2.2.1 (X.2.2.2.2.1 _ f38) (fun _ h9 => h9) dJ0_isLatin1_aae02_0 ?_
  refine lv_if_eq (tgt := 17) hx hb dJ0_isLatin1_aae02_3 (by decide) (fun c1 => absurd c1 (by decide)) (fun _ => ?_)
  refine lv_aload_n hx hb dJ0_isLatin1_aae02_6 rfl (lv_at hl 0 rfl) ?_
  refine vk_getf hx hb (hVK.1 i hi).2.1 hS X.2.2.2.1 (X.2.2.2.2.1 _ f15) (fun _ h9 => h9) dJ0_isLatin1_aae02_7 ?_
  refine lv_if_ne (tgt := 17) hx hb dJ0_isLatin1_aae02_10 (by decide) (fun c1 => absurd rfl c1) (fun _ => ?_)
  refine lv_iconst (v := 1) hx hb dJ0_isLatin1_aae02_13 (by decide) ?_
  refine lv_goto (tgt := 18) hx hb dJ0_isLatin1_aae02_14 (by decide) ?_
  subst hQQ
  exact x_rz X hr hlocks hP hS (by decide +kernel) hres.symm dJ0_isLatin1_aae02_18
abbrev rm_J0_length_8abf5 : Room := { frames := 1, cells := 0, slots := 0, locals := 20 }
set_option maxRecDepth 100000 in
set_option maxHeartbeats 4000000 in
theorem k_J0_length_8abf5 (l : Launch) (D : va_G) (cA : Nat → ClassId) (ad : Nat → Nat) (z : ZX) (hj : inj 120 ad) (σ : St) (i : Nat) (hi : i < 6) : MXi l D dX 120 cA ad (EX ad z) yJ0_length_8abf5 wsJ0_length_8abf5 rm_J0_length_8abf5 [.ref (z.2.2.1 i)] σ (nI (wdLen.getD i 0), σ) := by
  suffices hm : ∀ res, res = (nI (wdLen.getD i 0), σ) → MXi l D dX 120 cA ad (EX ad z) yJ0_length_8abf5 wsJ0_length_8abf5 rm_J0_length_8abf5 [.ref (z.2.2.1 i)] σ res from hm _ rfl
  intro res hres
  refine Met.ofW (cc := cJ0_length_8abf5) (maxL := 1) (ret := (some .int)) (by decide) rfl ?_
  intro p e s m args below meth c s₁ B hml hv
  obtain ⟨hargs, hP, hK, hE⟩ := hv
  have hx := B.exec
  have hb := B.bytes
  have hr := B.returns
  have hts := atoms_spec (ws := wsJ0_length_8abf5) B.pre
  have hown : s.vm.findClass RJ0 = some m.cls := findClass_of_methodNamed B.named
  have hlocks := B.notSynchronized
  have X : Cx p s m args c cJ0_length_8abf5 1 RJ0 wsJ0_length_8abf5 D dX 120 cA ad (EX ad z) := ⟨hx, hb, hml, hown, hts, hK, hj, hE, EX_ok ad z⟩
  have hS : va_S (inA 120 ad) s.heap s.heap [] := va_S.rf
  have hl := lv_entry ([.ref (z.2.2.1 i)]) (n := 1) (Nat.le_of_ble_eq_true rfl)
  rw [show entryFrame m args 1 = entryFrame m ([.ref (z.2.2.1 i)] : List Value).toArray 1 by rw [hargs]]
  rw [lg_entry_eq]
  generalize (lg_sl ([.ref (z.2.2.1 i)]) ++ List.replicate (1 - (lg_sl ([.ref (z.2.2.1 i)])).length) Slot.unset).toArray = ls at hl ⊢
  have hl : lv_has ls 1 [(0, .ref (z.2.2.1 i))] := hl
  obtain ⟨QQ, hQQ⟩ : ∃ Q, Q = MQ below (va_Qi (fun r u => r = res.1 ∧ u = res.2) (fun u t => va_P D vwCl (ww dX 120 cA ad u) t.heap) (inA 120 ad)) args s 0 0 (inA 120 ad) := ⟨_, rfl⟩
  show W p l e (headSpec wsJ0_length_8abf5 rm_J0_length_8abf5).room s m args below meth c s.heap [] 0 0 (MQ below (va_Qi (fun r u => r = res.1 ∧ u = res.2) (fun u t => va_P D vwCl (ww dX 120 cA ad u) t.heap) (inA 120 ad)) args s 0 0 (inA 120 ad)) _
  rw [← hQQ]
  skip
  obtain ⟨H, hH⟩ : ∃ H, H = s.heap := ⟨_, rfl⟩
  obtain ⟨locs, hlc⟩ : ∃ q : List Loc, q = [] := ⟨_, rfl⟩
  have hP : va_P D vwCl (ww dX 120 cA ad σ) s.heap := hP
  have hS : va_S (inA 120 ad) s.heap s.heap [] := hS
  rw [← hlc] at hS ⊢
  rw [show W p l e (headSpec wsJ0_length_8abf5 rm_J0_length_8abf5).room s m args below meth c s.heap locs 0 0 QQ = W p l e (headSpec wsJ0_length_8abf5 rm_J0_length_8abf5).room s m args below meth c H locs 0 0 QQ by rw [hH]]
  have hS : va_S (inA 120 ad) s.heap H locs := by rw [hH]; exact hS
  have hP : va_P D vwCl (ww dX 120 cA ad σ) H := by rw [hH]; exact hP
  clear hH hlc
  have f9 : Cond.fieldLink RJ0 9 "java/lang/String" "value" "[B" ∈ wsJ0_length_8abf5 := by decide +kernel
  have hVK := hE.2.2.2.2.2.2.2.1
  refine lv_aload_n hx hb dJ0_length_8abf5_0 rfl (lv_at hl 0 rfl) ?_
  refine vk_getf hx hb (hVK.1 i hi).2.2.1 hS X.2.2.2.1 (X.2.2.2.2.1 _ f9) (fun _ h9 => h9) dJ0_length_8abf5_1 ?_
  refine va_tlen hx hb (hVK.1 i hi).2.2.2 hS rfl dJ0_length_8abf5_4 ?_
  refine lv_aload_n hx hb dJ0_length_8abf5_5 rfl (lv_at hl 0 rfl) ?_
  refine x_Ki (rest := [.int (Int32.ofNat (wdLen.getD i 0))]) X hP hS (k_J0_coder_7d493 l D cA ad z hj σ i hi) (vk_recv hVK hi hS) 0 gJ0_length_8abf5_J0_coder_7d493 rfl rfl rfl (by decide +kernel) ⟨Nat.le_of_ble_eq_true rfl, Nat.le_of_ble_eq_true rfl⟩ rfl hl.1 rfl (Nat.le_of_ble_eq_true rfl) dJ0_length_8abf5_6 ⟨Nat.zero_le _, Nat.zero_le _⟩ (fun H locs hP hS => ?_)
  refine lv_ishr hx hb dJ0_length_8abf5_9 ?_
  subst hQQ
  exact x_ri (σ0 := σ) X hr hlocks hP hS (by rw [hres]; show (Int32.ofNat (wdLen.getD i 0) >>> ((0 : Int32) &&& 31), σ) = _; rw [sb_shr0]; rfl) dJ0_length_8abf5_10
abbrev rm_J3_checkIndex_8e157 : Room := { frames := 0, cells := 0, slots := 0, locals := 0 }
set_option maxRecDepth 100000 in
set_option maxHeartbeats 4000000 in
theorem k_J3_checkIndex_n (l : Launch) (D : va_G) (cA : Nat → ClassId) (ad : Nat → Nat) (z : ZX) (hj : inj 120 ad) (σ : St) (a0 a1 : Int32) (h0 : ¬ a0 < 0) (h1 : a0 < a1) : MXi l D dX 120 cA ad (EX ad z) yJ3_checkIndex_8e157 wsJ3_checkIndex_8e157 rm_J3_checkIndex_8e157 [.int a0, .int a1, .null] σ (a0, σ) := by
  obtain ⟨res, hres⟩ : ∃ q, q = (a0, σ) := ⟨_, rfl⟩
  rw [← hres]
  refine Met.ofW (cc := cJ3_checkIndex_8e157) (maxL := 3) (ret := (some .int)) (by decide) rfl ?_
  intro p e s m args below meth c s₁ B hml hv
  obtain ⟨hargs, hP, hK, hE⟩ := hv
  have hx := B.exec
  have hb := B.bytes
  have hr := B.returns
  have hts := atoms_spec (ws := wsJ3_checkIndex_8e157) B.pre
  have hown : s.vm.findClass RJ3 = some m.cls := findClass_of_methodNamed B.named
  have hlocks := B.notSynchronized
  have X : Cx p s m args c cJ3_checkIndex_8e157 3 RJ3 wsJ3_checkIndex_8e157 D dX 120 cA ad (EX ad z) := ⟨hx, hb, hml, hown, hts, hK, hj, hE, EX_ok ad z⟩
  have hS : va_S (inA 120 ad) s.heap s.heap [] := va_S.rf
  have hl := lv_entry ([.int a0, .int a1, .null]) (n := 3) (Nat.le_of_ble_eq_true rfl)
  rw [show entryFrame m args 3 = entryFrame m ([.int a0, .int a1, .null] : List Value).toArray 3 by rw [hargs]]
  rw [lg_entry_eq]
  generalize (lg_sl ([.int a0, .int a1, .null]) ++ List.replicate (3 - (lg_sl ([.int a0, .int a1, .null])).length) Slot.unset).toArray = ls at hl ⊢
  have hl : lv_has ls 3 [(0, .int a0), (1, .int a1), (2, .null)] := hl
  obtain ⟨QQ, hQQ⟩ : ∃ Q, Q = MQ below (va_Qi (fun r u => r = res.1 ∧ u = res.2) (fun u t => va_P D vwCl (ww dX 120 cA ad u) t.heap) (inA 120 ad)) args s 0 0 (inA 120 ad) := ⟨_, rfl⟩
  show W p l e (headSpec wsJ3_checkIndex_8e157 rm_J3_checkIndex_8e157).room s m args below meth c s.heap [] 0 0 (MQ below (va_Qi (fun r u => r = res.1 ∧ u = res.2) (fun u t => va_P D vwCl (ww dX 120 cA ad u) t.heap) (inA 120 ad)) args s 0 0 (inA 120 ad)) _
  rw [← hQQ]
  skip
  obtain ⟨H, hH⟩ : ∃ H, H = s.heap := ⟨_, rfl⟩
  obtain ⟨locs, hlc⟩ : ∃ q : List Loc, q = [] := ⟨_, rfl⟩
  have hP : va_P D vwCl (ww dX 120 cA ad σ) s.heap := hP
  have hS : va_S (inA 120 ad) s.heap s.heap [] := hS
  rw [← hlc] at hS ⊢
  rw [show W p l e (headSpec wsJ3_checkIndex_8e157 rm_J3_checkIndex_8e157).room s m args below meth c s.heap locs 0 0 QQ = W p l e (headSpec wsJ3_checkIndex_8e157 rm_J3_checkIndex_8e157).room s m args below meth c H locs 0 0 QQ by rw [hH]]
  have hS : va_S (inA 120 ad) s.heap H locs := by rw [hH]; exact hS
  have hP : va_P D vwCl (ww dX 120 cA ad σ) H := by rw [hH]; exact hP
  clear hH hlc
  refine lv_iload_n hx hb dJ3_checkIndex_8e157_0 rfl (lv_at hl 0 rfl) ?_
  refine lv_if_lt (tgt := 9) hx hb dJ3_checkIndex_8e157_1 (by decide) (fun c1 => absurd c1 h0) (fun _ => ?_)
  refine lv_iload_n hx hb dJ3_checkIndex_8e157_4 rfl (lv_at hl 0 rfl) ?_
  refine lv_iload_n hx hb dJ3_checkIndex_8e157_5 rfl (lv_at hl 1 rfl) ?_
  refine lv_icmp_lt (tgt := 16) hx hb dJ3_checkIndex_8e157_6 (by decide) (fun _ => ?_) (fun c1 => absurd h1 c1)
  refine lv_iload_n hx hb dJ3_checkIndex_8e157_16 rfl (lv_at hl 0 rfl) ?_
  subst hQQ
  exact x_ri (σ0 := σ) X hr hlocks hP hS hres.symm dJ3_checkIndex_8e157_17
set_option maxRecDepth 100000 in
set_option maxHeartbeats 4000000 in
theorem k_J3_checkIndex_r (l : Launch) (D : va_G) (cA : Nat → ClassId) (ad : Nat → Nat) (z : ZX) (hj : inj 120 ad) (σ : St) (a0 a1 : Int32) (t : Nat) (h0 : ¬ a0 < 0) (h1 : a0 < a1) : MXi l D dX 120 cA ad (EX ad z) yJ3_checkIndex_8e157 wsJ3_checkIndex_8e157 rm_J3_checkIndex_8e157 [.int a0, .int a1, .ref t] σ (a0, σ) := by
  obtain ⟨res, hres⟩ : ∃ q, q = (a0, σ) := ⟨_, rfl⟩
  rw [← hres]
  refine Met.ofW (cc := cJ3_checkIndex_8e157) (maxL := 3) (ret := (some .int)) (by decide) rfl ?_
  intro p e s m args below meth c s₁ B hml hv
  obtain ⟨hargs, hP, hK, hE⟩ := hv
  have hx := B.exec
  have hb := B.bytes
  have hr := B.returns
  have hts := atoms_spec (ws := wsJ3_checkIndex_8e157) B.pre
  have hown : s.vm.findClass RJ3 = some m.cls := findClass_of_methodNamed B.named
  have hlocks := B.notSynchronized
  have X : Cx p s m args c cJ3_checkIndex_8e157 3 RJ3 wsJ3_checkIndex_8e157 D dX 120 cA ad (EX ad z) := ⟨hx, hb, hml, hown, hts, hK, hj, hE, EX_ok ad z⟩
  have hS : va_S (inA 120 ad) s.heap s.heap [] := va_S.rf
  have hl := lv_entry ([.int a0, .int a1, .ref t]) (n := 3) (Nat.le_of_ble_eq_true rfl)
  rw [show entryFrame m args 3 = entryFrame m ([.int a0, .int a1, .ref t] : List Value).toArray 3 by rw [hargs]]
  rw [lg_entry_eq]
  generalize (lg_sl ([.int a0, .int a1, .ref t]) ++ List.replicate (3 - (lg_sl ([.int a0, .int a1, .ref t])).length) Slot.unset).toArray = ls at hl ⊢
  have hl : lv_has ls 3 [(0, .int a0), (1, .int a1), (2, .ref t)] := hl
  obtain ⟨QQ, hQQ⟩ : ∃ Q, Q = MQ below (va_Qi (fun r u => r = res.1 ∧ u = res.2) (fun u t => va_P D vwCl (ww dX 120 cA ad u) t.heap) (inA 120 ad)) args s 0 0 (inA 120 ad) := ⟨_, rfl⟩
  show W p l e (headSpec wsJ3_checkIndex_8e157 rm_J3_checkIndex_8e157).room s m args below meth c s.heap [] 0 0 (MQ below (va_Qi (fun r u => r = res.1 ∧ u = res.2) (fun u t => va_P D vwCl (ww dX 120 cA ad u) t.heap) (inA 120 ad)) args s 0 0 (inA 120 ad)) _
  rw [← hQQ]
  skip
  obtain ⟨H, hH⟩ : ∃ H, H = s.heap := ⟨_, rfl⟩
  obtain ⟨locs, hlc⟩ : ∃ q : List Loc, q = [] := ⟨_, rfl⟩
  have hP : va_P D vwCl (ww dX 120 cA ad σ) s.heap := hP
  have hS : va_S (inA 120 ad) s.heap s.heap [] := hS
  rw [← hlc] at hS ⊢
  rw [show W p l e (headSpec wsJ3_checkIndex_8e157 rm_J3_checkIndex_8e157).room s m args below meth c s.heap locs 0 0 QQ = W p l e (headSpec wsJ3_checkIndex_8e157 rm_J3_checkIndex_8e157).room s m args below meth c H locs 0 0 QQ by rw [hH]]
  have hS : va_S (inA 120 ad) s.heap H locs := by rw [hH]; exact hS
  have hP : va_P D vwCl (ww dX 120 cA ad σ) H := by rw [hH]; exact hP
  clear hH hlc
  refine lv_iload_n hx hb dJ3_checkIndex_8e157_0 rfl (lv_at hl 0 rfl) ?_
  refine lv_if_lt (tgt := 9) hx hb dJ3_checkIndex_8e157_1 (by decide) (fun c1 => absurd c1 h0) (fun _ => ?_)
  refine lv_iload_n hx hb dJ3_checkIndex_8e157_4 rfl (lv_at hl 0 rfl) ?_
  refine lv_iload_n hx hb dJ3_checkIndex_8e157_5 rfl (lv_at hl 1 rfl) ?_
  refine lv_icmp_lt (tgt := 16) hx hb dJ3_checkIndex_8e157_6 (by decide) (fun _ => ?_) (fun c1 => absurd h1 c1)
  refine lv_iload_n hx hb dJ3_checkIndex_8e157_16 rfl (lv_at hl 0 rfl) ?_
  subst hQQ
  exact x_ri (σ0 := σ) X hr hlocks hP hS hres.symm dJ3_checkIndex_8e157_17
abbrev rm_J0_checkIndex_df160 : Room := { frames := 1, cells := 0, slots := 0, locals := 25 }
set_option maxRecDepth 100000 in
set_option maxHeartbeats 4000000 in
theorem k_J0_checkIndex_df160 (l : Launch) (D : va_G) (cA : Nat → ClassId) (ad : Nat → Nat) (z : ZX) (hj : inj 120 ad) (σ : St) (a0 a1 : Int32) (h0 : ¬ a0 < 0) (h1 : a0 < a1) : MXv l D dX 120 cA ad (EX ad z) yJ0_checkIndex_df160 wsJ0_checkIndex_df160 rm_J0_checkIndex_df160 [.int a0, .int a1] σ σ := by
  suffices hm : ∀ res, res = σ → MXv l D dX 120 cA ad (EX ad z) yJ0_checkIndex_df160 wsJ0_checkIndex_df160 rm_J0_checkIndex_df160 [.int a0, .int a1] σ res from hm _ rfl
  intro res hres
  refine Met.ofW (cc := cJ0_checkIndex_df160) (maxL := 2) (ret := none) (by decide) rfl ?_
  intro p e s m args below meth c s₁ B hml hv
  obtain ⟨hargs, hP, hK, hE⟩ := hv
  have hx := B.exec
  have hb := B.bytes
  have hr := B.returns
  have hts := atoms_spec (ws := wsJ0_checkIndex_df160) B.pre
  have hown : s.vm.findClass RJ0 = some m.cls := findClass_of_methodNamed B.named
  have hlocks := B.notSynchronized
  have X : Cx p s m args c cJ0_checkIndex_df160 2 RJ0 wsJ0_checkIndex_df160 D dX 120 cA ad (EX ad z) := ⟨hx, hb, hml, hown, hts, hK, hj, hE, EX_ok ad z⟩
  have hS : va_S (inA 120 ad) s.heap s.heap [] := va_S.rf
  have hl := lv_entry ([.int a0, .int a1]) (n := 2) (Nat.le_of_ble_eq_true rfl)
  rw [show entryFrame m args 2 = entryFrame m ([.int a0, .int a1] : List Value).toArray 2 by rw [hargs]]
  rw [lg_entry_eq]
  generalize (lg_sl ([.int a0, .int a1]) ++ List.replicate (2 - (lg_sl ([.int a0, .int a1])).length) Slot.unset).toArray = ls at hl ⊢
  have hl : lv_has ls 2 [(0, .int a0), (1, .int a1)] := hl
  obtain ⟨QQ, hQQ⟩ : ∃ Q, Q = MQ below (va_Qv (fun u => u = res) (fun u t => va_P D vwCl (ww dX 120 cA ad u) t.heap) (inA 120 ad)) args s 0 0 (inA 120 ad) := ⟨_, rfl⟩
  show W p l e (headSpec wsJ0_checkIndex_df160 rm_J0_checkIndex_df160).room s m args below meth c s.heap [] 0 0 (MQ below (va_Qv (fun u => u = res) (fun u t => va_P D vwCl (ww dX 120 cA ad u) t.heap) (inA 120 ad)) args s 0 0 (inA 120 ad)) _
  rw [← hQQ]
  skip
  obtain ⟨H, hH⟩ : ∃ H, H = s.heap := ⟨_, rfl⟩
  obtain ⟨locs, hlc⟩ : ∃ q : List Loc, q = [] := ⟨_, rfl⟩
  have hP : va_P D vwCl (ww dX 120 cA ad σ) s.heap := hP
  have hS : va_S (inA 120 ad) s.heap s.heap [] := hS
  rw [← hlc] at hS ⊢
  rw [show W p l e (headSpec wsJ0_checkIndex_df160 rm_J0_checkIndex_df160).room s m args below meth c s.heap locs 0 0 QQ = W p l e (headSpec wsJ0_checkIndex_df160 rm_J0_checkIndex_df160).room s m args below meth c H locs 0 0 QQ by rw [hH]]
  have hS : va_S (inA 120 ad) s.heap H locs := by rw [hH]; exact hS
  have hP : va_P D vwCl (ww dX 120 cA ad σ) H := by rw [hH]; exact hP
  clear hH hlc
  have f1 : Cond.fieldLink RJ0 1053 "jdk/internal/util/Preconditions" "SIOOBE_FORMATTER" "Ljava/util/function/BiFunction;" ∈ wsJ0_checkIndex_df160 := by decide +kernel
  have hZq := hE.2.2.2.2.2.2.2.2.2.2
  refine lv_iload_n hx hb dJ0_checkIndex_df160_0 rfl (lv_at hl 0 rfl) ?_
  refine lv_iload_n hx hb dJ0_checkIndex_df160_1 rfl (lv_at hl 1 rfl) ?_
  rcases hZq with hZ | ⟨t, hZ⟩
  · refine va_gets hx hb hZ hS X.2.2.2.1 (X.2.2.2.2.1 _ f1) (fun _ h9 => h9) dJ0_checkIndex_df160_2 ?_
    refine x_Si (rest := []) X hP hS (k_J3_checkIndex_n l D cA ad z hj σ a0 a1 h0 h1) 3 gJ0_checkIndex_df160_J3_checkIndex_8e157 rfl rfl rfl (by decide +kernel) ⟨Nat.le_of_ble_eq_true rfl, Nat.le_of_ble_eq_true rfl⟩ rfl hl.1 rfl (Nat.le_of_ble_eq_true rfl) dJ0_checkIndex_df160_5 ⟨Nat.zero_le _, Nat.zero_le _⟩ (fun H locs hP hS => ?_)
    refine lv_pop hx hb dJ0_checkIndex_df160_8 rfl ?_
    subst hQQ
    exact x_rv X hr hlocks hP hS hres.symm dJ0_checkIndex_df160_9
  · refine va_gets hx hb hZ hS X.2.2.2.1 (X.2.2.2.2.1 _ f1) (fun _ h9 => h9) dJ0_checkIndex_df160_2 ?_
    refine x_Si (rest := []) X hP hS (k_J3_checkIndex_r l D cA ad z hj σ a0 a1 t h0 h1) 3 gJ0_checkIndex_df160_J3_checkIndex_8e157 rfl rfl rfl (by decide +kernel) ⟨Nat.le_of_ble_eq_true rfl, Nat.le_of_ble_eq_true rfl⟩ rfl hl.1 rfl (Nat.le_of_ble_eq_true rfl) dJ0_checkIndex_df160_5 ⟨Nat.zero_le _, Nat.zero_le _⟩ (fun H locs hP hS => ?_)
    refine lv_pop hx hb dJ0_checkIndex_df160_8 rfl ?_
    subst hQQ
    exact x_rv X hr hlocks hP hS hres.symm dJ0_checkIndex_df160_9
theorem wd_lt {i : Nat} {a1 : Int32} (hi : i < 6) (hin : inb a1 (wdLen.getD i 0) = true) : a1 < Int32.ofNat (wdLen.getD i 0) := by
  have hv := inb_vp hin
  have hlt := inb_lt hin
  have hb : wdLen.getD i 0 < 2 ^ 31 := (co_dec (N := 6) (P := fun i => wdLen.getD i 0 < 2 ^ 31) (by decide +kernel) hi)
  obtain ⟨j, hj, rfl⟩ := vp_in_of hv hb
  exact nI_lt hj hb
abbrev rm_J1_charAt_3b067 : Room := { frames := 2, cells := 0, slots := 0, locals := 50 }
set_option maxRecDepth 100000 in
set_option maxHeartbeats 4000000 in
theorem k_J1_charAt_3b067 (l : Launch) (D : va_G) (cA : Nat → ClassId) (ad : Nat → Nat) (z : ZX) (hj : inj 120 ad) (σ : St) (i : Nat) (a1 : Int32) (hi : i < 6) (hin : inb a1 (wdLen.getD i 0) = true) : MXi l D dX 120 cA ad (EX ad z) yJ1_charAt_3b067 wsJ1_charAt_3b067 rm_J1_charAt_3b067 [.ref (z.2.2.2 i), .int a1] σ (chr ((wdByt.getD i []).getD a1.toNatClampNeg 0), σ) := by
  suffices hm : ∀ res, res = (chr ((wdByt.getD i []).getD a1.toNatClampNeg 0), σ) → MXi l D dX 120 cA ad (EX ad z) yJ1_charAt_3b067 wsJ1_charAt_3b067 rm_J1_charAt_3b067 [.ref (z.2.2.2 i), .int a1] σ res from hm _ rfl
  intro res hres
  refine Met.ofW (cc := cJ1_charAt_3b067) (maxL := 2) (ret := (some .char)) (by decide) rfl ?_
  intro p e s m args below meth c s₁ B hml hv
  obtain ⟨hargs, hP, hK, hE⟩ := hv
  have hx := B.exec
  have hb := B.bytes
  have hr := B.returns
  have hts := atoms_spec (ws := wsJ1_charAt_3b067) B.pre
  have hown : s.vm.findClass RJ1 = some m.cls := findClass_of_methodNamed B.named
  have hlocks := B.notSynchronized
  have X : Cx p s m args c cJ1_charAt_3b067 2 RJ1 wsJ1_charAt_3b067 D dX 120 cA ad (EX ad z) := ⟨hx, hb, hml, hown, hts, hK, hj, hE, EX_ok ad z⟩
  have hS : va_S (inA 120 ad) s.heap s.heap [] := va_S.rf
  have hl := lv_entry ([.ref (z.2.2.2 i), .int a1]) (n := 2) (Nat.le_of_ble_eq_true rfl)
  rw [show entryFrame m args 2 = entryFrame m ([.ref (z.2.2.2 i), .int a1] : List Value).toArray 2 by rw [hargs]]
  rw [lg_entry_eq]
  generalize (lg_sl ([.ref (z.2.2.2 i), .int a1]) ++ List.replicate (2 - (lg_sl ([.ref (z.2.2.2 i), .int a1])).length) Slot.unset).toArray = ls at hl ⊢
  have hl : lv_has ls 2 [(0, .ref (z.2.2.2 i)), (1, .int a1)] := hl
  obtain ⟨QQ, hQQ⟩ : ∃ Q, Q = MQ below (va_Qi (fun r u => r = res.1 ∧ u = res.2) (fun u t => va_P D vwCl (ww dX 120 cA ad u) t.heap) (inA 120 ad)) args s 0 0 (inA 120 ad) := ⟨_, rfl⟩
  show W p l e (headSpec wsJ1_charAt_3b067 rm_J1_charAt_3b067).room s m args below meth c s.heap [] 0 0 (MQ below (va_Qi (fun r u => r = res.1 ∧ u = res.2) (fun u t => va_P D vwCl (ww dX 120 cA ad u) t.heap) (inA 120 ad)) args s 0 0 (inA 120 ad)) _
  rw [← hQQ]
  skip
  obtain ⟨H, hH⟩ : ∃ H, H = s.heap := ⟨_, rfl⟩
  obtain ⟨locs, hlc⟩ : ∃ q : List Loc, q = [] := ⟨_, rfl⟩
  have hP : va_P D vwCl (ww dX 120 cA ad σ) s.heap := hP
  have hS : va_S (inA 120 ad) s.heap s.heap [] := hS
  rw [← hlc] at hS ⊢
  rw [show W p l e (headSpec wsJ1_charAt_3b067 rm_J1_charAt_3b067).room s m args below meth c s.heap locs 0 0 QQ = W p l e (headSpec wsJ1_charAt_3b067 rm_J1_charAt_3b067).room s m args below meth c H locs 0 0 QQ by rw [hH]]
  have hS : va_S (inA 120 ad) s.heap H locs := by rw [hH]; exact hS
  have hP : va_P D vwCl (ww dX 120 cA ad σ) H := by rw [hH]; exact hP
  clear hH hlc
  have hVK := hE.2.2.2.2.2.2.2.1
  have hv := inb_vp hin
  have hlt := inb_lt hin
  refine lv_iload_n hx hb dJ1_charAt_3b067_0 rfl (lv_at hl 1 rfl) ?_
  refine lv_aload_n hx hb dJ1_charAt_3b067_1 rfl (lv_at hl 0 rfl) ?_
  refine va_tlen hx hb (hVK.1 i hi).2.2.2 hS rfl dJ1_charAt_3b067_2 ?_
  refine x_Sv (rest := []) X hP hS (k_J0_checkIndex_df160 l D cA ad z hj σ a1 (Int32.ofNat (wdLen.getD i 0)) (fun q => hv (Or.inl q)) (wd_lt hi hin)) 2 gJ1_charAt_3b067_J0_checkIndex_df160 rfl rfl rfl (by decide +kernel) ⟨Nat.le_of_ble_eq_true rfl, Nat.le_of_ble_eq_true rfl⟩ rfl hl.1 rfl (Nat.le_of_ble_eq_true rfl) dJ1_charAt_3b067_3 ⟨Nat.zero_le _, Nat.zero_le _⟩ (fun H locs hP hS => ?_)
  refine lv_aload_n hx hb dJ1_charAt_3b067_6 rfl (lv_at hl 0 rfl) ?_
  refine lv_iload_n hx hb dJ1_charAt_3b067_7 rfl (lv_at hl 1 rfl) ?_
  refine va_tb hx hb (hVK.1 i hi).2.2.2 hS hv rfl dJ1_charAt_3b067_8 ?_
  refine lv_sipush (v := 255) hx hb dJ1_charAt_3b067_9 (by decide) ?_
  refine lv_iand hx hb dJ1_charAt_3b067_12 ?_
  refine lv_i2c hx hb dJ1_charAt_3b067_13 rfl ?_
  subst hQQ
  exact x_rz X hr hlocks hP hS (chr_nar _) hres.symm dJ1_charAt_3b067_14
abbrev rm_J0_charAt_5068e : Room := { frames := 3, cells := 0, slots := 0, locals := 80 }
set_option maxRecDepth 100000 in
set_option maxHeartbeats 4000000 in
theorem k_J0_charAt_5068e (l : Launch) (D : va_G) (cA : Nat → ClassId) (ad : Nat → Nat) (z : ZX) (hj : inj 120 ad) (σ : St) (i : Nat) (a1 : Int32) (hi : i < 6) (hin : inb a1 (wdLen.getD i 0) = true) : MXi l D dX 120 cA ad (EX ad z) yJ0_charAt_5068e wsJ0_charAt_5068e rm_J0_charAt_5068e [.ref (z.2.2.1 i), .int a1] σ (chr ((wdByt.getD i []).getD a1.toNatClampNeg 0), σ) := by
  suffices hm : ∀ res, res = (chr ((wdByt.getD i []).getD a1.toNatClampNeg 0), σ) → MXi l D dX 120 cA ad (EX ad z) yJ0_charAt_5068e wsJ0_charAt_5068e rm_J0_charAt_5068e [.ref (z.2.2.1 i), .int a1] σ res from hm _ rfl
  intro res hres
  refine Met.ofW (cc := cJ0_charAt_5068e) (maxL := 2) (ret := (some .char)) (by decide) rfl ?_
  intro p e s m args below meth c s₁ B hml hv
  obtain ⟨hargs, hP, hK, hE⟩ := hv
  have hx := B.exec
  have hb := B.bytes
  have hr := B.returns
  have hts := atoms_spec (ws := wsJ0_charAt_5068e) B.pre
  have hown : s.vm.findClass RJ0 = some m.cls := findClass_of_methodNamed B.named
  have hlocks := B.notSynchronized
  have X : Cx p s m args c cJ0_charAt_5068e 2 RJ0 wsJ0_charAt_5068e D dX 120 cA ad (EX ad z) := ⟨hx, hb, hml, hown, hts, hK, hj, hE, EX_ok ad z⟩
  have hS : va_S (inA 120 ad) s.heap s.heap [] := va_S.rf
  have hl := lv_entry ([.ref (z.2.2.1 i), .int a1]) (n := 2) (Nat.le_of_ble_eq_true rfl)
  rw [show entryFrame m args 2 = entryFrame m ([.ref (z.2.2.1 i), .int a1] : List Value).toArray 2 by rw [hargs]]
  rw [lg_entry_eq]
  generalize (lg_sl ([.ref (z.2.2.1 i), .int a1]) ++ List.replicate (2 - (lg_sl ([.ref (z.2.2.1 i), .int a1])).length) Slot.unset).toArray = ls at hl ⊢
  have hl : lv_has ls 2 [(0, .ref (z.2.2.1 i)), (1, .int a1)] := hl
  obtain ⟨QQ, hQQ⟩ : ∃ Q, Q = MQ below (va_Qi (fun r u => r = res.1 ∧ u = res.2) (fun u t => va_P D vwCl (ww dX 120 cA ad u) t.heap) (inA 120 ad)) args s 0 0 (inA 120 ad) := ⟨_, rfl⟩
  show W p l e (headSpec wsJ0_charAt_5068e rm_J0_charAt_5068e).room s m args below meth c s.heap [] 0 0 (MQ below (va_Qi (fun r u => r = res.1 ∧ u = res.2) (fun u t => va_P D vwCl (ww dX 120 cA ad u) t.heap) (inA 120 ad)) args s 0 0 (inA 120 ad)) _
  rw [← hQQ]
  skip
  obtain ⟨H, hH⟩ : ∃ H, H = s.heap := ⟨_, rfl⟩
  obtain ⟨locs, hlc⟩ : ∃ q : List Loc, q = [] := ⟨_, rfl⟩
  have hP : va_P D vwCl (ww dX 120 cA ad σ) s.heap := hP
  have hS : va_S (inA 120 ad) s.heap s.heap [] := hS
  rw [← hlc] at hS ⊢
  rw [show W p l e (headSpec wsJ0_charAt_5068e rm_J0_charAt_5068e).room s m args below meth c s.heap locs 0 0 QQ = W p l e (headSpec wsJ0_charAt_5068e rm_J0_charAt_5068e).room s m args below meth c H locs 0 0 QQ by rw [hH]]
  have hS : va_S (inA 120 ad) s.heap H locs := by rw [hH]; exact hS
  have hP : va_P D vwCl (ww dX 120 cA ad σ) H := by rw [hH]; exact hP
  clear hH hlc
  have f9 : Cond.fieldLink RJ0 9 "java/lang/String" "value" "[B" ∈ wsJ0_charAt_5068e := by decide +kernel
  have hVK := hE.2.2.2.2.2.2.2.1
  refine lv_aload_n hx hb dJ0_charAt_5068e_0 rfl (lv_at hl 0 rfl) ?_
  refine x_Ki (rest := []) X hP hS (k_J0_isLatin1_aae02 l D cA ad z hj σ i hi) (vk_recv hVK hi hS) 0 gJ0_charAt_5068e_J0_isLatin1_aae02 rfl rfl rfl (by decide +kernel) ⟨Nat.le_of_ble_eq_true rfl, Nat.le_of_ble_eq_true rfl⟩ rfl hl.1 rfl (Nat.le_of_ble_eq_true rfl) dJ0_charAt_5068e_1 ⟨Nat.zero_le _, Nat.zero_le _⟩ (fun H locs hP hS => ?_)
  refine lv_if_eq (tgt := 16) hx hb dJ0_charAt_5068e_4 (by decide) (fun c1 => absurd (show (1 : Int32) = 0 from c1) (by decide)) (fun _ => ?_)
  refine lv_aload_n hx hb dJ0_charAt_5068e_7 rfl (lv_at hl 0 rfl) ?_
  refine vk_getf hx hb (hVK.1 i hi).2.2.1 hS X.2.2.2.1 (X.2.2.2.2.1 _ f9) (fun _ h9 => h9) dJ0_charAt_5068e_8 ?_
  refine lv_iload_n hx hb dJ0_charAt_5068e_11 rfl (lv_at hl 1 rfl) ?_
  refine x_Si (rest := []) X hP hS (k_J1_charAt_3b067 l D cA ad z hj σ i a1 hi hin) 2 gJ0_charAt_5068e_J1_charAt_3b067 rfl rfl rfl (by decide +kernel) ⟨Nat.le_of_ble_eq_true rfl, Nat.le_of_ble_eq_true rfl⟩ rfl hl.1 rfl (Nat.le_of_ble_eq_true rfl) dJ0_charAt_5068e_12 ⟨Nat.zero_le _, Nat.zero_le _⟩ (fun H locs hP hS => ?_)
  subst hQQ
  exact x_rz X hr hlocks hP hS (chr_nar _) hres.symm dJ0_charAt_5068e_15
def b_8_isWord_20 (n : Nat) (i1 : Nat) (t4 : Int32 × St) : Option ((Int32 × St) ⊕ ((Int32 × St) ⊕ (Int32 × St))) :=
  if (nI (wdLen.getD i1 0)) ≤ t4.1 then
    some (.inr (.inr (t4.1, t4.2)))
  else
    nm ((t4.2.1 7 3) + t4.1) fun v6 =>
    gd (inb v6 600) <| gd (inb t4.1 (wdLen.getD i1 0)) <| if (t4.2.1 8 v6.toNatClampNeg) = (chr ((wdByt.getD i1 []).getD t4.1.toNatClampNeg 0)) then
      nm (t4.1 + 1) fun v10 =>
      some (.inl (v10, t4.2))
    else
      some (.inr (.inl (0, t4.2)))
def f_8_isWord (n : Nat) (σ : St) (i1 : Nat) : Option (Int32 × St) :=
  nm ((σ.1 7 4) - (σ.1 7 3)) fun v1 =>
  if v1 = (nI (wdLen.getD i1 0)) then
    (lq (b_8_isWord_20 n i1) n (0, σ)).bind <| Sum.elim (fun rr => some rr) fun t1011 =>
    some (1, t1011.2)
  else
    some (0, σ)
abbrev rm_8_isWord : Room := { frames := 4, cells := 0, slots := 0, locals := 101 }
set_option maxRecDepth 100000 in
set_option maxHeartbeats 4000000 in
theorem k_8_isWord (l : Launch) (D : va_G) (cA : Nat → ClassId) (ad : Nat → Nat) (z : ZX) (hj : inj 120 ad) (n : Nat) (σ : St) (i1 : Nat) (h1 : i1 < 6) {res : Int32 × St} (h : f_8_isWord n σ i1 = some res) : MXi l D dX 120 cA ad (EX ad z) yX8_isWord wsX8_isWord rm_8_isWord [.ref (ad 7), .ref (z.2.2.1 i1)] σ res := by
  refine Met.ofW (cc := cX8_isWord) (maxL := 3) (ret := (some .boolean)) (by decide) rfl ?_
  intro p e s m args below meth c s₁ B hml hv
  obtain ⟨hargs, hP, hK, hE⟩ := hv
  have hx := B.exec
  have hb := B.bytes
  have hr := B.returns
  have hts := atoms_spec (ws := wsX8_isWord) B.pre
  have hown : s.vm.findClass RX8 = some m.cls := findClass_of_methodNamed B.named
  have hlocks := B.notSynchronized
  have X : Cx p s m args c cX8_isWord 3 RX8 wsX8_isWord D dX 120 cA ad (EX ad z) := ⟨hx, hb, hml, hown, hts, hK, hj, hE, EX_ok ad z⟩
  have hS : va_S (inA 120 ad) s.heap s.heap [] := va_S.rf
  have hl := lv_entry ([.ref (ad 7), .ref (z.2.2.1 i1)]) (n := 3) (Nat.le_of_ble_eq_true rfl)
  rw [show entryFrame m args 3 = entryFrame m ([.ref (ad 7), .ref (z.2.2.1 i1)] : List Value).toArray 3 by rw [hargs]]
  rw [lg_entry_eq]
  generalize (lg_sl ([.ref (ad 7), .ref (z.2.2.1 i1)]) ++ List.replicate (3 - (lg_sl ([.ref (ad 7), .ref (z.2.2.1 i1)])).length) Slot.unset).toArray = ls at hl ⊢
  have hl : lv_has ls 3 [(0, .ref (ad 7)), (1, .ref (z.2.2.1 i1))] := hl
  obtain ⟨QQ, hQQ⟩ : ∃ Q, Q = MQ below (va_Qi (fun r u => r = res.1 ∧ u = res.2) (fun u t => va_P D vwCl (ww dX 120 cA ad u) t.heap) (inA 120 ad)) args s 0 0 (inA 120 ad) := ⟨_, rfl⟩
  show W p l e (headSpec wsX8_isWord rm_8_isWord).room s m args below meth c s.heap [] 0 0 (MQ below (va_Qi (fun r u => r = res.1 ∧ u = res.2) (fun u t => va_P D vwCl (ww dX 120 cA ad u) t.heap) (inA 120 ad)) args s 0 0 (inA 120 ad)) _
  rw [← hQQ]
  have in8 : ∀ w ∈ wsX80, w ∈ wsX8_isWord := by decide +kernel
  have lk25 : Cond.fieldLink RX8 25 "CureTown$Tape" "behind" "I" ∈ wsX8_isWord := by decide +kernel
  have lk22 : Cond.fieldLink RX8 22 "CureTown$Tape" "place" "I" ∈ wsX8_isWord := by decide +kernel
  have lk9 : Cond.fieldLink RX8 9 "CureTown$Tape" "bytes" "[B" ∈ wsX8_isWord := by decide +kernel
  unfold f_8_isWord at h
  obtain ⟨H, hH⟩ : ∃ H, H = s.heap := ⟨_, rfl⟩
  obtain ⟨locs, hlc⟩ : ∃ q : List Loc, q = [] := ⟨_, rfl⟩
  have hP : va_P D vwCl (ww dX 120 cA ad σ) s.heap := hP
  have hS : va_S (inA 120 ad) s.heap s.heap [] := hS
  rw [← hlc] at hS ⊢
  rw [show W p l e (headSpec wsX8_isWord rm_8_isWord).room s m args below meth c s.heap locs 0 0 QQ = W p l e (headSpec wsX8_isWord rm_8_isWord).room s m args below meth c H locs 0 0 QQ by rw [hH]]
  have hS : va_S (inA 120 ad) s.heap H locs := by rw [hH]; exact hS
  have hP : va_P D vwCl (ww dX 120 cA ad σ) H := by rw [hH]; exact hP
  clear hH hlc
  refine lv_aload_n hx hb dX8_isWord_0 rfl (lv_at hl 0 rfl) ?_
  refine x_gi X hP (j := 4) (by decide) (dX_7) rfl rfl (by decide) in8 lk25 dX8_isWord_1 ?_
  refine lv_aload_n hx hb dX8_isWord_4 rfl (lv_at hl 0 rfl) ?_
  refine x_gi X hP (j := 3) (by decide) (dX_7) rfl rfl (by decide) in8 lk22 dX8_isWord_5 ?_
  refine lv_isub hx hb dX8_isWord_8 ?_
  refine lv_topi (fun v1 ev1 => ?_)
  have h := nm_some ev1 h
  refine lv_aload_n hx hb dX8_isWord_9 rfl (lv_at hl 1 rfl) ?_
  refine x_Ki (rest := [.int v1]) X hP hS (k_J0_length_8abf5 l D cA ad z hj σ i1 h1) (vk_recv hE.2.2.2.2.2.2.2.1 h1 hS) 0 gX8_isWord_J0_length_8abf5 rfl rfl rfl (by decide +kernel) ⟨Nat.le_of_ble_eq_true rfl, Nat.le_of_ble_eq_true rfl⟩ rfl hl.1 rfl (Nat.le_of_ble_eq_true rfl) dX8_isWord_10 ⟨Nat.zero_le _, Nat.zero_le _⟩ (fun H locs hP hS => ?_)
  refine lv_icmp_eq (tgt := 18) hx hb dX8_isWord_13 (by decide) (fun c2 => ?_) (fun c2 => ?_)
  · have h := it_t c2 h
    refine lv_iconst (v := 0) hx hb dX8_isWord_18 (by decide) ?_
    refine lv_istore_n (lv' := [(2, .int 0), (0, .ref (ad 7)), (1, .ref (z.2.2.1 i1))]) hx hb dX8_isWord_19 rfl hl (by decide) rfl (fun ls hl => ?_)
    obtain ⟨y1012, o1013, h⟩ := bd_some h
    refine lq_rule (P := fun t4 : Int32 × St => ∀ (H : Heap) (locs : List Loc) (ls : Array Slot), va_P D vwCl (ww dX 120 cA ad t4.2) H → va_S (inA 120 ad) s.heap H locs → lv_has ls 3 [(0, .ref (ad 7)), (1, .ref (z.2.2.1 i1)), (2, .int t4.1)] → W p l e (headSpec wsX8_isWord rm_8_isWord).room s m args below meth c H locs 0 0 QQ (F0 m 20 ls [])) (X := fun y1012 : (Int32 × St) ⊕ (Int32 × St) => Sum.elim (fun rr => rr = res) (fun t1011 => ∀ (H : Heap) (locs : List Loc) (ls : Array Slot), va_P D vwCl (ww dX 120 cA ad t1011.2) H → va_S (inA 120 ad) s.heap H locs → lv_has ls 3 [(0, .ref (ad 7)), (1, .ref (z.2.2.1 i1)), (2, .int t1011.1)] → W p l e (headSpec wsX8_isWord rm_8_isWord).room s m args below meth c H locs 0 0 QQ (F0 m 55 ls [])) y1012) ?_ n _ _ o1013 ?_ H locs ls hP hS (lv_sub hl [1, 2, 0] rfl)
    · clear h hP hS hl
      intro t4 rL3 h hCL3 hEL3 H locs ls hP hS hl
      unfold b_8_isWord_20 at h
      refine lv_iload_n hx hb dX8_isWord_20 rfl (lv_at hl 2 rfl) ?_
      refine lv_aload_n hx hb dX8_isWord_21 rfl (lv_at hl 1 rfl) ?_
      refine x_Ki (rest := [.int t4.1]) X hP hS (k_J0_length_8abf5 l D cA ad z hj t4.2 i1 h1) (vk_recv hE.2.2.2.2.2.2.2.1 h1 hS) 0 gX8_isWord_J0_length_8abf5 rfl rfl rfl (by decide +kernel) ⟨Nat.le_of_ble_eq_true rfl, Nat.le_of_ble_eq_true rfl⟩ rfl hl.1 rfl (Nat.le_of_ble_eq_true rfl) dX8_isWord_22 ⟨Nat.zero_le _, Nat.zero_le _⟩ (fun H locs hP hS => ?_)
      refine lv_icmp_ge (tgt := 55) hx hb dX8_isWord_25 (by decide) (fun c5 => ?_) (fun c5 => ?_)
      · have h := it_t c5 h
        exact hEL3 _ (Option.some.inj h).symm H locs ls hP hS (lv_sub hl [0, 1, 2] rfl)
      · have h := it_f c5 h
        refine lv_aload_n hx hb dX8_isWord_28 rfl (lv_at hl 0 rfl) ?_
        refine x_gr X hP (j := 0) (by decide) (dX_7) rfl rfl (by decide) in8 lk9 dX8_isWord_29 ?_
        refine lv_aload_n hx hb dX8_isWord_32 rfl (lv_at hl 0 rfl) ?_
        refine x_gi X hP (j := 3) (by decide) (dX_7) rfl rfl (by decide) in8 lk22 dX8_isWord_33 ?_
        refine lv_iload_n hx hb dX8_isWord_36 rfl (lv_at hl 2 rfl) ?_
        refine lv_iadd hx hb dX8_isWord_37 ?_
        refine lv_topi (fun v6 ev6 => ?_)
        have h := nm_some ev6 h
        obtain ⟨g7, h⟩ := gd_some h
        refine x_ab X hP (by decide) (dX_8) g7 dX8_isWord_38 ?_
        refine lv_aload_n hx hb dX8_isWord_39 rfl (lv_at hl 1 rfl) ?_
        refine lv_iload_n hx hb dX8_isWord_40 rfl (lv_at hl 2 rfl) ?_
        obtain ⟨g8, h⟩ := gd_some h
        refine x_Ki (rest := [.int (t4.2.1 8 v6.toNatClampNeg)]) X hP hS (k_J0_charAt_5068e l D cA ad z hj t4.2 i1 t4.1 h1 g8) (vk_recv hE.2.2.2.2.2.2.2.1 h1 hS) 1 gX8_isWord_J0_charAt_5068e rfl rfl rfl (by decide +kernel) ⟨Nat.le_of_ble_eq_true rfl, Nat.le_of_ble_eq_true rfl⟩ rfl hl.1 rfl (Nat.le_of_ble_eq_true rfl) dX8_isWord_41 ⟨Nat.zero_le _, Nat.zero_le _⟩ (fun H locs hP hS => ?_)
        refine lv_icmp_eq (tgt := 49) hx hb dX8_isWord_44 (by decide) (fun c9 => ?_) (fun c9 => ?_)
        · have h := it_t c9 h
          obtain ⟨v10, ev10⟩ : ∃ y : Int32, y = t4.1 + 1 := ⟨_, rfl⟩
          have h := nm_some ev10 h
          refine lv_iinc (v := v10) (lv' := [(2, .int v10), (0, .ref (ad 7)), (1, .ref (z.2.2.1 i1))]) hx hb dX8_isWord_49 hl (k := 2) rfl (by rw [ev10]; rfl) (by decide) rfl (fun ls hl => ?_)
          refine lv_goto (tgt := 20) hx hb dX8_isWord_52 (by decide) ?_
          exact hCL3 _ (Option.some.inj h).symm H locs ls hP hS (lv_sub hl [1, 2, 0] rfl)
        · have h := it_f c9 h
          refine lv_iconst (v := 0) hx hb dX8_isWord_47 (by decide) ?_
          subst hQQ
          exact x_rz X hr hlocks hP hS (by decide +kernel) (hEL3 _ (Option.some.inj h).symm) dX8_isWord_48
    · rcases y1012 with rr | t1011
      · have h := el_l h
        exact (Option.some.inj h)
      · have h := el_r h
        intro H locs ls hP hS hl
        refine lv_iconst (v := 1) hx hb dX8_isWord_55 (by decide) ?_
        subst hQQ
        exact x_rz X hr hlocks hP hS (by decide +kernel) (Option.some.inj h) dX8_isWord_56
  · have h := it_f c2 h
    refine lv_iconst (v := 0) hx hb dX8_isWord_16 (by decide) ?_
    subst hQQ
    exact x_rz X hr hlocks hP hS (by decide +kernel) (Option.some.inj h) dX8_isWord_17
def f_8_wordToken (n : Nat) (σ : St)  : Option (Int32 × St) :=
  (f_8_isWord n σ 0).bind fun r1 =>
  if r1.1 = 0 then
    (f_8_isWord n r1.2 1).bind fun r4 =>
    if r4.1 = 0 then
      (f_8_isWord n r4.2 2).bind fun r7 =>
      if r7.1 = 0 then
        (f_8_isWord n r7.2 3).bind fun r10 =>
        if r10.1 = 0 then
          (f_8_isWord n r10.2 4).bind fun r13 =>
          if r13.1 = 0 then
            (f_8_isWord n r13.2 5).bind fun r16 =>
            if r16.1 = 0 then
              some (6, r16.2)
            else
              some (5, r16.2)
          else
            some (4, r13.2)
        else
          some (3, r10.2)
      else
        some (2, r7.2)
    else
      some (1, r4.2)
  else
    some (0, r1.2)
abbrev rm_8_wordToken : Room := { frames := 5, cells := 0, slots := 0, locals := 123 }
set_option maxRecDepth 100000 in
set_option maxHeartbeats 4000000 in
theorem k_8_wordToken (l : Launch) (D : va_G) (cA : Nat → ClassId) (ad : Nat → Nat) (z : ZX) (hj : inj 120 ad) (n : Nat) (σ : St)   {res : Int32 × St} (h : f_8_wordToken n σ  = some res) : MXi l D dX 120 cA ad (EX ad z) yX8_wordToken wsX8_wordToken rm_8_wordToken [.ref (ad 7)] σ res := by
  refine Met.ofW (cc := cX8_wordToken) (maxL := 1) (ret := (some .int)) (by decide) rfl ?_
  intro p e s m args below meth c s₁ B hml hv
  obtain ⟨hargs, hP, hK, hE⟩ := hv
  have hx := B.exec
  have hb := B.bytes
  have hr := B.returns
  have hts := atoms_spec (ws := wsX8_wordToken) B.pre
  have hown : s.vm.findClass RX8 = some m.cls := findClass_of_methodNamed B.named
  have hlocks := B.notSynchronized
  have X : Cx p s m args c cX8_wordToken 1 RX8 wsX8_wordToken D dX 120 cA ad (EX ad z) := ⟨hx, hb, hml, hown, hts, hK, hj, hE, EX_ok ad z⟩
  have hS : va_S (inA 120 ad) s.heap s.heap [] := va_S.rf
  have hl := lv_entry ([.ref (ad 7)]) (n := 1) (Nat.le_of_ble_eq_true rfl)
  rw [show entryFrame m args 1 = entryFrame m ([.ref (ad 7)] : List Value).toArray 1 by rw [hargs]]
  rw [lg_entry_eq]
  generalize (lg_sl ([.ref (ad 7)]) ++ List.replicate (1 - (lg_sl ([.ref (ad 7)])).length) Slot.unset).toArray = ls at hl ⊢
  have hl : lv_has ls 1 [(0, .ref (ad 7))] := hl
  obtain ⟨QQ, hQQ⟩ : ∃ Q, Q = MQ below (va_Qi (fun r u => r = res.1 ∧ u = res.2) (fun u t => va_P D vwCl (ww dX 120 cA ad u) t.heap) (inA 120 ad)) args s 0 0 (inA 120 ad) := ⟨_, rfl⟩
  show W p l e (headSpec wsX8_wordToken rm_8_wordToken).room s m args below meth c s.heap [] 0 0 (MQ below (va_Qi (fun r u => r = res.1 ∧ u = res.2) (fun u t => va_P D vwCl (ww dX 120 cA ad u) t.heap) (inA 120 ad)) args s 0 0 (inA 120 ad)) _
  rw [← hQQ]
  unfold f_8_wordToken at h
  obtain ⟨H, hH⟩ : ∃ H, H = s.heap := ⟨_, rfl⟩
  obtain ⟨locs, hlc⟩ : ∃ q : List Loc, q = [] := ⟨_, rfl⟩
  have hP : va_P D vwCl (ww dX 120 cA ad σ) s.heap := hP
  have hS : va_S (inA 120 ad) s.heap s.heap [] := hS
  rw [← hlc] at hS ⊢
  rw [show W p l e (headSpec wsX8_wordToken rm_8_wordToken).room s m args below meth c s.heap locs 0 0 QQ = W p l e (headSpec wsX8_wordToken rm_8_wordToken).room s m args below meth c H locs 0 0 QQ by rw [hH]]
  have hS : va_S (inA 120 ad) s.heap H locs := by rw [hH]; exact hS
  have hP : va_P D vwCl (ww dX 120 cA ad σ) H := by rw [hH]; exact hP
  clear hH hlc
  refine lv_aload_n hx hb dX8_wordToken_0 rfl (lv_at hl 0 rfl) ?_
  refine va_ldcS (index := 58) (tx := "glass") hx hb X.2.2.2.1 (show vk_R RX8 58 "glass" (z.2.2.1 0) s from hE.2.2.2.2.2.2.2.2.1 0 (by decide)) dX8_wordToken_1 ?_
  obtain ⟨r1, k2, h⟩ := bd_some h
  refine x_Vi (rest := []) X hP hS (k_8_isWord l D cA ad z hj n σ 0 (by decide) k2) (by decide) (dX_7) rfl 1 gX8_wordToken_X8_isWord rfl rfl rfl (by decide +kernel) ⟨Nat.le_of_ble_eq_true rfl, Nat.le_of_ble_eq_true rfl⟩ rfl hl.1 rfl (Nat.le_of_ble_eq_true rfl) dX8_wordToken_3 ⟨Nat.zero_le _, Nat.zero_le _⟩ (fun H locs hP hS => ?_)
  refine lv_if_eq (tgt := 11) hx hb dX8_wordToken_6 (by decide) (fun c3 => ?_) (fun c3 => ?_)
  · have h := it_t c3 h
    refine lv_aload_n hx hb dX8_wordToken_11 rfl (lv_at hl 0 rfl) ?_
    refine va_ldcS (index := 64) (tx := "bath") hx hb X.2.2.2.1 (show vk_R RX8 64 "bath" (z.2.2.1 1) s from hE.2.2.2.2.2.2.2.2.1 1 (by decide)) dX8_wordToken_12 ?_
    obtain ⟨r4, k5, h⟩ := bd_some h
    refine x_Vi (rest := []) X hP hS (k_8_isWord l D cA ad z hj n r1.2 1 (by decide) k5) (by decide) (dX_7) rfl 1 gX8_wordToken_X8_isWord rfl rfl rfl (by decide +kernel) ⟨Nat.le_of_ble_eq_true rfl, Nat.le_of_ble_eq_true rfl⟩ rfl hl.1 rfl (Nat.le_of_ble_eq_true rfl) dX8_wordToken_14 ⟨Nat.zero_le _, Nat.zero_le _⟩ (fun H locs hP hS => ?_)
    refine lv_if_eq (tgt := 22) hx hb dX8_wordToken_17 (by decide) (fun c6 => ?_) (fun c6 => ?_)
    · have h := it_t c6 h
      refine lv_aload_n hx hb dX8_wordToken_22 rfl (lv_at hl 0 rfl) ?_
      refine va_ldcS (index := 66) (tx := "rest") hx hb X.2.2.2.1 (show vk_R RX8 66 "rest" (z.2.2.1 2) s from hE.2.2.2.2.2.2.2.2.1 2 (by decide)) dX8_wordToken_23 ?_
      obtain ⟨r7, k8, h⟩ := bd_some h
      refine x_Vi (rest := []) X hP hS (k_8_isWord l D cA ad z hj n r4.2 2 (by decide) k8) (by decide) (dX_7) rfl 1 gX8_wordToken_X8_isWord rfl rfl rfl (by decide +kernel) ⟨Nat.le_of_ble_eq_true rfl, Nat.le_of_ble_eq_true rfl⟩ rfl hl.1 rfl (Nat.le_of_ble_eq_true rfl) dX8_wordToken_25 ⟨Nat.zero_le _, Nat.zero_le _⟩ (fun H locs hP hS => ?_)
      refine lv_if_eq (tgt := 33) hx hb dX8_wordToken_28 (by decide) (fun c9 => ?_) (fun c9 => ?_)
      · have h := it_t c9 h
        refine lv_aload_n hx hb dX8_wordToken_33 rfl (lv_at hl 0 rfl) ?_
        refine va_ldcS (index := 68) (tx := "until") hx hb X.2.2.2.1 (show vk_R RX8 68 "until" (z.2.2.1 3) s from hE.2.2.2.2.2.2.2.2.1 3 (by decide)) dX8_wordToken_34 ?_
        obtain ⟨r10, k11, h⟩ := bd_some h
        refine x_Vi (rest := []) X hP hS (k_8_isWord l D cA ad z hj n r7.2 3 (by decide) k11) (by decide) (dX_7) rfl 1 gX8_wordToken_X8_isWord rfl rfl rfl (by decide +kernel) ⟨Nat.le_of_ble_eq_true rfl, Nat.le_of_ble_eq_true rfl⟩ rfl hl.1 rfl (Nat.le_of_ble_eq_true rfl) dX8_wordToken_36 ⟨Nat.zero_le _, Nat.zero_le _⟩ (fun H locs hP hS => ?_)
        refine lv_if_eq (tgt := 44) hx hb dX8_wordToken_39 (by decide) (fun c12 => ?_) (fun c12 => ?_)
        · have h := it_t c12 h
          refine lv_aload_n hx hb dX8_wordToken_44 rfl (lv_at hl 0 rfl) ?_
          refine va_ldcS (index := 70) (tx := "each") hx hb X.2.2.2.1 (show vk_R RX8 70 "each" (z.2.2.1 4) s from hE.2.2.2.2.2.2.2.2.1 4 (by decide)) dX8_wordToken_45 ?_
          obtain ⟨r13, k14, h⟩ := bd_some h
          refine x_Vi (rest := []) X hP hS (k_8_isWord l D cA ad z hj n r10.2 4 (by decide) k14) (by decide) (dX_7) rfl 1 gX8_wordToken_X8_isWord rfl rfl rfl (by decide +kernel) ⟨Nat.le_of_ble_eq_true rfl, Nat.le_of_ble_eq_true rfl⟩ rfl hl.1 rfl (Nat.le_of_ble_eq_true rfl) dX8_wordToken_47 ⟨Nat.zero_le _, Nat.zero_le _⟩ (fun H locs hP hS => ?_)
          refine lv_if_eq (tgt := 55) hx hb dX8_wordToken_50 (by decide) (fun c15 => ?_) (fun c15 => ?_)
          · have h := it_t c15 h
            refine lv_aload_n hx hb dX8_wordToken_55 rfl (lv_at hl 0 rfl) ?_
            refine va_ldcS (index := 72) (tx := "cure") hx hb X.2.2.2.1 (show vk_R RX8 72 "cure" (z.2.2.1 5) s from hE.2.2.2.2.2.2.2.2.1 5 (by decide)) dX8_wordToken_56 ?_
            obtain ⟨r16, k17, h⟩ := bd_some h
            refine x_Vi (rest := []) X hP hS (k_8_isWord l D cA ad z hj n r13.2 5 (by decide) k17) (by decide) (dX_7) rfl 1 gX8_wordToken_X8_isWord rfl rfl rfl (by decide +kernel) ⟨Nat.le_of_ble_eq_true rfl, Nat.le_of_ble_eq_true rfl⟩ rfl hl.1 rfl (Nat.le_of_ble_eq_true rfl) dX8_wordToken_58 ⟨Nat.zero_le _, Nat.zero_le _⟩ (fun H locs hP hS => ?_)
            refine lv_if_eq (tgt := 68) hx hb dX8_wordToken_61 (by decide) (fun c18 => ?_) (fun c18 => ?_)
            · have h := it_t c18 h
              refine lv_bipush (v := 6) hx hb dX8_wordToken_68 (by decide) ?_
              subst hQQ
              exact x_ri (σ0 := (fun _ _ => 0, fun _ _ => 0)) X hr hlocks hP hS (Option.some.inj h) dX8_wordToken_70
            · have h := it_f c18 h
              refine lv_iconst (v := 5) hx hb dX8_wordToken_64 (by decide) ?_
              refine lv_goto (tgt := 70) hx hb dX8_wordToken_65 (by decide) ?_
              subst hQQ
              exact x_ri (σ0 := (fun _ _ => 0, fun _ _ => 0)) X hr hlocks hP hS (Option.some.inj h) dX8_wordToken_70
          · have h := it_f c15 h
            refine lv_iconst (v := 4) hx hb dX8_wordToken_53 (by decide) ?_
            subst hQQ
            exact x_ri (σ0 := (fun _ _ => 0, fun _ _ => 0)) X hr hlocks hP hS (Option.some.inj h) dX8_wordToken_54
        · have h := it_f c12 h
          refine lv_iconst (v := 3) hx hb dX8_wordToken_42 (by decide) ?_
          subst hQQ
          exact x_ri (σ0 := (fun _ _ => 0, fun _ _ => 0)) X hr hlocks hP hS (Option.some.inj h) dX8_wordToken_43
      · have h := it_f c9 h
        refine lv_iconst (v := 2) hx hb dX8_wordToken_31 (by decide) ?_
        subst hQQ
        exact x_ri (σ0 := (fun _ _ => 0, fun _ _ => 0)) X hr hlocks hP hS (Option.some.inj h) dX8_wordToken_32
    · have h := it_f c6 h
      refine lv_iconst (v := 1) hx hb dX8_wordToken_20 (by decide) ?_
      subst hQQ
      exact x_ri (σ0 := (fun _ _ => 0, fun _ _ => 0)) X hr hlocks hP hS (Option.some.inj h) dX8_wordToken_21
  · have h := it_f c3 h
    refine lv_iconst (v := 0) hx hb dX8_wordToken_9 (by decide) ?_
    subst hQQ
    exact x_ri (σ0 := (fun _ _ => 0, fun _ _ => 0)) X hr hlocks hP hS (Option.some.inj h) dX8_wordToken_10
def j_8_readLetters_56 (n : Nat) (w0_ : Int32) (σ : St) : Option ((Int32 × St) ⊕ (Int32 × St)) :=
  nm ((σ.1 7 6) * 27) fun v11 =>
  gd (inb (σ.1 7 4) 600) <| nm ((σ.1 8 (σ.1 7 4).toNatClampNeg) - 97) fun v13 =>
  nm (v13 + 1) fun v14 =>
  nm (v11 + v14) fun v15 =>
  nm (si σ 7 6 v15) fun σ16 =>
  nm ((σ16.1 7 4) + 1) fun v17 =>
  nm (si σ16 7 4 v17) fun σ18 =>
  some (.inl (w0_, σ18))
def b_8_readLetters_7 (n : Nat)  (t3 : Int32 × St) : Option ((Int32 × St) ⊕ (Int32 × St)) :=
  if (t3.2.1 7 1) ≤ (t3.2.1 7 4) then
    some (.inr (t3.1, t3.2))
  else
    gd (inb (t3.2.1 7 4) 600) <| (f_8_isLetter n t3.2 (t3.2.1 8 (t3.2.1 7 4).toNatClampNeg)).bind fun r6 =>
    if r6.1 = 0 then
      some (.inr (t3.1, r6.2))
    else
      if t3.1 = 0 then
        j_8_readLetters_56 n  0 r6.2
      else
        gd (inb (r6.2.1 7 4) 600) <| if (r6.2.1 8 (r6.2.1 7 4).toNatClampNeg) < 97 then
          j_8_readLetters_56 n  0 r6.2
        else
          j_8_readLetters_56 n  1 r6.2
def f_8_readLetters (n : Nat) (σ : St)  : Option (St) :=
  nm (si σ 7 6 0) fun σ1 =>
  (lq (b_8_readLetters_7 n ) n (1, σ1)).bind fun t1030 =>
  if t1030.1 = 0 then
    nm (si t1030.2 7 2 13) fun σ1034 =>
    some σ1034
  else
    nm ((t1030.2.1 7 4) - (t1030.2.1 7 3)) fun v1035 =>
    if 6 < v1035 then
      nm (si t1030.2 7 2 13) fun σ1037 =>
      some σ1037
    else
      (f_8_wordToken n t1030.2 ).bind fun r1038 =>
      nm (si r1038.2 7 2 r1038.1) fun σ1040 =>
      some σ1040
abbrev rm_8_readLetters : Room := { frames := 6, cells := 0, slots := 0, locals := 143 }
set_option maxRecDepth 100000 in
set_option maxHeartbeats 4000000 in
theorem k_8_readLetters (l : Launch) (D : va_G) (cA : Nat → ClassId) (ad : Nat → Nat) (z : ZX) (hj : inj 120 ad) (n : Nat) (σ : St)   {res : St} (h : f_8_readLetters n σ  = some res) : MXv l D dX 120 cA ad (EX ad z) yX8_readLetters wsX8_readLetters rm_8_readLetters [.ref (ad 7)] σ res := by
  refine Met.ofW (cc := cX8_readLetters) (maxL := 2) (ret := none) (by decide) rfl ?_
  intro p e s m args below meth c s₁ B hml hv
  obtain ⟨hargs, hP, hK, hE⟩ := hv
  have hx := B.exec
  have hb := B.bytes
  have hr := B.returns
  have hts := atoms_spec (ws := wsX8_readLetters) B.pre
  have hown : s.vm.findClass RX8 = some m.cls := findClass_of_methodNamed B.named
  have hlocks := B.notSynchronized
  have X : Cx p s m args c cX8_readLetters 2 RX8 wsX8_readLetters D dX 120 cA ad (EX ad z) := ⟨hx, hb, hml, hown, hts, hK, hj, hE, EX_ok ad z⟩
  have hS : va_S (inA 120 ad) s.heap s.heap [] := va_S.rf
  have hl := lv_entry ([.ref (ad 7)]) (n := 2) (Nat.le_of_ble_eq_true rfl)
  rw [show entryFrame m args 2 = entryFrame m ([.ref (ad 7)] : List Value).toArray 2 by rw [hargs]]
  rw [lg_entry_eq]
  generalize (lg_sl ([.ref (ad 7)]) ++ List.replicate (2 - (lg_sl ([.ref (ad 7)])).length) Slot.unset).toArray = ls at hl ⊢
  have hl : lv_has ls 2 [(0, .ref (ad 7))] := hl
  obtain ⟨QQ, hQQ⟩ : ∃ Q, Q = MQ below (va_Qv (fun u => u = res) (fun u t => va_P D vwCl (ww dX 120 cA ad u) t.heap) (inA 120 ad)) args s 0 0 (inA 120 ad) := ⟨_, rfl⟩
  show W p l e (headSpec wsX8_readLetters rm_8_readLetters).room s m args below meth c s.heap [] 0 0 (MQ below (va_Qv (fun u => u = res) (fun u t => va_P D vwCl (ww dX 120 cA ad u) t.heap) (inA 120 ad)) args s 0 0 (inA 120 ad)) _
  rw [← hQQ]
  have in8 : ∀ w ∈ wsX80, w ∈ wsX8_readLetters := by decide +kernel
  have lk31 : Cond.fieldLink RX8 31 "CureTown$Tape" "name" "I" ∈ wsX8_readLetters := by decide +kernel
  have lk25 : Cond.fieldLink RX8 25 "CureTown$Tape" "behind" "I" ∈ wsX8_readLetters := by decide +kernel
  have lk15 : Cond.fieldLink RX8 15 "CureTown$Tape" "length" "I" ∈ wsX8_readLetters := by decide +kernel
  have lk9 : Cond.fieldLink RX8 9 "CureTown$Tape" "bytes" "[B" ∈ wsX8_readLetters := by decide +kernel
  have lk19 : Cond.fieldLink RX8 19 "CureTown$Tape" "token" "I" ∈ wsX8_readLetters := by decide +kernel
  have lk22 : Cond.fieldLink RX8 22 "CureTown$Tape" "place" "I" ∈ wsX8_readLetters := by decide +kernel
  unfold f_8_readLetters at h
  obtain ⟨H, hH⟩ : ∃ H, H = s.heap := ⟨_, rfl⟩
  obtain ⟨locs, hlc⟩ : ∃ q : List Loc, q = [] := ⟨_, rfl⟩
  have hP : va_P D vwCl (ww dX 120 cA ad σ) s.heap := hP
  have hS : va_S (inA 120 ad) s.heap s.heap [] := hS
  rw [← hlc] at hS ⊢
  rw [show W p l e (headSpec wsX8_readLetters rm_8_readLetters).room s m args below meth c s.heap locs 0 0 QQ = W p l e (headSpec wsX8_readLetters rm_8_readLetters).room s m args below meth c H locs 0 0 QQ by rw [hH]]
  have hS : va_S (inA 120 ad) s.heap H locs := by rw [hH]; exact hS
  have hP : va_P D vwCl (ww dX 120 cA ad σ) H := by rw [hH]; exact hP
  clear hH hlc
  refine lv_iconst (v := 1) hx hb dX8_readLetters_0 (by decide) ?_
  refine lv_istore_n (lv' := [(1, .int 1), (0, .ref (ad 7))]) hx hb dX8_readLetters_1 rfl hl (by decide) rfl (fun ls hl => ?_)
  refine lv_aload_n hx hb dX8_readLetters_2 rfl (lv_at hl 1 rfl) ?_
  refine lv_iconst (v := 0) hx hb dX8_readLetters_3 (by decide) ?_
  refine x_pi X hP hS (j := 6) (by decide) (dX_7) rfl rfl (by decide) in8 tyX8_ok nmX8 lk31 rfl rfl rfl rfl dX8_readLetters_4 (fun σ1 eσ1 H locs hP hS => ?_)
  have h := nm_some eσ1 h
  obtain ⟨t1030, o1032, h⟩ := bd_some h
  refine lq_rule (P := fun t3 : Int32 × St => ∀ (H : Heap) (locs : List Loc) (ls : Array Slot), va_P D vwCl (ww dX 120 cA ad t3.2) H → va_S (inA 120 ad) s.heap H locs → lv_has ls 2 [(0, .ref (ad 7)), (1, .int t3.1)] → W p l e (headSpec wsX8_readLetters rm_8_readLetters).room s m args below meth c H locs 0 0 QQ (F0 m 7 ls [])) (X := fun t1030 : Int32 × St => ∀ (H : Heap) (locs : List Loc) (ls : Array Slot), va_P D vwCl (ww dX 120 cA ad t1030.2) H → va_S (inA 120 ad) s.heap H locs → lv_has ls 2 [(0, .ref (ad 7)), (1, .int t1030.1)] → W p l e (headSpec wsX8_readLetters rm_8_readLetters).room s m args below meth c H locs 0 0 QQ (F0 m 96 ls [])) ?_ n _ _ o1032 ?_ H locs ls hP hS (lv_sub hl [1, 0] rfl)
  · clear h hP hS hl
    intro t3 rL2 h hCL2 hEL2 H locs ls hP hS hl
    unfold b_8_readLetters_7 at h
    refine lv_aload_n hx hb dX8_readLetters_7 rfl (lv_at hl 0 rfl) ?_
    refine x_gi X hP (j := 4) (by decide) (dX_7) rfl rfl (by decide) in8 lk25 dX8_readLetters_8 ?_
    refine lv_aload_n hx hb dX8_readLetters_11 rfl (lv_at hl 0 rfl) ?_
    refine x_gi X hP (j := 1) (by decide) (dX_7) rfl rfl (by decide) in8 lk15 dX8_readLetters_12 ?_
    refine lv_icmp_ge (tgt := 96) hx hb dX8_readLetters_15 (by decide) (fun c4 => ?_) (fun c4 => ?_)
    · have h := it_t c4 h
      exact hEL2 _ (Option.some.inj h).symm H locs ls hP hS (lv_sub hl [0, 1] rfl)
    · have h := it_f c4 h
      refine lv_aload_n hx hb dX8_readLetters_18 rfl (lv_at hl 0 rfl) ?_
      refine x_gr X hP (j := 0) (by decide) (dX_7) rfl rfl (by decide) in8 lk9 dX8_readLetters_19 ?_
      refine lv_aload_n hx hb dX8_readLetters_22 rfl (lv_at hl 0 rfl) ?_
      refine x_gi X hP (j := 4) (by decide) (dX_7) rfl rfl (by decide) in8 lk25 dX8_readLetters_23 ?_
      obtain ⟨g5, h⟩ := gd_some h
      refine x_ab X hP (by decide) (dX_8) g5 dX8_readLetters_26 ?_
      obtain ⟨r6, k7, h⟩ := bd_some h
      refine x_Si (rest := []) X hP hS (k_8_isLetter l D cA ad z hj n t3.2 (t3.2.1 8 (t3.2.1 7 4).toNatClampNeg) k7) 1 gX8_readLetters_X8_isLetter rfl rfl rfl (by decide +kernel) ⟨Nat.le_of_ble_eq_true rfl, Nat.le_of_ble_eq_true rfl⟩ rfl hl.1 rfl (Nat.le_of_ble_eq_true rfl) dX8_readLetters_27 ⟨Nat.zero_le _, Nat.zero_le _⟩ (fun H locs hP hS => ?_)
      refine lv_if_eq (tgt := 96) hx hb dX8_readLetters_30 (by decide) (fun c8 => ?_) (fun c8 => ?_)
      · have h := it_t c8 h
        exact hEL2 _ (Option.some.inj h).symm H locs ls hP hS (lv_sub hl [0, 1] rfl)
      · have h := it_f c8 h
        refine lv_iload_n hx hb dX8_readLetters_33 rfl (lv_at hl 1 rfl) ?_
        have hJ56 : ∀ (w9 : Int32) (σ10 : St), j_8_readLetters_56 n w9 σ10 = some rL2 → ∀ (H : Heap) (locs : List Loc) (ls : Array Slot), va_P D vwCl (ww dX 120 cA ad σ10) H → va_S (inA 120 ad) s.heap H locs → lv_has ls 2 [(0, .ref (ad 7))] → W p l e (headSpec wsX8_readLetters rm_8_readLetters).room s m args below meth c H locs 0 0 QQ (F0 m 56 ls [.int w9]) := by
          clear h hP hS hl
          intro w9 σ10 h H locs ls hP hS hl
          unfold j_8_readLetters_56 at h
          refine lv_istore_n (lv' := [(1, .int w9), (0, .ref (ad 7))]) hx hb dX8_readLetters_56 rfl hl (by decide) rfl (fun ls hl => ?_)
          refine lv_aload_n hx hb dX8_readLetters_57 rfl (lv_at hl 1 rfl) ?_
          refine lv_aload_n hx hb dX8_readLetters_58 rfl (lv_at hl 1 rfl) ?_
          refine x_gi X hP (j := 6) (by decide) (dX_7) rfl rfl (by decide) in8 lk31 dX8_readLetters_59 ?_
          refine lv_bipush (v := 27) hx hb dX8_readLetters_62 (by decide) ?_
          refine lv_imul hx hb dX8_readLetters_64 ?_
          refine lv_topi (fun v19 ev19 => ?_)
          have h := nm_some ev19 h
          refine lv_aload_n hx hb dX8_readLetters_65 rfl (lv_at hl 1 rfl) ?_
          refine x_gr X hP (j := 0) (by decide) (dX_7) rfl rfl (by decide) in8 lk9 dX8_readLetters_66 ?_
          refine lv_aload_n hx hb dX8_readLetters_69 rfl (lv_at hl 1 rfl) ?_
          refine x_gi X hP (j := 4) (by decide) (dX_7) rfl rfl (by decide) in8 lk25 dX8_readLetters_70 ?_
          obtain ⟨g20, h⟩ := gd_some h
          refine x_ab X hP (by decide) (dX_8) g20 dX8_readLetters_73 ?_
          refine lv_bipush (v := 97) hx hb dX8_readLetters_74 (by decide) ?_
          refine lv_isub hx hb dX8_readLetters_76 ?_
          refine lv_topi (fun v21 ev21 => ?_)
          have h := nm_some ev21 h
          refine lv_iconst (v := 1) hx hb dX8_readLetters_77 (by decide) ?_
          refine lv_iadd hx hb dX8_readLetters_78 ?_
          refine lv_topi (fun v22 ev22 => ?_)
          have h := nm_some ev22 h
          refine lv_iadd hx hb dX8_readLetters_79 ?_
          refine lv_topi (fun v23 ev23 => ?_)
          have h := nm_some ev23 h
          refine x_pi X hP hS (j := 6) (by decide) (dX_7) rfl rfl (by decide) in8 tyX8_ok nmX8 lk31 rfl rfl rfl rfl dX8_readLetters_80 (fun σ24 eσ24 H locs hP hS => ?_)
          have h := nm_some eσ24 h
          refine lv_aload_n hx hb dX8_readLetters_83 rfl (lv_at hl 1 rfl) ?_
          refine lv_dup hx hb dX8_readLetters_84 rfl ?_
          refine x_gi X hP (j := 4) (by decide) (dX_7) rfl rfl (by decide) in8 lk25 dX8_readLetters_85 ?_
          refine lv_iconst (v := 1) hx hb dX8_readLetters_88 (by decide) ?_
          refine lv_iadd hx hb dX8_readLetters_89 ?_
          refine lv_topi (fun v25 ev25 => ?_)
          have h := nm_some ev25 h
          refine x_pi X hP hS (j := 4) (by decide) (dX_7) rfl rfl (by decide) in8 tyX8_ok nmX8 lk25 rfl rfl rfl rfl dX8_readLetters_90 (fun σ26 eσ26 H locs hP hS => ?_)
          have h := nm_some eσ26 h
          refine lv_goto (tgt := 7) hx hb dX8_readLetters_93 (by decide) ?_
          exact hCL2 _ (Option.some.inj h).symm H locs ls hP hS (lv_sub hl [1, 0] rfl)
        refine lv_if_eq (tgt := 55) hx hb dX8_readLetters_34 (by decide) (fun c27 => ?_) (fun c27 => ?_)
        · have h := it_t c27 h
          refine lv_iconst (v := 0) hx hb dX8_readLetters_55 (by decide) ?_
          exact hJ56  0 r6.2 h H locs ls hP hS (lv_sub hl [0] rfl)
        · have h := it_f c27 h
          refine lv_aload_n hx hb dX8_readLetters_37 rfl (lv_at hl 0 rfl) ?_
          refine x_gr X hP (j := 0) (by decide) (dX_7) rfl rfl (by decide) in8 lk9 dX8_readLetters_38 ?_
          refine lv_aload_n hx hb dX8_readLetters_41 rfl (lv_at hl 0 rfl) ?_
          refine x_gi X hP (j := 4) (by decide) (dX_7) rfl rfl (by decide) in8 lk25 dX8_readLetters_42 ?_
          obtain ⟨g28, h⟩ := gd_some h
          refine x_ab X hP (by decide) (dX_8) g28 dX8_readLetters_45 ?_
          refine lv_bipush (v := 97) hx hb dX8_readLetters_46 (by decide) ?_
          refine lv_icmp_lt (tgt := 55) hx hb dX8_readLetters_48 (by decide) (fun c29 => ?_) (fun c29 => ?_)
          · have h := it_t c29 h
            refine lv_iconst (v := 0) hx hb dX8_readLetters_55 (by decide) ?_
            exact hJ56  0 r6.2 h H locs ls hP hS (lv_sub hl [0] rfl)
          · have h := it_f c29 h
            refine lv_iconst (v := 1) hx hb dX8_readLetters_51 (by decide) ?_
            refine lv_goto (tgt := 56) hx hb dX8_readLetters_52 (by decide) ?_
            exact hJ56  1 r6.2 h H locs ls hP hS (lv_sub hl [0] rfl)
  · intro H locs ls hP hS hl
    refine lv_aload_n hx hb dX8_readLetters_96 rfl (lv_at hl 0 rfl) ?_
    refine lv_iload_n hx hb dX8_readLetters_97 rfl (lv_at hl 1 rfl) ?_
    refine lv_if_eq (tgt := 122) hx hb dX8_readLetters_98 (by decide) (fun c1033 => ?_) (fun c1033 => ?_)
    · have h := it_t c1033 h
      refine lv_bipush (v := 13) hx hb dX8_readLetters_122 (by decide) ?_
      refine x_pi X hP hS (j := 2) (by decide) (dX_7) rfl rfl (by decide) in8 tyX8_ok nmX8 lk19 rfl rfl rfl rfl dX8_readLetters_124 (fun σ1034 eσ1034 H locs hP hS => ?_)
      have h := nm_some eσ1034 h
      subst hQQ
      exact x_rv X hr hlocks hP hS (Option.some.inj h) dX8_readLetters_127
    · have h := it_f c1033 h
      refine lv_aload_n hx hb dX8_readLetters_101 rfl (lv_at hl 0 rfl) ?_
      refine x_gi X hP (j := 4) (by decide) (dX_7) rfl rfl (by decide) in8 lk25 dX8_readLetters_102 ?_
      refine lv_aload_n hx hb dX8_readLetters_105 rfl (lv_at hl 0 rfl) ?_
      refine x_gi X hP (j := 3) (by decide) (dX_7) rfl rfl (by decide) in8 lk22 dX8_readLetters_106 ?_
      refine lv_isub hx hb dX8_readLetters_109 ?_
      refine lv_topi (fun v1035 ev1035 => ?_)
      have h := nm_some ev1035 h
      refine lv_bipush (v := 6) hx hb dX8_readLetters_110 (by decide) ?_
      refine lv_icmp_gt (tgt := 122) hx hb dX8_readLetters_112 (by decide) (fun c1036 => ?_) (fun c1036 => ?_)
      · have h := it_t c1036 h
        refine lv_bipush (v := 13) hx hb dX8_readLetters_122 (by decide) ?_
        refine x_pi X hP hS (j := 2) (by decide) (dX_7) rfl rfl (by decide) in8 tyX8_ok nmX8 lk19 rfl rfl rfl rfl dX8_readLetters_124 (fun σ1037 eσ1037 H locs hP hS => ?_)
        have h := nm_some eσ1037 h
        subst hQQ
        exact x_rv X hr hlocks hP hS (Option.some.inj h) dX8_readLetters_127
      · have h := it_f c1036 h
        refine lv_aload_n hx hb dX8_readLetters_115 rfl (lv_at hl 0 rfl) ?_
        obtain ⟨r1038, k1039, h⟩ := bd_some h
        refine x_Vi (rest := [.ref (ad 7)]) X hP hS (k_8_wordToken l D cA ad z hj n t1030.2  k1039) (by decide) (dX_7) rfl 0 gX8_readLetters_X8_wordToken rfl rfl rfl (by decide +kernel) ⟨Nat.le_of_ble_eq_true rfl, Nat.le_of_ble_eq_true rfl⟩ rfl hl.1 rfl (Nat.le_of_ble_eq_true rfl) dX8_readLetters_116 ⟨Nat.zero_le _, Nat.zero_le _⟩ (fun H locs hP hS => ?_)
        refine lv_goto (tgt := 124) hx hb dX8_readLetters_119 (by decide) ?_
        refine x_pi X hP hS (j := 2) (by decide) (dX_7) rfl rfl (by decide) in8 tyX8_ok nmX8 lk19 rfl rfl rfl rfl dX8_readLetters_124 (fun σ1040 eσ1040 H locs hP hS => ?_)
        have h := nm_some eσ1040 h
        subst hQQ
        exact x_rv X hr hlocks hP hS (Option.some.inj h) dX8_readLetters_127
def b_8_readToken_8 (n : Nat)  (t3 : St) : Option ((St) ⊕ (St)) :=
  if (t3.1 7 1) ≤ (t3.1 7 3) then
    some (.inr t3)
  else
    gd (inb (t3.1 7 3) 600) <| (f_8_isBlank n t3 (t3.1 8 (t3.1 7 3).toNatClampNeg)).bind fun r6 =>
    if r6.1 = 0 then
      some (.inr r6.2)
    else
      nm ((r6.2.1 7 3) + 1) fun v9 =>
      nm (si r6.2 7 3 v9) fun σ10 =>
      some (.inl σ10)
def f_8_readToken (n : Nat) (σ : St)  : Option (St) :=
  nm (si σ 7 3 (σ.1 7 4)) fun σ1 =>
  (lq (b_8_readToken_8 n ) n σ1).bind fun t1011 =>
  nm (si t1011 7 4 (t1011.1 7 3)) fun σ1014 =>
  if (σ1014.1 7 3) < (σ1014.1 7 1) then
    gd (inb (σ1014.1 7 3) 600) <| (f_8_isLetter n σ1014 (σ1014.1 8 (σ1014.1 7 3).toNatClampNeg)).bind fun r1017 =>
    if r1017.1 = 0 then
      gd (inb (r1017.2.1 7 3) 600) <| (f_8_isDigit n r1017.2 (r1017.2.1 8 (r1017.2.1 7 3).toNatClampNeg)).bind fun r1021 =>
      if r1021.1 = 0 then
        gd (inb (r1021.2.1 7 3) 600) <| (f_8_signToken n r1021.2 (r1021.2.1 8 (r1021.2.1 7 3).toNatClampNeg)).bind fun r1025 =>
        nm (si r1025.2 7 2 r1025.1) fun σ1027 =>
        nm ((σ1027.1 7 4) + 1) fun v1028 =>
        nm (si σ1027 7 4 v1028) fun σ1029 =>
        some σ1029
      else
        (f_8_readDigits n r1021.2 ).bind fun r1030 =>
        some r1030
    else
      (f_8_readLetters n r1017.2 ).bind fun r1032 =>
      some r1032
  else
    nm (si σ1014 7 2 12) fun σ1034 =>
    some σ1034
abbrev rm_8_readToken : Room := { frames := 7, cells := 0, slots := 0, locals := 164 }
set_option maxRecDepth 100000 in
set_option maxHeartbeats 4000000 in
theorem k_8_readToken (l : Launch) (D : va_G) (cA : Nat → ClassId) (ad : Nat → Nat) (z : ZX) (hj : inj 120 ad) (n : Nat) (σ : St)   {res : St} (h : f_8_readToken n σ  = some res) : MXv l D dX 120 cA ad (EX ad z) yX8_readToken wsX8_readToken rm_8_readToken [.ref (ad 7)] σ res := by
  refine Met.ofW (cc := cX8_readToken) (maxL := 1) (ret := none) (by decide) rfl ?_
  intro p e s m args below meth c s₁ B hml hv
  obtain ⟨hargs, hP, hK, hE⟩ := hv
  have hx := B.exec
  have hb := B.bytes
  have hr := B.returns
  have hts := atoms_spec (ws := wsX8_readToken) B.pre
  have hown : s.vm.findClass RX8 = some m.cls := findClass_of_methodNamed B.named
  have hlocks := B.notSynchronized
  have X : Cx p s m args c cX8_readToken 1 RX8 wsX8_readToken D dX 120 cA ad (EX ad z) := ⟨hx, hb, hml, hown, hts, hK, hj, hE, EX_ok ad z⟩
  have hS : va_S (inA 120 ad) s.heap s.heap [] := va_S.rf
  have hl := lv_entry ([.ref (ad 7)]) (n := 1) (Nat.le_of_ble_eq_true rfl)
  rw [show entryFrame m args 1 = entryFrame m ([.ref (ad 7)] : List Value).toArray 1 by rw [hargs]]
  rw [lg_entry_eq]
  generalize (lg_sl ([.ref (ad 7)]) ++ List.replicate (1 - (lg_sl ([.ref (ad 7)])).length) Slot.unset).toArray = ls at hl ⊢
  have hl : lv_has ls 1 [(0, .ref (ad 7))] := hl
  obtain ⟨QQ, hQQ⟩ : ∃ Q, Q = MQ below (va_Qv (fun u => u = res) (fun u t => va_P D vwCl (ww dX 120 cA ad u) t.heap) (inA 120 ad)) args s 0 0 (inA 120 ad) := ⟨_, rfl⟩
  show W p l e (headSpec wsX8_readToken rm_8_readToken).room s m args below meth c s.heap [] 0 0 (MQ below (va_Qv (fun u => u = res) (fun u t => va_P D vwCl (ww dX 120 cA ad u) t.heap) (inA 120 ad)) args s 0 0 (inA 120 ad)) _
  rw [← hQQ]
  have in8 : ∀ w ∈ wsX80, w ∈ wsX8_readToken := by decide +kernel
  have lk25 : Cond.fieldLink RX8 25 "CureTown$Tape" "behind" "I" ∈ wsX8_readToken := by decide +kernel
  have lk22 : Cond.fieldLink RX8 22 "CureTown$Tape" "place" "I" ∈ wsX8_readToken := by decide +kernel
  have lk15 : Cond.fieldLink RX8 15 "CureTown$Tape" "length" "I" ∈ wsX8_readToken := by decide +kernel
  have lk9 : Cond.fieldLink RX8 9 "CureTown$Tape" "bytes" "[B" ∈ wsX8_readToken := by decide +kernel
  have lk19 : Cond.fieldLink RX8 19 "CureTown$Tape" "token" "I" ∈ wsX8_readToken := by decide +kernel
  unfold f_8_readToken at h
  obtain ⟨H, hH⟩ : ∃ H, H = s.heap := ⟨_, rfl⟩
  obtain ⟨locs, hlc⟩ : ∃ q : List Loc, q = [] := ⟨_, rfl⟩
  have hP : va_P D vwCl (ww dX 120 cA ad σ) s.heap := hP
  have hS : va_S (inA 120 ad) s.heap s.heap [] := hS
  rw [← hlc] at hS ⊢
  rw [show W p l e (headSpec wsX8_readToken rm_8_readToken).room s m args below meth c s.heap locs 0 0 QQ = W p l e (headSpec wsX8_readToken rm_8_readToken).room s m args below meth c H locs 0 0 QQ by rw [hH]]
  have hS : va_S (inA 120 ad) s.heap H locs := by rw [hH]; exact hS
  have hP : va_P D vwCl (ww dX 120 cA ad σ) H := by rw [hH]; exact hP
  clear hH hlc
  refine lv_aload_n hx hb dX8_readToken_0 rfl (lv_at hl 0 rfl) ?_
  refine lv_aload_n hx hb dX8_readToken_1 rfl (lv_at hl 0 rfl) ?_
  refine x_gi X hP (j := 4) (by decide) (dX_7) rfl rfl (by decide) in8 lk25 dX8_readToken_2 ?_
  refine x_pi X hP hS (j := 3) (by decide) (dX_7) rfl rfl (by decide) in8 tyX8_ok nmX8 lk22 rfl rfl rfl rfl dX8_readToken_5 (fun σ1 eσ1 H locs hP hS => ?_)
  have h := nm_some eσ1 h
  obtain ⟨t1011, o1013, h⟩ := bd_some h
  refine lq_rule (P := fun t3 : St => ∀ (H : Heap) (locs : List Loc) (ls : Array Slot), va_P D vwCl (ww dX 120 cA ad t3) H → va_S (inA 120 ad) s.heap H locs → lv_has ls 1 [(0, .ref (ad 7))] → W p l e (headSpec wsX8_readToken rm_8_readToken).room s m args below meth c H locs 0 0 QQ (F0 m 8 ls [])) (X := fun t1011 : St => ∀ (H : Heap) (locs : List Loc) (ls : Array Slot), va_P D vwCl (ww dX 120 cA ad t1011) H → va_S (inA 120 ad) s.heap H locs → lv_has ls 1 [(0, .ref (ad 7))] → W p l e (headSpec wsX8_readToken rm_8_readToken).room s m args below meth c H locs 0 0 QQ (F0 m 47 ls [])) ?_ n _ _ o1013 ?_ H locs ls hP hS (lv_sub hl [0] rfl)
  · clear h hP hS hl
    intro t3 rL2 h hCL2 hEL2 H locs ls hP hS hl
    unfold b_8_readToken_8 at h
    refine lv_aload_n hx hb dX8_readToken_8 rfl (lv_at hl 0 rfl) ?_
    refine x_gi X hP (j := 3) (by decide) (dX_7) rfl rfl (by decide) in8 lk22 dX8_readToken_9 ?_
    refine lv_aload_n hx hb dX8_readToken_12 rfl (lv_at hl 0 rfl) ?_
    refine x_gi X hP (j := 1) (by decide) (dX_7) rfl rfl (by decide) in8 lk15 dX8_readToken_13 ?_
    refine lv_icmp_ge (tgt := 47) hx hb dX8_readToken_16 (by decide) (fun c4 => ?_) (fun c4 => ?_)
    · have h := it_t c4 h
      exact hEL2 _ (Option.some.inj h).symm H locs ls hP hS (lv_sub hl [0] rfl)
    · have h := it_f c4 h
      refine lv_aload_n hx hb dX8_readToken_19 rfl (lv_at hl 0 rfl) ?_
      refine x_gr X hP (j := 0) (by decide) (dX_7) rfl rfl (by decide) in8 lk9 dX8_readToken_20 ?_
      refine lv_aload_n hx hb dX8_readToken_23 rfl (lv_at hl 0 rfl) ?_
      refine x_gi X hP (j := 3) (by decide) (dX_7) rfl rfl (by decide) in8 lk22 dX8_readToken_24 ?_
      obtain ⟨g5, h⟩ := gd_some h
      refine x_ab X hP (by decide) (dX_8) g5 dX8_readToken_27 ?_
      obtain ⟨r6, k7, h⟩ := bd_some h
      refine x_Si (rest := []) X hP hS (k_8_isBlank l D cA ad z hj n t3 (t3.1 8 (t3.1 7 3).toNatClampNeg) k7) 1 gX8_readToken_X8_isBlank rfl rfl rfl (by decide +kernel) ⟨Nat.le_of_ble_eq_true rfl, Nat.le_of_ble_eq_true rfl⟩ rfl hl.1 rfl (Nat.le_of_ble_eq_true rfl) dX8_readToken_28 ⟨Nat.zero_le _, Nat.zero_le _⟩ (fun H locs hP hS => ?_)
      refine lv_if_eq (tgt := 47) hx hb dX8_readToken_31 (by decide) (fun c8 => ?_) (fun c8 => ?_)
      · have h := it_t c8 h
        exact hEL2 _ (Option.some.inj h).symm H locs ls hP hS (lv_sub hl [0] rfl)
      · have h := it_f c8 h
        refine lv_aload_n hx hb dX8_readToken_34 rfl (lv_at hl 0 rfl) ?_
        refine lv_dup hx hb dX8_readToken_35 rfl ?_
        refine x_gi X hP (j := 3) (by decide) (dX_7) rfl rfl (by decide) in8 lk22 dX8_readToken_36 ?_
        refine lv_iconst (v := 1) hx hb dX8_readToken_39 (by decide) ?_
        refine lv_iadd hx hb dX8_readToken_40 ?_
        refine lv_topi (fun v9 ev9 => ?_)
        have h := nm_some ev9 h
        refine x_pi X hP hS (j := 3) (by decide) (dX_7) rfl rfl (by decide) in8 tyX8_ok nmX8 lk22 rfl rfl rfl rfl dX8_readToken_41 (fun σ10 eσ10 H locs hP hS => ?_)
        have h := nm_some eσ10 h
        refine lv_goto (tgt := 8) hx hb dX8_readToken_44 (by decide) ?_
        exact hCL2 _ (Option.some.inj h).symm H locs ls hP hS (lv_sub hl [0] rfl)
  · intro H locs ls hP hS hl
    refine lv_aload_n hx hb dX8_readToken_47 rfl (lv_at hl 0 rfl) ?_
    refine lv_aload_n hx hb dX8_readToken_48 rfl (lv_at hl 0 rfl) ?_
    refine x_gi X hP (j := 3) (by decide) (dX_7) rfl rfl (by decide) in8 lk22 dX8_readToken_49 ?_
    refine x_pi X hP hS (j := 4) (by decide) (dX_7) rfl rfl (by decide) in8 tyX8_ok nmX8 lk25 rfl rfl rfl rfl dX8_readToken_52 (fun σ1014 eσ1014 H locs hP hS => ?_)
    have h := nm_some eσ1014 h
    refine lv_aload_n hx hb dX8_readToken_55 rfl (lv_at hl 0 rfl) ?_
    refine x_gi X hP (j := 3) (by decide) (dX_7) rfl rfl (by decide) in8 lk22 dX8_readToken_56 ?_
    refine lv_aload_n hx hb dX8_readToken_59 rfl (lv_at hl 0 rfl) ?_
    refine x_gi X hP (j := 1) (by decide) (dX_7) rfl rfl (by decide) in8 lk15 dX8_readToken_60 ?_
    refine lv_icmp_lt (tgt := 75) hx hb dX8_readToken_63 (by decide) (fun c1015 => ?_) (fun c1015 => ?_)
    · have h := it_t c1015 h
      refine lv_aload_n hx hb dX8_readToken_75 rfl (lv_at hl 0 rfl) ?_
      refine x_gr X hP (j := 0) (by decide) (dX_7) rfl rfl (by decide) in8 lk9 dX8_readToken_76 ?_
      refine lv_aload_n hx hb dX8_readToken_79 rfl (lv_at hl 0 rfl) ?_
      refine x_gi X hP (j := 3) (by decide) (dX_7) rfl rfl (by decide) in8 lk22 dX8_readToken_80 ?_
      obtain ⟨g1016, h⟩ := gd_some h
      refine x_ab X hP (by decide) (dX_8) g1016 dX8_readToken_83 ?_
      obtain ⟨r1017, k1018, h⟩ := bd_some h
      refine x_Si (rest := []) X hP hS (k_8_isLetter l D cA ad z hj n σ1014 (σ1014.1 8 (σ1014.1 7 3).toNatClampNeg) k1018) 1 gX8_readToken_X8_isLetter rfl rfl rfl (by decide +kernel) ⟨Nat.le_of_ble_eq_true rfl, Nat.le_of_ble_eq_true rfl⟩ rfl hl.1 rfl (Nat.le_of_ble_eq_true rfl) dX8_readToken_84 ⟨Nat.zero_le _, Nat.zero_le _⟩ (fun H locs hP hS => ?_)
      refine lv_if_eq (tgt := 97) hx hb dX8_readToken_87 (by decide) (fun c1019 => ?_) (fun c1019 => ?_)
      · have h := it_t c1019 h
        refine lv_aload_n hx hb dX8_readToken_97 rfl (lv_at hl 0 rfl) ?_
        refine x_gr X hP (j := 0) (by decide) (dX_7) rfl rfl (by decide) in8 lk9 dX8_readToken_98 ?_
        refine lv_aload_n hx hb dX8_readToken_101 rfl (lv_at hl 0 rfl) ?_
        refine x_gi X hP (j := 3) (by decide) (dX_7) rfl rfl (by decide) in8 lk22 dX8_readToken_102 ?_
        obtain ⟨g1020, h⟩ := gd_some h
        refine x_ab X hP (by decide) (dX_8) g1020 dX8_readToken_105 ?_
        obtain ⟨r1021, k1022, h⟩ := bd_some h
        refine x_Si (rest := []) X hP hS (k_8_isDigit l D cA ad z hj n r1017.2 (r1017.2.1 8 (r1017.2.1 7 3).toNatClampNeg) k1022) 1 gX8_readToken_X8_isDigit rfl rfl rfl (by decide +kernel) ⟨Nat.le_of_ble_eq_true rfl, Nat.le_of_ble_eq_true rfl⟩ rfl hl.1 rfl (Nat.le_of_ble_eq_true rfl) dX8_readToken_106 ⟨Nat.zero_le _, Nat.zero_le _⟩ (fun H locs hP hS => ?_)
        refine lv_if_eq (tgt := 119) hx hb dX8_readToken_109 (by decide) (fun c1023 => ?_) (fun c1023 => ?_)
        · have h := it_t c1023 h
          refine lv_aload_n hx hb dX8_readToken_119 rfl (lv_at hl 0 rfl) ?_
          refine lv_aload_n hx hb dX8_readToken_120 rfl (lv_at hl 0 rfl) ?_
          refine x_gr X hP (j := 0) (by decide) (dX_7) rfl rfl (by decide) in8 lk9 dX8_readToken_121 ?_
          refine lv_aload_n hx hb dX8_readToken_124 rfl (lv_at hl 0 rfl) ?_
          refine x_gi X hP (j := 3) (by decide) (dX_7) rfl rfl (by decide) in8 lk22 dX8_readToken_125 ?_
          obtain ⟨g1024, h⟩ := gd_some h
          refine x_ab X hP (by decide) (dX_8) g1024 dX8_readToken_128 ?_
          obtain ⟨r1025, k1026, h⟩ := bd_some h
          refine x_Si (rest := [.ref (ad 7)]) X hP hS (k_8_signToken l D cA ad z hj n r1021.2 (r1021.2.1 8 (r1021.2.1 7 3).toNatClampNeg) k1026) 1 gX8_readToken_X8_signToken rfl rfl rfl (by decide +kernel) ⟨Nat.le_of_ble_eq_true rfl, Nat.le_of_ble_eq_true rfl⟩ rfl hl.1 rfl (Nat.le_of_ble_eq_true rfl) dX8_readToken_129 ⟨Nat.zero_le _, Nat.zero_le _⟩ (fun H locs hP hS => ?_)
          refine x_pi X hP hS (j := 2) (by decide) (dX_7) rfl rfl (by decide) in8 tyX8_ok nmX8 lk19 rfl rfl rfl rfl dX8_readToken_132 (fun σ1027 eσ1027 H locs hP hS => ?_)
          have h := nm_some eσ1027 h
          refine lv_aload_n hx hb dX8_readToken_135 rfl (lv_at hl 0 rfl) ?_
          refine lv_dup hx hb dX8_readToken_136 rfl ?_
          refine x_gi X hP (j := 4) (by decide) (dX_7) rfl rfl (by decide) in8 lk25 dX8_readToken_137 ?_
          refine lv_iconst (v := 1) hx hb dX8_readToken_140 (by decide) ?_
          refine lv_iadd hx hb dX8_readToken_141 ?_
          refine lv_topi (fun v1028 ev1028 => ?_)
          have h := nm_some ev1028 h
          refine x_pi X hP hS (j := 4) (by decide) (dX_7) rfl rfl (by decide) in8 tyX8_ok nmX8 lk25 rfl rfl rfl rfl dX8_readToken_142 (fun σ1029 eσ1029 H locs hP hS => ?_)
          have h := nm_some eσ1029 h
          subst hQQ
          exact x_rv X hr hlocks hP hS (Option.some.inj h) dX8_readToken_145
        · have h := it_f c1023 h
          refine lv_aload_n hx hb dX8_readToken_112 rfl (lv_at hl 0 rfl) ?_
          obtain ⟨r1030, k1031, h⟩ := bd_some h
          refine x_Vv (rest := []) X hP hS (k_8_readDigits l D cA ad z hj n r1021.2  k1031) (by decide) (dX_7) rfl 0 gX8_readToken_X8_readDigits rfl rfl rfl (by decide +kernel) ⟨Nat.le_of_ble_eq_true rfl, Nat.le_of_ble_eq_true rfl⟩ rfl hl.1 rfl (Nat.le_of_ble_eq_true rfl) dX8_readToken_113 ⟨Nat.zero_le _, Nat.zero_le _⟩ (fun H locs hP hS => ?_)
          refine lv_goto (tgt := 145) hx hb dX8_readToken_116 (by decide) ?_
          subst hQQ
          exact x_rv X hr hlocks hP hS (Option.some.inj h) dX8_readToken_145
      · have h := it_f c1019 h
        refine lv_aload_n hx hb dX8_readToken_90 rfl (lv_at hl 0 rfl) ?_
        obtain ⟨r1032, k1033, h⟩ := bd_some h
        refine x_Vv (rest := []) X hP hS (k_8_readLetters l D cA ad z hj n r1017.2  k1033) (by decide) (dX_7) rfl 0 gX8_readToken_X8_readLetters rfl rfl rfl (by decide +kernel) ⟨Nat.le_of_ble_eq_true rfl, Nat.le_of_ble_eq_true rfl⟩ rfl hl.1 rfl (Nat.le_of_ble_eq_true rfl) dX8_readToken_91 ⟨Nat.zero_le _, Nat.zero_le _⟩ (fun H locs hP hS => ?_)
        refine lv_goto (tgt := 145) hx hb dX8_readToken_94 (by decide) ?_
        subst hQQ
        exact x_rv X hr hlocks hP hS (Option.some.inj h) dX8_readToken_145
    · have h := it_f c1015 h
      refine lv_aload_n hx hb dX8_readToken_66 rfl (lv_at hl 0 rfl) ?_
      refine lv_bipush (v := 12) hx hb dX8_readToken_67 (by decide) ?_
      refine x_pi X hP hS (j := 2) (by decide) (dX_7) rfl rfl (by decide) in8 tyX8_ok nmX8 lk19 rfl rfl rfl rfl dX8_readToken_69 (fun σ1034 eσ1034 H locs hP hS => ?_)
      have h := nm_some eσ1034 h
      refine lv_goto (tgt := 145) hx hb dX8_readToken_72 (by decide) ?_
      subst hQQ
      exact x_rv X hr hlocks hP hS (Option.some.inj h) dX8_readToken_145
