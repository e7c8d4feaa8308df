def b_11_clear_2 (n : Nat)  (t2 : Int32 × St) : Option ((Int32 × St) ⊕ (Int32 × St)) :=
  if 192 ≤ t2.1 then
    some (.inr (t2.1, t2.2))
  else
    gd (inb t2.1 192) <| nm (si t2.2 25 (t2.1.toNatClampNeg) 0) fun σ5 =>
    nm (t2.1 + 1) fun v6 =>
    some (.inl (v6, σ5))
def b_11_clear_24 (n : Nat)  (t1011 : Int32 × St) : Option ((Int32 × St) ⊕ (Int32 × St)) :=
  if 288 ≤ t1011.1 then
    some (.inr (t1011.1, t1011.2))
  else
    gd (inb t1011.1 288) <| nm (si t1011.2 31 (t1011.1.toNatClampNeg) 0) fun σ1014 =>
    nm (t1011.1 + 1) fun v1015 =>
    some (.inl (v1015, σ1014))
def f_11_clear (n : Nat) (σ : St)  : Option (St) :=
  (lq (b_11_clear_2 n ) n (0, σ)).bind fun t1007 =>
  (lq (b_11_clear_24 n ) n (0, t1007.2)).bind fun t2016 =>
  some t2016.2
abbrev rm_11_clear : Room := { frames := 0, cells := 0, slots := 0, locals := 0 }
set_option maxRecDepth 100000 in
set_option maxHeartbeats 4000000 in
theorem k_11_clear (l : Launch) (D : va_G) (cA : Nat → ClassId) (ad : Nat → Nat) (hj : inj 41 ad) (n : Nat) (σ : St)   {res : St} (h : f_11_clear n σ  = some res) : MXv l D dM 41 cA ad ET yX11_clear wsX11_clear rm_11_clear [.ref (ad 0)] σ res := by
  refine Met.ofW (cc := cX11_clear) (maxL := 2) (ret := none) (by decide) rfl ?_
  intro p e s m args below meth c s₁ B hml hv
  obtain ⟨hargs, hP, hK, hE⟩ := hv
  have hx := B.exec
  have hb := B.bytes
  have hr := B.returns
  have hts := atoms_spec (ws := wsX11_clear) B.pre
  have hown : s.vm.findClass RX11 = some m.cls := findClass_of_methodNamed B.named
  have hlocks := B.notSynchronized
  have X : Cx p s m args c cX11_clear 2 RX11 wsX11_clear D dM 41 cA ad ET := ⟨hx, hb, hml, hown, hts, hK, hj, hE, ET_ok⟩
  have hS : va_S (inA 41 ad) s.heap s.heap [] := va_S.rf
  have hl := lv_entry ([.ref (ad 0)]) (n := 2) (Nat.le_of_ble_eq_true rfl)
  rw [show entryFrame m args 2 = entryFrame m ([.ref (ad 0)] : List Value).toArray 2 by rw [hargs]]
  rw [lg_entry_eq]
  generalize (lg_sl ([.ref (ad 0)]) ++ List.replicate (2 - (lg_sl ([.ref (ad 0)])).length) Slot.unset).toArray = ls at hl ⊢
  have hl : lv_has ls 2 [(0, .ref (ad 0))] := hl
  obtain ⟨QQ, hQQ⟩ : ∃ Q, Q = MQ below (va_Qv (fun u => u = res) (fun u t => va_P D vwCl (ww dM 41 cA ad u) t.heap) (inA 41 ad)) args s 0 0 (inA 41 ad) := ⟨_, rfl⟩
  show W p l e (headSpec wsX11_clear rm_11_clear).room s m args below meth c s.heap [] 0 0 (MQ below (va_Qv (fun u => u = res) (fun u t => va_P D vwCl (ww dM 41 cA ad u) t.heap) (inA 41 ad)) args s 0 0 (inA 41 ad)) _
  rw [← hQQ]
  have in11 : ∀ w ∈ wsX110, w ∈ wsX11_clear := by decide +kernel
  have lk88 : Cond.fieldLink RX11 88 "CureTownModel" "taken" "[I" ∈ wsX11_clear := by decide +kernel
  have lk106 : Cond.fieldLink RX11 106 "CureTownModel" "bathed" "[Z" ∈ wsX11_clear := by decide +kernel
  unfold f_11_clear at h
  obtain ⟨H, hH⟩ : ∃ H, H = s.heap := ⟨_, rfl⟩
  obtain ⟨locs, hlc⟩ : ∃ q : List Loc, q = [] := ⟨_, rfl⟩
  have hP : va_P D vwCl (ww dM 41 cA ad σ) s.heap := hP
  have hS : va_S (inA 41 ad) s.heap s.heap [] := hS
  rw [← hlc] at hS ⊢
  rw [show W p l e (headSpec wsX11_clear rm_11_clear).room s m args below meth c s.heap locs 0 0 QQ = W p l e (headSpec wsX11_clear rm_11_clear).room s m args below meth c H locs 0 0 QQ by rw [hH]]
  have hS : va_S (inA 41 ad) s.heap H locs := by rw [hH]; exact hS
  have hP : va_P D vwCl (ww dM 41 cA ad σ) H := by rw [hH]; exact hP
  clear hH hlc
  refine lv_iconst (v := 0) hx hb dX11_clear_0 (by decide) ?_
  refine lv_istore_n (lv' := [(1, .int 0), (0, .ref (ad 0))]) hx hb dX11_clear_1 rfl hl (by decide) rfl (fun ls hl => ?_)
  obtain ⟨t1007, o1009, h⟩ := bd_some h
  refine lq_rule (P := fun t2 : Int32 × St => ∀ (H : Heap) (locs : List Loc) (ls : Array Slot), va_P D vwCl (ww dM 41 cA ad t2.2) H → va_S (inA 41 ad) s.heap H locs → lv_has ls 2 [(0, .ref (ad 0)), (1, .int t2.1)] → W p l e (headSpec wsX11_clear rm_11_clear).room s m args below meth c H locs 0 0 QQ (F0 m 2 ls [])) (X := fun t1007 : Int32 × St => ∀ (H : Heap) (locs : List Loc) (ls : Array Slot), va_P D vwCl (ww dM 41 cA ad t1007.2) H → va_S (inA 41 ad) s.heap H locs → lv_has ls 2 [(0, .ref (ad 0)), (1, .int t1007.1)] → W p l e (headSpec wsX11_clear rm_11_clear).room s m args below meth c H locs 0 0 QQ (F0 m 22 ls [])) ?_ n _ _ o1009 ?_ H locs ls hP hS (lv_sub hl [1, 0] rfl)
  · clear h hP hS hl
    intro t2 rL1 h hCL1 hEL1 H locs ls hP hS hl
    unfold b_11_clear_2 at h
    refine lv_iload_n hx hb dX11_clear_2 rfl (lv_at hl 1 rfl) ?_
    refine lv_sipush (v := 192) hx hb dX11_clear_3 (by decide) ?_
    refine lv_icmp_ge (tgt := 22) hx hb dX11_clear_6 (by decide) (fun c3 => ?_) (fun c3 => ?_)
    · have h := it_t c3 h
      exact hEL1 _ (Option.some.inj h).symm H locs ls hP hS (lv_sub hl [0, 1] rfl)
    · have h := it_f c3 h
      refine lv_aload_n hx hb dX11_clear_9 rfl (lv_at hl 0 rfl) ?_
      refine x_gr X hP (j := 39) (by decide) (dM_0) rfl rfl (by decide) in11 lk88 dX11_clear_10 ?_
      refine lv_iload_n hx hb dX11_clear_13 rfl (lv_at hl 1 rfl) ?_
      refine lv_iconst (v := 0) hx hb dX11_clear_14 (by decide) ?_
      obtain ⟨g4, h⟩ := gd_some h
      refine x_si X hP hS (by decide) (dM_25) g4 dX11_clear_15 (fun σ5 eσ5 H locs hP hS => ?_)
      have h := nm_some eσ5 h
      obtain ⟨v6, ev6⟩ : ∃ y : Int32, y = t2.1 + 1 := ⟨_, rfl⟩
      have h := nm_some ev6 h
      refine lv_iinc (v := v6) (lv' := [(1, .int v6), (0, .ref (ad 0))]) hx hb dX11_clear_16 hl (k := 1) rfl (by rw [ev6]; rfl) (by decide) rfl (fun ls hl => ?_)
      refine lv_goto (tgt := 2) hx hb dX11_clear_19 (by decide) ?_
      exact hCL1 _ (Option.some.inj h).symm H locs ls hP hS (lv_sub hl [1, 0] rfl)
  · intro H locs ls hP hS hl
    refine lv_iconst (v := 0) hx hb dX11_clear_22 (by decide) ?_
    refine lv_istore_n (lv' := [(1, .int 0), (0, .ref (ad 0))]) hx hb dX11_clear_23 rfl hl (by decide) rfl (fun ls hl => ?_)
    obtain ⟨t2016, o2018, h⟩ := bd_some h
    refine lq_rule (P := fun t1011 : Int32 × St => ∀ (H : Heap) (locs : List Loc) (ls : Array Slot), va_P D vwCl (ww dM 41 cA ad t1011.2) H → va_S (inA 41 ad) s.heap H locs → lv_has ls 2 [(0, .ref (ad 0)), (1, .int t1011.1)] → W p l e (headSpec wsX11_clear rm_11_clear).room s m args below meth c H locs 0 0 QQ (F0 m 24 ls [])) (X := fun t2016 : Int32 × St => ∀ (H : Heap) (locs : List Loc) (ls : Array Slot), va_P D vwCl (ww dM 41 cA ad t2016.2) H → va_S (inA 41 ad) s.heap H locs → lv_has ls 2 [(0, .ref (ad 0)), (1, .int t2016.1)] → W p l e (headSpec wsX11_clear rm_11_clear).room s m args below meth c H locs 0 0 QQ (F0 m 44 ls [])) ?_ n _ _ o2018 ?_ H locs ls hP hS (lv_sub hl [1, 0] rfl)
    · clear h hP hS hl
      intro t1011 rL1010 h hCL1010 hEL1010 H locs ls hP hS hl
      unfold b_11_clear_24 at h
      refine lv_iload_n hx hb dX11_clear_24 rfl (lv_at hl 1 rfl) ?_
      refine lv_sipush (v := 288) hx hb dX11_clear_25 (by decide) ?_
      refine lv_icmp_ge (tgt := 44) hx hb dX11_clear_28 (by decide) (fun c1012 => ?_) (fun c1012 => ?_)
      · have h := it_t c1012 h
        exact hEL1010 _ (Option.some.inj h).symm H locs ls hP hS (lv_sub hl [0, 1] rfl)
      · have h := it_f c1012 h
        refine lv_aload_n hx hb dX11_clear_31 rfl (lv_at hl 0 rfl) ?_
        refine x_gr X hP (j := 45) (by decide) (dM_0) rfl rfl (by decide) in11 lk106 dX11_clear_32 ?_
        refine lv_iload_n hx hb dX11_clear_35 rfl (lv_at hl 1 rfl) ?_
        refine lv_iconst (v := 0) hx hb dX11_clear_36 (by decide) ?_
        obtain ⟨g1013, h⟩ := gd_some h
        refine x_sz X hP hS (by decide) (dM_31) g1013 (by decide +kernel) dX11_clear_37 (fun σ1014 eσ1014 H locs hP hS => ?_)
        have h := nm_some eσ1014 h
        obtain ⟨v1015, ev1015⟩ : ∃ y : Int32, y = t1011.1 + 1 := ⟨_, rfl⟩
        have h := nm_some ev1015 h
        refine lv_iinc (v := v1015) (lv' := [(1, .int v1015), (0, .ref (ad 0))]) hx hb dX11_clear_38 hl (k := 1) rfl (by rw [ev1015]; rfl) (by decide) rfl (fun ls hl => ?_)
        refine lv_goto (tgt := 24) hx hb dX11_clear_41 (by decide) ?_
        exact hCL1010 _ (Option.some.inj h).symm H locs ls hP hS (lv_sub hl [1, 0] rfl)
    · intro H locs ls hP hS hl
      subst hQQ
      exact x_rv X hr hlocks hP hS (Option.some.inj h) dX11_clear_44
def f_11_hasGlass (n : Nat) (σ : St) (a1 : Int32) (a2 : Int32) : Option (Int32 × St) :=
  gd (inb a1 4) <| if a2 < (σ.1 2 a1.toNatClampNeg) then
    some (0, σ)
  else
    if (σ.1 3 a1.toNatClampNeg) ≤ a2 then
      some (0, σ)
    else
      nm (48 * a1) fun v4 =>
      nm (v4 + a2) fun v5 =>
      gd (inb v5 192) <| if (σ.1 1 a1.toNatClampNeg) ≤ (σ.1 25 v5.toNatClampNeg) then
        some (0, σ)
      else
        some (1, σ)
abbrev rm_11_hasGlass : Room := { frames := 0, cells := 0, slots := 0, locals := 0 }
set_option maxRecDepth 100000 in
set_option maxHeartbeats 4000000 in
theorem k_11_hasGlass (l : Launch) (D : va_G) (cA : Nat → ClassId) (ad : Nat → Nat) (hj : inj 41 ad) (n : Nat) (σ : St) (a1 : Int32) (a2 : Int32)  {res : Int32 × St} (h : f_11_hasGlass n σ a1 a2 = some res) : MXi l D dM 41 cA ad ET yX11_hasGlass wsX11_hasGlass rm_11_hasGlass [.ref (ad 0), .int a1, .int a2] σ res := by
  refine Met.ofW (cc := cX11_hasGlass) (maxL := 3) (ret := (some .boolean)) (by decide) rfl ?_
  intro p e s m args below meth c s₁ B hml hv
  obtain ⟨hargs, hP, hK, hE⟩ := hv
  have hx := B.exec
  have hb := B.bytes
  have hr := B.returns
  have hts := atoms_spec (ws := wsX11_hasGlass) B.pre
  have hown : s.vm.findClass RX11 = some m.cls := findClass_of_methodNamed B.named
  have hlocks := B.notSynchronized
  have X : Cx p s m args c cX11_hasGlass 3 RX11 wsX11_hasGlass D dM 41 cA ad ET := ⟨hx, hb, hml, hown, hts, hK, hj, hE, ET_ok⟩
  have hS : va_S (inA 41 ad) s.heap s.heap [] := va_S.rf
  have hl := lv_entry ([.ref (ad 0), .int a1, .int a2]) (n := 3) (Nat.le_of_ble_eq_true rfl)
  rw [show entryFrame m args 3 = entryFrame m ([.ref (ad 0), .int a1, .int a2] : List Value).toArray 3 by rw [hargs]]
  rw [lg_entry_eq]
  generalize (lg_sl ([.ref (ad 0), .int a1, .int a2]) ++ List.replicate (3 - (lg_sl ([.ref (ad 0), .int a1, .int a2])).length) Slot.unset).toArray = ls at hl ⊢
  have hl : lv_has ls 3 [(0, .ref (ad 0)), (1, .int a1), (2, .int a2)] := hl
  obtain ⟨QQ, hQQ⟩ : ∃ Q, Q = MQ below (va_Qi (fun r u => r = res.1 ∧ u = res.2) (fun u t => va_P D vwCl (ww dM 41 cA ad u) t.heap) (inA 41 ad)) args s 0 0 (inA 41 ad) := ⟨_, rfl⟩
  show W p l e (headSpec wsX11_hasGlass rm_11_hasGlass).room s m args below meth c s.heap [] 0 0 (MQ below (va_Qi (fun r u => r = res.1 ∧ u = res.2) (fun u t => va_P D vwCl (ww dM 41 cA ad u) t.heap) (inA 41 ad)) args s 0 0 (inA 41 ad)) _
  rw [← hQQ]
  have in11 : ∀ w ∈ wsX110, w ∈ wsX11_hasGlass := by decide +kernel
  have lk13 : Cond.fieldLink RX11 13 "CureTownModel" "begins" "[I" ∈ wsX11_hasGlass := by decide +kernel
  have lk16 : Cond.fieldLink RX11 16 "CureTownModel" "ends" "[I" ∈ wsX11_hasGlass := by decide +kernel
  have lk88 : Cond.fieldLink RX11 88 "CureTownModel" "taken" "[I" ∈ wsX11_hasGlass := by decide +kernel
  have lk7 : Cond.fieldLink RX11 7 "CureTownModel" "gives" "[I" ∈ wsX11_hasGlass := by decide +kernel
  unfold f_11_hasGlass at h
  obtain ⟨H, hH⟩ : ∃ H, H = s.heap := ⟨_, rfl⟩
  obtain ⟨locs, hlc⟩ : ∃ q : List Loc, q = [] := ⟨_, rfl⟩
  have hP : va_P D vwCl (ww dM 41 cA ad σ) s.heap := hP
  have hS : va_S (inA 41 ad) s.heap s.heap [] := hS
  rw [← hlc] at hS ⊢
  rw [show W p l e (headSpec wsX11_hasGlass rm_11_hasGlass).room s m args below meth c s.heap locs 0 0 QQ = W p l e (headSpec wsX11_hasGlass rm_11_hasGlass).room s m args below meth c H locs 0 0 QQ by rw [hH]]
  have hS : va_S (inA 41 ad) s.heap H locs := by rw [hH]; exact hS
  have hP : va_P D vwCl (ww dM 41 cA ad σ) H := by rw [hH]; exact hP
  clear hH hlc
  refine lv_iload_n hx hb dX11_hasGlass_0 rfl (lv_at hl 2 rfl) ?_
  refine lv_aload_n hx hb dX11_hasGlass_1 rfl (lv_at hl 0 rfl) ?_
  refine x_gr X hP (j := 4) (by decide) (dM_0) rfl rfl (by decide) in11 lk13 dX11_hasGlass_2 ?_
  refine lv_iload_n hx hb dX11_hasGlass_5 rfl (lv_at hl 1 rfl) ?_
  obtain ⟨g1, h⟩ := gd_some h
  refine x_ai X hP (by decide) (dM_2) g1 dX11_hasGlass_6 ?_
  refine lv_icmp_lt (tgt := 44) hx hb dX11_hasGlass_7 (by decide) (fun c2 => ?_) (fun c2 => ?_)
  · have h := it_t c2 h
    refine lv_iconst (v := 0) hx hb dX11_hasGlass_44 (by decide) ?_
    subst hQQ
    exact x_rz X hr hlocks hP hS (by decide +kernel) (Option.some.inj h) dX11_hasGlass_45
  · have h := it_f c2 h
    refine lv_iload_n hx hb dX11_hasGlass_10 rfl (lv_at hl 2 rfl) ?_
    refine lv_aload_n hx hb dX11_hasGlass_11 rfl (lv_at hl 0 rfl) ?_
    refine x_gr X hP (j := 5) (by decide) (dM_0) rfl rfl (by decide) in11 lk16 dX11_hasGlass_12 ?_
    refine lv_iload_n hx hb dX11_hasGlass_15 rfl (lv_at hl 1 rfl) ?_
    refine x_ai X hP (by decide) (dM_3) g1 dX11_hasGlass_16 ?_
    refine lv_icmp_ge (tgt := 44) hx hb dX11_hasGlass_17 (by decide) (fun c3 => ?_) (fun c3 => ?_)
    · have h := it_t c3 h
      refine lv_iconst (v := 0) hx hb dX11_hasGlass_44 (by decide) ?_
      subst hQQ
      exact x_rz X hr hlocks hP hS (by decide +kernel) (Option.some.inj h) dX11_hasGlass_45
    · have h := it_f c3 h
      refine lv_aload_n hx hb dX11_hasGlass_20 rfl (lv_at hl 0 rfl) ?_
      refine x_gr X hP (j := 39) (by decide) (dM_0) rfl rfl (by decide) in11 lk88 dX11_hasGlass_21 ?_
      refine lv_bipush (v := 48) hx hb dX11_hasGlass_24 (by decide) ?_
      refine lv_iload_n hx hb dX11_hasGlass_26 rfl (lv_at hl 1 rfl) ?_
      refine lv_imul hx hb dX11_hasGlass_27 ?_
      refine lv_topi (fun v4 ev4 => ?_)
      have h := nm_some ev4 h
      refine lv_iload_n hx hb dX11_hasGlass_28 rfl (lv_at hl 2 rfl) ?_
      refine lv_iadd hx hb dX11_hasGlass_29 ?_
      refine lv_topi (fun v5 ev5 => ?_)
      have h := nm_some ev5 h
      obtain ⟨g6, h⟩ := gd_some h
      refine x_ai X hP (by decide) (dM_25) g6 dX11_hasGlass_30 ?_
      refine lv_aload_n hx hb dX11_hasGlass_31 rfl (lv_at hl 0 rfl) ?_
      refine x_gr X hP (j := 3) (by decide) (dM_0) rfl rfl (by decide) in11 lk7 dX11_hasGlass_32 ?_
      refine lv_iload_n hx hb dX11_hasGlass_35 rfl (lv_at hl 1 rfl) ?_
      refine x_ai X hP (by decide) (dM_1) g1 dX11_hasGlass_36 ?_
      refine lv_icmp_ge (tgt := 44) hx hb dX11_hasGlass_37 (by decide) (fun c7 => ?_) (fun c7 => ?_)
      · have h := it_t c7 h
        refine lv_iconst (v := 0) hx hb dX11_hasGlass_44 (by decide) ?_
        subst hQQ
        exact x_rz X hr hlocks hP hS (by decide +kernel) (Option.some.inj h) dX11_hasGlass_45
      · have h := it_f c7 h
        refine lv_iconst (v := 1) hx hb dX11_hasGlass_40 (by decide) ?_
        refine lv_goto (tgt := 45) hx hb dX11_hasGlass_41 (by decide) ?_
        subst hQQ
        exact x_rz X hr hlocks hP hS (by decide +kernel) (Option.some.inj h) dX11_hasGlass_45
def b_11_isFree_29 (n : Nat) (a1 : Int32) (a3 : Int32) (a4 : Int32) (t5 : Int32 × Int32 × St) : Option ((Int32 × Int32 × St) ⊕ (Int32 × Int32 × St)) :=
  nm (a3 + a4) fun v6 =>
  if v6 ≤ t5.2.1 then
    some (.inr (t5.1, t5.2.1, t5.2.2))
  else
    if t5.1 = 0 then
      some (.inr (t5.1, t5.2.1, t5.2.2))
    else
      nm (48 * a1) fun v9 =>
      nm (v9 + t5.2.1) fun v10 =>
      gd (inb v10 288) <| if (t5.2.2.1 31 v10.toNatClampNeg) = 0 then
        nm (t5.2.1 + 1) fun v14 =>
        some (.inl (1, v14, t5.2.2))
      else
        nm (t5.2.1 + 1) fun v13 =>
        some (.inl (0, v13, t5.2.2))
def j_11_isFree_24 (n : Nat) (a1 : Int32) (a3 : Int32) (a4 : Int32) (w0_ : Int32) (σ : St) : Option (Int32 × St) :=
  (lq (b_11_isFree_29 n a1 a3 a4) n (w0_, a3, σ)).bind fun t1015 =>
  gd (isb t1015.1) <| some (t1015.1, t1015.2.2)
def f_11_isFree (n : Nat) (σ : St) (a1 : Int32) (a2 : Int32) (a3 : Int32) (a4 : Int32) : Option (Int32 × St) :=
  gd (inb a1 6) <| if (σ.1 7 a1.toNatClampNeg) = 0 then
    j_11_isFree_24 n a1 a3 a4 0 σ
  else
    if (σ.1 5 a1.toNatClampNeg) = a2 then
      j_11_isFree_24 n a1 a3 a4 1 σ
    else
      j_11_isFree_24 n a1 a3 a4 0 σ
abbrev rm_11_isFree : Room := { frames := 0, cells := 0, slots := 0, locals := 0 }
set_option maxRecDepth 100000 in
set_option maxHeartbeats 4000000 in
theorem k_11_isFree (l : Launch) (D : va_G) (cA : Nat → ClassId) (ad : Nat → Nat) (hj : inj 41 ad) (n : Nat) (σ : St) (a1 : Int32) (a2 : Int32) (a3 : Int32) (a4 : Int32)  {res : Int32 × St} (h : f_11_isFree n σ a1 a2 a3 a4 = some res) : MXi l D dM 41 cA ad ET yX11_isFree wsX11_isFree rm_11_isFree [.ref (ad 0), .int a1, .int a2, .int a3, .int a4] σ res := by
  refine Met.ofW (cc := cX11_isFree) (maxL := 7) (ret := (some .boolean)) (by decide) rfl ?_
  intro p e s m args below meth c s₁ B hml hv
  obtain ⟨hargs, hP, hK, hE⟩ := hv
  have hx := B.exec
  have hb := B.bytes
  have hr := B.returns
  have hts := atoms_spec (ws := wsX11_isFree) B.pre
  have hown : s.vm.findClass RX11 = some m.cls := findClass_of_methodNamed B.named
  have hlocks := B.notSynchronized
  have X : Cx p s m args c cX11_isFree 7 RX11 wsX11_isFree D dM 41 cA ad ET := ⟨hx, hb, hml, hown, hts, hK, hj, hE, ET_ok⟩
  have hS : va_S (inA 41 ad) s.heap s.heap [] := va_S.rf
  have hl := lv_entry ([.ref (ad 0), .int a1, .int a2, .int a3, .int a4]) (n := 7) (Nat.le_of_ble_eq_true rfl)
  rw [show entryFrame m args 7 = entryFrame m ([.ref (ad 0), .int a1, .int a2, .int a3, .int a4] : List Value).toArray 7 by rw [hargs]]
  rw [lg_entry_eq]
  generalize (lg_sl ([.ref (ad 0), .int a1, .int a2, .int a3, .int a4]) ++ List.replicate (7 - (lg_sl ([.ref (ad 0), .int a1, .int a2, .int a3, .int a4])).length) Slot.unset).toArray = ls at hl ⊢
  have hl : lv_has ls 7 [(0, .ref (ad 0)), (1, .int a1), (2, .int a2), (3, .int a3), (4, .int a4)] := hl
  obtain ⟨QQ, hQQ⟩ : ∃ Q, Q = MQ below (va_Qi (fun r u => r = res.1 ∧ u = res.2) (fun u t => va_P D vwCl (ww dM 41 cA ad u) t.heap) (inA 41 ad)) args s 0 0 (inA 41 ad) := ⟨_, rfl⟩
  show W p l e (headSpec wsX11_isFree rm_11_isFree).room s m args below meth c s.heap [] 0 0 (MQ below (va_Qi (fun r u => r = res.1 ∧ u = res.2) (fun u t => va_P D vwCl (ww dM 41 cA ad u) t.heap) (inA 41 ad)) args s 0 0 (inA 41 ad)) _
  rw [← hQQ]
  have in11 : ∀ w ∈ wsX110, w ∈ wsX11_isFree := by decide +kernel
  have lk28 : Cond.fieldLink RX11 28 "CureTownModel" "open" "[Z" ∈ wsX11_isFree := by decide +kernel
  have lk106 : Cond.fieldLink RX11 106 "CureTownModel" "bathed" "[Z" ∈ wsX11_isFree := by decide +kernel
  have lk22 : Cond.fieldLink RX11 22 "CureTownModel" "kindOf" "[I" ∈ wsX11_isFree := by decide +kernel
  unfold f_11_isFree at h
  obtain ⟨H, hH⟩ : ∃ H, H = s.heap := ⟨_, rfl⟩
  obtain ⟨locs, hlc⟩ : ∃ q : List Loc, q = [] := ⟨_, rfl⟩
  have hP : va_P D vwCl (ww dM 41 cA ad σ) s.heap := hP
  have hS : va_S (inA 41 ad) s.heap s.heap [] := hS
  rw [← hlc] at hS ⊢
  rw [show W p l e (headSpec wsX11_isFree rm_11_isFree).room s m args below meth c s.heap locs 0 0 QQ = W p l e (headSpec wsX11_isFree rm_11_isFree).room s m args below meth c H locs 0 0 QQ by rw [hH]]
  have hS : va_S (inA 41 ad) s.heap H locs := by rw [hH]; exact hS
  have hP : va_P D vwCl (ww dM 41 cA ad σ) H := by rw [hH]; exact hP
  clear hH hlc
  refine lv_aload_n hx hb dX11_isFree_0 rfl (lv_at hl 0 rfl) ?_
  refine x_gr X hP (j := 9) (by decide) (dM_0) rfl rfl (by decide) in11 lk28 dX11_isFree_1 ?_
  refine lv_iload_n hx hb dX11_isFree_4 rfl (lv_at hl 1 rfl) ?_
  obtain ⟨g1, h⟩ := gd_some h
  refine x_az X hP (by decide) (dM_7) g1 dX11_isFree_5 ?_
  have hJ24 : ∀ (w2 : Int32) (σ3 : St), j_11_isFree_24 n a1 a3 a4 w2 σ3 = some res → ∀ (H : Heap) (locs : List Loc) (ls : Array Slot), va_P D vwCl (ww dM 41 cA ad σ3) H → va_S (inA 41 ad) s.heap H locs → lv_has ls 7 [(0, .ref (ad 0)), (1, .int a1), (3, .int a3), (4, .int a4)] → W p l e (headSpec wsX11_isFree rm_11_isFree).room s m args below meth c H locs 0 0 QQ (F0 m 24 ls [.int w2]) := by
    clear h hP hS hl
    intro w2 σ3 h H locs ls hP hS hl
    unfold j_11_isFree_24 at h
    refine lv_istore (lv' := [(5, .int w2), (0, .ref (ad 0)), (1, .int a1), (3, .int a3), (4, .int a4)]) hx hb dX11_isFree_24 hl (by decide) rfl (fun ls hl => ?_)
    refine lv_iload_n hx hb dX11_isFree_26 rfl (lv_at hl 3 rfl) ?_
    refine lv_istore (lv' := [(6, .int a3), (5, .int w2), (0, .ref (ad 0)), (1, .int a1), (3, .int a3), (4, .int a4)]) hx hb dX11_isFree_27 hl (by decide) rfl (fun ls hl => ?_)
    obtain ⟨t2030, o2032, h⟩ := bd_some h
    refine lq_rule (P := fun t1020 : Int32 × Int32 × St => ∀ (H : Heap) (locs : List Loc) (ls : Array Slot), va_P D vwCl (ww dM 41 cA ad t1020.2.2) H → va_S (inA 41 ad) s.heap H locs → lv_has ls 7 [(0, .ref (ad 0)), (1, .int a1), (3, .int a3), (4, .int a4), (5, .int t1020.1), (6, .int t1020.2.1)] → W p l e (headSpec wsX11_isFree rm_11_isFree).room s m args below meth c H locs 0 0 QQ (F0 m 29 ls [])) (X := fun t2030 : Int32 × Int32 × St => ∀ (H : Heap) (locs : List Loc) (ls : Array Slot), va_P D vwCl (ww dM 41 cA ad t2030.2.2) H → va_S (inA 41 ad) s.heap H locs → lv_has ls 7 [(0, .ref (ad 0)), (1, .int a1), (3, .int a3), (4, .int a4), (5, .int t2030.1), (6, .int t2030.2.1)] → W p l e (headSpec wsX11_isFree rm_11_isFree).room s m args below meth c H locs 0 0 QQ (F0 m 71 ls [])) ?_ n _ _ o2032 ?_ H locs ls hP hS (lv_sub hl [2, 3, 4, 5, 1, 0] rfl)
    · clear h hP hS hl
      intro t1020 rL1019 h hCL1019 hEL1019 H locs ls hP hS hl
      unfold b_11_isFree_29 at h
      refine lv_iload hx hb dX11_isFree_29 (lv_at hl 5 rfl) ?_
      refine lv_iload_n hx hb dX11_isFree_31 rfl (lv_at hl 2 rfl) ?_
      refine lv_iload hx hb dX11_isFree_32 (lv_at hl 3 rfl) ?_
      refine lv_iadd hx hb dX11_isFree_34 ?_
      refine lv_topi (fun v1021 ev1021 => ?_)
      have h := nm_some ev1021 h
      refine lv_icmp_ge (tgt := 71) hx hb dX11_isFree_35 (by decide) (fun c1022 => ?_) (fun c1022 => ?_)
      · have h := it_t c1022 h
        exact hEL1019 _ (Option.some.inj h).symm H locs ls hP hS (lv_sub hl [0, 1, 2, 3, 4, 5] rfl)
      · have h := it_f c1022 h
        refine lv_iload hx hb dX11_isFree_38 (lv_at hl 4 rfl) ?_
        refine lv_if_eq (tgt := 71) hx hb dX11_isFree_40 (by decide) (fun c1023 => ?_) (fun c1023 => ?_)
        · have h := it_t c1023 h
          exact hEL1019 _ (Option.some.inj h).symm H locs ls hP hS (lv_sub hl [0, 1, 2, 3, 4, 5] rfl)
        · have h := it_f c1023 h
          refine lv_aload_n hx hb dX11_isFree_43 rfl (lv_at hl 0 rfl) ?_
          refine x_gr X hP (j := 45) (by decide) (dM_0) rfl rfl (by decide) in11 lk106 dX11_isFree_44 ?_
          refine lv_bipush (v := 48) hx hb dX11_isFree_47 (by decide) ?_
          refine lv_iload_n hx hb dX11_isFree_49 rfl (lv_at hl 1 rfl) ?_
          refine lv_imul hx hb dX11_isFree_50 ?_
          refine lv_topi (fun v1024 ev1024 => ?_)
          have h := nm_some ev1024 h
          refine lv_iload hx hb dX11_isFree_51 (lv_at hl 5 rfl) ?_
          refine lv_iadd hx hb dX11_isFree_53 ?_
          refine lv_topi (fun v1025 ev1025 => ?_)
          have h := nm_some ev1025 h
          obtain ⟨g1026, h⟩ := gd_some h
          refine x_az X hP (by decide) (dM_31) g1026 dX11_isFree_54 ?_
          refine lv_if_ne (tgt := 62) hx hb dX11_isFree_55 (by decide) (fun c1027 => ?_) (fun c1027 => ?_)
          · have h := it_f c1027 h
            refine lv_iconst (v := 0) hx hb dX11_isFree_62 (by decide) ?_
            refine lv_istore (lv' := [(5, .int 0), (0, .ref (ad 0)), (1, .int a1), (3, .int a3), (4, .int a4), (6, .int t1020.2.1)]) hx hb dX11_isFree_63 hl (by decide) rfl (fun ls hl => ?_)
            obtain ⟨v1028, ev1028⟩ : ∃ y : Int32, y = t1020.2.1 + 1 := ⟨_, rfl⟩
            have h := nm_some ev1028 h
            refine lv_iinc (v := v1028) (lv' := [(6, .int v1028), (5, .int 0), (0, .ref (ad 0)), (1, .int a1), (3, .int a3), (4, .int a4)]) hx hb dX11_isFree_65 hl (k := 5) rfl (by rw [ev1028]; rfl) (by decide) rfl (fun ls hl => ?_)
            refine lv_goto (tgt := 29) hx hb dX11_isFree_68 (by decide) ?_
            exact hCL1019 _ (Option.some.inj h).symm H locs ls hP hS (lv_sub hl [2, 3, 4, 5, 1, 0] rfl)
          · have h := it_t c1027 h
            refine lv_iconst (v := 1) hx hb dX11_isFree_58 (by decide) ?_
            refine lv_goto (tgt := 63) hx hb dX11_isFree_59 (by decide) ?_
            refine lv_istore (lv' := [(5, .int 1), (0, .ref (ad 0)), (1, .int a1), (3, .int a3), (4, .int a4), (6, .int t1020.2.1)]) hx hb dX11_isFree_63 hl (by decide) rfl (fun ls hl => ?_)
            obtain ⟨v1029, ev1029⟩ : ∃ y : Int32, y = t1020.2.1 + 1 := ⟨_, rfl⟩
            have h := nm_some ev1029 h
            refine lv_iinc (v := v1029) (lv' := [(6, .int v1029), (5, .int 1), (0, .ref (ad 0)), (1, .int a1), (3, .int a3), (4, .int a4)]) hx hb dX11_isFree_65 hl (k := 5) rfl (by rw [ev1029]; rfl) (by decide) rfl (fun ls hl => ?_)
            refine lv_goto (tgt := 29) hx hb dX11_isFree_68 (by decide) ?_
            exact hCL1019 _ (Option.some.inj h).symm H locs ls hP hS (lv_sub hl [2, 3, 4, 5, 1, 0] rfl)
    · intro H locs ls hP hS hl
      refine lv_iload hx hb dX11_isFree_71 (lv_at hl 4 rfl) ?_
      obtain ⟨g2033, h⟩ := gd_some h
      subst hQQ
      exact x_rz X hr hlocks hP hS (isb_nar g2033) (Option.some.inj h) dX11_isFree_73
  refine lv_if_eq (tgt := 23) hx hb dX11_isFree_6 (by decide) (fun c2034 => ?_) (fun c2034 => ?_)
  · have h := it_t c2034 h
    refine lv_iconst (v := 0) hx hb dX11_isFree_23 (by decide) ?_
    exact hJ24  0 σ h H locs ls hP hS (lv_sub hl [0, 1, 3, 4] rfl)
  · have h := it_f c2034 h
    refine lv_aload_n hx hb dX11_isFree_9 rfl (lv_at hl 0 rfl) ?_
    refine x_gr X hP (j := 7) (by decide) (dM_0) rfl rfl (by decide) in11 lk22 dX11_isFree_10 ?_
    refine lv_iload_n hx hb dX11_isFree_13 rfl (lv_at hl 1 rfl) ?_
    refine x_ai X hP (by decide) (dM_5) g1 dX11_isFree_14 ?_
    refine lv_iload_n hx hb dX11_isFree_15 rfl (lv_at hl 2 rfl) ?_
    refine lv_icmp_ne (tgt := 23) hx hb dX11_isFree_16 (by decide) (fun c2035 => ?_) (fun c2035 => ?_)
    · have h := it_f c2035 h
      refine lv_iconst (v := 0) hx hb dX11_isFree_23 (by decide) ?_
      exact hJ24  0 σ h H locs ls hP hS (lv_sub hl [0, 1, 3, 4] rfl)
    · have h := it_t c2035 h
      refine lv_iconst (v := 1) hx hb dX11_isFree_19 (by decide) ?_
      refine lv_goto (tgt := 24) hx hb dX11_isFree_20 (by decide) ?_
      exact hJ24  1 σ h H locs ls hP hS (lv_sub hl [0, 1, 3, 4] rfl)
def f_11_does (n : Nat) (σ : St) (a1 : Int32) (a2 : Int32) (a3 : Int32) (a4 : Int32) (a5 : Int32) : Option (St) :=
  nm (30 * a1) fun v1 =>
  gd (inb a1 8) <| nm (v1 + (σ.1 27 a1.toNatClampNeg)) fun v3 =>
  gd (inb v3 240) <| nm (si σ 32 (v3.toNatClampNeg) a3) fun σ5 =>
  nm (si σ5 33 (v3.toNatClampNeg) a5) fun σ6 =>
  nm (si σ6 34 (v3.toNatClampNeg) a2) fun σ7 =>
  nm ((σ7.1 27 a1.toNatClampNeg) + 1) fun v8 =>
  nm (si σ7 27 (a1.toNatClampNeg) v8) fun σ9 =>
  nm (a3 + a4) fun v10 =>
  nm (si σ9 0 49 v10) fun σ11 =>
  nm (si σ11 28 (a1.toNatClampNeg) (σ11.1 0 49)) fun σ12 =>
  some σ12
abbrev rm_11_does : Room := { frames := 0, cells := 0, slots := 0, locals := 0 }
set_option maxRecDepth 100000 in
set_option maxHeartbeats 4000000 in
theorem k_11_does (l : Launch) (D : va_G) (cA : Nat → ClassId) (ad : Nat → Nat) (hj : inj 41 ad) (n : Nat) (σ : St) (a1 : Int32) (a2 : Int32) (a3 : Int32) (a4 : Int32) (a5 : Int32)  {res : St} (h : f_11_does n σ a1 a2 a3 a4 a5 = some res) : MXv l D dM 41 cA ad ET yX11_does wsX11_does rm_11_does [.ref (ad 0), .int a1, .int a2, .int a3, .int a4, .int a5] σ res := by
  refine Met.ofW (cc := cX11_does) (maxL := 7) (ret := none) (by decide) rfl ?_
  intro p e s m args below meth c s₁ B hml hv
  obtain ⟨hargs, hP, hK, hE⟩ := hv
  have hx := B.exec
  have hb := B.bytes
  have hr := B.returns
  have hts := atoms_spec (ws := wsX11_does) B.pre
  have hown : s.vm.findClass RX11 = some m.cls := findClass_of_methodNamed B.named
  have hlocks := B.notSynchronized
  have X : Cx p s m args c cX11_does 7 RX11 wsX11_does D dM 41 cA ad ET := ⟨hx, hb, hml, hown, hts, hK, hj, hE, ET_ok⟩
  have hS : va_S (inA 41 ad) s.heap s.heap [] := va_S.rf
  have hl := lv_entry ([.ref (ad 0), .int a1, .int a2, .int a3, .int a4, .int a5]) (n := 7) (Nat.le_of_ble_eq_true rfl)
  rw [show entryFrame m args 7 = entryFrame m ([.ref (ad 0), .int a1, .int a2, .int a3, .int a4, .int a5] : List Value).toArray 7 by rw [hargs]]
  rw [lg_entry_eq]
  generalize (lg_sl ([.ref (ad 0), .int a1, .int a2, .int a3, .int a4, .int a5]) ++ List.replicate (7 - (lg_sl ([.ref (ad 0), .int a1, .int a2, .int a3, .int a4, .int a5])).length) Slot.unset).toArray = ls at hl ⊢
  have hl : lv_has ls 7 [(0, .ref (ad 0)), (1, .int a1), (2, .int a2), (3, .int a3), (4, .int a4), (5, .int a5)] := hl
  obtain ⟨QQ, hQQ⟩ : ∃ Q, Q = MQ below (va_Qv (fun u => u = res) (fun u t => va_P D vwCl (ww dM 41 cA ad u) t.heap) (inA 41 ad)) args s 0 0 (inA 41 ad) := ⟨_, rfl⟩
  show W p l e (headSpec wsX11_does rm_11_does).room s m args below meth c s.heap [] 0 0 (MQ below (va_Qv (fun u => u = res) (fun u t => va_P D vwCl (ww dM 41 cA ad u) t.heap) (inA 41 ad)) args s 0 0 (inA 41 ad)) _
  rw [← hQQ]
  have in11 : ∀ w ∈ wsX110, w ∈ wsX11_does := by decide +kernel
  have lk94 : Cond.fieldLink RX11 94 "CureTownModel" "done" "[I" ∈ wsX11_does := by decide +kernel
  have lk109 : Cond.fieldLink RX11 109 "CureTownModel" "when" "[I" ∈ wsX11_does := by decide +kernel
  have lk112 : Cond.fieldLink RX11 112 "CureTownModel" "where" "[I" ∈ wsX11_does := by decide +kernel
  have lk115 : Cond.fieldLink RX11 115 "CureTownModel" "what0" "[I" ∈ wsX11_does := by decide +kernel
  have lk239 : Cond.fieldLink RX11 239 "CureTownModel" "now" "I" ∈ wsX11_does := by decide +kernel
  have lk97 : Cond.fieldLink RX11 97 "CureTownModel" "end" "[I" ∈ wsX11_does := by decide +kernel
  unfold f_11_does at h
  obtain ⟨H, hH⟩ : ∃ H, H = s.heap := ⟨_, rfl⟩
  obtain ⟨locs, hlc⟩ : ∃ q : List Loc, q = [] := ⟨_, rfl⟩
  have hP : va_P D vwCl (ww dM 41 cA ad σ) s.heap := hP
  have hS : va_S (inA 41 ad) s.heap s.heap [] := hS
  rw [← hlc] at hS ⊢
  rw [show W p l e (headSpec wsX11_does rm_11_does).room s m args below meth c s.heap locs 0 0 QQ = W p l e (headSpec wsX11_does rm_11_does).room s m args below meth c H locs 0 0 QQ by rw [hH]]
  have hS : va_S (inA 41 ad) s.heap H locs := by rw [hH]; exact hS
  have hP : va_P D vwCl (ww dM 41 cA ad σ) H := by rw [hH]; exact hP
  clear hH hlc
  refine lv_bipush (v := 30) hx hb dX11_does_0 (by decide) ?_
  refine lv_iload_n hx hb dX11_does_2 rfl (lv_at hl 1 rfl) ?_
  refine lv_imul hx hb dX11_does_3 ?_
  refine lv_topi (fun v1 ev1 => ?_)
  have h := nm_some ev1 h
  refine lv_aload_n hx hb dX11_does_4 rfl (lv_at hl 0 rfl) ?_
  refine x_gr X hP (j := 41) (by decide) (dM_0) rfl rfl (by decide) in11 lk94 dX11_does_5 ?_
  refine lv_iload_n hx hb dX11_does_8 rfl (lv_at hl 1 rfl) ?_
  obtain ⟨g2, h⟩ := gd_some h
  refine x_ai X hP (by decide) (dM_27) g2 dX11_does_9 ?_
  refine lv_iadd hx hb dX11_does_10 ?_
  refine lv_topi (fun v3 ev3 => ?_)
  have h := nm_some ev3 h
  refine lv_istore (lv' := [(6, .int v3), (0, .ref (ad 0)), (1, .int a1), (2, .int a2), (3, .int a3), (4, .int a4), (5, .int a5)]) hx hb dX11_does_11 hl (by decide) rfl (fun ls hl => ?_)
  refine lv_aload_n hx hb dX11_does_13 rfl (lv_at hl 1 rfl) ?_
  refine x_gr X hP (j := 46) (by decide) (dM_0) rfl rfl (by decide) in11 lk109 dX11_does_14 ?_
  refine lv_iload hx hb dX11_does_17 (lv_at hl 0 rfl) ?_
  refine lv_iload_n hx hb dX11_does_19 rfl (lv_at hl 4 rfl) ?_
  obtain ⟨g4, h⟩ := gd_some h
  refine x_si X hP hS (by decide) (dM_32) g4 dX11_does_20 (fun σ5 eσ5 H locs hP hS => ?_)
  have h := nm_some eσ5 h
  refine lv_aload_n hx hb dX11_does_21 rfl (lv_at hl 1 rfl) ?_
  refine x_gr X hP (j := 47) (by decide) (dM_0) rfl rfl (by decide) in11 lk112 dX11_does_22 ?_
  refine lv_iload hx hb dX11_does_25 (lv_at hl 0 rfl) ?_
  refine lv_iload hx hb dX11_does_27 (lv_at hl 6 rfl) ?_
  refine x_si X hP hS (by decide) (dM_33) g4 dX11_does_29 (fun σ6 eσ6 H locs hP hS => ?_)
  have h := nm_some eσ6 h
  refine lv_aload_n hx hb dX11_does_30 rfl (lv_at hl 1 rfl) ?_
  refine x_gr X hP (j := 48) (by decide) (dM_0) rfl rfl (by decide) in11 lk115 dX11_does_31 ?_
  refine lv_iload hx hb dX11_does_34 (lv_at hl 0 rfl) ?_
  refine lv_iload_n hx hb dX11_does_36 rfl (lv_at hl 3 rfl) ?_
  refine x_si X hP hS (by decide) (dM_34) g4 dX11_does_37 (fun σ7 eσ7 H locs hP hS => ?_)
  have h := nm_some eσ7 h
  refine lv_aload_n hx hb dX11_does_38 rfl (lv_at hl 1 rfl) ?_
  refine x_gr X hP (j := 41) (by decide) (dM_0) rfl rfl (by decide) in11 lk94 dX11_does_39 ?_
  refine lv_iload_n hx hb dX11_does_42 rfl (lv_at hl 2 rfl) ?_
  refine lv_dup2_11 hx hb dX11_does_43 rfl rfl ?_
  refine x_ai X hP (by decide) (dM_27) g2 dX11_does_44 ?_
  refine lv_iconst (v := 1) hx hb dX11_does_45 (by decide) ?_
  refine lv_iadd hx hb dX11_does_46 ?_
  refine lv_topi (fun v8 ev8 => ?_)
  have h := nm_some ev8 h
  refine x_si X hP hS (by decide) (dM_27) g2 dX11_does_47 (fun σ9 eσ9 H locs hP hS => ?_)
  have h := nm_some eσ9 h
  refine lv_aload_n hx hb dX11_does_48 rfl (lv_at hl 1 rfl) ?_
  refine lv_iload_n hx hb dX11_does_49 rfl (lv_at hl 4 rfl) ?_
  refine lv_iload hx hb dX11_does_50 (lv_at hl 5 rfl) ?_
  refine lv_iadd hx hb dX11_does_52 ?_
  refine lv_topi (fun v10 ev10 => ?_)
  have h := nm_some ev10 h
  refine x_pi X hP hS (j := 49) (by decide) (dM_0) rfl rfl (by decide) in11 tyX11_ok nmX11 lk239 rfl rfl rfl rfl dX11_does_53 (fun σ11 eσ11 H locs hP hS => ?_)
  have h := nm_some eσ11 h
  refine lv_aload_n hx hb dX11_does_56 rfl (lv_at hl 1 rfl) ?_
  refine x_gr X hP (j := 42) (by decide) (dM_0) rfl rfl (by decide) in11 lk97 dX11_does_57 ?_
  refine lv_iload_n hx hb dX11_does_60 rfl (lv_at hl 2 rfl) ?_
  refine lv_aload_n hx hb dX11_does_61 rfl (lv_at hl 1 rfl) ?_
  refine x_gi X hP (j := 49) (by decide) (dM_0) rfl rfl (by decide) in11 lk239 dX11_does_62 ?_
  refine x_si X hP hS (by decide) (dM_28) g2 dX11_does_65 (fun σ12 eσ12 H locs hP hS => ?_)
  have h := nm_some eσ12 h
  subst hQQ
  exact x_rv X hr hlocks hP hS (Option.some.inj h) dX11_does_66
def b_11_drinks_5 (n : Nat) (a1 : Int32) (a2 : Int32) (t3 : Int32 × St) : Option ((Int32 × St) ⊕ (Int32 × St)) :=
  if 48 ≤ t3.1 then
    some (.inr (t3.1, t3.2))
  else
    (f_11_hasGlass n t3.2 a2 t3.1).bind fun r5 =>
    if r5.1 = 0 then
      nm (t3.1 + 1) fun v8 =>
      some (.inl (v8, r5.2))
    else
      some (.inr (t3.1, r5.2))
def f_11_drinks (n : Nat) (σ : St) (a1 : Int32) (a2 : Int32) : Option (Int32 × St) :=
  nm ((σ.1 0 49)) fun v1 =>
  (lq (b_11_drinks_5 n a1 a2) n (v1, σ)).bind fun t1009 =>
  if t1009.1 = 48 then
    some (0, t1009.2)
  else
    nm (48 * a2) fun v1013 =>
    nm (v1013 + t1009.1) fun v1014 =>
    gd (inb v1014 192) <| nm ((t1009.2.1 25 v1014.toNatClampNeg) + 1) fun v1016 =>
    nm (si t1009.2 25 (v1014.toNatClampNeg) v1016) fun σ1017 =>
    gd (inb a1 8) <| nm ((σ1017.1 29 a1.toNatClampNeg) + 1) fun v1019 =>
    nm (si σ1017 29 (a1.toNatClampNeg) v1019) fun σ1020 =>
    (f_11_does n σ1020 a1 0 t1009.1 1 (-1)).bind fun r1021 =>
    some (1, r1021)
abbrev rm_11_drinks : Room := { frames := 1, cells := 0, slots := 0, locals := 26 }
set_option maxRecDepth 100000 in
set_option maxHeartbeats 4000000 in
theorem k_11_drinks (l : Launch) (D : va_G) (cA : Nat → ClassId) (ad : Nat → Nat) (hj : inj 41 ad) (n : Nat) (σ : St) (a1 : Int32) (a2 : Int32)  {res : Int32 × St} (h : f_11_drinks n σ a1 a2 = some res) : MXi l D dM 41 cA ad ET yX11_drinks wsX11_drinks rm_11_drinks [.ref (ad 0), .int a1, .int a2] σ res := by
  refine Met.ofW (cc := cX11_drinks) (maxL := 4) (ret := (some .boolean)) (by decide) rfl ?_
  intro p e s m args below meth c s₁ B hml hv
  obtain ⟨hargs, hP, hK, hE⟩ := hv
  have hx := B.exec
  have hb := B.bytes
  have hr := B.returns
  have hts := atoms_spec (ws := wsX11_drinks) B.pre
  have hown : s.vm.findClass RX11 = some m.cls := findClass_of_methodNamed B.named
  have hlocks := B.notSynchronized
  have X : Cx p s m args c cX11_drinks 4 RX11 wsX11_drinks D dM 41 cA ad ET := ⟨hx, hb, hml, hown, hts, hK, hj, hE, ET_ok⟩
  have hS : va_S (inA 41 ad) s.heap s.heap [] := va_S.rf
  have hl := lv_entry ([.ref (ad 0), .int a1, .int a2]) (n := 4) (Nat.le_of_ble_eq_true rfl)
  rw [show entryFrame m args 4 = entryFrame m ([.ref (ad 0), .int a1, .int a2] : List Value).toArray 4 by rw [hargs]]
  rw [lg_entry_eq]
  generalize (lg_sl ([.ref (ad 0), .int a1, .int a2]) ++ List.replicate (4 - (lg_sl ([.ref (ad 0), .int a1, .int a2])).length) Slot.unset).toArray = ls at hl ⊢
  have hl : lv_has ls 4 [(0, .ref (ad 0)), (1, .int a1), (2, .int a2)] := hl
  obtain ⟨QQ, hQQ⟩ : ∃ Q, Q = MQ below (va_Qi (fun r u => r = res.1 ∧ u = res.2) (fun u t => va_P D vwCl (ww dM 41 cA ad u) t.heap) (inA 41 ad)) args s 0 0 (inA 41 ad) := ⟨_, rfl⟩
  show W p l e (headSpec wsX11_drinks rm_11_drinks).room s m args below meth c s.heap [] 0 0 (MQ below (va_Qi (fun r u => r = res.1 ∧ u = res.2) (fun u t => va_P D vwCl (ww dM 41 cA ad u) t.heap) (inA 41 ad)) args s 0 0 (inA 41 ad)) _
  rw [← hQQ]
  have in11 : ∀ w ∈ wsX110, w ∈ wsX11_drinks := by decide +kernel
  have lk239 : Cond.fieldLink RX11 239 "CureTownModel" "now" "I" ∈ wsX11_drinks := by decide +kernel
  have lk88 : Cond.fieldLink RX11 88 "CureTownModel" "taken" "[I" ∈ wsX11_drinks := by decide +kernel
  have lk100 : Cond.fieldLink RX11 100 "CureTownModel" "glasses" "[I" ∈ wsX11_drinks := by decide +kernel
  unfold f_11_drinks at h
  obtain ⟨H, hH⟩ : ∃ H, H = s.heap := ⟨_, rfl⟩
  obtain ⟨locs, hlc⟩ : ∃ q : List Loc, q = [] := ⟨_, rfl⟩
  have hP : va_P D vwCl (ww dM 41 cA ad σ) s.heap := hP
  have hS : va_S (inA 41 ad) s.heap s.heap [] := hS
  rw [← hlc] at hS ⊢
  rw [show W p l e (headSpec wsX11_drinks rm_11_drinks).room s m args below meth c s.heap locs 0 0 QQ = W p l e (headSpec wsX11_drinks rm_11_drinks).room s m args below meth c H locs 0 0 QQ by rw [hH]]
  have hS : va_S (inA 41 ad) s.heap H locs := by rw [hH]; exact hS
  have hP : va_P D vwCl (ww dM 41 cA ad σ) H := by rw [hH]; exact hP
  clear hH hlc
  refine lv_aload_n hx hb dX11_drinks_0 rfl (lv_at hl 0 rfl) ?_
  refine x_gi X hP (j := 49) (by decide) (dM_0) rfl rfl (by decide) in11 lk239 dX11_drinks_1 ?_
  refine lv_topi (fun v1 ev1 => ?_)
  have h := nm_some ev1 h
  refine lv_istore_n (lv' := [(3, .int v1), (0, .ref (ad 0)), (1, .int a1), (2, .int a2)]) hx hb dX11_drinks_4 rfl hl (by decide) rfl (fun ls hl => ?_)
  obtain ⟨t1009, o1011, h⟩ := bd_some h
  refine lq_rule (P := fun t3 : Int32 × St => ∀ (H : Heap) (locs : List Loc) (ls : Array Slot), va_P D vwCl (ww dM 41 cA ad t3.2) H → va_S (inA 41 ad) s.heap H locs → lv_has ls 4 [(0, .ref (ad 0)), (1, .int a1), (2, .int a2), (3, .int t3.1)] → W p l e (headSpec wsX11_drinks rm_11_drinks).room s m args below meth c H locs 0 0 QQ (F0 m 5 ls [])) (X := fun t1009 : Int32 × St => ∀ (H : Heap) (locs : List Loc) (ls : Array Slot), va_P D vwCl (ww dM 41 cA ad t1009.2) H → va_S (inA 41 ad) s.heap H locs → lv_has ls 4 [(0, .ref (ad 0)), (1, .int a1), (2, .int a2), (3, .int t1009.1)] → W p l e (headSpec wsX11_drinks rm_11_drinks).room s m args below meth c H locs 0 0 QQ (F0 m 26 ls [])) ?_ n _ _ o1011 ?_ H locs ls hP hS (lv_sub hl [1, 2, 3, 0] rfl)
  · clear h hP hS hl
    intro t3 rL2 h hCL2 hEL2 H locs ls hP hS hl
    unfold b_11_drinks_5 at h
    refine lv_iload_n hx hb dX11_drinks_5 rfl (lv_at hl 3 rfl) ?_
    refine lv_bipush (v := 48) hx hb dX11_drinks_6 (by decide) ?_
    refine lv_icmp_ge (tgt := 26) hx hb dX11_drinks_8 (by decide) (fun c4 => ?_) (fun c4 => ?_)
    · have h := it_t c4 h
      exact hEL2 _ (Option.some.inj h).symm H locs ls hP hS (lv_sub hl [0, 1, 2, 3] rfl)
    · have h := it_f c4 h
      refine lv_aload_n hx hb dX11_drinks_11 rfl (lv_at hl 0 rfl) ?_
      refine lv_iload_n hx hb dX11_drinks_12 rfl (lv_at hl 2 rfl) ?_
      refine lv_iload_n hx hb dX11_drinks_13 rfl (lv_at hl 3 rfl) ?_
      obtain ⟨r5, k6, h⟩ := bd_some h
      refine x_Vi (rest := []) X hP hS (k_11_hasGlass l D cA ad hj n t3.2 a2 t3.1 k6) (by decide) (dM_0) rfl 2 gX11_drinks_X11_hasGlass rfl rfl rfl (by decide +kernel) ⟨Nat.le_of_ble_eq_true rfl, Nat.le_of_ble_eq_true rfl⟩ rfl hl.1 rfl (Nat.le_of_ble_eq_true rfl) dX11_drinks_14 ⟨Nat.zero_le _, Nat.zero_le _⟩ (fun H locs hP hS => ?_)
      refine lv_if_ne (tgt := 26) hx hb dX11_drinks_17 (by decide) (fun c7 => ?_) (fun c7 => ?_)
      · have h := it_f c7 h
        exact hEL2 _ (Option.some.inj h).symm H locs ls hP hS (lv_sub hl [0, 1, 2, 3] rfl)
      · have h := it_t c7 h
        obtain ⟨v8, ev8⟩ : ∃ y : Int32, y = t3.1 + 1 := ⟨_, rfl⟩
        have h := nm_some ev8 h
        refine lv_iinc (v := v8) (lv' := [(3, .int v8), (0, .ref (ad 0)), (1, .int a1), (2, .int a2)]) hx hb dX11_drinks_20 hl (k := 3) rfl (by rw [ev8]; rfl) (by decide) rfl (fun ls hl => ?_)
        refine lv_goto (tgt := 5) hx hb dX11_drinks_23 (by decide) ?_
        exact hCL2 _ (Option.some.inj h).symm H locs ls hP hS (lv_sub hl [1, 2, 3, 0] rfl)
  · intro H locs ls hP hS hl
    refine lv_iload_n hx hb dX11_drinks_26 rfl (lv_at hl 3 rfl) ?_
    refine lv_bipush (v := 48) hx hb dX11_drinks_27 (by decide) ?_
    refine lv_icmp_ne (tgt := 34) hx hb dX11_drinks_29 (by decide) (fun c1012 => ?_) (fun c1012 => ?_)
    · have h := it_f c1012 h
      refine lv_aload_n hx hb dX11_drinks_34 rfl (lv_at hl 0 rfl) ?_
      refine x_gr X hP (j := 39) (by decide) (dM_0) rfl rfl (by decide) in11 lk88 dX11_drinks_35 ?_
      refine lv_bipush (v := 48) hx hb dX11_drinks_38 (by decide) ?_
      refine lv_iload_n hx hb dX11_drinks_40 rfl (lv_at hl 2 rfl) ?_
      refine lv_imul hx hb dX11_drinks_41 ?_
      refine lv_topi (fun v1013 ev1013 => ?_)
      have h := nm_some ev1013 h
      refine lv_iload_n hx hb dX11_drinks_42 rfl (lv_at hl 3 rfl) ?_
      refine lv_iadd hx hb dX11_drinks_43 ?_
      refine lv_topi (fun v1014 ev1014 => ?_)
      have h := nm_some ev1014 h
      refine lv_dup2_11 hx hb dX11_drinks_44 rfl rfl ?_
      obtain ⟨g1015, h⟩ := gd_some h
      refine x_ai X hP (by decide) (dM_25) g1015 dX11_drinks_45 ?_
      refine lv_iconst (v := 1) hx hb dX11_drinks_46 (by decide) ?_
      refine lv_iadd hx hb dX11_drinks_47 ?_
      refine lv_topi (fun v1016 ev1016 => ?_)
      have h := nm_some ev1016 h
      refine x_si X hP hS (by decide) (dM_25) g1015 dX11_drinks_48 (fun σ1017 eσ1017 H locs hP hS => ?_)
      have h := nm_some eσ1017 h
      refine lv_aload_n hx hb dX11_drinks_49 rfl (lv_at hl 0 rfl) ?_
      refine x_gr X hP (j := 43) (by decide) (dM_0) rfl rfl (by decide) in11 lk100 dX11_drinks_50 ?_
      refine lv_iload_n hx hb dX11_drinks_53 rfl (lv_at hl 1 rfl) ?_
      refine lv_dup2_11 hx hb dX11_drinks_54 rfl rfl ?_
      obtain ⟨g1018, h⟩ := gd_some h
      refine x_ai X hP (by decide) (dM_29) g1018 dX11_drinks_55 ?_
      refine lv_iconst (v := 1) hx hb dX11_drinks_56 (by decide) ?_
      refine lv_iadd hx hb dX11_drinks_57 ?_
      refine lv_topi (fun v1019 ev1019 => ?_)
      have h := nm_some ev1019 h
      refine x_si X hP hS (by decide) (dM_29) g1018 dX11_drinks_58 (fun σ1020 eσ1020 H locs hP hS => ?_)
      have h := nm_some eσ1020 h
      refine lv_aload_n hx hb dX11_drinks_59 rfl (lv_at hl 0 rfl) ?_
      refine lv_iload_n hx hb dX11_drinks_60 rfl (lv_at hl 1 rfl) ?_
      refine lv_iconst (v := 0) hx hb dX11_drinks_61 (by decide) ?_
      refine lv_iload_n hx hb dX11_drinks_62 rfl (lv_at hl 3 rfl) ?_
      refine lv_iconst (v := 1) hx hb dX11_drinks_63 (by decide) ?_
      refine lv_iconst (v := (-1)) hx hb dX11_drinks_64 (by decide) ?_
      obtain ⟨r1021, k1022, h⟩ := bd_some h
      refine x_Vv (rest := []) X hP hS (k_11_does l D cA ad hj n σ1020 a1 0 t1009.1 1 (-1) k1022) (by decide) (dM_0) rfl 5 gX11_drinks_X11_does rfl rfl rfl (by decide +kernel) ⟨Nat.le_of_ble_eq_true rfl, Nat.le_of_ble_eq_true rfl⟩ rfl hl.1 rfl (Nat.le_of_ble_eq_true rfl) dX11_drinks_65 ⟨Nat.zero_le _, Nat.zero_le _⟩ (fun H locs hP hS => ?_)
      refine lv_iconst (v := 1) hx hb dX11_drinks_68 (by decide) ?_
      subst hQQ
      exact x_rz X hr hlocks hP hS (by decide +kernel) (Option.some.inj h) dX11_drinks_69
    · have h := it_t c1012 h
      refine lv_iconst (v := 0) hx hb dX11_drinks_32 (by decide) ?_
      subst hQQ
      exact x_rz X hr hlocks hP hS (by decide +kernel) (Option.some.inj h) dX11_drinks_33
def b_11_bathes_45 (n : Nat) (a1 : Int32) (a3 : Int32) (a4 : Int32) (a5 : Int32) (t13 : Int32 × St) : Option ((Int32 × St) ⊕ (Int32 × St)) :=
  nm (a4 + a3) fun v14 =>
  if v14 ≤ t13.1 then
    some (.inr (t13.1, t13.2))
  else
    nm (48 * a5) fun v16 =>
    nm (v16 + t13.1) fun v17 =>
    gd (inb v17 288) <| nm (si t13.2 31 (v17.toNatClampNeg) 1) fun σ19 =>
    nm (t13.1 + 1) fun v20 =>
    some (.inl (v20, σ19))
def b_11_bathes_18 (n : Nat) (a1 : Int32) (a2 : Int32) (a3 : Int32) (a4 : Int32) (t7 : Int32 × St) : Option ((Int32 × St) ⊕ ((Int32 × St) ⊕ (Int32 × St))) :=
  if 6 ≤ t7.1 then
    some (.inr (.inr (t7.1, t7.2)))
  else
    (f_11_isFree n t7.2 t7.1 a2 a4 a3).bind fun r9 =>
    if r9.1 = 0 then
      nm (t7.1 + 1) fun v1026 =>
      some (.inl (v1026, r9.2))
    else
      (lq (b_11_bathes_45 n a1 a3 a4 t7.1) n (a4, r9.2)).bind fun t1021 =>
      (f_11_does n t1021.2 a1 1 a4 a3 t7.1).bind fun r1024 =>
      some (.inr (.inl (1, r1024)))
def b_11_bathes_6 (n : Nat) (a1 : Int32) (a2 : Int32) (a3 : Int32) (t3 : Int32 × St) : Option ((Int32 × St) ⊕ ((Int32 × St) ⊕ (Int32 × St))) :=
  nm (t3.1 + a3) fun v4 =>
  if 48 < v4 then
    some (.inr (.inr (t3.1, t3.2)))
  else
    (lq (b_11_bathes_18 n a1 a2 a3 t3.1) n (0, t3.2)).bind <| Sum.elim (fun rr => some (.inr (.inl rr))) fun t2027 =>
    nm (t3.1 + 1) fun v2030 =>
    some (.inl (v2030, t2027.2))
def f_11_bathes (n : Nat) (σ : St) (a1 : Int32) (a2 : Int32) (a3 : Int32) : Option (Int32 × St) :=
  nm ((σ.1 0 49)) fun v1 =>
  (lq (b_11_bathes_6 n a1 a2 a3) n (v1, σ)).bind <| Sum.elim (fun rr => some rr) fun t3031 =>
  some (0, t3031.2)
abbrev rm_11_bathes : Room := { frames := 1, cells := 0, slots := 0, locals := 26 }
set_option maxRecDepth 100000 in
set_option maxHeartbeats 4000000 in
theorem k_11_bathes (l : Launch) (D : va_G) (cA : Nat → ClassId) (ad : Nat → Nat) (hj : inj 41 ad) (n : Nat) (σ : St) (a1 : Int32) (a2 : Int32) (a3 : Int32)  {res : Int32 × St} (h : f_11_bathes n σ a1 a2 a3 = some res) : MXi l D dM 41 cA ad ET yX11_bathes wsX11_bathes rm_11_bathes [.ref (ad 0), .int a1, .int a2, .int a3] σ res := by
  refine Met.ofW (cc := cX11_bathes) (maxL := 7) (ret := (some .boolean)) (by decide) rfl ?_
  intro p e s m args below meth c s₁ B hml hv
  obtain ⟨hargs, hP, hK, hE⟩ := hv
  have hx := B.exec
  have hb := B.bytes
  have hr := B.returns
  have hts := atoms_spec (ws := wsX11_bathes) B.pre
  have hown : s.vm.findClass RX11 = some m.cls := findClass_of_methodNamed B.named
  have hlocks := B.notSynchronized
  have X : Cx p s m args c cX11_bathes 7 RX11 wsX11_bathes D dM 41 cA ad ET := ⟨hx, hb, hml, hown, hts, hK, hj, hE, ET_ok⟩
  have hS : va_S (inA 41 ad) s.heap s.heap [] := va_S.rf
  have hl := lv_entry ([.ref (ad 0), .int a1, .int a2, .int a3]) (n := 7) (Nat.le_of_ble_eq_true rfl)
  rw [show entryFrame m args 7 = entryFrame m ([.ref (ad 0), .int a1, .int a2, .int a3] : List Value).toArray 7 by rw [hargs]]
  rw [lg_entry_eq]
  generalize (lg_sl ([.ref (ad 0), .int a1, .int a2, .int a3]) ++ List.replicate (7 - (lg_sl ([.ref (ad 0), .int a1, .int a2, .int a3])).length) Slot.unset).toArray = ls at hl ⊢
  have hl : lv_has ls 7 [(0, .ref (ad 0)), (1, .int a1), (2, .int a2), (3, .int a3)] := hl
  obtain ⟨QQ, hQQ⟩ : ∃ Q, Q = MQ below (va_Qi (fun r u => r = res.1 ∧ u = res.2) (fun u t => va_P D vwCl (ww dM 41 cA ad u) t.heap) (inA 41 ad)) args s 0 0 (inA 41 ad) := ⟨_, rfl⟩
  show W p l e (headSpec wsX11_bathes rm_11_bathes).room s m args below meth c s.heap [] 0 0 (MQ below (va_Qi (fun r u => r = res.1 ∧ u = res.2) (fun u t => va_P D vwCl (ww dM 41 cA ad u) t.heap) (inA 41 ad)) args s 0 0 (inA 41 ad)) _
  rw [← hQQ]
  have in11 : ∀ w ∈ wsX110, w ∈ wsX11_bathes := by decide +kernel
  have lk239 : Cond.fieldLink RX11 239 "CureTownModel" "now" "I" ∈ wsX11_bathes := by decide +kernel
  have lk106 : Cond.fieldLink RX11 106 "CureTownModel" "bathed" "[Z" ∈ wsX11_bathes := by decide +kernel
  unfold f_11_bathes at h
  obtain ⟨H, hH⟩ : ∃ H, H = s.heap := ⟨_, rfl⟩
  obtain ⟨locs, hlc⟩ : ∃ q : List Loc, q = [] := ⟨_, rfl⟩
  have hP : va_P D vwCl (ww dM 41 cA ad σ) s.heap := hP
  have hS : va_S (inA 41 ad) s.heap s.heap [] := hS
  rw [← hlc] at hS ⊢
  rw [show W p l e (headSpec wsX11_bathes rm_11_bathes).room s m args below meth c s.heap locs 0 0 QQ = W p l e (headSpec wsX11_bathes rm_11_bathes).room s m args below meth c H locs 0 0 QQ by rw [hH]]
  have hS : va_S (inA 41 ad) s.heap H locs := by rw [hH]; exact hS
  have hP : va_P D vwCl (ww dM 41 cA ad σ) H := by rw [hH]; exact hP
  clear hH hlc
  refine lv_aload_n hx hb dX11_bathes_0 rfl (lv_at hl 0 rfl) ?_
  refine x_gi X hP (j := 49) (by decide) (dM_0) rfl rfl (by decide) in11 lk239 dX11_bathes_1 ?_
  refine lv_topi (fun v1 ev1 => ?_)
  have h := nm_some ev1 h
  refine lv_istore (lv' := [(4, .int v1), (0, .ref (ad 0)), (1, .int a1), (2, .int a2), (3, .int a3)]) hx hb dX11_bathes_4 hl (by decide) rfl (fun ls hl => ?_)
  obtain ⟨y3032, o3033, h⟩ := bd_some h
  refine lq_rule (P := fun t3 : Int32 × St => ∀ (H : Heap) (locs : List Loc) (ls : Array Slot), va_P D vwCl (ww dM 41 cA ad t3.2) H → va_S (inA 41 ad) s.heap H locs → lv_has ls 7 [(0, .ref (ad 0)), (1, .int a1), (2, .int a2), (3, .int a3), (4, .int t3.1)] → W p l e (headSpec wsX11_bathes rm_11_bathes).room s m args below meth c H locs 0 0 QQ (F0 m 6 ls [])) (X := fun y3032 : (Int32 × St) ⊕ (Int32 × St) => Sum.elim (fun rr => rr = res) (fun t3031 => ∀ (H : Heap) (locs : List Loc) (ls : Array Slot), va_P D vwCl (ww dM 41 cA ad t3031.2) H → va_S (inA 41 ad) s.heap H locs → lv_has ls 7 [(0, .ref (ad 0)), (1, .int a1), (2, .int a2), (3, .int a3), (4, .int t3031.1)] → W p l e (headSpec wsX11_bathes rm_11_bathes).room s m args below meth c H locs 0 0 QQ (F0 m 99 ls [])) y3032) ?_ n _ _ o3033 ?_ H locs ls hP hS (lv_sub hl [1, 2, 3, 4, 0] rfl)
  · clear h hP hS hl
    intro t3 rL2 h hCL2 hEL2 H locs ls hP hS hl
    unfold b_11_bathes_6 at h
    refine lv_iload hx hb dX11_bathes_6 (lv_at hl 4 rfl) ?_
    refine lv_iload_n hx hb dX11_bathes_8 rfl (lv_at hl 3 rfl) ?_
    refine lv_iadd hx hb dX11_bathes_9 ?_
    refine lv_topi (fun v4 ev4 => ?_)
    have h := nm_some ev4 h
    refine lv_bipush (v := 48) hx hb dX11_bathes_10 (by decide) ?_
    refine lv_icmp_gt (tgt := 99) hx hb dX11_bathes_12 (by decide) (fun c5 => ?_) (fun c5 => ?_)
    · have h := it_t c5 h
      exact hEL2 _ (Option.some.inj h).symm H locs ls hP hS (lv_sub hl [0, 1, 2, 3, 4] rfl)
    · have h := it_f c5 h
      refine lv_iconst (v := 0) hx hb dX11_bathes_15 (by decide) ?_
      refine lv_istore (lv' := [(5, .int 0), (0, .ref (ad 0)), (1, .int a1), (2, .int a2), (3, .int a3), (4, .int t3.1)]) hx hb dX11_bathes_16 hl (by decide) rfl (fun ls hl => ?_)
      obtain ⟨y2028, o2029, h⟩ := bd_some h
      refine lq_rule (P := fun t7 : Int32 × St => ∀ (H : Heap) (locs : List Loc) (ls : Array Slot), va_P D vwCl (ww dM 41 cA ad t7.2) H → va_S (inA 41 ad) s.heap H locs → lv_has ls 7 [(0, .ref (ad 0)), (1, .int a1), (2, .int a2), (3, .int a3), (4, .int t3.1), (5, .int t7.1)] → W p l e (headSpec wsX11_bathes rm_11_bathes).room s m args below meth c H locs 0 0 QQ (F0 m 18 ls [])) (X := fun y2028 : (Int32 × St) ⊕ (Int32 × St) => Sum.elim (fun rr => rr = res) (fun t2027 => ∀ (H : Heap) (locs : List Loc) (ls : Array Slot), va_P D vwCl (ww dM 41 cA ad t2027.2) H → va_S (inA 41 ad) s.heap H locs → lv_has ls 7 [(0, .ref (ad 0)), (1, .int a1), (2, .int a2), (3, .int a3), (4, .int t3.1), (5, .int t2027.1)] → W p l e (headSpec wsX11_bathes rm_11_bathes).room s m args below meth c H locs 0 0 QQ (F0 m 93 ls [])) y2028) ?_ n _ _ o2029 ?_ H locs ls hP hS (lv_sub hl [1, 2, 3, 4, 5, 0] rfl)
      · clear h hP hS hl
        intro t7 rL6 h hCL6 hEL6 H locs ls hP hS hl
        unfold b_11_bathes_18 at h
        refine lv_iload hx hb dX11_bathes_18 (lv_at hl 5 rfl) ?_
        refine lv_bipush (v := 6) hx hb dX11_bathes_20 (by decide) ?_
        refine lv_icmp_ge (tgt := 93) hx hb dX11_bathes_22 (by decide) (fun c8 => ?_) (fun c8 => ?_)
        · have h := it_t c8 h
          exact hEL6 _ (Option.some.inj h).symm H locs ls hP hS (lv_sub hl [0, 1, 2, 3, 4, 5] rfl)
        · have h := it_f c8 h
          refine lv_aload_n hx hb dX11_bathes_25 rfl (lv_at hl 0 rfl) ?_
          refine lv_iload hx hb dX11_bathes_26 (lv_at hl 5 rfl) ?_
          refine lv_iload_n hx hb dX11_bathes_28 rfl (lv_at hl 2 rfl) ?_
          refine lv_iload hx hb dX11_bathes_29 (lv_at hl 4 rfl) ?_
          refine lv_iload_n hx hb dX11_bathes_31 rfl (lv_at hl 3 rfl) ?_
          obtain ⟨r9, k10, h⟩ := bd_some h
          refine x_Vi (rest := []) X hP hS (k_11_isFree l D cA ad hj n t7.2 t7.1 a2 t3.1 a3 k10) (by decide) (dM_0) rfl 4 gX11_bathes_X11_isFree rfl rfl rfl (by decide +kernel) ⟨Nat.le_of_ble_eq_true rfl, Nat.le_of_ble_eq_true rfl⟩ rfl hl.1 rfl (Nat.le_of_ble_eq_true rfl) dX11_bathes_32 ⟨Nat.zero_le _, Nat.zero_le _⟩ (fun H locs hP hS => ?_)
          refine lv_if_ne (tgt := 41) hx hb dX11_bathes_35 (by decide) (fun c11 => ?_) (fun c11 => ?_)
          · have h := it_f c11 h
            refine lv_iload hx hb dX11_bathes_41 (lv_at hl 4 rfl) ?_
            refine lv_istore (lv' := [(6, .int t3.1), (0, .ref (ad 0)), (1, .int a1), (2, .int a2), (3, .int a3), (4, .int t3.1), (5, .int t7.1)]) hx hb dX11_bathes_43 hl (by decide) rfl (fun ls hl => ?_)
            obtain ⟨t1021, o1023, h⟩ := bd_some h
            refine lq_rule (P := fun t13 : Int32 × St => ∀ (H : Heap) (locs : List Loc) (ls : Array Slot), va_P D vwCl (ww dM 41 cA ad t13.2) H → va_S (inA 41 ad) s.heap H locs → lv_has ls 7 [(0, .ref (ad 0)), (1, .int a1), (3, .int a3), (4, .int t3.1), (5, .int t7.1), (6, .int t13.1)] → W p l e (headSpec wsX11_bathes rm_11_bathes).room s m args below meth c H locs 0 0 QQ (F0 m 45 ls [])) (X := fun t1021 : Int32 × St => ∀ (H : Heap) (locs : List Loc) (ls : Array Slot), va_P D vwCl (ww dM 41 cA ad t1021.2) H → va_S (inA 41 ad) s.heap H locs → lv_has ls 7 [(0, .ref (ad 0)), (1, .int a1), (3, .int a3), (4, .int t3.1), (5, .int t7.1), (6, .int t1021.1)] → W p l e (headSpec wsX11_bathes rm_11_bathes).room s m args below meth c H locs 0 0 QQ (F0 m 74 ls [])) ?_ n _ _ o1023 ?_ H locs ls hP hS (lv_sub hl [1, 2, 4, 5, 6, 0] rfl)
            · clear h hP hS hl
              intro t13 rL12 h hCL12 hEL12 H locs ls hP hS hl
              unfold b_11_bathes_45 at h
              refine lv_iload hx hb dX11_bathes_45 (lv_at hl 5 rfl) ?_
              refine lv_iload hx hb dX11_bathes_47 (lv_at hl 3 rfl) ?_
              refine lv_iload_n hx hb dX11_bathes_49 rfl (lv_at hl 2 rfl) ?_
              refine lv_iadd hx hb dX11_bathes_50 ?_
              refine lv_topi (fun v14 ev14 => ?_)
              have h := nm_some ev14 h
              refine lv_icmp_ge (tgt := 74) hx hb dX11_bathes_51 (by decide) (fun c15 => ?_) (fun c15 => ?_)
              · have h := it_t c15 h
                exact hEL12 _ (Option.some.inj h).symm H locs ls hP hS (lv_sub hl [0, 1, 2, 3, 4, 5] rfl)
              · have h := it_f c15 h
                refine lv_aload_n hx hb dX11_bathes_54 rfl (lv_at hl 0 rfl) ?_
                refine x_gr X hP (j := 45) (by decide) (dM_0) rfl rfl (by decide) in11 lk106 dX11_bathes_55 ?_
                refine lv_bipush (v := 48) hx hb dX11_bathes_58 (by decide) ?_
                refine lv_iload hx hb dX11_bathes_60 (lv_at hl 4 rfl) ?_
                refine lv_imul hx hb dX11_bathes_62 ?_
                refine lv_topi (fun v16 ev16 => ?_)
                have h := nm_some ev16 h
                refine lv_iload hx hb dX11_bathes_63 (lv_at hl 5 rfl) ?_
                refine lv_iadd hx hb dX11_bathes_65 ?_
                refine lv_topi (fun v17 ev17 => ?_)
                have h := nm_some ev17 h
                refine lv_iconst (v := 1) hx hb dX11_bathes_66 (by decide) ?_
                obtain ⟨g18, h⟩ := gd_some h
                refine x_sz X hP hS (by decide) (dM_31) g18 (by decide +kernel) dX11_bathes_67 (fun σ19 eσ19 H locs hP hS => ?_)
                have h := nm_some eσ19 h
                obtain ⟨v20, ev20⟩ : ∃ y : Int32, y = t13.1 + 1 := ⟨_, rfl⟩
                have h := nm_some ev20 h
                refine lv_iinc (v := v20) (lv' := [(6, .int v20), (0, .ref (ad 0)), (1, .int a1), (3, .int a3), (4, .int t3.1), (5, .int t7.1)]) hx hb dX11_bathes_68 hl (k := 5) rfl (by rw [ev20]; rfl) (by decide) rfl (fun ls hl => ?_)
                refine lv_goto (tgt := 45) hx hb dX11_bathes_71 (by decide) ?_
                exact hCL12 _ (Option.some.inj h).symm H locs ls hP hS (lv_sub hl [1, 2, 3, 4, 5, 0] rfl)
            · intro H locs ls hP hS hl
              refine lv_aload_n hx hb dX11_bathes_74 rfl (lv_at hl 0 rfl) ?_
              refine lv_iload_n hx hb dX11_bathes_75 rfl (lv_at hl 1 rfl) ?_
              refine lv_iconst (v := 1) hx hb dX11_bathes_76 (by decide) ?_
              refine lv_iload hx hb dX11_bathes_77 (lv_at hl 3 rfl) ?_
              refine lv_iload_n hx hb dX11_bathes_79 rfl (lv_at hl 2 rfl) ?_
              refine lv_iload hx hb dX11_bathes_80 (lv_at hl 4 rfl) ?_
              obtain ⟨r1024, k1025, h⟩ := bd_some h
              refine x_Vv (rest := []) X hP hS (k_11_does l D cA ad hj n t1021.2 a1 1 t3.1 a3 t7.1 k1025) (by decide) (dM_0) rfl 5 gX11_bathes_X11_does rfl rfl rfl (by decide +kernel) ⟨Nat.le_of_ble_eq_true rfl, Nat.le_of_ble_eq_true rfl⟩ rfl hl.1 rfl (Nat.le_of_ble_eq_true rfl) dX11_bathes_82 ⟨Nat.zero_le _, Nat.zero_le _⟩ (fun H locs hP hS => ?_)
              refine lv_iconst (v := 1) hx hb dX11_bathes_85 (by decide) ?_
              subst hQQ
              exact x_rz X hr hlocks hP hS (by decide +kernel) (hEL6 _ (Option.some.inj h).symm) dX11_bathes_86
          · have h := it_t c11 h
            refine lv_goto (tgt := 87) hx hb dX11_bathes_38 (by decide) ?_
            obtain ⟨v1026, ev1026⟩ : ∃ y : Int32, y = t7.1 + 1 := ⟨_, rfl⟩
            have h := nm_some ev1026 h
            refine lv_iinc (v := v1026) (lv' := [(5, .int v1026), (0, .ref (ad 0)), (1, .int a1), (2, .int a2), (3, .int a3), (4, .int t3.1)]) hx hb dX11_bathes_87 hl (k := 5) rfl (by rw [ev1026]; rfl) (by decide) rfl (fun ls hl => ?_)
            refine lv_goto (tgt := 18) hx hb dX11_bathes_90 (by decide) ?_
            exact hCL6 _ (Option.some.inj h).symm H locs ls hP hS (lv_sub hl [1, 2, 3, 4, 5, 0] rfl)
      · rcases y2028 with rr | t2027
        · have h := el_l h
          exact (hEL2 _ (Option.some.inj h).symm)
        · have h := el_r h
          intro H locs ls hP hS hl
          obtain ⟨v2030, ev2030⟩ : ∃ y : Int32, y = t3.1 + 1 := ⟨_, rfl⟩
          have h := nm_some ev2030 h
          refine lv_iinc (v := v2030) (lv' := [(4, .int v2030), (0, .ref (ad 0)), (1, .int a1), (2, .int a2), (3, .int a3), (5, .int t2027.1)]) hx hb dX11_bathes_93 hl (k := 4) rfl (by rw [ev2030]; rfl) (by decide) rfl (fun ls hl => ?_)
          refine lv_goto (tgt := 6) hx hb dX11_bathes_96 (by decide) ?_
          exact hCL2 _ (Option.some.inj h).symm H locs ls hP hS (lv_sub hl [1, 2, 3, 4, 0] rfl)
  · rcases y3032 with rr | t3031
    · have h := el_l h
      exact (Option.some.inj h)
    · have h := el_r h
      intro H locs ls hP hS hl
      refine lv_iconst (v := 0) hx hb dX11_bathes_99 (by decide) ?_
      subst hQQ
      exact x_rz X hr hlocks hP hS (by decide +kernel) (Option.some.inj h) dX11_bathes_100
def j_11_goes_277 (n : Nat) (a1 : Int32) (a2 : Int32) (a3 : Int32) (a4 : Int32) (a8 : Int32) (σ : St) : Option ((Int32 × Int32 × St) ⊕ (Int32 × Int32 × St)) :=
  if a8 = 0 then
    gd (inb a1 8) <| nm (si σ 30 (a1.toNatClampNeg) 1) fun σ31 =>
    some (.inl (a3, a4, σ31))
  else
    gd (inb a1 8) <| nm (si σ 30 (a1.toNatClampNeg) 0) fun σ33 =>
    some (.inl (a3, a4, σ33))
def j_11_goes_218 (n : Nat) (a1 : Int32) (a2 : Int32) (a3 : Int32) (a4 : Int32) (a6 : Int32) (w0_ : Int32) (σ : St) : Option ((Int32 × Int32 × St) ⊕ (Int32 × Int32 × St)) :=
  if w0_ = 0 then
    j_11_goes_277 n a1 a2 a3 a4 w0_  σ
  else
    (f_11_does n σ a1 2 (σ.1 0 49) a6 (-1)).bind fun r54 =>
    j_11_goes_277 n a1 a2 a3 a4 w0_  r54
def b_11_goes_38 (n : Nat) (a1 : Int32) (a2 : Int32) (t8 : Int32 × Int32 × St) : Option ((Int32 × Int32 × St) ⊕ (Int32 × Int32 × St)) :=
  gd (inb a1 8) <| gd (inb (t8.2.2.1 17 a1.toNatClampNeg) 8) <| if (t8.2.2.1 10 (t8.2.2.1 17 a1.toNatClampNeg).toNatClampNeg) ≤ t8.2.1 then
    some (.inr (t8.1, t8.2.1, t8.2.2))
  else
    if (t8.2.2.1 30 a1.toNatClampNeg) = 0 then
      nm (90 * (t8.2.2.1 17 a1.toNatClampNeg)) fun v13 =>
      nm (3 * t8.2.1) fun v14 =>
      nm (v13 + v14) fun v15 =>
      nm (v15 + 1) fun v16 =>
      gd (inb v16 720) <| nm ((t8.2.2.1 11 v16.toNatClampNeg)) fun v18 =>
      nm (v15 + 2) fun v19 =>
      gd (inb v19 720) <| nm ((t8.2.2.1 11 v19.toNatClampNeg)) fun v21 =>
      nm (t8.2.1 + 1) fun v22 =>
      gd (inb v15 720) <| nm ((t8.2.2.1 11 v15.toNatClampNeg)) fun v24 =>
      if v24 = 0 then
        gd (inb v18 4) <| nm (t8.1 + (t8.2.2.1 4 v18.toNatClampNeg)) fun v41 =>
        if v41 ≤ (t8.2.2.1 20 a1.toNatClampNeg) then
          (f_11_drinks n t8.2.2 a1 v18).bind fun r43 =>
          nm (t8.1 + (r43.2.1 4 v18.toNatClampNeg)) fun v45 =>
          j_11_goes_277 n a1 a2 v45 v22 r43.1  r43.2
        else
          j_11_goes_277 n a1 a2 t8.1 v22 1  t8.2.2
      else if v24 = 1 then
        (f_11_bathes n t8.2.2 a1 v18 v21).bind fun r47 =>
        j_11_goes_277 n a1 a2 t8.1 v22 r47.1  r47.2
      else if v24 = 2 then
        nm ((t8.2.2.1 0 49) + v18) fun v50 =>
        if 48 < v50 then
          j_11_goes_218 n a1 a2 t8.1 v22 v18 0 t8.2.2
        else
          j_11_goes_218 n a1 a2 t8.1 v22 v18 1 t8.2.2
      else if v24 = 3 then
        if v18 ≤ (t8.2.2.1 0 49) then
          nm (si t8.2.2 0 49 (t8.2.2.1 0 49)) fun σ62 =>
          j_11_goes_277 n a1 a2 t8.1 v22 1  σ62
        else
          nm (si t8.2.2 0 49 v18) fun σ63 =>
          j_11_goes_277 n a1 a2 t8.1 v22 1  σ63
      else 
        gd (nzb v18) <| nm (a2 - a2 / v18 * v18) fun v65 =>
        if v65 = 0 then
          j_11_goes_277 n a1 a2 t8.1 v22 1  t8.2.2
        else
          j_11_goes_277 n a1 a2 t8.1 v21 1  t8.2.2
    else
      some (.inr (t8.1, t8.2.1, t8.2.2))
def f_11_goes (n : Nat) (σ : St) (a1 : Int32) (a2 : Int32) : Option (St) :=
  gd (inb a1 8) <| nm (si σ 27 (a1.toNatClampNeg) 0) fun σ2 =>
  nm (si σ2 28 (a1.toNatClampNeg) 0) fun σ3 =>
  nm (si σ3 29 (a1.toNatClampNeg) 0) fun σ4 =>
  nm (si σ4 30 (a1.toNatClampNeg) 0) fun σ5 =>
  nm (si σ5 0 49 0) fun σ6 =>
  (lq (b_11_goes_38 n a1 a2) n (0, 0, σ6)).bind fun t1067 =>
  some t1067.2.2
abbrev rm_11_goes : Room := { frames := 2, cells := 0, slots := 0, locals := 52 }
set_option maxRecDepth 100000 in
set_option maxHeartbeats 4000000 in
theorem k_11_goes (l : Launch) (D : va_G) (cA : Nat → ClassId) (ad : Nat → Nat) (hj : inj 41 ad) (n : Nat) (σ : St) (a1 : Int32) (a2 : Int32)  {res : St} (h : f_11_goes n σ a1 a2 = some res) : MXv l D dM 41 cA ad ET yX11_goes wsX11_goes rm_11_goes [.ref (ad 0), .int a1, .int a2] σ res := by
  refine Met.ofW (cc := cX11_goes) (maxL := 9) (ret := none) (by decide) rfl ?_
  intro p e s m args below meth c s₁ B hml hv
  obtain ⟨hargs, hP, hK, hE⟩ := hv
  have hx := B.exec
  have hb := B.bytes
  have hr := B.returns
  have hts := atoms_spec (ws := wsX11_goes) B.pre
  have hown : s.vm.findClass RX11 = some m.cls := findClass_of_methodNamed B.named
  have hlocks := B.notSynchronized
  have X : Cx p s m args c cX11_goes 9 RX11 wsX11_goes D dM 41 cA ad ET := ⟨hx, hb, hml, hown, hts, hK, hj, hE, ET_ok⟩
  have hS : va_S (inA 41 ad) s.heap s.heap [] := va_S.rf
  have hl := lv_entry ([.ref (ad 0), .int a1, .int a2]) (n := 9) (Nat.le_of_ble_eq_true rfl)
  rw [show entryFrame m args 9 = entryFrame m ([.ref (ad 0), .int a1, .int a2] : List Value).toArray 9 by rw [hargs]]
  rw [lg_entry_eq]
  generalize (lg_sl ([.ref (ad 0), .int a1, .int a2]) ++ List.replicate (9 - (lg_sl ([.ref (ad 0), .int a1, .int a2])).length) Slot.unset).toArray = ls at hl ⊢
  have hl : lv_has ls 9 [(0, .ref (ad 0)), (1, .int a1), (2, .int a2)] := hl
  obtain ⟨QQ, hQQ⟩ : ∃ Q, Q = MQ below (va_Qv (fun u => u = res) (fun u t => va_P D vwCl (ww dM 41 cA ad u) t.heap) (inA 41 ad)) args s 0 0 (inA 41 ad) := ⟨_, rfl⟩
  show W p l e (headSpec wsX11_goes rm_11_goes).room s m args below meth c s.heap [] 0 0 (MQ below (va_Qv (fun u => u = res) (fun u t => va_P D vwCl (ww dM 41 cA ad u) t.heap) (inA 41 ad)) args s 0 0 (inA 41 ad)) _
  rw [← hQQ]
  have in11 : ∀ w ∈ wsX110, w ∈ wsX11_goes := by decide +kernel
  have lk94 : Cond.fieldLink RX11 94 "CureTownModel" "done" "[I" ∈ wsX11_goes := by decide +kernel
  have lk97 : Cond.fieldLink RX11 97 "CureTownModel" "end" "[I" ∈ wsX11_goes := by decide +kernel
  have lk100 : Cond.fieldLink RX11 100 "CureTownModel" "glasses" "[I" ∈ wsX11_goes := by decide +kernel
  have lk103 : Cond.fieldLink RX11 103 "CureTownModel" "lost" "[I" ∈ wsX11_goes := by decide +kernel
  have lk239 : Cond.fieldLink RX11 239 "CureTownModel" "now" "I" ∈ wsX11_goes := by decide +kernel
  have lk39 : Cond.fieldLink RX11 39 "CureTownModel" "many" "[I" ∈ wsX11_goes := by decide +kernel
  have lk64 : Cond.fieldLink RX11 64 "CureTownModel" "regimen" "[I" ∈ wsX11_goes := by decide +kernel
  have lk42 : Cond.fieldLink RX11 42 "CureTownModel" "step" "[I" ∈ wsX11_goes := by decide +kernel
  have lk19 : Cond.fieldLink RX11 19 "CureTownModel" "strength" "[I" ∈ wsX11_goes := by decide +kernel
  have lk73 : Cond.fieldLink RX11 73 "CureTownModel" "bound" "[I" ∈ wsX11_goes := by decide +kernel
  unfold f_11_goes at h
  obtain ⟨H, hH⟩ : ∃ H, H = s.heap := ⟨_, rfl⟩
  obtain ⟨locs, hlc⟩ : ∃ q : List Loc, q = [] := ⟨_, rfl⟩
  have hP : va_P D vwCl (ww dM 41 cA ad σ) s.heap := hP
  have hS : va_S (inA 41 ad) s.heap s.heap [] := hS
  rw [← hlc] at hS ⊢
  rw [show W p l e (headSpec wsX11_goes rm_11_goes).room s m args below meth c s.heap locs 0 0 QQ = W p l e (headSpec wsX11_goes rm_11_goes).room s m args below meth c H locs 0 0 QQ by rw [hH]]
  have hS : va_S (inA 41 ad) s.heap H locs := by rw [hH]; exact hS
  have hP : va_P D vwCl (ww dM 41 cA ad σ) H := by rw [hH]; exact hP
  clear hH hlc
  refine lv_aload_n hx hb dX11_goes_0 rfl (lv_at hl 0 rfl) ?_
  refine x_gr X hP (j := 41) (by decide) (dM_0) rfl rfl (by decide) in11 lk94 dX11_goes_1 ?_
  refine lv_iload_n hx hb dX11_goes_4 rfl (lv_at hl 1 rfl) ?_
  refine lv_iconst (v := 0) hx hb dX11_goes_5 (by decide) ?_
  obtain ⟨g1, h⟩ := gd_some h
  refine x_si X hP hS (by decide) (dM_27) g1 dX11_goes_6 (fun σ2 eσ2 H locs hP hS => ?_)
  have h := nm_some eσ2 h
  refine lv_aload_n hx hb dX11_goes_7 rfl (lv_at hl 0 rfl) ?_
  refine x_gr X hP (j := 42) (by decide) (dM_0) rfl rfl (by decide) in11 lk97 dX11_goes_8 ?_
  refine lv_iload_n hx hb dX11_goes_11 rfl (lv_at hl 1 rfl) ?_
  refine lv_iconst (v := 0) hx hb dX11_goes_12 (by decide) ?_
  refine x_si X hP hS (by decide) (dM_28) g1 dX11_goes_13 (fun σ3 eσ3 H locs hP hS => ?_)
  have h := nm_some eσ3 h
  refine lv_aload_n hx hb dX11_goes_14 rfl (lv_at hl 0 rfl) ?_
  refine x_gr X hP (j := 43) (by decide) (dM_0) rfl rfl (by decide) in11 lk100 dX11_goes_15 ?_
  refine lv_iload_n hx hb dX11_goes_18 rfl (lv_at hl 1 rfl) ?_
  refine lv_iconst (v := 0) hx hb dX11_goes_19 (by decide) ?_
  refine x_si X hP hS (by decide) (dM_29) g1 dX11_goes_20 (fun σ4 eσ4 H locs hP hS => ?_)
  have h := nm_some eσ4 h
  refine lv_aload_n hx hb dX11_goes_21 rfl (lv_at hl 0 rfl) ?_
  refine x_gr X hP (j := 44) (by decide) (dM_0) rfl rfl (by decide) in11 lk103 dX11_goes_22 ?_
  refine lv_iload_n hx hb dX11_goes_25 rfl (lv_at hl 1 rfl) ?_
  refine lv_iconst (v := 0) hx hb dX11_goes_26 (by decide) ?_
  refine x_si X hP hS (by decide) (dM_30) g1 dX11_goes_27 (fun σ5 eσ5 H locs hP hS => ?_)
  have h := nm_some eσ5 h
  refine lv_aload_n hx hb dX11_goes_28 rfl (lv_at hl 0 rfl) ?_
  refine lv_iconst (v := 0) hx hb dX11_goes_29 (by decide) ?_
  refine x_pi X hP hS (j := 49) (by decide) (dM_0) rfl rfl (by decide) in11 tyX11_ok nmX11 lk239 rfl rfl rfl rfl dX11_goes_30 (fun σ6 eσ6 H locs hP hS => ?_)
  have h := nm_some eσ6 h
  refine lv_iconst (v := 0) hx hb dX11_goes_33 (by decide) ?_
  refine lv_istore_n (lv' := [(3, .int 0), (0, .ref (ad 0)), (1, .int a1), (2, .int a2)]) hx hb dX11_goes_34 rfl hl (by decide) rfl (fun ls hl => ?_)
  refine lv_iconst (v := 0) hx hb dX11_goes_35 (by decide) ?_
  refine lv_istore (lv' := [(4, .int 0), (3, .int 0), (0, .ref (ad 0)), (1, .int a1), (2, .int a2)]) hx hb dX11_goes_36 hl (by decide) rfl (fun ls hl => ?_)
  obtain ⟨t1067, o1069, h⟩ := bd_some h
  refine lq_rule (P := fun t8 : Int32 × Int32 × St => ∀ (H : Heap) (locs : List Loc) (ls : Array Slot), va_P D vwCl (ww dM 41 cA ad t8.2.2) H → va_S (inA 41 ad) s.heap H locs → lv_has ls 9 [(0, .ref (ad 0)), (1, .int a1), (2, .int a2), (3, .int t8.1), (4, .int t8.2.1)] → W p l e (headSpec wsX11_goes rm_11_goes).room s m args below meth c H locs 0 0 QQ (F0 m 38 ls [])) (X := fun t1067 : Int32 × Int32 × St => ∀ (H : Heap) (locs : List Loc) (ls : Array Slot), va_P D vwCl (ww dM 41 cA ad t1067.2.2) H → va_S (inA 41 ad) s.heap H locs → lv_has ls 9 [(0, .ref (ad 0)), (1, .int a1), (2, .int a2), (3, .int t1067.1), (4, .int t1067.2.1)] → W p l e (headSpec wsX11_goes rm_11_goes).room s m args below meth c H locs 0 0 QQ (F0 m 296 ls [])) ?_ n _ _ o1069 ?_ H locs ls hP hS (lv_sub hl [2, 3, 4, 1, 0] rfl)
  · clear h hP hS hl
    intro t8 rL7 h hCL7 hEL7 H locs ls hP hS hl
    unfold b_11_goes_38 at h
    refine lv_iload hx hb dX11_goes_38 (lv_at hl 4 rfl) ?_
    refine lv_aload_n hx hb dX11_goes_40 rfl (lv_at hl 0 rfl) ?_
    refine x_gr X hP (j := 12) (by decide) (dM_0) rfl rfl (by decide) in11 lk39 dX11_goes_41 ?_
    refine lv_aload_n hx hb dX11_goes_44 rfl (lv_at hl 0 rfl) ?_
    refine x_gr X hP (j := 31) (by decide) (dM_0) rfl rfl (by decide) in11 lk64 dX11_goes_45 ?_
    refine lv_iload_n hx hb dX11_goes_48 rfl (lv_at hl 1 rfl) ?_
    obtain ⟨g9, h⟩ := gd_some h
    refine x_ai X hP (by decide) (dM_17) g9 dX11_goes_49 ?_
    obtain ⟨g10, h⟩ := gd_some h
    refine x_ai X hP (by decide) (dM_10) g10 dX11_goes_50 ?_
    refine lv_icmp_ge (tgt := 296) hx hb dX11_goes_51 (by decide) (fun c11 => ?_) (fun c11 => ?_)
    · have h := it_t c11 h
      exact hEL7 _ (Option.some.inj h).symm H locs ls hP hS (lv_sub hl [0, 1, 2, 3, 4] rfl)
    · have h := it_f c11 h
      refine lv_aload_n hx hb dX11_goes_54 rfl (lv_at hl 0 rfl) ?_
      refine x_gr X hP (j := 44) (by decide) (dM_0) rfl rfl (by decide) in11 lk103 dX11_goes_55 ?_
      refine lv_iload_n hx hb dX11_goes_58 rfl (lv_at hl 1 rfl) ?_
      refine x_ai X hP (by decide) (dM_30) g9 dX11_goes_59 ?_
      refine lv_if_ne (tgt := 296) hx hb dX11_goes_60 (by decide) (fun c12 => ?_) (fun c12 => ?_)
      · have h := it_f c12 h
        exact hEL7 _ (Option.some.inj h).symm H locs ls hP hS (lv_sub hl [0, 1, 2, 3, 4] rfl)
      · have h := it_t c12 h
        refine lv_bipush (v := 90) hx hb dX11_goes_63 (by decide) ?_
        refine lv_aload_n hx hb dX11_goes_65 rfl (lv_at hl 0 rfl) ?_
        refine x_gr X hP (j := 31) (by decide) (dM_0) rfl rfl (by decide) in11 lk64 dX11_goes_66 ?_
        refine lv_iload_n hx hb dX11_goes_69 rfl (lv_at hl 1 rfl) ?_
        refine x_ai X hP (by decide) (dM_17) g9 dX11_goes_70 ?_
        refine lv_imul hx hb dX11_goes_71 ?_
        refine lv_topi (fun v13 ev13 => ?_)
        have h := nm_some ev13 h
        refine lv_iconst (v := 3) hx hb dX11_goes_72 (by decide) ?_
        refine lv_iload hx hb dX11_goes_73 (lv_at hl 4 rfl) ?_
        refine lv_imul hx hb dX11_goes_75 ?_
        refine lv_topi (fun v14 ev14 => ?_)
        have h := nm_some ev14 h
        refine lv_iadd hx hb dX11_goes_76 ?_
        refine lv_topi (fun v15 ev15 => ?_)
        have h := nm_some ev15 h
        refine lv_istore (lv' := [(5, .int v15), (0, .ref (ad 0)), (1, .int a1), (2, .int a2), (3, .int t8.1), (4, .int t8.2.1)]) hx hb dX11_goes_77 hl (by decide) rfl (fun ls hl => ?_)
        refine lv_aload_n hx hb dX11_goes_79 rfl (lv_at hl 1 rfl) ?_
        refine x_gr X hP (j := 13) (by decide) (dM_0) rfl rfl (by decide) in11 lk42 dX11_goes_80 ?_
        refine lv_iload hx hb dX11_goes_83 (lv_at hl 0 rfl) ?_
        refine lv_iconst (v := 1) hx hb dX11_goes_85 (by decide) ?_
        refine lv_iadd hx hb dX11_goes_86 ?_
        refine lv_topi (fun v16 ev16 => ?_)
        have h := nm_some ev16 h
        obtain ⟨g17, h⟩ := gd_some h
        refine x_ai X hP (by decide) (dM_11) g17 dX11_goes_87 ?_
        refine lv_topi (fun v18 ev18 => ?_)
        have h := nm_some ev18 h
        refine lv_istore (lv' := [(6, .int v18), (5, .int v15), (0, .ref (ad 0)), (1, .int a1), (2, .int a2), (3, .int t8.1), (4, .int t8.2.1)]) hx hb dX11_goes_88 hl (by decide) rfl (fun ls hl => ?_)
        refine lv_aload_n hx hb dX11_goes_90 rfl (lv_at hl 2 rfl) ?_
        refine x_gr X hP (j := 13) (by decide) (dM_0) rfl rfl (by decide) in11 lk42 dX11_goes_91 ?_
        refine lv_iload hx hb dX11_goes_94 (lv_at hl 1 rfl) ?_
        refine lv_iconst (v := 2) hx hb dX11_goes_96 (by decide) ?_
        refine lv_iadd hx hb dX11_goes_97 ?_
        refine lv_topi (fun v19 ev19 => ?_)
        have h := nm_some ev19 h
        obtain ⟨g20, h⟩ := gd_some h
        refine x_ai X hP (by decide) (dM_11) g20 dX11_goes_98 ?_
        refine lv_topi (fun v21 ev21 => ?_)
        have h := nm_some ev21 h
        refine lv_istore (lv' := [(7, .int v21), (6, .int v18), (5, .int v15), (0, .ref (ad 0)), (1, .int a1), (2, .int a2), (3, .int t8.1), (4, .int t8.2.1)]) hx hb dX11_goes_99 hl (by decide) rfl (fun ls hl => ?_)
        obtain ⟨v22, ev22⟩ : ∃ y : Int32, y = t8.2.1 + 1 := ⟨_, rfl⟩
        have h := nm_some ev22 h
        refine lv_iinc (v := v22) (lv' := [(4, .int v22), (7, .int v21), (6, .int v18), (5, .int v15), (0, .ref (ad 0)), (1, .int a1), (2, .int a2), (3, .int t8.1)]) hx hb dX11_goes_101 hl (k := 7) rfl (by rw [ev22]; rfl) (by decide) rfl (fun ls hl => ?_)
        refine lv_iconst (v := 1) hx hb dX11_goes_104 (by decide) ?_
        refine lv_istore (lv' := [(8, .int 1), (4, .int v22), (7, .int v21), (6, .int v18), (5, .int v15), (0, .ref (ad 0)), (1, .int a1), (2, .int a2), (3, .int t8.1)]) hx hb dX11_goes_105 hl (by decide) rfl (fun ls hl => ?_)
        refine lv_aload_n hx hb dX11_goes_107 rfl (lv_at hl 5 rfl) ?_
        refine x_gr X hP (j := 13) (by decide) (dM_0) rfl rfl (by decide) in11 lk42 dX11_goes_108 ?_
        refine lv_iload hx hb dX11_goes_111 (lv_at hl 4 rfl) ?_
        obtain ⟨g23, h⟩ := gd_some h
        refine x_ai X hP (by decide) (dM_11) g23 dX11_goes_113 ?_
        refine lv_topi (fun v24 ev24 => ?_)
        have h := nm_some ev24 h
        have hJ277 : ∀ (q25 : Int32) (q26 : Int32) (q27 : Int32) (σ28 : St), j_11_goes_277 n a1 a2 q25 q26 q27 σ28 = some rL7 → ∀ (H : Heap) (locs : List Loc) (ls : Array Slot), va_P D vwCl (ww dM 41 cA ad σ28) H → va_S (inA 41 ad) s.heap H locs → lv_has ls 9 [(0, .ref (ad 0)), (1, .int a1), (2, .int a2), (3, .int q25), (4, .int q26), (8, .int q27)] → W p l e (headSpec wsX11_goes rm_11_goes).room s m args below meth c H locs 0 0 QQ (F0 m 277 ls []) := by
          clear h hP hS hl
          intro q25 q26 q27 σ28 h H locs ls hP hS hl
          unfold j_11_goes_277 at h
          refine lv_aload_n hx hb dX11_goes_277 rfl (lv_at hl 0 rfl) ?_
          refine x_gr X hP (j := 44) (by decide) (dM_0) rfl rfl (by decide) in11 lk103 dX11_goes_278 ?_
          refine lv_iload_n hx hb dX11_goes_281 rfl (lv_at hl 1 rfl) ?_
          refine lv_iload hx hb dX11_goes_282 (lv_at hl 5 rfl) ?_
          refine lv_if_eq (tgt := 291) hx hb dX11_goes_284 (by decide) (fun c34 => ?_) (fun c34 => ?_)
          · have h := it_t c34 h
            refine lv_iconst (v := 1) hx hb dX11_goes_291 (by decide) ?_
            obtain ⟨g35, h⟩ := gd_some h
            refine x_si X hP hS (by decide) (dM_30) g35 dX11_goes_292 (fun σ36 eσ36 H locs hP hS => ?_)
            have h := nm_some eσ36 h
            refine lv_goto (tgt := 38) hx hb dX11_goes_293 (by decide) ?_
            exact hCL7 _ (Option.some.inj h).symm H locs ls hP hS (lv_sub hl [0, 1, 2, 3, 4] rfl)
          · have h := it_f c34 h
            refine lv_iconst (v := 0) hx hb dX11_goes_287 (by decide) ?_
            refine lv_goto (tgt := 292) hx hb dX11_goes_288 (by decide) ?_
            obtain ⟨g37, h⟩ := gd_some h
            refine x_si X hP hS (by decide) (dM_30) g37 dX11_goes_292 (fun σ38 eσ38 H locs hP hS => ?_)
            have h := nm_some eσ38 h
            refine lv_goto (tgt := 38) hx hb dX11_goes_293 (by decide) ?_
            exact hCL7 _ (Option.some.inj h).symm H locs ls hP hS (lv_sub hl [0, 1, 2, 3, 4] rfl)
        by_cases c39 : v24 = 0
        · have h := it_t c39 h
          refine lv_tableIn (off := 30) (tgt := 144) hx hb dX11_goes_114 (by rw [c39]; decide) (by rw [c39]; decide) (by rw [c39]; rfl) (by decide) ?_
          refine lv_iload_n hx hb dX11_goes_144 rfl (lv_at hl 8 rfl) ?_
          refine lv_aload_n hx hb dX11_goes_145 rfl (lv_at hl 5 rfl) ?_
          refine x_gr X hP (j := 6) (by decide) (dM_0) rfl rfl (by decide) in11 lk19 dX11_goes_146 ?_
          refine lv_iload hx hb dX11_goes_149 (lv_at hl 3 rfl) ?_
          obtain ⟨g40, h⟩ := gd_some h
          refine x_ai X hP (by decide) (dM_4) g40 dX11_goes_151 ?_
          refine lv_iadd hx hb dX11_goes_152 ?_
          refine lv_topi (fun v41 ev41 => ?_)
          have h := nm_some ev41 h
          refine lv_aload_n hx hb dX11_goes_153 rfl (lv_at hl 5 rfl) ?_
          refine x_gr X hP (j := 34) (by decide) (dM_0) rfl rfl (by decide) in11 lk73 dX11_goes_154 ?_
          refine lv_iload_n hx hb dX11_goes_157 rfl (lv_at hl 6 rfl) ?_
          refine x_ai X hP (by decide) (dM_20) g9 dX11_goes_158 ?_
          refine lv_icmp_le (tgt := 165) hx hb dX11_goes_159 (by decide) (fun c42 => ?_) (fun c42 => ?_)
          · have h := it_t c42 h
            refine lv_aload_n hx hb dX11_goes_165 rfl (lv_at hl 5 rfl) ?_
            refine lv_iload_n hx hb dX11_goes_166 rfl (lv_at hl 6 rfl) ?_
            refine lv_iload hx hb dX11_goes_167 (lv_at hl 3 rfl) ?_
            obtain ⟨r43, k44, h⟩ := bd_some h
            refine x_Vi (rest := []) X hP hS (k_11_drinks l D cA ad hj n t8.2.2 a1 v18 k44) (by decide) (dM_0) rfl 2 gX11_goes_X11_drinks rfl rfl rfl (by decide +kernel) ⟨Nat.le_of_ble_eq_true rfl, Nat.le_of_ble_eq_true rfl⟩ rfl hl.1 rfl (Nat.le_of_ble_eq_true rfl) dX11_goes_169 ⟨Nat.zero_le _, Nat.zero_le _⟩ (fun H locs hP hS => ?_)
            refine lv_istore (lv' := [(8, .int r43.1), (4, .int v22), (7, .int v21), (6, .int v18), (5, .int v15), (0, .ref (ad 0)), (1, .int a1), (2, .int a2), (3, .int t8.1)]) hx hb dX11_goes_172 hl (by decide) rfl (fun ls hl => ?_)
            refine lv_iload_n hx hb dX11_goes_174 rfl (lv_at hl 8 rfl) ?_
            refine lv_aload_n hx hb dX11_goes_175 rfl (lv_at hl 5 rfl) ?_
            refine x_gr X hP (j := 6) (by decide) (dM_0) rfl rfl (by decide) in11 lk19 dX11_goes_176 ?_
            refine lv_iload hx hb dX11_goes_179 (lv_at hl 3 rfl) ?_
            refine x_ai X hP (by decide) (dM_4) g40 dX11_goes_181 ?_
            refine lv_iadd hx hb dX11_goes_182 ?_
            refine lv_topi (fun v45 ev45 => ?_)
            have h := nm_some ev45 h
            refine lv_istore_n (lv' := [(3, .int v45), (8, .int r43.1), (4, .int v22), (7, .int v21), (6, .int v18), (5, .int v15), (0, .ref (ad 0)), (1, .int a1), (2, .int a2)]) hx hb dX11_goes_183 rfl hl (by decide) rfl (fun ls hl => ?_)
            refine lv_goto (tgt := 277) hx hb dX11_goes_184 (by decide) ?_
            exact hJ277 v45 v22 r43.1  r43.2 h H locs ls hP hS (lv_sub hl [6, 7, 8, 0, 2, 1] rfl)
          · have h := it_f c42 h
            refine lv_goto (tgt := 277) hx hb dX11_goes_162 (by decide) ?_
            exact hJ277 t8.1 v22 1  t8.2.2 h H locs ls hP hS (lv_sub hl [5, 6, 7, 8, 1, 0] rfl)
        · have h := it_f c39 h
          by_cases c46 : v24 = 1
          · have h := it_t c46 h
            refine lv_tableIn (off := 73) (tgt := 187) hx hb dX11_goes_114 (by rw [c46]; decide) (by rw [c46]; decide) (by rw [c46]; rfl) (by decide) ?_
            refine lv_aload_n hx hb dX11_goes_187 rfl (lv_at hl 5 rfl) ?_
            refine lv_iload_n hx hb dX11_goes_188 rfl (lv_at hl 6 rfl) ?_
            refine lv_iload hx hb dX11_goes_189 (lv_at hl 3 rfl) ?_
            refine lv_iload hx hb dX11_goes_191 (lv_at hl 2 rfl) ?_
            obtain ⟨r47, k48, h⟩ := bd_some h
            refine x_Vi (rest := []) X hP hS (k_11_bathes l D cA ad hj n t8.2.2 a1 v18 v21 k48) (by decide) (dM_0) rfl 3 gX11_goes_X11_bathes rfl rfl rfl (by decide +kernel) ⟨Nat.le_of_ble_eq_true rfl, Nat.le_of_ble_eq_true rfl⟩ rfl hl.1 rfl (Nat.le_of_ble_eq_true rfl) dX11_goes_193 ⟨Nat.zero_le _, Nat.zero_le _⟩ (fun H locs hP hS => ?_)
            refine lv_istore (lv' := [(8, .int r47.1), (4, .int v22), (7, .int v21), (6, .int v18), (5, .int v15), (0, .ref (ad 0)), (1, .int a1), (2, .int a2), (3, .int t8.1)]) hx hb dX11_goes_196 hl (by decide) rfl (fun ls hl => ?_)
            refine lv_goto (tgt := 277) hx hb dX11_goes_198 (by decide) ?_
            exact hJ277 t8.1 v22 r47.1  r47.2 h H locs ls hP hS (lv_sub hl [5, 6, 7, 8, 1, 0] rfl)
          · have h := it_f c46 h
            by_cases c49 : v24 = 2
            · have h := it_t c49 h
              refine lv_tableIn (off := 87) (tgt := 201) hx hb dX11_goes_114 (by rw [c49]; decide) (by rw [c49]; decide) (by rw [c49]; rfl) (by decide) ?_
              refine lv_aload_n hx hb dX11_goes_201 rfl (lv_at hl 5 rfl) ?_
              refine x_gi X hP (j := 49) (by decide) (dM_0) rfl rfl (by decide) in11 lk239 dX11_goes_202 ?_
              refine lv_iload hx hb dX11_goes_205 (lv_at hl 3 rfl) ?_
              refine lv_iadd hx hb dX11_goes_207 ?_
              refine lv_topi (fun v50 ev50 => ?_)
              have h := nm_some ev50 h
              refine lv_bipush (v := 48) hx hb dX11_goes_208 (by decide) ?_
              have hJ218 : ∀ (w51 : Int32) (σ52 : St), j_11_goes_218 n a1 a2 t8.1 v22 v18 w51 σ52 = some rL7 → ∀ (H : Heap) (locs : List Loc) (ls : Array Slot), va_P D vwCl (ww dM 41 cA ad σ52) H → va_S (inA 41 ad) s.heap H locs → lv_has ls 9 [(0, .ref (ad 0)), (1, .int a1), (2, .int a2), (3, .int t8.1), (4, .int v22), (6, .int v18)] → W p l e (headSpec wsX11_goes rm_11_goes).room s m args below meth c H locs 0 0 QQ (F0 m 218 ls [.int w51]) := by
                clear h hP hS hl
                intro w51 σ52 h H locs ls hP hS hl
                unfold j_11_goes_218 at h
                refine lv_istore (lv' := [(8, .int w51), (0, .ref (ad 0)), (1, .int a1), (2, .int a2), (3, .int t8.1), (4, .int v22), (6, .int v18)]) hx hb dX11_goes_218 hl (by decide) rfl (fun ls hl => ?_)
                refine lv_iload hx hb dX11_goes_220 (lv_at hl 0 rfl) ?_
                refine lv_if_eq (tgt := 277) hx hb dX11_goes_222 (by decide) (fun c56 => ?_) (fun c56 => ?_)
                · have h := it_t c56 h
                  exact hJ277 t8.1 v22 w51  σ52 h H locs ls hP hS (lv_sub hl [1, 2, 3, 4, 5, 0] rfl)
                · have h := it_f c56 h
                  refine lv_aload_n hx hb dX11_goes_225 rfl (lv_at hl 1 rfl) ?_
                  refine lv_iload_n hx hb dX11_goes_226 rfl (lv_at hl 2 rfl) ?_
                  refine lv_iconst (v := 2) hx hb dX11_goes_227 (by decide) ?_
                  refine lv_aload_n hx hb dX11_goes_228 rfl (lv_at hl 1 rfl) ?_
                  refine x_gi X hP (j := 49) (by decide) (dM_0) rfl rfl (by decide) in11 lk239 dX11_goes_229 ?_
                  refine lv_iload hx hb dX11_goes_232 (lv_at hl 6 rfl) ?_
                  refine lv_iconst (v := (-1)) hx hb dX11_goes_234 (by decide) ?_
                  obtain ⟨r57, k58, h⟩ := bd_some h
                  refine x_Vv (rest := []) X hP hS (k_11_does l D cA ad hj n σ52 a1 2 (σ52.1 0 49) v18 (-1) k58) (by decide) (dM_0) rfl 5 gX11_goes_X11_does rfl rfl rfl (by decide +kernel) ⟨Nat.le_of_ble_eq_true rfl, Nat.le_of_ble_eq_true rfl⟩ rfl hl.1 rfl (Nat.le_of_ble_eq_true rfl) dX11_goes_235 ⟨Nat.zero_le _, Nat.zero_le _⟩ (fun H locs hP hS => ?_)
                  refine lv_goto (tgt := 277) hx hb dX11_goes_238 (by decide) ?_
                  exact hJ277 t8.1 v22 w51  r57 h H locs ls hP hS (lv_sub hl [1, 2, 3, 4, 5, 0] rfl)
              refine lv_icmp_gt (tgt := 217) hx hb dX11_goes_210 (by decide) (fun c59 => ?_) (fun c59 => ?_)
              · have h := it_t c59 h
                refine lv_iconst (v := 0) hx hb dX11_goes_217 (by decide) ?_
                exact hJ218  0 t8.2.2 h H locs ls hP hS (lv_sub hl [5, 6, 7, 8, 1, 3] rfl)
              · have h := it_f c59 h
                refine lv_iconst (v := 1) hx hb dX11_goes_213 (by decide) ?_
                refine lv_goto (tgt := 218) hx hb dX11_goes_214 (by decide) ?_
                exact hJ218  1 t8.2.2 h H locs ls hP hS (lv_sub hl [5, 6, 7, 8, 1, 3] rfl)
            · have h := it_f c49 h
              by_cases c60 : v24 = 3
              · have h := it_t c60 h
                refine lv_tableIn (off := 127) (tgt := 241) hx hb dX11_goes_114 (by rw [c60]; decide) (by rw [c60]; decide) (by rw [c60]; rfl) (by decide) ?_
                refine lv_aload_n hx hb dX11_goes_241 rfl (lv_at hl 5 rfl) ?_
                refine lv_iload hx hb dX11_goes_242 (lv_at hl 3 rfl) ?_
                refine lv_aload_n hx hb dX11_goes_244 rfl (lv_at hl 5 rfl) ?_
                refine x_gi X hP (j := 49) (by decide) (dM_0) rfl rfl (by decide) in11 lk239 dX11_goes_245 ?_
                refine lv_icmp_le (tgt := 256) hx hb dX11_goes_248 (by decide) (fun c61 => ?_) (fun c61 => ?_)
                · have h := it_t c61 h
                  refine lv_aload_n hx hb dX11_goes_256 rfl (lv_at hl 5 rfl) ?_
                  refine x_gi X hP (j := 49) (by decide) (dM_0) rfl rfl (by decide) in11 lk239 dX11_goes_257 ?_
                  refine x_pi X hP hS (j := 49) (by decide) (dM_0) rfl rfl (by decide) in11 tyX11_ok nmX11 lk239 rfl rfl rfl rfl dX11_goes_260 (fun σ62 eσ62 H locs hP hS => ?_)
                  have h := nm_some eσ62 h
                  refine lv_goto (tgt := 277) hx hb dX11_goes_263 (by decide) ?_
                  exact hJ277 t8.1 v22 1  σ62 h H locs ls hP hS (lv_sub hl [5, 6, 7, 8, 1, 0] rfl)
                · have h := it_f c61 h
                  refine lv_iload hx hb dX11_goes_251 (lv_at hl 3 rfl) ?_
                  refine lv_goto (tgt := 260) hx hb dX11_goes_253 (by decide) ?_
                  refine x_pi X hP hS (j := 49) (by decide) (dM_0) rfl rfl (by decide) in11 tyX11_ok nmX11 lk239 rfl rfl rfl rfl dX11_goes_260 (fun σ63 eσ63 H locs hP hS => ?_)
                  have h := nm_some eσ63 h
                  refine lv_goto (tgt := 277) hx hb dX11_goes_263 (by decide) ?_
                  exact hJ277 t8.1 v22 1  σ63 h H locs ls hP hS (lv_sub hl [5, 6, 7, 8, 1, 0] rfl)
              · have h := it_f c60 h
                refine lv_tableOut (tgt := 266) hx hb dX11_goes_114 (tb_out 3 (tb_c c60 <| (tb_c c49 <| (tb_c c46 <| (tb_c c39 <| tb_0))))) (by decide) ?_
                refine lv_iload_n hx hb dX11_goes_266 rfl (lv_at hl 7 rfl) ?_
                refine lv_iload hx hb dX11_goes_267 (lv_at hl 3 rfl) ?_
                obtain ⟨g64, h⟩ := gd_some h
                refine lv_irem hx hb dX11_goes_269 (nzb_ne g64) ?_
                refine lv_topi (fun v65 ev65 => ?_)
                have h := nm_some ev65 h
                refine lv_if_eq (tgt := 277) hx hb dX11_goes_270 (by decide) (fun c66 => ?_) (fun c66 => ?_)
                · have h := it_t c66 h
                  exact hJ277 t8.1 v22 1  t8.2.2 h H locs ls hP hS (lv_sub hl [5, 6, 7, 8, 1, 0] rfl)
                · have h := it_f c66 h
                  refine lv_iload hx hb dX11_goes_273 (lv_at hl 2 rfl) ?_
                  refine lv_istore (lv' := [(4, .int v21), (8, .int 1), (7, .int v21), (6, .int v18), (5, .int v15), (0, .ref (ad 0)), (1, .int a1), (2, .int a2), (3, .int t8.1)]) hx hb dX11_goes_275 hl (by decide) rfl (fun ls hl => ?_)
                  exact hJ277 t8.1 v21 1  t8.2.2 h H locs ls hP hS (lv_sub hl [5, 6, 7, 8, 0, 1] rfl)
  · intro H locs ls hP hS hl
    subst hQQ
    exact x_rv X hr hlocks hP hS (Option.some.inj h) dX11_goes_296
def b_11_lays_6 (n : Nat) (a1 : Int32) (t4 : Int32 × St) : Option ((Int32 × St) ⊕ (Int32 × St)) :=
  (f_11_here n t4.2 a1).bind fun r5 =>
  if r5.1 ≤ t4.1 then
    some (.inr (t4.1, r5.2))
  else
    gd (inb t4.1 8) <| (f_11_goes n r5.2 (r5.2.1 26 t4.1.toNatClampNeg) a1).bind fun r9 =>
    nm (t4.1 + 1) fun v11 =>
    some (.inl (v11, r9))
def f_11_lays (n : Nat) (σ : St) (a1 : Int32) : Option (St) :=
  (f_11_clear n σ ).bind fun r1 =>
  (lq (b_11_lays_6 n a1) n (0, r1)).bind fun t1012 =>
  some t1012.2
abbrev rm_11_lays : Room := { frames := 3, cells := 0, slots := 0, locals := 80 }
set_option maxRecDepth 100000 in
set_option maxHeartbeats 4000000 in
theorem k_11_lays (l : Launch) (D : va_G) (cA : Nat → ClassId) (ad : Nat → Nat) (hj : inj 41 ad) (n : Nat) (σ : St) (a1 : Int32)  {res : St} (h : f_11_lays n σ a1 = some res) : MXv l D dM 41 cA ad ET yX11_lays wsX11_lays rm_11_lays [.ref (ad 0), .int a1] σ res := by
  refine Met.ofW (cc := cX11_lays) (maxL := 3) (ret := none) (by decide) rfl ?_
  intro p e s m args below meth c s₁ B hml hv
  obtain ⟨hargs, hP, hK, hE⟩ := hv
  have hx := B.exec
  have hb := B.bytes
  have hr := B.returns
  have hts := atoms_spec (ws := wsX11_lays) B.pre
  have hown : s.vm.findClass RX11 = some m.cls := findClass_of_methodNamed B.named
  have hlocks := B.notSynchronized
  have X : Cx p s m args c cX11_lays 3 RX11 wsX11_lays D dM 41 cA ad ET := ⟨hx, hb, hml, hown, hts, hK, hj, hE, ET_ok⟩
  have hS : va_S (inA 41 ad) s.heap s.heap [] := va_S.rf
  have hl := lv_entry ([.ref (ad 0), .int a1]) (n := 3) (Nat.le_of_ble_eq_true rfl)
  rw [show entryFrame m args 3 = entryFrame m ([.ref (ad 0), .int a1] : List Value).toArray 3 by rw [hargs]]
  rw [lg_entry_eq]
  generalize (lg_sl ([.ref (ad 0), .int a1]) ++ List.replicate (3 - (lg_sl ([.ref (ad 0), .int a1])).length) Slot.unset).toArray = ls at hl ⊢
  have hl : lv_has ls 3 [(0, .ref (ad 0)), (1, .int a1)] := hl
  obtain ⟨QQ, hQQ⟩ : ∃ Q, Q = MQ below (va_Qv (fun u => u = res) (fun u t => va_P D vwCl (ww dM 41 cA ad u) t.heap) (inA 41 ad)) args s 0 0 (inA 41 ad) := ⟨_, rfl⟩
  show W p l e (headSpec wsX11_lays rm_11_lays).room s m args below meth c s.heap [] 0 0 (MQ below (va_Qv (fun u => u = res) (fun u t => va_P D vwCl (ww dM 41 cA ad u) t.heap) (inA 41 ad)) args s 0 0 (inA 41 ad)) _
  rw [← hQQ]
  have in11 : ∀ w ∈ wsX110, w ∈ wsX11_lays := by decide +kernel
  have lk91 : Cond.fieldLink RX11 91 "CureTownModel" "order" "[I" ∈ wsX11_lays := by decide +kernel
  unfold f_11_lays at h
  obtain ⟨H, hH⟩ : ∃ H, H = s.heap := ⟨_, rfl⟩
  obtain ⟨locs, hlc⟩ : ∃ q : List Loc, q = [] := ⟨_, rfl⟩
  have hP : va_P D vwCl (ww dM 41 cA ad σ) s.heap := hP
  have hS : va_S (inA 41 ad) s.heap s.heap [] := hS
  rw [← hlc] at hS ⊢
  rw [show W p l e (headSpec wsX11_lays rm_11_lays).room s m args below meth c s.heap locs 0 0 QQ = W p l e (headSpec wsX11_lays rm_11_lays).room s m args below meth c H locs 0 0 QQ by rw [hH]]
  have hS : va_S (inA 41 ad) s.heap H locs := by rw [hH]; exact hS
  have hP : va_P D vwCl (ww dM 41 cA ad σ) H := by rw [hH]; exact hP
  clear hH hlc
  refine lv_aload_n hx hb dX11_lays_0 rfl (lv_at hl 0 rfl) ?_
  obtain ⟨r1, k2, h⟩ := bd_some h
  refine x_Vv (rest := []) X hP hS (k_11_clear l D cA ad hj n σ  k2) (by decide) (dM_0) rfl 0 gX11_lays_X11_clear rfl rfl rfl (by decide +kernel) ⟨Nat.le_of_ble_eq_true rfl, Nat.le_of_ble_eq_true rfl⟩ rfl hl.1 rfl (Nat.le_of_ble_eq_true rfl) dX11_lays_1 ⟨Nat.zero_le _, Nat.zero_le _⟩ (fun H locs hP hS => ?_)
  refine lv_iconst (v := 0) hx hb dX11_lays_4 (by decide) ?_
  refine lv_istore_n (lv' := [(2, .int 0), (0, .ref (ad 0)), (1, .int a1)]) hx hb dX11_lays_5 rfl hl (by decide) rfl (fun ls hl => ?_)
  obtain ⟨t1012, o1014, h⟩ := bd_some h
  refine lq_rule (P := fun t4 : Int32 × St => ∀ (H : Heap) (locs : List Loc) (ls : Array Slot), va_P D vwCl (ww dM 41 cA ad t4.2) H → va_S (inA 41 ad) s.heap H locs → lv_has ls 3 [(0, .ref (ad 0)), (1, .int a1), (2, .int t4.1)] → W p l e (headSpec wsX11_lays rm_11_lays).room s m args below meth c H locs 0 0 QQ (F0 m 6 ls [])) (X := fun t1012 : Int32 × St => ∀ (H : Heap) (locs : List Loc) (ls : Array Slot), va_P D vwCl (ww dM 41 cA ad t1012.2) H → va_S (inA 41 ad) s.heap H locs → lv_has ls 3 [(0, .ref (ad 0)), (1, .int a1), (2, .int t1012.1)] → W p l e (headSpec wsX11_lays rm_11_lays).room s m args below meth c H locs 0 0 QQ (F0 m 32 ls [])) ?_ n _ _ o1014 ?_ H locs ls hP hS (lv_sub hl [1, 2, 0] rfl)
  · clear h hP hS hl
    intro t4 rL3 h hCL3 hEL3 H locs ls hP hS hl
    unfold b_11_lays_6 at h
    refine lv_iload_n hx hb dX11_lays_6 rfl (lv_at hl 2 rfl) ?_
    refine lv_aload_n hx hb dX11_lays_7 rfl (lv_at hl 0 rfl) ?_
    refine lv_iload_n hx hb dX11_lays_8 rfl (lv_at hl 1 rfl) ?_
    obtain ⟨r5, k6, h⟩ := bd_some h
    refine x_Vi (rest := [.int t4.1]) X hP hS (k_11_here l D cA ad hj n t4.2 a1 k6) (by decide) (dM_0) rfl 1 gX11_lays_X11_here rfl rfl rfl (by decide +kernel) ⟨Nat.le_of_ble_eq_true rfl, Nat.le_of_ble_eq_true rfl⟩ rfl hl.1 rfl (Nat.le_of_ble_eq_true rfl) dX11_lays_9 ⟨Nat.zero_le _, Nat.zero_le _⟩ (fun H locs hP hS => ?_)
    refine lv_icmp_ge (tgt := 32) hx hb dX11_lays_12 (by decide) (fun c7 => ?_) (fun c7 => ?_)
    · have h := it_t c7 h
      exact hEL3 _ (Option.some.inj h).symm H locs ls hP hS (lv_sub hl [0, 1, 2] rfl)
    · have h := it_f c7 h
      refine lv_aload_n hx hb dX11_lays_15 rfl (lv_at hl 0 rfl) ?_
      refine lv_aload_n hx hb dX11_lays_16 rfl (lv_at hl 0 rfl) ?_
      refine x_gr X hP (j := 40) (by decide) (dM_0) rfl rfl (by decide) in11 lk91 dX11_lays_17 ?_
      refine lv_iload_n hx hb dX11_lays_20 rfl (lv_at hl 2 rfl) ?_
      obtain ⟨g8, h⟩ := gd_some h
      refine x_ai X hP (by decide) (dM_26) g8 dX11_lays_21 ?_
      refine lv_iload_n hx hb dX11_lays_22 rfl (lv_at hl 1 rfl) ?_
      obtain ⟨r9, k10, h⟩ := bd_some h
      refine x_Vv (rest := []) X hP hS (k_11_goes l D cA ad hj n r5.2 (r5.2.1 26 t4.1.toNatClampNeg) a1 k10) (by decide) (dM_0) rfl 2 gX11_lays_X11_goes rfl rfl rfl (by decide +kernel) ⟨Nat.le_of_ble_eq_true rfl, Nat.le_of_ble_eq_true rfl⟩ rfl hl.1 rfl (Nat.le_of_ble_eq_true rfl) dX11_lays_23 ⟨Nat.zero_le _, Nat.zero_le _⟩ (fun H locs hP hS => ?_)
      obtain ⟨v11, ev11⟩ : ∃ y : Int32, y = t4.1 + 1 := ⟨_, rfl⟩
      have h := nm_some ev11 h
      refine lv_iinc (v := v11) (lv' := [(2, .int v11), (0, .ref (ad 0)), (1, .int a1)]) hx hb dX11_lays_26 hl (k := 2) rfl (by rw [ev11]; rfl) (by decide) rfl (fun ls hl => ?_)
      refine lv_goto (tgt := 6) hx hb dX11_lays_29 (by decide) ?_
      exact hCL3 _ (Option.some.inj h).symm H locs ls hP hS (lv_sub hl [1, 2, 0] rfl)
  · intro H locs ls hP hS hl
    subst hQQ
    exact x_rv X hr hlocks hP hS (Option.some.inj h) dX11_lays_32
def b_11_ranks_12 (n : Nat) (a1 : Int32) (a3 : Int32) (t5 : Int32 × Int32 × St) : Option ((Int32 × Int32 × St) ⊕ (Int32 × Int32 × St)) :=
  if (t5.2.2.1 0 1) ≤ t5.2.1 then
    some (.inr (t5.1, t5.2.1, t5.2.2))
  else
    (f_11_isHere n t5.2.2 t5.2.1 a1).bind fun r7 =>
    if r7.1 = 0 then
      nm (t5.2.1 + 1) fun v10 =>
      some (.inl (t5.1, v10, r7.2))
    else
      gd (inb t5.2.1 8) <| if (r7.2.1 16 t5.2.1.toNatClampNeg) = a3 then
        gd (inb t5.1 8) <| nm (si r7.2 26 (t5.1.toNatClampNeg) t5.2.1) fun σ14 =>
        nm (t5.1 + 1) fun v15 =>
        nm (t5.2.1 + 1) fun v16 =>
        some (.inl (v15, v16, σ14))
      else
        nm (t5.2.1 + 1) fun v17 =>
        some (.inl (t5.1, v17, r7.2))
def b_11_ranks_4 (n : Nat) (a1 : Int32) (t2 : Int32 × Int32 × St) : Option ((Int32 × Int32 × St) ⊕ (Int32 × Int32 × St)) :=
  if 4 ≤ t2.2.1 then
    some (.inr (t2.1, t2.2.1, t2.2.2))
  else
    (lq (b_11_ranks_12 n a1 t2.2.1) n (t2.1, 0, t2.2.2)).bind fun t1018 =>
    nm (t2.2.1 + 1) fun v1021 =>
    some (.inl (t1018.1, v1021, t1018.2.2))
def f_11_ranks (n : Nat) (σ : St) (a1 : Int32) : Option (St) :=
  (lq (b_11_ranks_4 n a1) n (0, 0, σ)).bind fun t2022 =>
  some t2022.2.2
abbrev rm_11_ranks : Room := { frames := 2, cells := 0, slots := 0, locals := 44 }
set_option maxRecDepth 100000 in
set_option maxHeartbeats 4000000 in
theorem k_11_ranks (l : Launch) (D : va_G) (cA : Nat → ClassId) (ad : Nat → Nat) (hj : inj 41 ad) (n : Nat) (σ : St) (a1 : Int32)  {res : St} (h : f_11_ranks n σ a1 = some res) : MXv l D dM 41 cA ad ET yX11_ranks wsX11_ranks rm_11_ranks [.ref (ad 0), .int a1] σ res := by
  refine Met.ofW (cc := cX11_ranks) (maxL := 5) (ret := none) (by decide) rfl ?_
  intro p e s m args below meth c s₁ B hml hv
  obtain ⟨hargs, hP, hK, hE⟩ := hv
  have hx := B.exec
  have hb := B.bytes
  have hr := B.returns
  have hts := atoms_spec (ws := wsX11_ranks) B.pre
  have hown : s.vm.findClass RX11 = some m.cls := findClass_of_methodNamed B.named
  have hlocks := B.notSynchronized
  have X : Cx p s m args c cX11_ranks 5 RX11 wsX11_ranks D dM 41 cA ad ET := ⟨hx, hb, hml, hown, hts, hK, hj, hE, ET_ok⟩
  have hS : va_S (inA 41 ad) s.heap s.heap [] := va_S.rf
  have hl := lv_entry ([.ref (ad 0), .int a1]) (n := 5) (Nat.le_of_ble_eq_true rfl)
  rw [show entryFrame m args 5 = entryFrame m ([.ref (ad 0), .int a1] : List Value).toArray 5 by rw [hargs]]
  rw [lg_entry_eq]
  generalize (lg_sl ([.ref (ad 0), .int a1]) ++ List.replicate (5 - (lg_sl ([.ref (ad 0), .int a1])).length) Slot.unset).toArray = ls at hl ⊢
  have hl : lv_has ls 5 [(0, .ref (ad 0)), (1, .int a1)] := hl
  obtain ⟨QQ, hQQ⟩ : ∃ Q, Q = MQ below (va_Qv (fun u => u = res) (fun u t => va_P D vwCl (ww dM 41 cA ad u) t.heap) (inA 41 ad)) args s 0 0 (inA 41 ad) := ⟨_, rfl⟩
  show W p l e (headSpec wsX11_ranks rm_11_ranks).room s m args below meth c s.heap [] 0 0 (MQ below (va_Qv (fun u => u = res) (fun u t => va_P D vwCl (ww dM 41 cA ad u) t.heap) (inA 41 ad)) args s 0 0 (inA 41 ad)) _
  rw [← hQQ]
  have in11 : ∀ w ∈ wsX110, w ∈ wsX11_ranks := by decide +kernel
  have lk233 : Cond.fieldLink RX11 233 "CureTownModel" "guests" "I" ∈ wsX11_ranks := by decide +kernel
  have lk61 : Cond.fieldLink RX11 61 "CureTownModel" "rank" "[I" ∈ wsX11_ranks := by decide +kernel
  have lk91 : Cond.fieldLink RX11 91 "CureTownModel" "order" "[I" ∈ wsX11_ranks := by decide +kernel
  unfold f_11_ranks at h
  obtain ⟨H, hH⟩ : ∃ H, H = s.heap := ⟨_, rfl⟩
  obtain ⟨locs, hlc⟩ : ∃ q : List Loc, q = [] := ⟨_, rfl⟩
  have hP : va_P D vwCl (ww dM 41 cA ad σ) s.heap := hP
  have hS : va_S (inA 41 ad) s.heap s.heap [] := hS
  rw [← hlc] at hS ⊢
  rw [show W p l e (headSpec wsX11_ranks rm_11_ranks).room s m args below meth c s.heap locs 0 0 QQ = W p l e (headSpec wsX11_ranks rm_11_ranks).room s m args below meth c H locs 0 0 QQ by rw [hH]]
  have hS : va_S (inA 41 ad) s.heap H locs := by rw [hH]; exact hS
  have hP : va_P D vwCl (ww dM 41 cA ad σ) H := by rw [hH]; exact hP
  clear hH hlc
  refine lv_iconst (v := 0) hx hb dX11_ranks_0 (by decide) ?_
  refine lv_istore_n (lv' := [(2, .int 0), (0, .ref (ad 0)), (1, .int a1)]) hx hb dX11_ranks_1 rfl hl (by decide) rfl (fun ls hl => ?_)
  refine lv_iconst (v := 0) hx hb dX11_ranks_2 (by decide) ?_
  refine lv_istore_n (lv' := [(3, .int 0), (2, .int 0), (0, .ref (ad 0)), (1, .int a1)]) hx hb dX11_ranks_3 rfl hl (by decide) rfl (fun ls hl => ?_)
  obtain ⟨t2022, o2024, h⟩ := bd_some h
  refine lq_rule (P := fun t2 : Int32 × Int32 × St => ∀ (H : Heap) (locs : List Loc) (ls : Array Slot), va_P D vwCl (ww dM 41 cA ad t2.2.2) H → va_S (inA 41 ad) s.heap H locs → lv_has ls 5 [(0, .ref (ad 0)), (1, .int a1), (2, .int t2.1), (3, .int t2.2.1)] → W p l e (headSpec wsX11_ranks rm_11_ranks).room s m args below meth c H locs 0 0 QQ (F0 m 4 ls [])) (X := fun t2022 : Int32 × Int32 × St => ∀ (H : Heap) (locs : List Loc) (ls : Array Slot), va_P D vwCl (ww dM 41 cA ad t2022.2.2) H → va_S (inA 41 ad) s.heap H locs → lv_has ls 5 [(0, .ref (ad 0)), (1, .int a1), (2, .int t2022.1), (3, .int t2022.2.1)] → W p l e (headSpec wsX11_ranks rm_11_ranks).room s m args below meth c H locs 0 0 QQ (F0 m 68 ls [])) ?_ n _ _ o2024 ?_ H locs ls hP hS (lv_sub hl [2, 3, 1, 0] rfl)
  · clear h hP hS hl
    intro t2 rL1 h hCL1 hEL1 H locs ls hP hS hl
    unfold b_11_ranks_4 at h
    refine lv_iload_n hx hb dX11_ranks_4 rfl (lv_at hl 3 rfl) ?_
    refine lv_iconst (v := 4) hx hb dX11_ranks_5 (by decide) ?_
    refine lv_icmp_ge (tgt := 68) hx hb dX11_ranks_6 (by decide) (fun c3 => ?_) (fun c3 => ?_)
    · have h := it_t c3 h
      exact hEL1 _ (Option.some.inj h).symm H locs ls hP hS (lv_sub hl [0, 1, 2, 3] rfl)
    · have h := it_f c3 h
      refine lv_iconst (v := 0) hx hb dX11_ranks_9 (by decide) ?_
      refine lv_istore (lv' := [(4, .int 0), (0, .ref (ad 0)), (1, .int a1), (2, .int t2.1), (3, .int t2.2.1)]) hx hb dX11_ranks_10 hl (by decide) rfl (fun ls hl => ?_)
      obtain ⟨t1018, o1020, h⟩ := bd_some h
      refine lq_rule (P := fun t5 : Int32 × Int32 × St => ∀ (H : Heap) (locs : List Loc) (ls : Array Slot), va_P D vwCl (ww dM 41 cA ad t5.2.2) H → va_S (inA 41 ad) s.heap H locs → lv_has ls 5 [(0, .ref (ad 0)), (1, .int a1), (2, .int t5.1), (3, .int t2.2.1), (4, .int t5.2.1)] → W p l e (headSpec wsX11_ranks rm_11_ranks).room s m args below meth c H locs 0 0 QQ (F0 m 12 ls [])) (X := fun t1018 : Int32 × Int32 × St => ∀ (H : Heap) (locs : List Loc) (ls : Array Slot), va_P D vwCl (ww dM 41 cA ad t1018.2.2) H → va_S (inA 41 ad) s.heap H locs → lv_has ls 5 [(0, .ref (ad 0)), (1, .int a1), (2, .int t1018.1), (3, .int t2.2.1), (4, .int t1018.2.1)] → W p l e (headSpec wsX11_ranks rm_11_ranks).room s m args below meth c H locs 0 0 QQ (F0 m 62 ls [])) ?_ n _ _ o1020 ?_ H locs ls hP hS (lv_sub hl [1, 2, 3, 4, 0] rfl)
      · clear h hP hS hl
        intro t5 rL4 h hCL4 hEL4 H locs ls hP hS hl
        unfold b_11_ranks_12 at h
        refine lv_iload hx hb dX11_ranks_12 (lv_at hl 4 rfl) ?_
        refine lv_aload_n hx hb dX11_ranks_14 rfl (lv_at hl 0 rfl) ?_
        refine x_gi X hP (j := 1) (by decide) (dM_0) rfl rfl (by decide) in11 lk233 dX11_ranks_15 ?_
        refine lv_icmp_ge (tgt := 62) hx hb dX11_ranks_18 (by decide) (fun c6 => ?_) (fun c6 => ?_)
        · have h := it_t c6 h
          exact hEL4 _ (Option.some.inj h).symm H locs ls hP hS (lv_sub hl [0, 1, 2, 3, 4] rfl)
        · have h := it_f c6 h
          refine lv_aload_n hx hb dX11_ranks_21 rfl (lv_at hl 0 rfl) ?_
          refine lv_iload hx hb dX11_ranks_22 (lv_at hl 4 rfl) ?_
          refine lv_iload_n hx hb dX11_ranks_24 rfl (lv_at hl 1 rfl) ?_
          obtain ⟨r7, k8, h⟩ := bd_some h
          refine x_Vi (rest := []) X hP hS (k_11_isHere l D cA ad hj n t5.2.2 t5.2.1 a1 k8) (by decide) (dM_0) rfl 2 gX11_ranks_X11_isHere rfl rfl rfl (by decide +kernel) ⟨Nat.le_of_ble_eq_true rfl, Nat.le_of_ble_eq_true rfl⟩ rfl hl.1 rfl (Nat.le_of_ble_eq_true rfl) dX11_ranks_25 ⟨Nat.zero_le _, Nat.zero_le _⟩ (fun H locs hP hS => ?_)
          refine lv_if_eq (tgt := 56) hx hb dX11_ranks_28 (by decide) (fun c9 => ?_) (fun c9 => ?_)
          · have h := it_t c9 h
            obtain ⟨v10, ev10⟩ : ∃ y : Int32, y = t5.2.1 + 1 := ⟨_, rfl⟩
            have h := nm_some ev10 h
            refine lv_iinc (v := v10) (lv' := [(4, .int v10), (0, .ref (ad 0)), (1, .int a1), (2, .int t5.1), (3, .int t2.2.1)]) hx hb dX11_ranks_56 hl (k := 4) rfl (by rw [ev10]; rfl) (by decide) rfl (fun ls hl => ?_)
            refine lv_goto (tgt := 12) hx hb dX11_ranks_59 (by decide) ?_
            exact hCL4 _ (Option.some.inj h).symm H locs ls hP hS (lv_sub hl [1, 2, 3, 4, 0] rfl)
          · have h := it_f c9 h
            refine lv_aload_n hx hb dX11_ranks_31 rfl (lv_at hl 0 rfl) ?_
            refine x_gr X hP (j := 30) (by decide) (dM_0) rfl rfl (by decide) in11 lk61 dX11_ranks_32 ?_
            refine lv_iload hx hb dX11_ranks_35 (lv_at hl 4 rfl) ?_
            obtain ⟨g11, h⟩ := gd_some h
            refine x_ai X hP (by decide) (dM_16) g11 dX11_ranks_37 ?_
            refine lv_iload_n hx hb dX11_ranks_38 rfl (lv_at hl 3 rfl) ?_
            refine lv_icmp_eq (tgt := 45) hx hb dX11_ranks_39 (by decide) (fun c12 => ?_) (fun c12 => ?_)
            · have h := it_t c12 h
              refine lv_aload_n hx hb dX11_ranks_45 rfl (lv_at hl 0 rfl) ?_
              refine x_gr X hP (j := 40) (by decide) (dM_0) rfl rfl (by decide) in11 lk91 dX11_ranks_46 ?_
              refine lv_iload_n hx hb dX11_ranks_49 rfl (lv_at hl 2 rfl) ?_
              refine lv_iload hx hb dX11_ranks_50 (lv_at hl 4 rfl) ?_
              obtain ⟨g13, h⟩ := gd_some h
              refine x_si X hP hS (by decide) (dM_26) g13 dX11_ranks_52 (fun σ14 eσ14 H locs hP hS => ?_)
              have h := nm_some eσ14 h
              obtain ⟨v15, ev15⟩ : ∃ y : Int32, y = t5.1 + 1 := ⟨_, rfl⟩
              have h := nm_some ev15 h
              refine lv_iinc (v := v15) (lv' := [(2, .int v15), (0, .ref (ad 0)), (1, .int a1), (3, .int t2.2.1), (4, .int t5.2.1)]) hx hb dX11_ranks_53 hl (k := 2) rfl (by rw [ev15]; rfl) (by decide) rfl (fun ls hl => ?_)
              obtain ⟨v16, ev16⟩ : ∃ y : Int32, y = t5.2.1 + 1 := ⟨_, rfl⟩
              have h := nm_some ev16 h
              refine lv_iinc (v := v16) (lv' := [(4, .int v16), (2, .int v15), (0, .ref (ad 0)), (1, .int a1), (3, .int t2.2.1)]) hx hb dX11_ranks_56 hl (k := 4) rfl (by rw [ev16]; rfl) (by decide) rfl (fun ls hl => ?_)
              refine lv_goto (tgt := 12) hx hb dX11_ranks_59 (by decide) ?_
              exact hCL4 _ (Option.some.inj h).symm H locs ls hP hS (lv_sub hl [2, 3, 1, 4, 0] rfl)
            · have h := it_f c12 h
              refine lv_goto (tgt := 56) hx hb dX11_ranks_42 (by decide) ?_
              obtain ⟨v17, ev17⟩ : ∃ y : Int32, y = t5.2.1 + 1 := ⟨_, rfl⟩
              have h := nm_some ev17 h
              refine lv_iinc (v := v17) (lv' := [(4, .int v17), (0, .ref (ad 0)), (1, .int a1), (2, .int t5.1), (3, .int t2.2.1)]) hx hb dX11_ranks_56 hl (k := 4) rfl (by rw [ev17]; rfl) (by decide) rfl (fun ls hl => ?_)
              refine lv_goto (tgt := 12) hx hb dX11_ranks_59 (by decide) ?_
              exact hCL4 _ (Option.some.inj h).symm H locs ls hP hS (lv_sub hl [1, 2, 3, 4, 0] rfl)
      · intro H locs ls hP hS hl
        obtain ⟨v1021, ev1021⟩ : ∃ y : Int32, y = t2.2.1 + 1 := ⟨_, rfl⟩
        have h := nm_some ev1021 h
        refine lv_iinc (v := v1021) (lv' := [(3, .int v1021), (0, .ref (ad 0)), (1, .int a1), (2, .int t1018.1), (4, .int t1018.2.1)]) hx hb dX11_ranks_62 hl (k := 3) rfl (by rw [ev1021]; rfl) (by decide) rfl (fun ls hl => ?_)
        refine lv_goto (tgt := 4) hx hb dX11_ranks_65 (by decide) ?_
        exact hCL1 _ (Option.some.inj h).symm H locs ls hP hS (lv_sub hl [1, 2, 3, 0] rfl)
  · intro H locs ls hP hS hl
    subst hQQ
    exact x_rv X hr hlocks hP hS (Option.some.inj h) dX11_ranks_68
def f_11_isDay (n : Nat) (σ : St) (a0 : Int32) (a1 : Int32) : Option (Int32 × St) :=
  (f_11_isIn n σ a0 a1 99).bind fun r1 =>
  gd (isb r1.1) <| some (r1.1, r1.2)
abbrev rm_11_isDay : Room := { frames := 1, cells := 0, slots := 0, locals := 22 }
set_option maxRecDepth 100000 in
set_option maxHeartbeats 4000000 in
theorem k_11_isDay (l : Launch) (D : va_G) (cA : Nat → ClassId) (ad : Nat → Nat) (hj : inj 41 ad) (n : Nat) (σ : St) (a0 : Int32) (a1 : Int32)  {res : Int32 × St} (h : f_11_isDay n σ a0 a1 = some res) : MXi l D dM 41 cA ad ET yX11_isDay wsX11_isDay rm_11_isDay [.int a0, .int a1] σ res := by
  refine Met.ofW (cc := cX11_isDay) (maxL := 2) (ret := (some .boolean)) (by decide) rfl ?_
  intro p e s m args below meth c s₁ B hml hv
  obtain ⟨hargs, hP, hK, hE⟩ := hv
  have hx := B.exec
  have hb := B.bytes
  have hr := B.returns
  have hts := atoms_spec (ws := wsX11_isDay) B.pre
  have hown : s.vm.findClass RX11 = some m.cls := findClass_of_methodNamed B.named
  have hlocks := B.notSynchronized
  have X : Cx p s m args c cX11_isDay 2 RX11 wsX11_isDay D dM 41 cA ad ET := ⟨hx, hb, hml, hown, hts, hK, hj, hE, ET_ok⟩
  have hS : va_S (inA 41 ad) s.heap s.heap [] := va_S.rf
  have hl := lv_entry ([.int a0, .int a1]) (n := 2) (Nat.le_of_ble_eq_true rfl)
  rw [show entryFrame m args 2 = entryFrame m ([.int a0, .int a1] : List Value).toArray 2 by rw [hargs]]
  rw [lg_entry_eq]
  generalize (lg_sl ([.int a0, .int a1]) ++ List.replicate (2 - (lg_sl ([.int a0, .int a1])).length) Slot.unset).toArray = ls at hl ⊢
  have hl : lv_has ls 2 [(0, .int a0), (1, .int a1)] := hl
  obtain ⟨QQ, hQQ⟩ : ∃ Q, Q = MQ below (va_Qi (fun r u => r = res.1 ∧ u = res.2) (fun u t => va_P D vwCl (ww dM 41 cA ad u) t.heap) (inA 41 ad)) args s 0 0 (inA 41 ad) := ⟨_, rfl⟩
  show W p l e (headSpec wsX11_isDay rm_11_isDay).room s m args below meth c s.heap [] 0 0 (MQ below (va_Qi (fun r u => r = res.1 ∧ u = res.2) (fun u t => va_P D vwCl (ww dM 41 cA ad u) t.heap) (inA 41 ad)) args s 0 0 (inA 41 ad)) _
  rw [← hQQ]
  unfold f_11_isDay at h
  obtain ⟨H, hH⟩ : ∃ H, H = s.heap := ⟨_, rfl⟩
  obtain ⟨locs, hlc⟩ : ∃ q : List Loc, q = [] := ⟨_, rfl⟩
  have hP : va_P D vwCl (ww dM 41 cA ad σ) s.heap := hP
  have hS : va_S (inA 41 ad) s.heap s.heap [] := hS
  rw [← hlc] at hS ⊢
  rw [show W p l e (headSpec wsX11_isDay rm_11_isDay).room s m args below meth c s.heap locs 0 0 QQ = W p l e (headSpec wsX11_isDay rm_11_isDay).room s m args below meth c H locs 0 0 QQ by rw [hH]]
  have hS : va_S (inA 41 ad) s.heap H locs := by rw [hH]; exact hS
  have hP : va_P D vwCl (ww dM 41 cA ad σ) H := by rw [hH]; exact hP
  clear hH hlc
  refine lv_iload_n hx hb dX11_isDay_0 rfl (lv_at hl 0 rfl) ?_
  refine lv_iload_n hx hb dX11_isDay_1 rfl (lv_at hl 1 rfl) ?_
  refine lv_bipush (v := 99) hx hb dX11_isDay_2 (by decide) ?_
  obtain ⟨r1, k2, h⟩ := bd_some h
  refine x_Si (rest := []) X hP hS (k_11_isIn l D cA ad hj n σ a0 a1 99 k2) 3 gX11_isDay_X11_isIn rfl rfl rfl (by decide +kernel) ⟨Nat.le_of_ble_eq_true rfl, Nat.le_of_ble_eq_true rfl⟩ rfl hl.1 rfl (Nat.le_of_ble_eq_true rfl) dX11_isDay_4 ⟨Nat.zero_le _, Nat.zero_le _⟩ (fun H locs hP hS => ?_)
  obtain ⟨g3, h⟩ := gd_some h
  subst hQQ
  exact x_rz X hr hlocks hP hS (isb_nar g3) (Option.some.inj h) dX11_isDay_7
