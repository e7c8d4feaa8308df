def b_1_tryOrders_32 (n : Nat) (rc : St → Int32 → Int32 → Option St) (a3 : Int32) (a4 : Int32) (t7 : Int32 × St) : Option ((Int32 × St) ⊕ (Int32 × St)) :=
  if (t7.2.1 15 6) ≤ t7.1 then
    some (.inr (t7.1, t7.2))
  else
    gd (inb t7.1 6) <| if (t7.2.1 19 t7.1.toNatClampNeg) = 0 then
      (f_3_addGuest n t7.2 (t7.2.1 16 t7.1.toNatClampNeg) a3).bind fun r12 =>
      (f_1_place n r12 t7.1 a4).bind fun r14 =>
      nm (a4 + 1) fun v16 =>
      (rc r14 a3 v16).bind fun r17 =>
      (f_1_unplace n r17 t7.1).bind fun r19 =>
      (f_3_removeGuest n r19 (r19.1 16 t7.1.toNatClampNeg)).bind fun r21 =>
      nm (t7.1 + 1) fun v23 =>
      some (.inl (v23, r21))
    else
      nm (t7.1 + 1) fun v11 =>
      some (.inl (v11, t7.2))
def F_1_tryOrders (n : Nat) (rc : St → Int32 → Int32 → Option St) (σ : St) (a3 : Int32) (a4 : Int32) : Option (St) :=
  if 6 < a4 then
    some σ
  else
    (f_1_isHopeless n σ ).bind fun r2 =>
    if r2.1 = 0 then
      if a4 = (r2.2.1 15 6) then
        (f_1_keepOrder n r2.2 ).bind fun r1027 =>
        some r1027
      else
        (lq (b_1_tryOrders_32 n rc a3 a4) n (0, r2.2)).bind fun t1024 =>
        some t1024.2
    else
      some r2.2
def f_1_tryOrders (n : Nat) : Nat → St → Int32 → Int32 → Option St
  | 0, _, _, _ => none
  | k + 1, σ, a3, a4 => F_1_tryOrders n (f_1_tryOrders n k) σ a3 a4
abbrev rm_1_tryOrders (k : Nat) : Room := { frames := 4 + k, cells := 0, slots := 0, locals := 105 + 25 * k }
set_option maxRecDepth 100000 in
set_option maxHeartbeats 4000000 in
theorem k_1_tryOrders (l : Launch) (D : va_G) (cA : Nat → ClassId) (ad : Nat → Nat) (z : ZX) (hj : inj 120 ad) (n : Nat) : ∀ (k : Nat) (σ : St) (a3 a4 : Int32) {res : St} (h : f_1_tryOrders n k σ a3 a4 = some res), MXv l D dX 120 cA ad (EX ad z) yX1_tryOrders wsX1_tryOrders (rm_1_tryOrders k) [.ref (ad 15), .ref (ad 1), .ref (ad 11), .int a3, .int a4] σ res := by
  intro k
  induction k with
  | zero => intro σ a3 a4 res h; cases h
  | succ kf ih =>
    intro σ a3 a4 res h
    refine Met.ofW (cc := cX1_tryOrders) (maxL := 6) (ret := none) (by decide) rfl ?_
    intro p e s m args below meth c s₁ B hml hv
    obtain ⟨hargs, hP, hK, hE⟩ := hv
    have hx := B.exec
    have hb := B.bytes
    have hr := B.returns
    have hts := atoms_spec (ws := wsX1_tryOrders) B.pre
    have hown : s.vm.findClass RX1 = some m.cls := findClass_of_methodNamed B.named
    have hlocks := B.notSynchronized
    have X : Cx p s m args c cX1_tryOrders 6 RX1 wsX1_tryOrders D dX 120 cA ad (EX ad z) := ⟨hx, hb, hml, hown, hts, hK, hj, hE, EX_ok ad z⟩
    have hS : va_S (inA 120 ad) s.heap s.heap [] := va_S.rf
    have hl := lv_entry ([.ref (ad 15), .ref (ad 1), .ref (ad 11), .int a3, .int a4]) (n := 6) (Nat.le_of_ble_eq_true rfl)
    rw [show entryFrame m args 6 = entryFrame m ([.ref (ad 15), .ref (ad 1), .ref (ad 11), .int a3, .int a4] : List Value).toArray 6 by rw [hargs]]
    rw [lg_entry_eq]
    generalize (lg_sl ([.ref (ad 15), .ref (ad 1), .ref (ad 11), .int a3, .int a4]) ++ List.replicate (6 - (lg_sl ([.ref (ad 15), .ref (ad 1), .ref (ad 11), .int a3, .int a4])).length) Slot.unset).toArray = ls at hl ⊢
    have hl : lv_has ls 6 [(0, .ref (ad 15)), (1, .ref (ad 1)), (2, .ref (ad 11)), (3, .int a3), (4, .int a4)] := hl
    obtain ⟨QQ, hQQ⟩ : ∃ Q, Q = MQ below (va_Qv (fun u => u = res) (fun u t => va_P D vwCl (ww dX 120 cA ad u) t.heap) (inA 120 ad)) args s 0 0 (inA 120 ad) := ⟨_, rfl⟩
    show W p l e (headSpec wsX1_tryOrders (rm_1_tryOrders (kf + 1))).room s m args below meth c s.heap [] 0 0 (MQ below (va_Qv (fun u => u = res) (fun u t => va_P D vwCl (ww dX 120 cA ad u) t.heap) (inA 120 ad)) args s 0 0 (inA 120 ad)) _
    rw [← hQQ]
    have in1 : ∀ w ∈ wsX10, w ∈ wsX1_tryOrders := by decide +kernel
    have lk31 : Cond.fieldLink RX1 31 "CureTown$BestSearch" "count" "I" ∈ wsX1_tryOrders := by decide +kernel
    have lk21 : Cond.fieldLink RX1 21 "CureTown$BestSearch" "isPlaced" "[Z" ∈ wsX1_tryOrders := by decide +kernel
    have lk9 : Cond.fieldLink RX1 9 "CureTown$BestSearch" "guests" "[I" ∈ wsX1_tryOrders := by decide +kernel
    unfold f_1_tryOrders F_1_tryOrders at h
    obtain ⟨H, hH⟩ : ∃ H, H = s.heap := ⟨_, rfl⟩
    obtain ⟨locs, hlc⟩ : ∃ q : List Loc, q = [] := ⟨_, rfl⟩
    have hP : va_P D vwCl (ww dX 120 cA ad σ) s.heap := hP
    have hS : va_S (inA 120 ad) s.heap s.heap [] := hS
    rw [← hlc] at hS ⊢
    rw [show W p l e (headSpec wsX1_tryOrders (rm_1_tryOrders (kf + 1))).room s m args below meth c s.heap locs 0 0 QQ = W p l e (headSpec wsX1_tryOrders (rm_1_tryOrders (kf + 1))).room s m args below meth c H locs 0 0 QQ by rw [hH]]
    have hS : va_S (inA 120 ad) s.heap H locs := by rw [hH]; exact hS
    have hP : va_P D vwCl (ww dX 120 cA ad σ) H := by rw [hH]; exact hP
    clear hH hlc
    refine lv_iload hx hb dX1_tryOrders_0 (lv_at hl 4 rfl) ?_
    refine lv_bipush (v := 6) hx hb dX1_tryOrders_2 (by decide) ?_
    refine lv_icmp_gt (tgt := 14) hx hb dX1_tryOrders_4 (by decide) (fun c1 => ?_) (fun c1 => ?_)
    · have h := it_t c1 h
      subst hQQ
      exact x_rv X hr hlocks hP hS (Option.some.inj h) dX1_tryOrders_14
    · have h := it_f c1 h
      refine lv_aload_n hx hb dX1_tryOrders_7 rfl (lv_at hl 0 rfl) ?_
      obtain ⟨r2, k3, h⟩ := bd_some h
      refine x_Vi (rest := []) X hP hS (k_1_isHopeless l D cA ad z hj n σ  k3) (by decide) (dX_15) rfl 0 gX1_tryOrders_X1_isHopeless rfl rfl rfl (by decide +kernel) ⟨(show 0 + 1 ≤ 4 + (kf + 1) by omega), (show 8 + (1 + 11) + 0 ≤ 105 + 25 * (kf + 1) by omega)⟩ rfl hl.1 rfl (Nat.le_of_ble_eq_true rfl) dX1_tryOrders_8 ⟨Nat.zero_le _, Nat.zero_le _⟩ (fun H locs hP hS => ?_)
      refine lv_if_eq (tgt := 15) hx hb dX1_tryOrders_11 (by decide) (fun c4 => ?_) (fun c4 => ?_)
      · have h := it_t c4 h
        refine lv_iload hx hb dX1_tryOrders_15 (lv_at hl 4 rfl) ?_
        refine lv_aload_n hx hb dX1_tryOrders_17 rfl (lv_at hl 0 rfl) ?_
        refine x_gi X hP (j := 6) (by decide) (dX_15) rfl rfl (by decide) in1 lk31 dX1_tryOrders_18 ?_
        refine lv_icmp_ne (tgt := 29) hx hb dX1_tryOrders_21 (by decide) (fun c5 => ?_) (fun c5 => ?_)
        · have h := it_f c5 h
          refine lv_iconst (v := 0) hx hb dX1_tryOrders_29 (by decide) ?_
          refine lv_istore (lv' := [(5, .int 0), (0, .ref (ad 15)), (1, .ref (ad 1)), (2, .ref (ad 11)), (3, .int a3), (4, .int a4)]) hx hb dX1_tryOrders_30 hl (by decide) rfl (fun ls hl => ?_)
          obtain ⟨t1024, o1026, h⟩ := bd_some h
          refine lq_rule (P := fun t7 : Int32 × St => ∀ (H : Heap) (locs : List Loc) (ls : Array Slot), va_P D vwCl (ww dX 120 cA ad t7.2) H → va_S (inA 120 ad) s.heap H locs → lv_has ls 6 [(0, .ref (ad 15)), (1, .ref (ad 1)), (2, .ref (ad 11)), (3, .int a3), (4, .int a4), (5, .int t7.1)] → W p l e (headSpec wsX1_tryOrders (rm_1_tryOrders (kf + 1))).room s m args below meth c H locs 0 0 QQ (F0 m 32 ls [])) (X := fun t1024 : Int32 × St => ∀ (H : Heap) (locs : List Loc) (ls : Array Slot), va_P D vwCl (ww dX 120 cA ad t1024.2) H → va_S (inA 120 ad) s.heap H locs → lv_has ls 6 [(0, .ref (ad 15)), (1, .ref (ad 1)), (2, .ref (ad 11)), (3, .int a3), (4, .int a4), (5, .int t1024.1)] → W p l e (headSpec wsX1_tryOrders (rm_1_tryOrders (kf + 1))).room s m args below meth c H locs 0 0 QQ (F0 m 108 ls [])) ?_ n _ _ o1026 ?_ H locs ls hP hS (lv_sub hl [1, 2, 3, 4, 5, 0] rfl)
          · clear h hP hS hl
            intro t7 rL6 h hCL6 hEL6 H locs ls hP hS hl
            unfold b_1_tryOrders_32 at h
            refine lv_iload hx hb dX1_tryOrders_32 (lv_at hl 5 rfl) ?_
            refine lv_aload_n hx hb dX1_tryOrders_34 rfl (lv_at hl 0 rfl) ?_
            refine x_gi X hP (j := 6) (by decide) (dX_15) rfl rfl (by decide) in1 lk31 dX1_tryOrders_35 ?_
            refine lv_icmp_ge (tgt := 108) hx hb dX1_tryOrders_38 (by decide) (fun c8 => ?_) (fun c8 => ?_)
            · have h := it_t c8 h
              exact hEL6 _ (Option.some.inj h).symm H locs ls hP hS (lv_sub hl [0, 1, 2, 3, 4, 5] rfl)
            · have h := it_f c8 h
              refine lv_aload_n hx hb dX1_tryOrders_41 rfl (lv_at hl 0 rfl) ?_
              refine x_gr X hP (j := 3) (by decide) (dX_15) rfl rfl (by decide) in1 lk21 dX1_tryOrders_42 ?_
              refine lv_iload hx hb dX1_tryOrders_45 (lv_at hl 5 rfl) ?_
              obtain ⟨g9, h⟩ := gd_some h
              refine x_az X hP (by decide) (dX_19) g9 dX1_tryOrders_47 ?_
              refine lv_if_ne (tgt := 102) hx hb dX1_tryOrders_48 (by decide) (fun c10 => ?_) (fun c10 => ?_)
              · have h := it_f c10 h
                obtain ⟨v11, ev11⟩ : ∃ y : Int32, y = t7.1 + 1 := ⟨_, rfl⟩
                have h := nm_some ev11 h
                refine lv_iinc (v := v11) (lv' := [(5, .int v11), (0, .ref (ad 15)), (1, .ref (ad 1)), (2, .ref (ad 11)), (3, .int a3), (4, .int a4)]) hx hb dX1_tryOrders_102 hl (k := 5) rfl (by rw [ev11]; rfl) (by decide) rfl (fun ls hl => ?_)
                refine lv_goto (tgt := 32) hx hb dX1_tryOrders_105 (by decide) ?_
                exact hCL6 _ (Option.some.inj h).symm H locs ls hP hS (lv_sub hl [1, 2, 3, 4, 5, 0] rfl)
              · have h := it_t c10 h
                refine lv_aload_n hx hb dX1_tryOrders_51 rfl (lv_at hl 2 rfl) ?_
                refine lv_aload_n hx hb dX1_tryOrders_52 rfl (lv_at hl 1 rfl) ?_
                refine lv_aload_n hx hb dX1_tryOrders_53 rfl (lv_at hl 0 rfl) ?_
                refine x_gr X hP (j := 0) (by decide) (dX_15) rfl rfl (by decide) in1 lk9 dX1_tryOrders_54 ?_
                refine lv_iload hx hb dX1_tryOrders_57 (lv_at hl 5 rfl) ?_
                refine x_ai X hP (by decide) (dX_16) g9 dX1_tryOrders_59 ?_
                refine lv_iload_n hx hb dX1_tryOrders_60 rfl (lv_at hl 3 rfl) ?_
                obtain ⟨r12, k13, h⟩ := bd_some h
                refine x_Vv (rest := []) X hP hS (k_3_addGuest l D cA ad z hj n t7.2 (t7.2.1 16 t7.1.toNatClampNeg) a3 k13) (by decide) (dX_11) rfl 3 gX1_tryOrders_X3_addGuest rfl rfl rfl (by decide +kernel) ⟨(show 3 + 1 ≤ 4 + (kf + 1) by omega), (show 8 + (9 + 11) + 77 ≤ 105 + 25 * (kf + 1) by omega)⟩ rfl hl.1 rfl (Nat.le_of_ble_eq_true rfl) dX1_tryOrders_61 ⟨Nat.zero_le _, Nat.zero_le _⟩ (fun H locs hP hS => ?_)
                refine lv_aload_n hx hb dX1_tryOrders_64 rfl (lv_at hl 0 rfl) ?_
                refine lv_aload_n hx hb dX1_tryOrders_65 rfl (lv_at hl 2 rfl) ?_
                refine lv_iload hx hb dX1_tryOrders_66 (lv_at hl 5 rfl) ?_
                refine lv_iload hx hb dX1_tryOrders_68 (lv_at hl 4 rfl) ?_
                obtain ⟨r14, k15, h⟩ := bd_some h
                refine x_Vv (rest := []) X hP hS (k_1_place l D cA ad z hj n r12 t7.1 a4 k15) (by decide) (dX_15) rfl 3 gX1_tryOrders_X1_place rfl rfl rfl (by decide +kernel) ⟨(show 0 + 1 ≤ 4 + (kf + 1) by omega), (show 8 + (5 + 11) + 0 ≤ 105 + 25 * (kf + 1) by omega)⟩ rfl hl.1 rfl (Nat.le_of_ble_eq_true rfl) dX1_tryOrders_70 ⟨Nat.zero_le _, Nat.zero_le _⟩ (fun H locs hP hS => ?_)
                refine lv_aload_n hx hb dX1_tryOrders_73 rfl (lv_at hl 0 rfl) ?_
                refine lv_aload_n hx hb dX1_tryOrders_74 rfl (lv_at hl 1 rfl) ?_
                refine lv_aload_n hx hb dX1_tryOrders_75 rfl (lv_at hl 2 rfl) ?_
                refine lv_iload_n hx hb dX1_tryOrders_76 rfl (lv_at hl 3 rfl) ?_
                refine lv_iload hx hb dX1_tryOrders_77 (lv_at hl 4 rfl) ?_
                refine lv_iconst (v := 1) hx hb dX1_tryOrders_79 (by decide) ?_
                refine lv_iadd hx hb dX1_tryOrders_80 ?_
                refine lv_topi (fun v16 ev16 => ?_)
                have h := nm_some ev16 h
                obtain ⟨r17, k18, h⟩ := bd_some h
                refine x_Sv (rest := []) X hP hS (ih r14 a3 v16 k18) 5 gX1_tryOrders_X1_tryOrders rfl rfl rfl (by decide +kernel) ⟨(show 4 + kf + 1 ≤ 4 + (kf + 1) by omega), (show 8 + (6 + 11) + (105 + 25 * kf) ≤ 105 + 25 * (kf + 1) by omega)⟩ rfl hl.1 rfl (Nat.le_of_ble_eq_true rfl) dX1_tryOrders_81 ⟨Nat.zero_le _, Nat.zero_le _⟩ (fun H locs hP hS => ?_)
                refine lv_aload_n hx hb dX1_tryOrders_84 rfl (lv_at hl 0 rfl) ?_
                refine lv_aload_n hx hb dX1_tryOrders_85 rfl (lv_at hl 2 rfl) ?_
                refine lv_iload hx hb dX1_tryOrders_86 (lv_at hl 5 rfl) ?_
                obtain ⟨r19, k20, h⟩ := bd_some h
                refine x_Vv (rest := []) X hP hS (k_1_unplace l D cA ad z hj n r17 t7.1 k20) (by decide) (dX_15) rfl 2 gX1_tryOrders_X1_unplace rfl rfl rfl (by decide +kernel) ⟨(show 0 + 1 ≤ 4 + (kf + 1) by omega), (show 8 + (4 + 11) + 0 ≤ 105 + 25 * (kf + 1) by omega)⟩ rfl hl.1 rfl (Nat.le_of_ble_eq_true rfl) dX1_tryOrders_88 ⟨Nat.zero_le _, Nat.zero_le _⟩ (fun H locs hP hS => ?_)
                refine lv_aload_n hx hb dX1_tryOrders_91 rfl (lv_at hl 2 rfl) ?_
                refine lv_aload_n hx hb dX1_tryOrders_92 rfl (lv_at hl 0 rfl) ?_
                refine x_gr X hP (j := 0) (by decide) (dX_15) rfl rfl (by decide) in1 lk9 dX1_tryOrders_93 ?_
                refine lv_iload hx hb dX1_tryOrders_96 (lv_at hl 5 rfl) ?_
                refine x_ai X hP (by decide) (dX_16) g9 dX1_tryOrders_98 ?_
                obtain ⟨r21, k22, h⟩ := bd_some h
                refine x_Vv (rest := []) X hP hS (k_3_removeGuest l D cA ad z hj n r19 (r19.1 16 t7.1.toNatClampNeg) k22) (by decide) (dX_11) rfl 1 gX1_tryOrders_X3_removeGuest rfl rfl rfl (by decide +kernel) ⟨(show 1 + 1 ≤ 4 + (kf + 1) by omega), (show 8 + (4 + 11) + 21 ≤ 105 + 25 * (kf + 1) by omega)⟩ rfl hl.1 rfl (Nat.le_of_ble_eq_true rfl) dX1_tryOrders_99 ⟨Nat.zero_le _, Nat.zero_le _⟩ (fun H locs hP hS => ?_)
                obtain ⟨v23, ev23⟩ : ∃ y : Int32, y = t7.1 + 1 := ⟨_, rfl⟩
                have h := nm_some ev23 h
                refine lv_iinc (v := v23) (lv' := [(5, .int v23), (0, .ref (ad 15)), (1, .ref (ad 1)), (2, .ref (ad 11)), (3, .int a3), (4, .int a4)]) hx hb dX1_tryOrders_102 hl (k := 5) rfl (by rw [ev23]; rfl) (by decide) rfl (fun ls hl => ?_)
                refine lv_goto (tgt := 32) hx hb dX1_tryOrders_105 (by decide) ?_
                exact hCL6 _ (Option.some.inj h).symm H locs ls hP hS (lv_sub hl [1, 2, 3, 4, 5, 0] rfl)
          · intro H locs ls hP hS hl
            subst hQQ
            exact x_rv X hr hlocks hP hS (Option.some.inj h) dX1_tryOrders_108
        · have h := it_t c5 h
          refine lv_aload_n hx hb dX1_tryOrders_24 rfl (lv_at hl 0 rfl) ?_
          obtain ⟨r1027, k1028, h⟩ := bd_some h
          refine x_Vv (rest := []) X hP hS (k_1_keepOrder l D cA ad z hj n r2.2  k1028) (by decide) (dX_15) rfl 0 gX1_tryOrders_X1_keepOrder rfl rfl rfl (by decide +kernel) ⟨(show 1 + 1 ≤ 4 + (kf + 1) by omega), (show 8 + (1 + 11) + 80 ≤ 105 + 25 * (kf + 1) by omega)⟩ rfl hl.1 rfl (Nat.le_of_ble_eq_true rfl) dX1_tryOrders_25 ⟨Nat.zero_le _, Nat.zero_le _⟩ (fun H locs hP hS => ?_)
          subst hQQ
          exact x_rv X hr hlocks hP hS (Option.some.inj h) dX1_tryOrders_28
      · have h := it_f c4 h
        subst hQQ
        exact x_rv X hr hlocks hP hS (Option.some.inj h) dX1_tryOrders_14
def f_1_run (n : Nat) (σ : St) (a3 : Int32) : Option (St) :=
  nm (si σ 15 7 (-1)) fun σ1 =>
  nm (si σ1 15 8 0) fun σ2 =>
  nm (si σ2 15 9 0) fun σ3 =>
  nm (si σ3 15 10 0) fun σ4 =>
  (f_3_clear n σ4 ).bind fun r5 =>
  (f_1_listGuests n r5 a3).bind fun r7 =>
  (f_1_tryOrders n 8 r7 a3 0).bind fun r9 =>
  some r9
abbrev rm_1_run : Room := { frames := 13, cells := 0, slots := 0, locals := 330 }
set_option maxRecDepth 100000 in
set_option maxHeartbeats 4000000 in
theorem k_1_run (l : Launch) (D : va_G) (cA : Nat → ClassId) (ad : Nat → Nat) (z : ZX) (hj : inj 120 ad) (n : Nat) (σ : St) (a3 : Int32)  {res : St} (h : f_1_run n σ a3 = some res) : MXv l D dX 120 cA ad (EX ad z) yX1_run wsX1_run rm_1_run [.ref (ad 15), .ref (ad 1), .ref (ad 11), .int a3] σ res := by
  refine Met.ofW (cc := cX1_run) (maxL := 4) (ret := none) (by decide) rfl ?_
  intro p e s m args below meth c s₁ B hml hv
  obtain ⟨hargs, hP, hK, hE⟩ := hv
  have hx := B.exec
  have hb := B.bytes
  have hr := B.returns
  have hts := atoms_spec (ws := wsX1_run) B.pre
  have hown : s.vm.findClass RX1 = some m.cls := findClass_of_methodNamed B.named
  have hlocks := B.notSynchronized
  have X : Cx p s m args c cX1_run 4 RX1 wsX1_run D dX 120 cA ad (EX ad z) := ⟨hx, hb, hml, hown, hts, hK, hj, hE, EX_ok ad z⟩
  have hS : va_S (inA 120 ad) s.heap s.heap [] := va_S.rf
  have hl := lv_entry ([.ref (ad 15), .ref (ad 1), .ref (ad 11), .int a3]) (n := 4) (Nat.le_of_ble_eq_true rfl)
  rw [show entryFrame m args 4 = entryFrame m ([.ref (ad 15), .ref (ad 1), .ref (ad 11), .int a3] : List Value).toArray 4 by rw [hargs]]
  rw [lg_entry_eq]
  generalize (lg_sl ([.ref (ad 15), .ref (ad 1), .ref (ad 11), .int a3]) ++ List.replicate (4 - (lg_sl ([.ref (ad 15), .ref (ad 1), .ref (ad 11), .int a3])).length) Slot.unset).toArray = ls at hl ⊢
  have hl : lv_has ls 4 [(0, .ref (ad 15)), (1, .ref (ad 1)), (2, .ref (ad 11)), (3, .int a3)] := hl
  obtain ⟨QQ, hQQ⟩ : ∃ Q, Q = MQ below (va_Qv (fun u => u = res) (fun u t => va_P D vwCl (ww dX 120 cA ad u) t.heap) (inA 120 ad)) args s 0 0 (inA 120 ad) := ⟨_, rfl⟩
  show W p l e (headSpec wsX1_run rm_1_run).room s m args below meth c s.heap [] 0 0 (MQ below (va_Qv (fun u => u = res) (fun u t => va_P D vwCl (ww dX 120 cA ad u) t.heap) (inA 120 ad)) args s 0 0 (inA 120 ad)) _
  rw [← hQQ]
  have in1 : ∀ w ∈ wsX10, w ∈ wsX1_run := by decide +kernel
  have lk35 : Cond.fieldLink RX1 35 "CureTown$BestSearch" "bestDone" "I" ∈ wsX1_run := by decide +kernel
  have lk38 : Cond.fieldLink RX1 38 "CureTown$BestSearch" "bestOver" "I" ∈ wsX1_run := by decide +kernel
  have lk41 : Cond.fieldLink RX1 41 "CureTown$BestSearch" "hopedDone" "I" ∈ wsX1_run := by decide +kernel
  have lk44 : Cond.fieldLink RX1 44 "CureTown$BestSearch" "hopedOver" "I" ∈ wsX1_run := by decide +kernel
  unfold f_1_run at h
  obtain ⟨H, hH⟩ : ∃ H, H = s.heap := ⟨_, rfl⟩
  obtain ⟨locs, hlc⟩ : ∃ q : List Loc, q = [] := ⟨_, rfl⟩
  have hP : va_P D vwCl (ww dX 120 cA ad σ) s.heap := hP
  have hS : va_S (inA 120 ad) s.heap s.heap [] := hS
  rw [← hlc] at hS ⊢
  rw [show W p l e (headSpec wsX1_run rm_1_run).room s m args below meth c s.heap locs 0 0 QQ = W p l e (headSpec wsX1_run rm_1_run).room s m args below meth c H locs 0 0 QQ by rw [hH]]
  have hS : va_S (inA 120 ad) s.heap H locs := by rw [hH]; exact hS
  have hP : va_P D vwCl (ww dX 120 cA ad σ) H := by rw [hH]; exact hP
  clear hH hlc
  refine lv_aload_n hx hb dX1_run_0 rfl (lv_at hl 0 rfl) ?_
  refine lv_iconst (v := (-1)) hx hb dX1_run_1 (by decide) ?_
  refine x_pi X hP hS (j := 7) (by decide) (dX_15) rfl rfl (by decide) in1 tyX1_ok nmX1 lk35 rfl rfl rfl rfl dX1_run_2 (fun σ1 eσ1 H locs hP hS => ?_)
  have h := nm_some eσ1 h
  refine lv_aload_n hx hb dX1_run_5 rfl (lv_at hl 0 rfl) ?_
  refine lv_iconst (v := 0) hx hb dX1_run_6 (by decide) ?_
  refine x_pi X hP hS (j := 8) (by decide) (dX_15) rfl rfl (by decide) in1 tyX1_ok nmX1 lk38 rfl rfl rfl rfl dX1_run_7 (fun σ2 eσ2 H locs hP hS => ?_)
  have h := nm_some eσ2 h
  refine lv_aload_n hx hb dX1_run_10 rfl (lv_at hl 0 rfl) ?_
  refine lv_iconst (v := 0) hx hb dX1_run_11 (by decide) ?_
  refine x_pi X hP hS (j := 9) (by decide) (dX_15) rfl rfl (by decide) in1 tyX1_ok nmX1 lk41 rfl rfl rfl rfl dX1_run_12 (fun σ3 eσ3 H locs hP hS => ?_)
  have h := nm_some eσ3 h
  refine lv_aload_n hx hb dX1_run_15 rfl (lv_at hl 0 rfl) ?_
  refine lv_iconst (v := 0) hx hb dX1_run_16 (by decide) ?_
  refine x_pi X hP hS (j := 10) (by decide) (dX_15) rfl rfl (by decide) in1 tyX1_ok nmX1 lk44 rfl rfl rfl rfl dX1_run_17 (fun σ4 eσ4 H locs hP hS => ?_)
  have h := nm_some eσ4 h
  refine lv_aload_n hx hb dX1_run_20 rfl (lv_at hl 2 rfl) ?_
  obtain ⟨r5, k6, h⟩ := bd_some h
  refine x_Vv (rest := []) X hP hS (k_3_clear l D cA ad z hj n σ4  k6) (by decide) (dX_11) rfl 0 gX1_run_X3_clear rfl rfl rfl (by decide +kernel) ⟨Nat.le_of_ble_eq_true rfl, Nat.le_of_ble_eq_true rfl⟩ rfl hl.1 rfl (Nat.le_of_ble_eq_true rfl) dX1_run_21 ⟨Nat.zero_le _, Nat.zero_le _⟩ (fun H locs hP hS => ?_)
  refine lv_aload_n hx hb dX1_run_24 rfl (lv_at hl 0 rfl) ?_
  refine lv_aload_n hx hb dX1_run_25 rfl (lv_at hl 1 rfl) ?_
  refine lv_aload_n hx hb dX1_run_26 rfl (lv_at hl 2 rfl) ?_
  refine lv_iload_n hx hb dX1_run_27 rfl (lv_at hl 3 rfl) ?_
  obtain ⟨r7, k8, h⟩ := bd_some h
  refine x_Vv (rest := []) X hP hS (k_1_listGuests l D cA ad z hj n r5 a3 k8) (by decide) (dX_15) rfl 3 gX1_run_X1_listGuests rfl rfl rfl (by decide +kernel) ⟨Nat.le_of_ble_eq_true rfl, Nat.le_of_ble_eq_true rfl⟩ rfl hl.1 rfl (Nat.le_of_ble_eq_true rfl) dX1_run_28 ⟨Nat.zero_le _, Nat.zero_le _⟩ (fun H locs hP hS => ?_)
  refine lv_aload_n hx hb dX1_run_31 rfl (lv_at hl 0 rfl) ?_
  refine lv_aload_n hx hb dX1_run_32 rfl (lv_at hl 1 rfl) ?_
  refine lv_aload_n hx hb dX1_run_33 rfl (lv_at hl 2 rfl) ?_
  refine lv_iload_n hx hb dX1_run_34 rfl (lv_at hl 3 rfl) ?_
  refine lv_iconst (v := 0) hx hb dX1_run_35 (by decide) ?_
  obtain ⟨r9, k10, h⟩ := bd_some h
  refine x_Sv (rest := []) X hP hS (k_1_tryOrders l D cA ad z hj n 8 r7 a3 0 k10) 5 gX1_run_X1_tryOrders rfl rfl rfl (by decide +kernel) ⟨Nat.le_of_ble_eq_true rfl, Nat.le_of_ble_eq_true rfl⟩ rfl hl.1 rfl (Nat.le_of_ble_eq_true rfl) dX1_run_36 ⟨Nat.zero_le _, Nat.zero_le _⟩ (fun H locs hP hS => ?_)
  subst hQQ
  exact x_rv X hr hlocks hP hS (Option.some.inj h) dX1_run_39
def b_1_layOutBest_7 (n : Nat) (a3 : Int32) (t4 : Int32 × St) : Option ((Int32 × St) ⊕ (Int32 × St)) :=
  if (t4.2.1 15 6) ≤ t4.1 then
    some (.inr (t4.1, t4.2))
  else
    gd (inb t4.1 6) <| (f_3_addGuest n t4.2 (t4.2.1 21 t4.1.toNatClampNeg) a3).bind fun r7 =>
    nm (t4.1 + 1) fun v9 =>
    some (.inl (v9, r7))
def f_1_layOutBest (n : Nat) (σ : St) (a3 : Int32) : Option (St) :=
  (f_3_clear n σ ).bind fun r1 =>
  (lq (b_1_layOutBest_7 n a3) n (0, r1)).bind fun t1010 =>
  some t1010.2
abbrev rm_1_layOutBest : Room := { frames := 4, cells := 0, slots := 0, locals := 105 }
set_option maxRecDepth 100000 in
set_option maxHeartbeats 4000000 in
theorem k_1_layOutBest (l : Launch) (D : va_G) (cA : Nat → ClassId) (ad : Nat → Nat) (z : ZX) (hj : inj 120 ad) (n : Nat) (σ : St) (a3 : Int32)  {res : St} (h : f_1_layOutBest n σ a3 = some res) : MXv l D dX 120 cA ad (EX ad z) yX1_layOutBest wsX1_layOutBest rm_1_layOutBest [.ref (ad 15), .ref (ad 1), .ref (ad 11), .int a3] σ res := by
  refine Met.ofW (cc := cX1_layOutBest) (maxL := 5) (ret := none) (by decide) rfl ?_
  intro p e s m args below meth c s₁ B hml hv
  obtain ⟨hargs, hP, hK, hE⟩ := hv
  have hx := B.exec
  have hb := B.bytes
  have hr := B.returns
  have hts := atoms_spec (ws := wsX1_layOutBest) B.pre
  have hown : s.vm.findClass RX1 = some m.cls := findClass_of_methodNamed B.named
  have hlocks := B.notSynchronized
  have X : Cx p s m args c cX1_layOutBest 5 RX1 wsX1_layOutBest D dX 120 cA ad (EX ad z) := ⟨hx, hb, hml, hown, hts, hK, hj, hE, EX_ok ad z⟩
  have hS : va_S (inA 120 ad) s.heap s.heap [] := va_S.rf
  have hl := lv_entry ([.ref (ad 15), .ref (ad 1), .ref (ad 11), .int a3]) (n := 5) (Nat.le_of_ble_eq_true rfl)
  rw [show entryFrame m args 5 = entryFrame m ([.ref (ad 15), .ref (ad 1), .ref (ad 11), .int a3] : List Value).toArray 5 by rw [hargs]]
  rw [lg_entry_eq]
  generalize (lg_sl ([.ref (ad 15), .ref (ad 1), .ref (ad 11), .int a3]) ++ List.replicate (5 - (lg_sl ([.ref (ad 15), .ref (ad 1), .ref (ad 11), .int a3])).length) Slot.unset).toArray = ls at hl ⊢
  have hl : lv_has ls 5 [(0, .ref (ad 15)), (1, .ref (ad 1)), (2, .ref (ad 11)), (3, .int a3)] := hl
  obtain ⟨QQ, hQQ⟩ : ∃ Q, Q = MQ below (va_Qv (fun u => u = res) (fun u t => va_P D vwCl (ww dX 120 cA ad u) t.heap) (inA 120 ad)) args s 0 0 (inA 120 ad) := ⟨_, rfl⟩
  show W p l e (headSpec wsX1_layOutBest rm_1_layOutBest).room s m args below meth c s.heap [] 0 0 (MQ below (va_Qv (fun u => u = res) (fun u t => va_P D vwCl (ww dX 120 cA ad u) t.heap) (inA 120 ad)) args s 0 0 (inA 120 ad)) _
  rw [← hQQ]
  have in1 : ∀ w ∈ wsX10, w ∈ wsX1_layOutBest := by decide +kernel
  have lk31 : Cond.fieldLink RX1 31 "CureTown$BestSearch" "count" "I" ∈ wsX1_layOutBest := by decide +kernel
  have lk28 : Cond.fieldLink RX1 28 "CureTown$BestSearch" "bestOrder" "[I" ∈ wsX1_layOutBest := by decide +kernel
  unfold f_1_layOutBest at h
  obtain ⟨H, hH⟩ : ∃ H, H = s.heap := ⟨_, rfl⟩
  obtain ⟨locs, hlc⟩ : ∃ q : List Loc, q = [] := ⟨_, rfl⟩
  have hP : va_P D vwCl (ww dX 120 cA ad σ) s.heap := hP
  have hS : va_S (inA 120 ad) s.heap s.heap [] := hS
  rw [← hlc] at hS ⊢
  rw [show W p l e (headSpec wsX1_layOutBest rm_1_layOutBest).room s m args below meth c s.heap locs 0 0 QQ = W p l e (headSpec wsX1_layOutBest rm_1_layOutBest).room s m args below meth c H locs 0 0 QQ by rw [hH]]
  have hS : va_S (inA 120 ad) s.heap H locs := by rw [hH]; exact hS
  have hP : va_P D vwCl (ww dX 120 cA ad σ) H := by rw [hH]; exact hP
  clear hH hlc
  refine lv_aload_n hx hb dX1_layOutBest_0 rfl (lv_at hl 2 rfl) ?_
  obtain ⟨r1, k2, h⟩ := bd_some h
  refine x_Vv (rest := []) X hP hS (k_3_clear l D cA ad z hj n σ  k2) (by decide) (dX_11) rfl 0 gX1_layOutBest_X3_clear rfl rfl rfl (by decide +kernel) ⟨Nat.le_of_ble_eq_true rfl, Nat.le_of_ble_eq_true rfl⟩ rfl hl.1 rfl (Nat.le_of_ble_eq_true rfl) dX1_layOutBest_1 ⟨Nat.zero_le _, Nat.zero_le _⟩ (fun H locs hP hS => ?_)
  refine lv_iconst (v := 0) hx hb dX1_layOutBest_4 (by decide) ?_
  refine lv_istore (lv' := [(4, .int 0), (0, .ref (ad 15)), (1, .ref (ad 1)), (2, .ref (ad 11)), (3, .int a3)]) hx hb dX1_layOutBest_5 hl (by decide) rfl (fun ls hl => ?_)
  obtain ⟨t1010, o1012, h⟩ := bd_some h
  refine lq_rule (P := fun t4 : Int32 × St => ∀ (H : Heap) (locs : List Loc) (ls : Array Slot), va_P D vwCl (ww dX 120 cA ad t4.2) H → va_S (inA 120 ad) s.heap H locs → lv_has ls 5 [(0, .ref (ad 15)), (1, .ref (ad 1)), (2, .ref (ad 11)), (3, .int a3), (4, .int t4.1)] → W p l e (headSpec wsX1_layOutBest rm_1_layOutBest).room s m args below meth c H locs 0 0 QQ (F0 m 7 ls [])) (X := fun t1010 : Int32 × St => ∀ (H : Heap) (locs : List Loc) (ls : Array Slot), va_P D vwCl (ww dX 120 cA ad t1010.2) H → va_S (inA 120 ad) s.heap H locs → lv_has ls 5 [(0, .ref (ad 15)), (1, .ref (ad 1)), (2, .ref (ad 11)), (3, .int a3), (4, .int t1010.1)] → W p l e (headSpec wsX1_layOutBest rm_1_layOutBest).room s m args below meth c H locs 0 0 QQ (F0 m 35 ls [])) ?_ n _ _ o1012 ?_ H locs ls hP hS (lv_sub hl [1, 2, 3, 4, 0] rfl)
  · clear h hP hS hl
    intro t4 rL3 h hCL3 hEL3 H locs ls hP hS hl
    unfold b_1_layOutBest_7 at h
    refine lv_iload hx hb dX1_layOutBest_7 (lv_at hl 4 rfl) ?_
    refine lv_aload_n hx hb dX1_layOutBest_9 rfl (lv_at hl 0 rfl) ?_
    refine x_gi X hP (j := 6) (by decide) (dX_15) rfl rfl (by decide) in1 lk31 dX1_layOutBest_10 ?_
    refine lv_icmp_ge (tgt := 35) hx hb dX1_layOutBest_13 (by decide) (fun c5 => ?_) (fun c5 => ?_)
    · have h := it_t c5 h
      exact hEL3 _ (Option.some.inj h).symm H locs ls hP hS (lv_sub hl [0, 1, 2, 3, 4] rfl)
    · have h := it_f c5 h
      refine lv_aload_n hx hb dX1_layOutBest_16 rfl (lv_at hl 2 rfl) ?_
      refine lv_aload_n hx hb dX1_layOutBest_17 rfl (lv_at hl 1 rfl) ?_
      refine lv_aload_n hx hb dX1_layOutBest_18 rfl (lv_at hl 0 rfl) ?_
      refine x_gr X hP (j := 5) (by decide) (dX_15) rfl rfl (by decide) in1 lk28 dX1_layOutBest_19 ?_
      refine lv_iload hx hb dX1_layOutBest_22 (lv_at hl 4 rfl) ?_
      obtain ⟨g6, h⟩ := gd_some h
      refine x_ai X hP (by decide) (dX_21) g6 dX1_layOutBest_24 ?_
      refine lv_iload_n hx hb dX1_layOutBest_25 rfl (lv_at hl 3 rfl) ?_
      obtain ⟨r7, k8, h⟩ := bd_some h
      refine x_Vv (rest := []) X hP hS (k_3_addGuest l D cA ad z hj n t4.2 (t4.2.1 21 t4.1.toNatClampNeg) a3 k8) (by decide) (dX_11) rfl 3 gX1_layOutBest_X3_addGuest rfl rfl rfl (by decide +kernel) ⟨Nat.le_of_ble_eq_true rfl, Nat.le_of_ble_eq_true rfl⟩ rfl hl.1 rfl (Nat.le_of_ble_eq_true rfl) dX1_layOutBest_26 ⟨Nat.zero_le _, Nat.zero_le _⟩ (fun H locs hP hS => ?_)
      obtain ⟨v9, ev9⟩ : ∃ y : Int32, y = t4.1 + 1 := ⟨_, rfl⟩
      have h := nm_some ev9 h
      refine lv_iinc (v := v9) (lv' := [(4, .int v9), (0, .ref (ad 15)), (1, .ref (ad 1)), (2, .ref (ad 11)), (3, .int a3)]) hx hb dX1_layOutBest_29 hl (k := 4) rfl (by rw [ev9]; rfl) (by decide) rfl (fun ls hl => ?_)
      refine lv_goto (tgt := 7) hx hb dX1_layOutBest_32 (by decide) ?_
      exact hCL3 _ (Option.some.inj h).symm H locs ls hP hS (lv_sub hl [1, 2, 3, 4, 0] rfl)
  · intro H locs ls hP hS hl
    subst hQQ
    exact x_rv X hr hlocks hP hS (Option.some.inj h) dX1_layOutBest_35
