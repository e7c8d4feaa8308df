def b_10_countGuests_2 (n : Nat)  (t2 : Int32 × St) : Option ((Int32 × St) ⊕ (Int32 × St)) :=
  if (t2.2.1 1 5) ≤ t2.1 then
    some (.inr (t2.1, t2.2))
  else
    (f_9_isThere n t2.2 t2.1 (t2.2.1 0 3)).bind fun r4 =>
    if r4.1 = 0 then
      nm (t2.1 + 1) fun v7 =>
      some (.inl (v7, r4.2))
    else
      gd (inb t2.1 8) <| nm ((r4.2.1 (36 + t2.1.toNatClampNeg) 5) + 1) fun v9 =>
      nm (si r4.2 (36 + t2.1.toNatClampNeg) 5 v9) fun σ10 =>
      gd (inb (σ10.1 (36 + t2.1.toNatClampNeg) 0) 4) <| nm ((σ10.1 (36 + t2.1.toNatClampNeg) 6) + (σ10.1 5 (σ10.1 (36 + t2.1.toNatClampNeg) 0).toNatClampNeg)) fun v12 =>
      nm (si σ10 (36 + t2.1.toNatClampNeg) 6 v12) fun σ13 =>
      nm ((σ13.1 (36 + t2.1.toNatClampNeg) 7) + (σ13.1 (76 + t2.1.toNatClampNeg) 4)) fun v14 =>
      nm (si σ13 (36 + t2.1.toNatClampNeg) 7 v14) fun σ15 =>
      nm ((σ15.1 (36 + t2.1.toNatClampNeg) 8) + (σ15.1 (76 + t2.1.toNatClampNeg) 2)) fun v16 =>
      nm (si σ15 (36 + t2.1.toNatClampNeg) 8 v16) fun σ17 =>
      nm (t2.1 + 1) fun v18 =>
      some (.inl (v18, σ17))
def f_10_countGuests (n : Nat) (σ : St)  : Option (St) :=
  (lq (b_10_countGuests_2 n ) n (0, σ)).bind fun t1019 =>
  some t1019.2
abbrev rm_10_countGuests : Room := { frames := 2, cells := 0, slots := 0, locals := 43 }
set_option maxRecDepth 100000 in
set_option maxHeartbeats 4000000 in
theorem k_10_countGuests (l : Launch) (D : va_G) (cA : Nat → ClassId) (ad : Nat → Nat) (z : ZX) (hj : inj 120 ad) (n : Nat) (σ : St)   {res : St} (h : f_10_countGuests n σ  = some res) : MXv l D dX 120 cA ad (EX ad z) yX10_countGuests wsX10_countGuests rm_10_countGuests [.ref (ad 0)] σ res := by
  refine Met.ofW (cc := cX10_countGuests) (maxL := 3) (ret := none) (by decide) rfl ?_
  intro p e s m args below meth c s₁ B hml hv
  obtain ⟨hargs, hP, hK, hE⟩ := hv
  have hx := B.exec
  have hb := B.bytes
  have hr := B.returns
  have hts := atoms_spec (ws := wsX10_countGuests) B.pre
  have hown : s.vm.findClass RX10 = some m.cls := findClass_of_methodNamed B.named
  have hlocks := B.notSynchronized
  have X : Cx p s m args c cX10_countGuests 3 RX10 wsX10_countGuests D dX 120 cA ad (EX ad z) := ⟨hx, hb, hml, hown, hts, hK, hj, hE, EX_ok ad z⟩
  have hS : va_S (inA 120 ad) s.heap s.heap [] := va_S.rf
  have hl := lv_entry ([.ref (ad 0)]) (n := 3) (Nat.le_of_ble_eq_true rfl)
  rw [show entryFrame m args 3 = entryFrame m ([.ref (ad 0)] : List Value).toArray 3 by rw [hargs]]
  rw [lg_entry_eq]
  generalize (lg_sl ([.ref (ad 0)]) ++ List.replicate (3 - (lg_sl ([.ref (ad 0)])).length) Slot.unset).toArray = ls at hl ⊢
  have hl : lv_has ls 3 [(0, .ref (ad 0))] := hl
  obtain ⟨QQ, hQQ⟩ : ∃ Q, Q = MQ below (va_Qv (fun u => u = res) (fun u t => va_P D vwCl (ww dX 120 cA ad u) t.heap) (inA 120 ad)) args s 0 0 (inA 120 ad) := ⟨_, rfl⟩
  show W p l e (headSpec wsX10_countGuests rm_10_countGuests).room s m args below meth c s.heap [] 0 0 (MQ below (va_Qv (fun u => u = res) (fun u t => va_P D vwCl (ww dX 120 cA ad u) t.heap) (inA 120 ad)) args s 0 0 (inA 120 ad)) _
  rw [← hQQ]
  have in10 : ∀ w ∈ wsX100, w ∈ wsX10_countGuests := by decide +kernel
  have in9 : ∀ w ∈ wsX90, w ∈ wsX10_countGuests := by decide +kernel
  have in4 : ∀ w ∈ wsX40, w ∈ wsX10_countGuests := by decide +kernel
  have in3 : ∀ w ∈ wsX30, w ∈ wsX10_countGuests := by decide +kernel
  have in5 : ∀ w ∈ wsX50, w ∈ wsX10_countGuests := by decide +kernel
  have lk10 : Cond.fieldLink RX10 10 "CureTown" "town" "LCureTown$Town;" ∈ wsX10_countGuests := by decide +kernel
  have lk113 : Cond.fieldLink RX10 113 "CureTown$Town" "guestCount" "I" ∈ wsX10_countGuests := by decide +kernel
  have lk30 : Cond.fieldLink RX10 30 "CureTown" "today" "I" ∈ wsX10_countGuests := by decide +kernel
  have lk116 : Cond.fieldLink RX10 116 "CureTown$Town" "guests" "[LCureTown$Guest;" ∈ wsX10_countGuests := by decide +kernel
  have lk200 : Cond.fieldLink RX10 200 "CureTown$Guest" "nights" "I" ∈ wsX10_countGuests := by decide +kernel
  have lk203 : Cond.fieldLink RX10 203 "CureTown$Guest" "tax" "I" ∈ wsX10_countGuests := by decide +kernel
  have lk78 : Cond.fieldLink RX10 78 "CureTown$Town" "rates" "[I" ∈ wsX10_countGuests := by decide +kernel
  have lk210 : Cond.fieldLink RX10 210 "CureTown$Guest" "rank" "I" ∈ wsX10_countGuests := by decide +kernel
  have lk206 : Cond.fieldLink RX10 206 "CureTown$Guest" "glasses" "I" ∈ wsX10_countGuests := by decide +kernel
  have lk19 : Cond.fieldLink RX10 19 "CureTown" "dayPlan" "LCureTown$DayPlan;" ∈ wsX10_countGuests := by decide +kernel
  have lk149 : Cond.fieldLink RX10 149 "CureTown$DayPlan" "rows" "[LCureTown$GuestDay;" ∈ wsX10_countGuests := by decide +kernel
  have lk213 : Cond.fieldLink RX10 213 "CureTown$GuestDay" "glasses" "I" ∈ wsX10_countGuests := by decide +kernel
  have lk207 : Cond.fieldLink RX10 207 "CureTown$Guest" "done" "I" ∈ wsX10_countGuests := by decide +kernel
  have lk214 : Cond.fieldLink RX10 214 "CureTown$GuestDay" "done" "I" ∈ wsX10_countGuests := by decide +kernel
  unfold f_10_countGuests at h
  obtain ⟨H, hH⟩ : ∃ H, H = s.heap := ⟨_, rfl⟩
  obtain ⟨locs, hlc⟩ : ∃ q : List Loc, q = [] := ⟨_, rfl⟩
  have hP : va_P D vwCl (ww dX 120 cA ad σ) s.heap := hP
  have hS : va_S (inA 120 ad) s.heap s.heap [] := hS
  rw [← hlc] at hS ⊢
  rw [show W p l e (headSpec wsX10_countGuests rm_10_countGuests).room s m args below meth c s.heap locs 0 0 QQ = W p l e (headSpec wsX10_countGuests rm_10_countGuests).room s m args below meth c H locs 0 0 QQ by rw [hH]]
  have hS : va_S (inA 120 ad) s.heap H locs := by rw [hH]; exact hS
  have hP : va_P D vwCl (ww dX 120 cA ad σ) H := by rw [hH]; exact hP
  clear hH hlc
  refine lv_iconst (v := 0) hx hb dX10_countGuests_0 (by decide) ?_
  refine lv_istore_n (lv' := [(1, .int 0), (0, .ref (ad 0))]) hx hb dX10_countGuests_1 rfl hl (by decide) rfl (fun ls hl => ?_)
  obtain ⟨t1019, o1021, h⟩ := bd_some h
  refine lq_rule (P := fun t2 : Int32 × St => ∀ (H : Heap) (locs : List Loc) (ls : Array Slot), va_P D vwCl (ww dX 120 cA ad t2.2) H → va_S (inA 120 ad) s.heap H locs → lv_has ls 3 [(0, .ref (ad 0)), (1, .int t2.1)] → W p l e (headSpec wsX10_countGuests rm_10_countGuests).room s m args below meth c H locs 0 0 QQ (F0 m 2 ls [])) (X := fun t1019 : Int32 × St => ∀ (H : Heap) (locs : List Loc) (ls : Array Slot), va_P D vwCl (ww dX 120 cA ad t1019.2) H → va_S (inA 120 ad) s.heap H locs → lv_has ls 3 [(0, .ref (ad 0)), (1, .int t1019.1)] → W p l e (headSpec wsX10_countGuests rm_10_countGuests).room s m args below meth c H locs 0 0 QQ (F0 m 117 ls [])) ?_ n _ _ o1021 ?_ H locs ls hP hS (lv_sub hl [1, 0] rfl)
  · clear h hP hS hl
    intro t2 rL1 h hCL1 hEL1 H locs ls hP hS hl
    unfold b_10_countGuests_2 at h
    refine lv_iload_n hx hb dX10_countGuests_2 rfl (lv_at hl 1 rfl) ?_
    refine lv_aload_n hx hb dX10_countGuests_3 rfl (lv_at hl 0 rfl) ?_
    refine x_gr X hP (j := 0) (by decide) (dX_0) rfl rfl (by decide) in10 lk10 dX10_countGuests_4 ?_
    refine x_gi X hP (j := 5) (by decide) (dX_1) rfl rfl (by decide) in9 lk113 dX10_countGuests_7 ?_
    refine lv_icmp_ge (tgt := 117) hx hb dX10_countGuests_10 (by decide) (fun c3 => ?_) (fun c3 => ?_)
    · have h := it_t c3 h
      exact hEL1 _ (Option.some.inj h).symm H locs ls hP hS (lv_sub hl [0, 1] rfl)
    · have h := it_f c3 h
      refine lv_aload_n hx hb dX10_countGuests_13 rfl (lv_at hl 0 rfl) ?_
      refine x_gr X hP (j := 0) (by decide) (dX_0) rfl rfl (by decide) in10 lk10 dX10_countGuests_14 ?_
      refine lv_iload_n hx hb dX10_countGuests_17 rfl (lv_at hl 1 rfl) ?_
      refine lv_aload_n hx hb dX10_countGuests_18 rfl (lv_at hl 0 rfl) ?_
      refine x_gi X hP (j := 3) (by decide) (dX_0) rfl rfl (by decide) in10 lk30 dX10_countGuests_19 ?_
      obtain ⟨r4, k5, h⟩ := bd_some h
      refine x_Vi (rest := []) X hP hS (k_9_isThere l D cA ad z hj n t2.2 t2.1 (t2.2.1 0 3) k5) (by decide) (dX_1) rfl 2 gX10_countGuests_X9_isThere rfl rfl rfl (by decide +kernel) ⟨Nat.le_of_ble_eq_true rfl, Nat.le_of_ble_eq_true rfl⟩ rfl hl.1 rfl (Nat.le_of_ble_eq_true rfl) dX10_countGuests_22 ⟨Nat.zero_le _, Nat.zero_le _⟩ (fun H locs hP hS => ?_)
      refine lv_if_eq (tgt := 111) hx hb dX10_countGuests_25 (by decide) (fun c6 => ?_) (fun c6 => ?_)
      · have h := it_t c6 h
        obtain ⟨v7, ev7⟩ : ∃ y : Int32, y = t2.1 + 1 := ⟨_, rfl⟩
        have h := nm_some ev7 h
        refine lv_iinc (v := v7) (lv' := [(1, .int v7), (0, .ref (ad 0))]) hx hb dX10_countGuests_111 hl (k := 1) rfl (by rw [ev7]; rfl) (by decide) rfl (fun ls hl => ?_)
        refine lv_goto (tgt := 2) hx hb dX10_countGuests_114 (by decide) ?_
        exact hCL1 _ (Option.some.inj h).symm H locs ls hP hS (lv_sub hl [1, 0] rfl)
      · have h := it_f c6 h
        refine lv_aload_n hx hb dX10_countGuests_28 rfl (lv_at hl 0 rfl) ?_
        refine x_gr X hP (j := 0) (by decide) (dX_0) rfl rfl (by decide) in10 lk10 dX10_countGuests_29 ?_
        refine x_gr X hP (j := 2) (by decide) (dX_1) rfl rfl (by decide) in9 lk116 dX10_countGuests_32 ?_
        refine lv_iload_n hx hb dX10_countGuests_35 rfl (lv_at hl 1 rfl) ?_
        obtain ⟨g8, h⟩ := gd_some h
        refine x_ar X hP (by decide) (dX_4) g8 dX10_countGuests_36 ?_
        refine lv_astore_n (lv' := [(2, .ref (ad (36 + t2.1.toNatClampNeg))), (0, .ref (ad 0)), (1, .int t2.1)]) hx hb dX10_countGuests_37 rfl hl (by decide) rfl (fun ls hl => ?_)
        refine lv_aload_n hx hb dX10_countGuests_38 rfl (lv_at hl 0 rfl) ?_
        refine lv_dup hx hb dX10_countGuests_39 rfl ?_
        refine x_gi X hP (j := 5) (fam_lt (inb_lt g8) (by decide)) (dX_36 (inb_lt g8)) rfl rfl (by decide) in4 lk200 dX10_countGuests_40 ?_
        refine lv_iconst (v := 1) hx hb dX10_countGuests_43 (by decide) ?_
        refine lv_iadd hx hb dX10_countGuests_44 ?_
        refine lv_topi (fun v9 ev9 => ?_)
        have h := nm_some ev9 h
        refine x_pi X hP hS (j := 5) (fam_lt (inb_lt g8) (by decide)) (dX_36 (inb_lt g8)) rfl rfl (by decide) in4 tyX4_ok nmX4 lk200 rfl rfl rfl rfl dX10_countGuests_45 (fun σ10 eσ10 H locs hP hS => ?_)
        have h := nm_some eσ10 h
        refine lv_aload_n hx hb dX10_countGuests_48 rfl (lv_at hl 0 rfl) ?_
        refine lv_dup hx hb dX10_countGuests_49 rfl ?_
        refine x_gi X hP (j := 6) (fam_lt (inb_lt g8) (by decide)) (dX_36 (inb_lt g8)) rfl rfl (by decide) in4 lk203 dX10_countGuests_50 ?_
        refine lv_aload_n hx hb dX10_countGuests_53 rfl (lv_at hl 1 rfl) ?_
        refine x_gr X hP (j := 0) (by decide) (dX_0) rfl rfl (by decide) in10 lk10 dX10_countGuests_54 ?_
        refine x_gr X hP (j := 3) (by decide) (dX_1) rfl rfl (by decide) in9 lk78 dX10_countGuests_57 ?_
        refine lv_aload_n hx hb dX10_countGuests_60 rfl (lv_at hl 0 rfl) ?_
        refine x_gi X hP (j := 0) (fam_lt (inb_lt g8) (by decide)) (dX_36 (inb_lt g8)) rfl rfl (by decide) in4 lk210 dX10_countGuests_61 ?_
        obtain ⟨g11, h⟩ := gd_some h
        refine x_ai X hP (by decide) (dX_5) g11 dX10_countGuests_64 ?_
        refine lv_iadd hx hb dX10_countGuests_65 ?_
        refine lv_topi (fun v12 ev12 => ?_)
        have h := nm_some ev12 h
        refine x_pi X hP hS (j := 6) (fam_lt (inb_lt g8) (by decide)) (dX_36 (inb_lt g8)) rfl rfl (by decide) in4 tyX4_ok nmX4 lk203 rfl rfl rfl rfl dX10_countGuests_66 (fun σ13 eσ13 H locs hP hS => ?_)
        have h := nm_some eσ13 h
        refine lv_aload_n hx hb dX10_countGuests_69 rfl (lv_at hl 0 rfl) ?_
        refine lv_dup hx hb dX10_countGuests_70 rfl ?_
        refine x_gi X hP (j := 7) (fam_lt (inb_lt g8) (by decide)) (dX_36 (inb_lt g8)) rfl rfl (by decide) in4 lk206 dX10_countGuests_71 ?_
        refine lv_aload_n hx hb dX10_countGuests_74 rfl (lv_at hl 1 rfl) ?_
        refine x_gr X hP (j := 1) (by decide) (dX_0) rfl rfl (by decide) in10 lk19 dX10_countGuests_75 ?_
        refine x_gr X hP (j := 0) (by decide) (dX_11) rfl rfl (by decide) in3 lk149 dX10_countGuests_78 ?_
        refine lv_iload_n hx hb dX10_countGuests_81 rfl (lv_at hl 2 rfl) ?_
        refine x_ar X hP (by decide) (dX_12) g8 dX10_countGuests_82 ?_
        refine x_gi X hP (j := 4) (fam_lt (inb_lt g8) (by decide)) (dX_76 (inb_lt g8)) rfl rfl (by decide) in5 lk213 dX10_countGuests_83 ?_
        refine lv_iadd hx hb dX10_countGuests_86 ?_
        refine lv_topi (fun v14 ev14 => ?_)
        have h := nm_some ev14 h
        refine x_pi X hP hS (j := 7) (fam_lt (inb_lt g8) (by decide)) (dX_36 (inb_lt g8)) rfl rfl (by decide) in4 tyX4_ok nmX4 lk206 rfl rfl rfl rfl dX10_countGuests_87 (fun σ15 eσ15 H locs hP hS => ?_)
        have h := nm_some eσ15 h
        refine lv_aload_n hx hb dX10_countGuests_90 rfl (lv_at hl 0 rfl) ?_
        refine lv_dup hx hb dX10_countGuests_91 rfl ?_
        refine x_gi X hP (j := 8) (fam_lt (inb_lt g8) (by decide)) (dX_36 (inb_lt g8)) rfl rfl (by decide) in4 lk207 dX10_countGuests_92 ?_
        refine lv_aload_n hx hb dX10_countGuests_95 rfl (lv_at hl 1 rfl) ?_
        refine x_gr X hP (j := 1) (by decide) (dX_0) rfl rfl (by decide) in10 lk19 dX10_countGuests_96 ?_
        refine x_gr X hP (j := 0) (by decide) (dX_11) rfl rfl (by decide) in3 lk149 dX10_countGuests_99 ?_
        refine lv_iload_n hx hb dX10_countGuests_102 rfl (lv_at hl 2 rfl) ?_
        refine x_ar X hP (by decide) (dX_12) g8 dX10_countGuests_103 ?_
        refine x_gi X hP (j := 2) (fam_lt (inb_lt g8) (by decide)) (dX_76 (inb_lt g8)) rfl rfl (by decide) in5 lk214 dX10_countGuests_104 ?_
        refine lv_iadd hx hb dX10_countGuests_107 ?_
        refine lv_topi (fun v16 ev16 => ?_)
        have h := nm_some ev16 h
        refine x_pi X hP hS (j := 8) (fam_lt (inb_lt g8) (by decide)) (dX_36 (inb_lt g8)) rfl rfl (by decide) in4 tyX4_ok nmX4 lk207 rfl rfl rfl rfl dX10_countGuests_108 (fun σ17 eσ17 H locs hP hS => ?_)
        have h := nm_some eσ17 h
        obtain ⟨v18, ev18⟩ : ∃ y : Int32, y = t2.1 + 1 := ⟨_, rfl⟩
        have h := nm_some ev18 h
        refine lv_iinc (v := v18) (lv' := [(1, .int v18), (2, .ref (ad (36 + t2.1.toNatClampNeg))), (0, .ref (ad 0))]) hx hb dX10_countGuests_111 hl (k := 2) rfl (by rw [ev18]; rfl) (by decide) rfl (fun ls hl => ?_)
        refine lv_goto (tgt := 2) hx hb dX10_countGuests_114 (by decide) ?_
        exact hCL1 _ (Option.some.inj h).symm H locs ls hP hS (lv_sub hl [2, 0] rfl)
  · intro H locs ls hP hS hl
    subst hQQ
    exact x_rv X hr hlocks hP hS (Option.some.inj h) dX10_countGuests_117
def b_10_countWater_2 (n : Nat)  (t2 : Int32 × St) : Option ((Int32 × St) ⊕ (Int32 × St)) :=
  if 4 ≤ t2.1 then
    some (.inr (t2.1, t2.2))
  else
    gd (inb t2.1 4) <| (f_3_countTaken n t2.2 t2.1).bind fun r5 =>
    (f_7_closeDay n r5.2 t2.1.toNatClampNeg (t2.2.1 0 3) r5.1).bind fun r7 =>
    nm (t2.1 + 1) fun v9 =>
    some (.inl (v9, r7))
def f_10_countWater (n : Nat) (σ : St)  : Option (St) :=
  (lq (b_10_countWater_2 n ) n (0, σ)).bind fun t1010 =>
  some t1010.2
abbrev rm_10_countWater : Room := { frames := 1, cells := 0, slots := 0, locals := 25 }
set_option maxRecDepth 100000 in
set_option maxHeartbeats 4000000 in
theorem k_10_countWater (l : Launch) (D : va_G) (cA : Nat → ClassId) (ad : Nat → Nat) (z : ZX) (hj : inj 120 ad) (n : Nat) (σ : St)   {res : St} (h : f_10_countWater n σ  = some res) : MXv l D dX 120 cA ad (EX ad z) yX10_countWater wsX10_countWater rm_10_countWater [.ref (ad 0)] σ res := by
  refine Met.ofW (cc := cX10_countWater) (maxL := 2) (ret := none) (by decide) rfl ?_
  intro p e s m args below meth c s₁ B hml hv
  obtain ⟨hargs, hP, hK, hE⟩ := hv
  have hx := B.exec
  have hb := B.bytes
  have hr := B.returns
  have hts := atoms_spec (ws := wsX10_countWater) B.pre
  have hown : s.vm.findClass RX10 = some m.cls := findClass_of_methodNamed B.named
  have hlocks := B.notSynchronized
  have X : Cx p s m args c cX10_countWater 2 RX10 wsX10_countWater D dX 120 cA ad (EX ad z) := ⟨hx, hb, hml, hown, hts, hK, hj, hE, EX_ok ad z⟩
  have hS : va_S (inA 120 ad) s.heap s.heap [] := va_S.rf
  have hl := lv_entry ([.ref (ad 0)]) (n := 2) (Nat.le_of_ble_eq_true rfl)
  rw [show entryFrame m args 2 = entryFrame m ([.ref (ad 0)] : List Value).toArray 2 by rw [hargs]]
  rw [lg_entry_eq]
  generalize (lg_sl ([.ref (ad 0)]) ++ List.replicate (2 - (lg_sl ([.ref (ad 0)])).length) Slot.unset).toArray = ls at hl ⊢
  have hl : lv_has ls 2 [(0, .ref (ad 0))] := hl
  obtain ⟨QQ, hQQ⟩ : ∃ Q, Q = MQ below (va_Qv (fun u => u = res) (fun u t => va_P D vwCl (ww dX 120 cA ad u) t.heap) (inA 120 ad)) args s 0 0 (inA 120 ad) := ⟨_, rfl⟩
  show W p l e (headSpec wsX10_countWater rm_10_countWater).room s m args below meth c s.heap [] 0 0 (MQ below (va_Qv (fun u => u = res) (fun u t => va_P D vwCl (ww dX 120 cA ad u) t.heap) (inA 120 ad)) args s 0 0 (inA 120 ad)) _
  rw [← hQQ]
  have in10 : ∀ w ∈ wsX100, w ∈ wsX10_countWater := by decide +kernel
  have in9 : ∀ w ∈ wsX90, w ∈ wsX10_countWater := by decide +kernel
  have lk10 : Cond.fieldLink RX10 10 "CureTown" "town" "LCureTown$Town;" ∈ wsX10_countWater := by decide +kernel
  have lk48 : Cond.fieldLink RX10 48 "CureTown$Town" "springs" "[LCureTown$Spring;" ∈ wsX10_countWater := by decide +kernel
  have lk30 : Cond.fieldLink RX10 30 "CureTown" "today" "I" ∈ wsX10_countWater := by decide +kernel
  have lk19 : Cond.fieldLink RX10 19 "CureTown" "dayPlan" "LCureTown$DayPlan;" ∈ wsX10_countWater := by decide +kernel
  unfold f_10_countWater at h
  obtain ⟨H, hH⟩ : ∃ H, H = s.heap := ⟨_, rfl⟩
  obtain ⟨locs, hlc⟩ : ∃ q : List Loc, q = [] := ⟨_, rfl⟩
  have hP : va_P D vwCl (ww dX 120 cA ad σ) s.heap := hP
  have hS : va_S (inA 120 ad) s.heap s.heap [] := hS
  rw [← hlc] at hS ⊢
  rw [show W p l e (headSpec wsX10_countWater rm_10_countWater).room s m args below meth c s.heap locs 0 0 QQ = W p l e (headSpec wsX10_countWater rm_10_countWater).room s m args below meth c H locs 0 0 QQ by rw [hH]]
  have hS : va_S (inA 120 ad) s.heap H locs := by rw [hH]; exact hS
  have hP : va_P D vwCl (ww dX 120 cA ad σ) H := by rw [hH]; exact hP
  clear hH hlc
  refine lv_iconst (v := 0) hx hb dX10_countWater_0 (by decide) ?_
  refine lv_istore_n (lv' := [(1, .int 0), (0, .ref (ad 0))]) hx hb dX10_countWater_1 rfl hl (by decide) rfl (fun ls hl => ?_)
  obtain ⟨t1010, o1012, h⟩ := bd_some h
  refine lq_rule (P := fun t2 : Int32 × St => ∀ (H : Heap) (locs : List Loc) (ls : Array Slot), va_P D vwCl (ww dX 120 cA ad t2.2) H → va_S (inA 120 ad) s.heap H locs → lv_has ls 2 [(0, .ref (ad 0)), (1, .int t2.1)] → W p l e (headSpec wsX10_countWater rm_10_countWater).room s m args below meth c H locs 0 0 QQ (F0 m 2 ls [])) (X := fun t1010 : Int32 × St => ∀ (H : Heap) (locs : List Loc) (ls : Array Slot), va_P D vwCl (ww dX 120 cA ad t1010.2) H → va_S (inA 120 ad) s.heap H locs → lv_has ls 2 [(0, .ref (ad 0)), (1, .int t1010.1)] → W p l e (headSpec wsX10_countWater rm_10_countWater).room s m args below meth c H locs 0 0 QQ (F0 m 37 ls [])) ?_ n _ _ o1012 ?_ H locs ls hP hS (lv_sub hl [1, 0] rfl)
  · clear h hP hS hl
    intro t2 rL1 h hCL1 hEL1 H locs ls hP hS hl
    unfold b_10_countWater_2 at h
    refine lv_iload_n hx hb dX10_countWater_2 rfl (lv_at hl 1 rfl) ?_
    refine lv_iconst (v := 4) hx hb dX10_countWater_3 (by decide) ?_
    refine lv_icmp_ge (tgt := 37) hx hb dX10_countWater_4 (by decide) (fun c3 => ?_) (fun c3 => ?_)
    · have h := it_t c3 h
      exact hEL1 _ (Option.some.inj h).symm H locs ls hP hS (lv_sub hl [0, 1] rfl)
    · have h := it_f c3 h
      refine lv_aload_n hx hb dX10_countWater_7 rfl (lv_at hl 0 rfl) ?_
      refine x_gr X hP (j := 0) (by decide) (dX_0) rfl rfl (by decide) in10 lk10 dX10_countWater_8 ?_
      refine x_gr X hP (j := 0) (by decide) (dX_1) rfl rfl (by decide) in9 lk48 dX10_countWater_11 ?_
      refine lv_iload_n hx hb dX10_countWater_14 rfl (lv_at hl 1 rfl) ?_
      obtain ⟨g4, h⟩ := gd_some h
      refine x_ar X hP (by decide) (dX_2) g4 dX10_countWater_15 ?_
      refine lv_aload_n hx hb dX10_countWater_16 rfl (lv_at hl 0 rfl) ?_
      refine x_gi X hP (j := 3) (by decide) (dX_0) rfl rfl (by decide) in10 lk30 dX10_countWater_17 ?_
      refine lv_aload_n hx hb dX10_countWater_20 rfl (lv_at hl 0 rfl) ?_
      refine x_gr X hP (j := 1) (by decide) (dX_0) rfl rfl (by decide) in10 lk19 dX10_countWater_21 ?_
      refine lv_iload_n hx hb dX10_countWater_24 rfl (lv_at hl 1 rfl) ?_
      obtain ⟨r5, k6, h⟩ := bd_some h
      refine x_Vi (rest := [.int (t2.2.1 0 3), .ref (ad (22 + t2.1.toNatClampNeg))]) X hP hS (k_3_countTaken l D cA ad z hj n t2.2 t2.1 k6) (by decide) (dX_11) rfl 1 gX10_countWater_X3_countTaken rfl rfl rfl (by decide +kernel) ⟨Nat.le_of_ble_eq_true rfl, Nat.le_of_ble_eq_true rfl⟩ rfl hl.1 rfl (Nat.le_of_ble_eq_true rfl) dX10_countWater_25 ⟨Nat.zero_le _, Nat.zero_le _⟩ (fun H locs hP hS => ?_)
      obtain ⟨r7, k8, h⟩ := bd_some h
      refine x_Vv (rest := []) X hP hS (k_7_closeDay l D cA ad z hj n r5.2 t2.1.toNatClampNeg (t2.2.1 0 3) r5.1 (inb_lt g4) k8) (fam_lt (inb_lt g4) (by decide)) (dX_22 (inb_lt g4)) rfl 2 gX10_countWater_X7_closeDay rfl rfl rfl (by decide +kernel) ⟨Nat.le_of_ble_eq_true rfl, Nat.le_of_ble_eq_true rfl⟩ rfl hl.1 rfl (Nat.le_of_ble_eq_true rfl) dX10_countWater_28 ⟨Nat.zero_le _, Nat.zero_le _⟩ (fun H locs hP hS => ?_)
      obtain ⟨v9, ev9⟩ : ∃ y : Int32, y = t2.1 + 1 := ⟨_, rfl⟩
      have h := nm_some ev9 h
      refine lv_iinc (v := v9) (lv' := [(1, .int v9), (0, .ref (ad 0))]) hx hb dX10_countWater_31 hl (k := 1) rfl (by rw [ev9]; rfl) (by decide) rfl (fun ls hl => ?_)
      refine lv_goto (tgt := 2) hx hb dX10_countWater_34 (by decide) ?_
      exact hCL1 _ (Option.some.inj h).symm H locs ls hP hS (lv_sub hl [1, 0] rfl)
  · intro H locs ls hP hS hl
    subst hQQ
    exact x_rv X hr hlocks hP hS (Option.some.inj h) dX10_countWater_37
def b_10_pourOut_15 (n : Nat) (a1 : Int32) (t4 : Int32 × St) : Option ((Int32 × St) ⊕ (Int32 × St)) :=
  if 4 ≤ t4.1 then
    some (.inr (t4.1, t4.2))
  else
    gd (inb t4.1 4) <| gd (inb a1 100) <| nm ((t4.2.1 0 6) + (t4.2.1 (26 + t4.1.toNatClampNeg) a1.toNatClampNeg)) fun v8 =>
    nm (si t4.2 0 6 v8) fun σ9 =>
    nm (si σ9 (26 + t4.1.toNatClampNeg) (a1.toNatClampNeg) 0) fun σ10 =>
    nm (t4.1 + 1) fun v11 =>
    some (.inl (v11, σ10))
def f_10_pourOut (n : Nat) (σ : St)  : Option (St) :=
  nm ((σ.1 0 3) - 20) fun v1 =>
  if 0 ≤ v1 then
    (lq (b_10_pourOut_15 n v1) n (0, σ)).bind fun t1012 =>
    some t1012.2
  else
    some σ
abbrev rm_10_pourOut : Room := { frames := 0, cells := 0, slots := 0, locals := 0 }
set_option maxRecDepth 100000 in
set_option maxHeartbeats 4000000 in
theorem k_10_pourOut (l : Launch) (D : va_G) (cA : Nat → ClassId) (ad : Nat → Nat) (z : ZX) (hj : inj 120 ad) (n : Nat) (σ : St)   {res : St} (h : f_10_pourOut n σ  = some res) : MXv l D dX 120 cA ad (EX ad z) yX10_pourOut wsX10_pourOut rm_10_pourOut [.ref (ad 0)] σ res := by
  refine Met.ofW (cc := cX10_pourOut) (maxL := 3) (ret := none) (by decide) rfl ?_
  intro p e s m args below meth c s₁ B hml hv
  obtain ⟨hargs, hP, hK, hE⟩ := hv
  have hx := B.exec
  have hb := B.bytes
  have hr := B.returns
  have hts := atoms_spec (ws := wsX10_pourOut) B.pre
  have hown : s.vm.findClass RX10 = some m.cls := findClass_of_methodNamed B.named
  have hlocks := B.notSynchronized
  have X : Cx p s m args c cX10_pourOut 3 RX10 wsX10_pourOut D dX 120 cA ad (EX ad z) := ⟨hx, hb, hml, hown, hts, hK, hj, hE, EX_ok ad z⟩
  have hS : va_S (inA 120 ad) s.heap s.heap [] := va_S.rf
  have hl := lv_entry ([.ref (ad 0)]) (n := 3) (Nat.le_of_ble_eq_true rfl)
  rw [show entryFrame m args 3 = entryFrame m ([.ref (ad 0)] : List Value).toArray 3 by rw [hargs]]
  rw [lg_entry_eq]
  generalize (lg_sl ([.ref (ad 0)]) ++ List.replicate (3 - (lg_sl ([.ref (ad 0)])).length) Slot.unset).toArray = ls at hl ⊢
  have hl : lv_has ls 3 [(0, .ref (ad 0))] := hl
  obtain ⟨QQ, hQQ⟩ : ∃ Q, Q = MQ below (va_Qv (fun u => u = res) (fun u t => va_P D vwCl (ww dX 120 cA ad u) t.heap) (inA 120 ad)) args s 0 0 (inA 120 ad) := ⟨_, rfl⟩
  show W p l e (headSpec wsX10_pourOut rm_10_pourOut).room s m args below meth c s.heap [] 0 0 (MQ below (va_Qv (fun u => u = res) (fun u t => va_P D vwCl (ww dX 120 cA ad u) t.heap) (inA 120 ad)) args s 0 0 (inA 120 ad)) _
  rw [← hQQ]
  have in10 : ∀ w ∈ wsX100, w ∈ wsX10_pourOut := by decide +kernel
  have in9 : ∀ w ∈ wsX90, w ∈ wsX10_pourOut := by decide +kernel
  have in7 : ∀ w ∈ wsX70, w ∈ wsX10_pourOut := by decide +kernel
  have lk30 : Cond.fieldLink RX10 30 "CureTown" "today" "I" ∈ wsX10_pourOut := by decide +kernel
  have lk41 : Cond.fieldLink RX10 41 "CureTown" "bottlesPoured" "I" ∈ wsX10_pourOut := by decide +kernel
  have lk10 : Cond.fieldLink RX10 10 "CureTown" "town" "LCureTown$Town;" ∈ wsX10_pourOut := by decide +kernel
  have lk48 : Cond.fieldLink RX10 48 "CureTown$Town" "springs" "[LCureTown$Spring;" ∈ wsX10_pourOut := by decide +kernel
  have lk191 : Cond.fieldLink RX10 191 "CureTown$Spring" "bottlesOf" "[I" ∈ wsX10_pourOut := by decide +kernel
  unfold f_10_pourOut at h
  obtain ⟨H, hH⟩ : ∃ H, H = s.heap := ⟨_, rfl⟩
  obtain ⟨locs, hlc⟩ : ∃ q : List Loc, q = [] := ⟨_, rfl⟩
  have hP : va_P D vwCl (ww dX 120 cA ad σ) s.heap := hP
  have hS : va_S (inA 120 ad) s.heap s.heap [] := hS
  rw [← hlc] at hS ⊢
  rw [show W p l e (headSpec wsX10_pourOut rm_10_pourOut).room s m args below meth c s.heap locs 0 0 QQ = W p l e (headSpec wsX10_pourOut rm_10_pourOut).room s m args below meth c H locs 0 0 QQ by rw [hH]]
  have hS : va_S (inA 120 ad) s.heap H locs := by rw [hH]; exact hS
  have hP : va_P D vwCl (ww dX 120 cA ad σ) H := by rw [hH]; exact hP
  clear hH hlc
  refine lv_aload_n hx hb dX10_pourOut_0 rfl (lv_at hl 0 rfl) ?_
  refine x_gi X hP (j := 3) (by decide) (dX_0) rfl rfl (by decide) in10 lk30 dX10_pourOut_1 ?_
  refine lv_bipush (v := 20) hx hb dX10_pourOut_4 (by decide) ?_
  refine lv_isub hx hb dX10_pourOut_6 ?_
  refine lv_topi (fun v1 ev1 => ?_)
  have h := nm_some ev1 h
  refine lv_istore_n (lv' := [(1, .int v1), (0, .ref (ad 0))]) hx hb dX10_pourOut_7 rfl hl (by decide) rfl (fun ls hl => ?_)
  refine lv_iload_n hx hb dX10_pourOut_8 rfl (lv_at hl 0 rfl) ?_
  refine lv_if_ge (tgt := 13) hx hb dX10_pourOut_9 (by decide) (fun c2 => ?_) (fun c2 => ?_)
  · have h := it_t c2 h
    refine lv_iconst (v := 0) hx hb dX10_pourOut_13 (by decide) ?_
    refine lv_istore_n (lv' := [(2, .int 0), (1, .int v1), (0, .ref (ad 0))]) hx hb dX10_pourOut_14 rfl hl (by decide) rfl (fun ls hl => ?_)
    obtain ⟨t1012, o1014, h⟩ := bd_some h
    refine lq_rule (P := fun t4 : Int32 × St => ∀ (H : Heap) (locs : List Loc) (ls : Array Slot), va_P D vwCl (ww dX 120 cA ad t4.2) H → va_S (inA 120 ad) s.heap H locs → lv_has ls 3 [(0, .ref (ad 0)), (1, .int v1), (2, .int t4.1)] → W p l e (headSpec wsX10_pourOut rm_10_pourOut).room s m args below meth c H locs 0 0 QQ (F0 m 15 ls [])) (X := fun t1012 : Int32 × St => ∀ (H : Heap) (locs : List Loc) (ls : Array Slot), va_P D vwCl (ww dX 120 cA ad t1012.2) H → va_S (inA 120 ad) s.heap H locs → lv_has ls 3 [(0, .ref (ad 0)), (1, .int v1), (2, .int t1012.1)] → W p l e (headSpec wsX10_pourOut rm_10_pourOut).room s m args below meth c H locs 0 0 QQ (F0 m 64 ls [])) ?_ n _ _ o1014 ?_ H locs ls hP hS (lv_sub hl [2, 1, 0] rfl)
    · clear h hP hS hl
      intro t4 rL3 h hCL3 hEL3 H locs ls hP hS hl
      unfold b_10_pourOut_15 at h
      refine lv_iload_n hx hb dX10_pourOut_15 rfl (lv_at hl 2 rfl) ?_
      refine lv_iconst (v := 4) hx hb dX10_pourOut_16 (by decide) ?_
      refine lv_icmp_ge (tgt := 64) hx hb dX10_pourOut_17 (by decide) (fun c5 => ?_) (fun c5 => ?_)
      · have h := it_t c5 h
        exact hEL3 _ (Option.some.inj h).symm H locs ls hP hS (lv_sub hl [0, 1, 2] rfl)
      · have h := it_f c5 h
        refine lv_aload_n hx hb dX10_pourOut_20 rfl (lv_at hl 0 rfl) ?_
        refine lv_dup hx hb dX10_pourOut_21 rfl ?_
        refine x_gi X hP (j := 6) (by decide) (dX_0) rfl rfl (by decide) in10 lk41 dX10_pourOut_22 ?_
        refine lv_aload_n hx hb dX10_pourOut_25 rfl (lv_at hl 0 rfl) ?_
        refine x_gr X hP (j := 0) (by decide) (dX_0) rfl rfl (by decide) in10 lk10 dX10_pourOut_26 ?_
        refine x_gr X hP (j := 0) (by decide) (dX_1) rfl rfl (by decide) in9 lk48 dX10_pourOut_29 ?_
        refine lv_iload_n hx hb dX10_pourOut_32 rfl (lv_at hl 2 rfl) ?_
        obtain ⟨g6, h⟩ := gd_some h
        refine x_ar X hP (by decide) (dX_2) g6 dX10_pourOut_33 ?_
        refine x_gr X hP (j := 8) (fam_lt (inb_lt g6) (by decide)) (dX_22 (inb_lt g6)) rfl rfl (by decide) in7 lk191 dX10_pourOut_34 ?_
        refine lv_iload_n hx hb dX10_pourOut_37 rfl (lv_at hl 1 rfl) ?_
        obtain ⟨g7, h⟩ := gd_some h
        refine x_ai X hP (fam_lt (inb_lt g6) (by decide)) (dX_26 (inb_lt g6)) g7 dX10_pourOut_38 ?_
        refine lv_iadd hx hb dX10_pourOut_39 ?_
        refine lv_topi (fun v8 ev8 => ?_)
        have h := nm_some ev8 h
        refine x_pi X hP hS (j := 6) (by decide) (dX_0) rfl rfl (by decide) in10 tyX10_ok nmX10 lk41 rfl rfl rfl rfl dX10_pourOut_40 (fun σ9 eσ9 H locs hP hS => ?_)
        have h := nm_some eσ9 h
        refine lv_aload_n hx hb dX10_pourOut_43 rfl (lv_at hl 0 rfl) ?_
        refine x_gr X hP (j := 0) (by decide) (dX_0) rfl rfl (by decide) in10 lk10 dX10_pourOut_44 ?_
        refine x_gr X hP (j := 0) (by decide) (dX_1) rfl rfl (by decide) in9 lk48 dX10_pourOut_47 ?_
        refine lv_iload_n hx hb dX10_pourOut_50 rfl (lv_at hl 2 rfl) ?_
        refine x_ar X hP (by decide) (dX_2) g6 dX10_pourOut_51 ?_
        refine x_gr X hP (j := 8) (fam_lt (inb_lt g6) (by decide)) (dX_22 (inb_lt g6)) rfl rfl (by decide) in7 lk191 dX10_pourOut_52 ?_
        refine lv_iload_n hx hb dX10_pourOut_55 rfl (lv_at hl 1 rfl) ?_
        refine lv_iconst (v := 0) hx hb dX10_pourOut_56 (by decide) ?_
        refine x_si X hP hS (fam_lt (inb_lt g6) (by decide)) (dX_26 (inb_lt g6)) g7 dX10_pourOut_57 (fun σ10 eσ10 H locs hP hS => ?_)
        have h := nm_some eσ10 h
        obtain ⟨v11, ev11⟩ : ∃ y : Int32, y = t4.1 + 1 := ⟨_, rfl⟩
        have h := nm_some ev11 h
        refine lv_iinc (v := v11) (lv' := [(2, .int v11), (0, .ref (ad 0)), (1, .int v1)]) hx hb dX10_pourOut_58 hl (k := 2) rfl (by rw [ev11]; rfl) (by decide) rfl (fun ls hl => ?_)
        refine lv_goto (tgt := 15) hx hb dX10_pourOut_61 (by decide) ?_
        exact hCL3 _ (Option.some.inj h).symm H locs ls hP hS (lv_sub hl [1, 2, 0] rfl)
    · intro H locs ls hP hS hl
      subst hQQ
      exact x_rv X hr hlocks hP hS (Option.some.inj h) dX10_pourOut_64
  · have h := it_f c2 h
    subst hQQ
    exact x_rv X hr hlocks hP hS (Option.some.inj h) dX10_pourOut_12
def j_10_next_90 (n : Nat)  (σ : St) : Option (Int32 × St) :=
  (f_10_countGuests n σ ).bind fun r3 =>
  (f_10_countWater n r3 ).bind fun r5 =>
  nm ((r5.1 0 3) + 1) fun v7 =>
  nm (si r5 0 3 v7) fun σ8 =>
  nm (si σ8 0 4 0) fun σ9 =>
  (f_10_pourOut n σ9 ).bind fun r10 =>
  some ((r10.1 0 3), r10)
def f_10_next (n : Nat) (σ : St)  : Option (Int32 × St) :=
  if (σ.1 0 3) < 99 then
    if (σ.1 0 4) = 0 then
      (f_3_layOutByRank n σ (σ.1 0 3)).bind fun r22 =>
      j_10_next_90 n   r22
    else
      (f_9_countThere n σ (σ.1 0 3)).bind fun r24 =>
      if 6 < r24.1 then
        (f_3_layOutByRank n r24.2 (r24.2.1 0 3)).bind fun r27 =>
        j_10_next_90 n   r27
      else
        (f_1_run n r24.2 (r24.2.1 0 3)).bind fun r29 =>
        (f_1_layOutBest n r29 (r29.1 0 3)).bind fun r31 =>
        j_10_next_90 n   r31
  else
    some ((-1), σ)
abbrev rm_10_next : Room := { frames := 14, cells := 0, slots := 0, locals := 353 }
set_option maxRecDepth 100000 in
set_option maxHeartbeats 4000000 in
theorem k_10_next (l : Launch) (D : va_G) (cA : Nat → ClassId) (ad : Nat → Nat) (z : ZX) (hj : inj 120 ad) (n : Nat) (σ : St)   {res : Int32 × St} (h : f_10_next n σ  = some res) : MXi l D dX 120 cA ad (EX ad z) yX10_next wsX10_next rm_10_next [.ref (ad 0)] σ res := by
  refine Met.ofW (cc := cX10_next) (maxL := 1) (ret := (some .int)) (by decide) rfl ?_
  intro p e s m args below meth c s₁ B hml hv
  obtain ⟨hargs, hP, hK, hE⟩ := hv
  have hx := B.exec
  have hb := B.bytes
  have hr := B.returns
  have hts := atoms_spec (ws := wsX10_next) B.pre
  have hown : s.vm.findClass RX10 = some m.cls := findClass_of_methodNamed B.named
  have hlocks := B.notSynchronized
  have X : Cx p s m args c cX10_next 1 RX10 wsX10_next D dX 120 cA ad (EX ad z) := ⟨hx, hb, hml, hown, hts, hK, hj, hE, EX_ok ad z⟩
  have hS : va_S (inA 120 ad) s.heap s.heap [] := va_S.rf
  have hl := lv_entry ([.ref (ad 0)]) (n := 1) (Nat.le_of_ble_eq_true rfl)
  rw [show entryFrame m args 1 = entryFrame m ([.ref (ad 0)] : List Value).toArray 1 by rw [hargs]]
  rw [lg_entry_eq]
  generalize (lg_sl ([.ref (ad 0)]) ++ List.replicate (1 - (lg_sl ([.ref (ad 0)])).length) Slot.unset).toArray = ls at hl ⊢
  have hl : lv_has ls 1 [(0, .ref (ad 0))] := hl
  obtain ⟨QQ, hQQ⟩ : ∃ Q, Q = MQ below (va_Qi (fun r u => r = res.1 ∧ u = res.2) (fun u t => va_P D vwCl (ww dX 120 cA ad u) t.heap) (inA 120 ad)) args s 0 0 (inA 120 ad) := ⟨_, rfl⟩
  show W p l e (headSpec wsX10_next rm_10_next).room s m args below meth c s.heap [] 0 0 (MQ below (va_Qi (fun r u => r = res.1 ∧ u = res.2) (fun u t => va_P D vwCl (ww dX 120 cA ad u) t.heap) (inA 120 ad)) args s 0 0 (inA 120 ad)) _
  rw [← hQQ]
  have in10 : ∀ w ∈ wsX100, w ∈ wsX10_next := by decide +kernel
  have lk30 : Cond.fieldLink RX10 30 "CureTown" "today" "I" ∈ wsX10_next := by decide +kernel
  have lk34 : Cond.fieldLink RX10 34 "CureTown" "bestIsTold" "Z" ∈ wsX10_next := by decide +kernel
  have lk19 : Cond.fieldLink RX10 19 "CureTown" "dayPlan" "LCureTown$DayPlan;" ∈ wsX10_next := by decide +kernel
  have lk10 : Cond.fieldLink RX10 10 "CureTown" "town" "LCureTown$Town;" ∈ wsX10_next := by decide +kernel
  have lk26 : Cond.fieldLink RX10 26 "CureTown" "search" "LCureTown$BestSearch;" ∈ wsX10_next := by decide +kernel
  unfold f_10_next at h
  obtain ⟨H, hH⟩ : ∃ H, H = s.heap := ⟨_, rfl⟩
  obtain ⟨locs, hlc⟩ : ∃ q : List Loc, q = [] := ⟨_, rfl⟩
  have hP : va_P D vwCl (ww dX 120 cA ad σ) s.heap := hP
  have hS : va_S (inA 120 ad) s.heap s.heap [] := hS
  rw [← hlc] at hS ⊢
  rw [show W p l e (headSpec wsX10_next rm_10_next).room s m args below meth c s.heap locs 0 0 QQ = W p l e (headSpec wsX10_next rm_10_next).room s m args below meth c H locs 0 0 QQ by rw [hH]]
  have hS : va_S (inA 120 ad) s.heap H locs := by rw [hH]; exact hS
  have hP : va_P D vwCl (ww dX 120 cA ad σ) H := by rw [hH]; exact hP
  clear hH hlc
  refine lv_aload_n hx hb dX10_next_0 rfl (lv_at hl 0 rfl) ?_
  refine x_gi X hP (j := 3) (by decide) (dX_0) rfl rfl (by decide) in10 lk30 dX10_next_1 ?_
  refine lv_bipush (v := 99) hx hb dX10_next_4 (by decide) ?_
  refine lv_icmp_lt (tgt := 11) hx hb dX10_next_6 (by decide) (fun c1 => ?_) (fun c1 => ?_)
  · have h := it_t c1 h
    refine lv_aload_n hx hb dX10_next_11 rfl (lv_at hl 0 rfl) ?_
    refine x_gi X hP (j := 4) (by decide) (dX_0) rfl rfl (by decide) in10 lk34 dX10_next_12 ?_
    have hJ90 : ∀ (σ2 : St), j_10_next_90 n  σ2 = some res → ∀ (H : Heap) (locs : List Loc) (ls : Array Slot), va_P D vwCl (ww dX 120 cA ad σ2) H → va_S (inA 120 ad) s.heap H locs → lv_has ls 1 [(0, .ref (ad 0))] → W p l e (headSpec wsX10_next rm_10_next).room s m args below meth c H locs 0 0 QQ (F0 m 90 ls []) := by
      clear h hP hS hl
      intro  σ2 h H locs ls hP hS hl
      unfold j_10_next_90 at h
      refine lv_aload_n hx hb dX10_next_90 rfl (lv_at hl 0 rfl) ?_
      obtain ⟨r12, k13, h⟩ := bd_some h
      refine x_Vv (rest := []) X hP hS (k_10_countGuests l D cA ad z hj n σ2  k13) (by decide) (dX_0) rfl 0 gX10_next_X10_countGuests rfl rfl rfl (by decide +kernel) ⟨Nat.le_of_ble_eq_true rfl, Nat.le_of_ble_eq_true rfl⟩ rfl hl.1 rfl (Nat.le_of_ble_eq_true rfl) dX10_next_91 ⟨Nat.zero_le _, Nat.zero_le _⟩ (fun H locs hP hS => ?_)
      refine lv_aload_n hx hb dX10_next_94 rfl (lv_at hl 0 rfl) ?_
      obtain ⟨r14, k15, h⟩ := bd_some h
      refine x_Vv (rest := []) X hP hS (k_10_countWater l D cA ad z hj n r12  k15) (by decide) (dX_0) rfl 0 gX10_next_X10_countWater rfl rfl rfl (by decide +kernel) ⟨Nat.le_of_ble_eq_true rfl, Nat.le_of_ble_eq_true rfl⟩ rfl hl.1 rfl (Nat.le_of_ble_eq_true rfl) dX10_next_95 ⟨Nat.zero_le _, Nat.zero_le _⟩ (fun H locs hP hS => ?_)
      refine lv_aload_n hx hb dX10_next_98 rfl (lv_at hl 0 rfl) ?_
      refine lv_dup hx hb dX10_next_99 rfl ?_
      refine x_gi X hP (j := 3) (by decide) (dX_0) rfl rfl (by decide) in10 lk30 dX10_next_100 ?_
      refine lv_iconst (v := 1) hx hb dX10_next_103 (by decide) ?_
      refine lv_iadd hx hb dX10_next_104 ?_
      refine lv_topi (fun v16 ev16 => ?_)
      have h := nm_some ev16 h
      refine x_pi X hP hS (j := 3) (by decide) (dX_0) rfl rfl (by decide) in10 tyX10_ok nmX10 lk30 rfl rfl rfl rfl dX10_next_105 (fun σ17 eσ17 H locs hP hS => ?_)
      have h := nm_some eσ17 h
      refine lv_aload_n hx hb dX10_next_108 rfl (lv_at hl 0 rfl) ?_
      refine lv_iconst (v := 0) hx hb dX10_next_109 (by decide) ?_
      refine x_pi X hP hS (j := 4) (by decide) (dX_0) rfl rfl (by decide) in10 tyX10_ok nmX10 lk34 rfl rfl (by decide +kernel) (by decide +kernel) dX10_next_110 (fun σ18 eσ18 H locs hP hS => ?_)
      have h := nm_some eσ18 h
      refine lv_aload_n hx hb dX10_next_113 rfl (lv_at hl 0 rfl) ?_
      obtain ⟨r19, k20, h⟩ := bd_some h
      refine x_Vv (rest := []) X hP hS (k_10_pourOut l D cA ad z hj n σ18  k20) (by decide) (dX_0) rfl 0 gX10_next_X10_pourOut rfl rfl rfl (by decide +kernel) ⟨Nat.le_of_ble_eq_true rfl, Nat.le_of_ble_eq_true rfl⟩ rfl hl.1 rfl (Nat.le_of_ble_eq_true rfl) dX10_next_114 ⟨Nat.zero_le _, Nat.zero_le _⟩ (fun H locs hP hS => ?_)
      refine lv_aload_n hx hb dX10_next_117 rfl (lv_at hl 0 rfl) ?_
      refine x_gi X hP (j := 3) (by decide) (dX_0) rfl rfl (by decide) in10 lk30 dX10_next_118 ?_
      subst hQQ
      exact x_ri (σ0 := (fun _ _ => 0, fun _ _ => 0)) X hr hlocks hP hS (Option.some.inj h) dX10_next_121
    refine lv_if_eq (tgt := 75) hx hb dX10_next_15 (by decide) (fun c21 => ?_) (fun c21 => ?_)
    · have h := it_t c21 h
      refine lv_aload_n hx hb dX10_next_75 rfl (lv_at hl 0 rfl) ?_
      refine x_gr X hP (j := 1) (by decide) (dX_0) rfl rfl (by decide) in10 lk19 dX10_next_76 ?_
      refine lv_aload_n hx hb dX10_next_79 rfl (lv_at hl 0 rfl) ?_
      refine x_gr X hP (j := 0) (by decide) (dX_0) rfl rfl (by decide) in10 lk10 dX10_next_80 ?_
      refine lv_aload_n hx hb dX10_next_83 rfl (lv_at hl 0 rfl) ?_
      refine x_gi X hP (j := 3) (by decide) (dX_0) rfl rfl (by decide) in10 lk30 dX10_next_84 ?_
      obtain ⟨r22, k23, h⟩ := bd_some h
      refine x_Vv (rest := []) X hP hS (k_3_layOutByRank l D cA ad z hj n σ (σ.1 0 3) k23) (by decide) (dX_11) rfl 2 gX10_next_X3_layOutByRank rfl rfl rfl (by decide +kernel) ⟨Nat.le_of_ble_eq_true rfl, Nat.le_of_ble_eq_true rfl⟩ rfl hl.1 rfl (Nat.le_of_ble_eq_true rfl) dX10_next_87 ⟨Nat.zero_le _, Nat.zero_le _⟩ (fun H locs hP hS => ?_)
      exact hJ90   r22 h H locs ls hP hS (lv_sub hl [0] rfl)
    · have h := it_f c21 h
      refine lv_aload_n hx hb dX10_next_18 rfl (lv_at hl 0 rfl) ?_
      refine x_gr X hP (j := 0) (by decide) (dX_0) rfl rfl (by decide) in10 lk10 dX10_next_19 ?_
      refine lv_aload_n hx hb dX10_next_22 rfl (lv_at hl 0 rfl) ?_
      refine x_gi X hP (j := 3) (by decide) (dX_0) rfl rfl (by decide) in10 lk30 dX10_next_23 ?_
      obtain ⟨r24, k25, h⟩ := bd_some h
      refine x_Vi (rest := []) X hP hS (k_9_countThere l D cA ad z hj n σ (σ.1 0 3) k25) (by decide) (dX_1) rfl 1 gX10_next_X9_countThere rfl rfl rfl (by decide +kernel) ⟨Nat.le_of_ble_eq_true rfl, Nat.le_of_ble_eq_true rfl⟩ rfl hl.1 rfl (Nat.le_of_ble_eq_true rfl) dX10_next_26 ⟨Nat.zero_le _, Nat.zero_le _⟩ (fun H locs hP hS => ?_)
      refine lv_bipush (v := 6) hx hb dX10_next_29 (by decide) ?_
      refine lv_icmp_gt (tgt := 75) hx hb dX10_next_31 (by decide) (fun c26 => ?_) (fun c26 => ?_)
      · have h := it_t c26 h
        refine lv_aload_n hx hb dX10_next_75 rfl (lv_at hl 0 rfl) ?_
        refine x_gr X hP (j := 1) (by decide) (dX_0) rfl rfl (by decide) in10 lk19 dX10_next_76 ?_
        refine lv_aload_n hx hb dX10_next_79 rfl (lv_at hl 0 rfl) ?_
        refine x_gr X hP (j := 0) (by decide) (dX_0) rfl rfl (by decide) in10 lk10 dX10_next_80 ?_
        refine lv_aload_n hx hb dX10_next_83 rfl (lv_at hl 0 rfl) ?_
        refine x_gi X hP (j := 3) (by decide) (dX_0) rfl rfl (by decide) in10 lk30 dX10_next_84 ?_
        obtain ⟨r27, k28, h⟩ := bd_some h
        refine x_Vv (rest := []) X hP hS (k_3_layOutByRank l D cA ad z hj n r24.2 (r24.2.1 0 3) k28) (by decide) (dX_11) rfl 2 gX10_next_X3_layOutByRank rfl rfl rfl (by decide +kernel) ⟨Nat.le_of_ble_eq_true rfl, Nat.le_of_ble_eq_true rfl⟩ rfl hl.1 rfl (Nat.le_of_ble_eq_true rfl) dX10_next_87 ⟨Nat.zero_le _, Nat.zero_le _⟩ (fun H locs hP hS => ?_)
        exact hJ90   r27 h H locs ls hP hS (lv_sub hl [0] rfl)
      · have h := it_f c26 h
        refine lv_aload_n hx hb dX10_next_34 rfl (lv_at hl 0 rfl) ?_
        refine x_gr X hP (j := 2) (by decide) (dX_0) rfl rfl (by decide) in10 lk26 dX10_next_35 ?_
        refine lv_aload_n hx hb dX10_next_38 rfl (lv_at hl 0 rfl) ?_
        refine x_gr X hP (j := 0) (by decide) (dX_0) rfl rfl (by decide) in10 lk10 dX10_next_39 ?_
        refine lv_aload_n hx hb dX10_next_42 rfl (lv_at hl 0 rfl) ?_
        refine x_gr X hP (j := 1) (by decide) (dX_0) rfl rfl (by decide) in10 lk19 dX10_next_43 ?_
        refine lv_aload_n hx hb dX10_next_46 rfl (lv_at hl 0 rfl) ?_
        refine x_gi X hP (j := 3) (by decide) (dX_0) rfl rfl (by decide) in10 lk30 dX10_next_47 ?_
        obtain ⟨r29, k30, h⟩ := bd_some h
        refine x_Vv (rest := []) X hP hS (k_1_run l D cA ad z hj n r24.2 (r24.2.1 0 3) k30) (by decide) (dX_15) rfl 3 gX10_next_X1_run rfl rfl rfl (by decide +kernel) ⟨Nat.le_of_ble_eq_true rfl, Nat.le_of_ble_eq_true rfl⟩ rfl hl.1 rfl (Nat.le_of_ble_eq_true rfl) dX10_next_50 ⟨Nat.zero_le _, Nat.zero_le _⟩ (fun H locs hP hS => ?_)
        refine lv_aload_n hx hb dX10_next_53 rfl (lv_at hl 0 rfl) ?_
        refine x_gr X hP (j := 2) (by decide) (dX_0) rfl rfl (by decide) in10 lk26 dX10_next_54 ?_
        refine lv_aload_n hx hb dX10_next_57 rfl (lv_at hl 0 rfl) ?_
        refine x_gr X hP (j := 0) (by decide) (dX_0) rfl rfl (by decide) in10 lk10 dX10_next_58 ?_
        refine lv_aload_n hx hb dX10_next_61 rfl (lv_at hl 0 rfl) ?_
        refine x_gr X hP (j := 1) (by decide) (dX_0) rfl rfl (by decide) in10 lk19 dX10_next_62 ?_
        refine lv_aload_n hx hb dX10_next_65 rfl (lv_at hl 0 rfl) ?_
        refine x_gi X hP (j := 3) (by decide) (dX_0) rfl rfl (by decide) in10 lk30 dX10_next_66 ?_
        obtain ⟨r31, k32, h⟩ := bd_some h
        refine x_Vv (rest := []) X hP hS (k_1_layOutBest l D cA ad z hj n r29 (r29.1 0 3) k32) (by decide) (dX_15) rfl 3 gX10_next_X1_layOutBest rfl rfl rfl (by decide +kernel) ⟨Nat.le_of_ble_eq_true rfl, Nat.le_of_ble_eq_true rfl⟩ rfl hl.1 rfl (Nat.le_of_ble_eq_true rfl) dX10_next_69 ⟨Nat.zero_le _, Nat.zero_le _⟩ (fun H locs hP hS => ?_)
        refine lv_goto (tgt := 90) hx hb dX10_next_72 (by decide) ?_
        exact hJ90   r31 h H locs ls hP hS (lv_sub hl [0] rfl)
  · have h := it_f c1 h
    refine lv_iconst (v := (-1)) hx hb dX10_next_9 (by decide) ?_
    subst hQQ
    exact x_ri (σ0 := (fun _ _ => 0, fun _ _ => 0)) X hr hlocks hP hS (Option.some.inj h) dX10_next_10
def f_10_water (n : Nat) (σ : St) (a1 : Int32) (a2 : Int32) : Option (Int32 × St) :=
  (f_10_isBelow n σ a1 4).bind fun r1 =>
  if r1.1 = 0 then
    some ((-1), r1.2)
  else
    gd (inb a1 4) <| if a2 = 0 then
      some ((r1.2.1 (22 + a1.toNatClampNeg) 4), r1.2)
    else if a2 = 1 then
      some ((r1.2.1 (22 + a1.toNatClampNeg) 5), r1.2)
    else if a2 = 2 then
      some ((r1.2.1 (22 + a1.toNatClampNeg) 6), r1.2)
    else if a2 = 3 then
      some ((r1.2.1 (22 + a1.toNatClampNeg) 7), r1.2)
    else 
      some ((-1), r1.2)
abbrev rm_10_water : Room := { frames := 1, cells := 0, slots := 0, locals := 21 }
set_option maxRecDepth 100000 in
set_option maxHeartbeats 4000000 in
theorem k_10_water (l : Launch) (D : va_G) (cA : Nat → ClassId) (ad : Nat → Nat) (z : ZX) (hj : inj 120 ad) (n : Nat) (σ : St) (a1 : Int32) (a2 : Int32)  {res : Int32 × St} (h : f_10_water n σ a1 a2 = some res) : MXi l D dX 120 cA ad (EX ad z) yX10_water wsX10_water rm_10_water [.ref (ad 0), .int a1, .int a2] σ res := by
  refine Met.ofW (cc := cX10_water) (maxL := 4) (ret := (some .int)) (by decide) rfl ?_
  intro p e s m args below meth c s₁ B hml hv
  obtain ⟨hargs, hP, hK, hE⟩ := hv
  have hx := B.exec
  have hb := B.bytes
  have hr := B.returns
  have hts := atoms_spec (ws := wsX10_water) B.pre
  have hown : s.vm.findClass RX10 = some m.cls := findClass_of_methodNamed B.named
  have hlocks := B.notSynchronized
  have X : Cx p s m args c cX10_water 4 RX10 wsX10_water D dX 120 cA ad (EX ad z) := ⟨hx, hb, hml, hown, hts, hK, hj, hE, EX_ok ad z⟩
  have hS : va_S (inA 120 ad) s.heap s.heap [] := va_S.rf
  have hl := lv_entry ([.ref (ad 0), .int a1, .int a2]) (n := 4) (Nat.le_of_ble_eq_true rfl)
  rw [show entryFrame m args 4 = entryFrame m ([.ref (ad 0), .int a1, .int a2] : List Value).toArray 4 by rw [hargs]]
  rw [lg_entry_eq]
  generalize (lg_sl ([.ref (ad 0), .int a1, .int a2]) ++ List.replicate (4 - (lg_sl ([.ref (ad 0), .int a1, .int a2])).length) Slot.unset).toArray = ls at hl ⊢
  have hl : lv_has ls 4 [(0, .ref (ad 0)), (1, .int a1), (2, .int a2)] := hl
  obtain ⟨QQ, hQQ⟩ : ∃ Q, Q = MQ below (va_Qi (fun r u => r = res.1 ∧ u = res.2) (fun u t => va_P D vwCl (ww dX 120 cA ad u) t.heap) (inA 120 ad)) args s 0 0 (inA 120 ad) := ⟨_, rfl⟩
  show W p l e (headSpec wsX10_water rm_10_water).room s m args below meth c s.heap [] 0 0 (MQ below (va_Qi (fun r u => r = res.1 ∧ u = res.2) (fun u t => va_P D vwCl (ww dX 120 cA ad u) t.heap) (inA 120 ad)) args s 0 0 (inA 120 ad)) _
  rw [← hQQ]
  have in10 : ∀ w ∈ wsX100, w ∈ wsX10_water := by decide +kernel
  have in9 : ∀ w ∈ wsX90, w ∈ wsX10_water := by decide +kernel
  have in7 : ∀ w ∈ wsX70, w ∈ wsX10_water := by decide +kernel
  have lk10 : Cond.fieldLink RX10 10 "CureTown" "town" "LCureTown$Town;" ∈ wsX10_water := by decide +kernel
  have lk48 : Cond.fieldLink RX10 48 "CureTown$Town" "springs" "[LCureTown$Spring;" ∈ wsX10_water := by decide +kernel
  have lk179 : Cond.fieldLink RX10 179 "CureTown$Spring" "allGiven" "I" ∈ wsX10_water := by decide +kernel
  have lk182 : Cond.fieldLink RX10 182 "CureTown$Spring" "allTaken" "I" ∈ wsX10_water := by decide +kernel
  have lk185 : Cond.fieldLink RX10 185 "CureTown$Spring" "allFilled" "I" ∈ wsX10_water := by decide +kernel
  have lk188 : Cond.fieldLink RX10 188 "CureTown$Spring" "allRunOff" "I" ∈ wsX10_water := by decide +kernel
  unfold f_10_water at h
  obtain ⟨H, hH⟩ : ∃ H, H = s.heap := ⟨_, rfl⟩
  obtain ⟨locs, hlc⟩ : ∃ q : List Loc, q = [] := ⟨_, rfl⟩
  have hP : va_P D vwCl (ww dX 120 cA ad σ) s.heap := hP
  have hS : va_S (inA 120 ad) s.heap s.heap [] := hS
  rw [← hlc] at hS ⊢
  rw [show W p l e (headSpec wsX10_water rm_10_water).room s m args below meth c s.heap locs 0 0 QQ = W p l e (headSpec wsX10_water rm_10_water).room s m args below meth c H locs 0 0 QQ by rw [hH]]
  have hS : va_S (inA 120 ad) s.heap H locs := by rw [hH]; exact hS
  have hP : va_P D vwCl (ww dX 120 cA ad σ) H := by rw [hH]; exact hP
  clear hH hlc
  refine lv_iload_n hx hb dX10_water_0 rfl (lv_at hl 1 rfl) ?_
  refine lv_iconst (v := 4) hx hb dX10_water_1 (by decide) ?_
  obtain ⟨r1, k2, h⟩ := bd_some h
  refine x_Si (rest := []) X hP hS (k_10_isBelow l D cA ad z hj n σ a1 4 k2) 2 gX10_water_X10_isBelow rfl rfl rfl (by decide +kernel) ⟨Nat.le_of_ble_eq_true rfl, Nat.le_of_ble_eq_true rfl⟩ rfl hl.1 rfl (Nat.le_of_ble_eq_true rfl) dX10_water_2 ⟨Nat.zero_le _, Nat.zero_le _⟩ (fun H locs hP hS => ?_)
  refine lv_if_ne (tgt := 10) hx hb dX10_water_5 (by decide) (fun c3 => ?_) (fun c3 => ?_)
  · have h := it_f c3 h
    refine lv_aload_n hx hb dX10_water_10 rfl (lv_at hl 0 rfl) ?_
    refine x_gr X hP (j := 0) (by decide) (dX_0) rfl rfl (by decide) in10 lk10 dX10_water_11 ?_
    refine x_gr X hP (j := 0) (by decide) (dX_1) rfl rfl (by decide) in9 lk48 dX10_water_14 ?_
    refine lv_iload_n hx hb dX10_water_17 rfl (lv_at hl 1 rfl) ?_
    obtain ⟨g4, h⟩ := gd_some h
    refine x_ar X hP (by decide) (dX_2) g4 dX10_water_18 ?_
    refine lv_astore_n (lv' := [(3, .ref (ad (22 + a1.toNatClampNeg))), (0, .ref (ad 0)), (1, .int a1), (2, .int a2)]) hx hb dX10_water_19 rfl hl (by decide) rfl (fun ls hl => ?_)
    refine lv_iload_n hx hb dX10_water_20 rfl (lv_at hl 3 rfl) ?_
    by_cases c5 : a2 = 0
    · have h := it_t c5 h
      refine lv_tableIn (off := 31) (tgt := 52) hx hb dX10_water_21 (by rw [c5]; decide) (by rw [c5]; decide) (by rw [c5]; rfl) (by decide) ?_
      refine lv_aload_n hx hb dX10_water_52 rfl (lv_at hl 0 rfl) ?_
      refine x_gi X hP (j := 4) (fam_lt (inb_lt g4) (by decide)) (dX_22 (inb_lt g4)) rfl rfl (by decide) in7 lk179 dX10_water_53 ?_
      subst hQQ
      exact x_ri (σ0 := (fun _ _ => 0, fun _ _ => 0)) X hr hlocks hP hS (Option.some.inj h) dX10_water_56
    · have h := it_f c5 h
      by_cases c6 : a2 = 1
      · have h := it_t c6 h
        refine lv_tableIn (off := 36) (tgt := 57) hx hb dX10_water_21 (by rw [c6]; decide) (by rw [c6]; decide) (by rw [c6]; rfl) (by decide) ?_
        refine lv_aload_n hx hb dX10_water_57 rfl (lv_at hl 0 rfl) ?_
        refine x_gi X hP (j := 5) (fam_lt (inb_lt g4) (by decide)) (dX_22 (inb_lt g4)) rfl rfl (by decide) in7 lk182 dX10_water_58 ?_
        subst hQQ
        exact x_ri (σ0 := (fun _ _ => 0, fun _ _ => 0)) X hr hlocks hP hS (Option.some.inj h) dX10_water_61
      · have h := it_f c6 h
        by_cases c7 : a2 = 2
        · have h := it_t c7 h
          refine lv_tableIn (off := 41) (tgt := 62) hx hb dX10_water_21 (by rw [c7]; decide) (by rw [c7]; decide) (by rw [c7]; rfl) (by decide) ?_
          refine lv_aload_n hx hb dX10_water_62 rfl (lv_at hl 0 rfl) ?_
          refine x_gi X hP (j := 6) (fam_lt (inb_lt g4) (by decide)) (dX_22 (inb_lt g4)) rfl rfl (by decide) in7 lk185 dX10_water_63 ?_
          subst hQQ
          exact x_ri (σ0 := (fun _ _ => 0, fun _ _ => 0)) X hr hlocks hP hS (Option.some.inj h) dX10_water_66
        · have h := it_f c7 h
          by_cases c8 : a2 = 3
          · have h := it_t c8 h
            refine lv_tableIn (off := 46) (tgt := 67) hx hb dX10_water_21 (by rw [c8]; decide) (by rw [c8]; decide) (by rw [c8]; rfl) (by decide) ?_
            refine lv_aload_n hx hb dX10_water_67 rfl (lv_at hl 0 rfl) ?_
            refine x_gi X hP (j := 7) (fam_lt (inb_lt g4) (by decide)) (dX_22 (inb_lt g4)) rfl rfl (by decide) in7 lk188 dX10_water_68 ?_
            subst hQQ
            exact x_ri (σ0 := (fun _ _ => 0, fun _ _ => 0)) X hr hlocks hP hS (Option.some.inj h) dX10_water_71
          · have h := it_f c8 h
            refine lv_tableOut (tgt := 72) hx hb dX10_water_21 (tb_out 3 (tb_c c8 <| (tb_c c7 <| (tb_c c6 <| (tb_c c5 <| tb_0))))) (by decide) ?_
            refine lv_iconst (v := (-1)) hx hb dX10_water_72 (by decide) ?_
            subst hQQ
            exact x_ri (σ0 := (fun _ _ => 0, fun _ _ => 0)) X hr hlocks hP hS (Option.some.inj h) dX10_water_73
  · have h := it_t c3 h
    refine lv_iconst (v := (-1)) hx hb dX10_water_8 (by decide) ?_
    subst hQQ
    exact x_ri (σ0 := (fun _ _ => 0, fun _ _ => 0)) X hr hlocks hP hS (Option.some.inj h) dX10_water_9
def f_10_bottles (n : Nat) (σ : St) (a1 : Int32) (a2 : Int32) : Option (Int32 × St) :=
  (f_10_isBelow n σ a1 4).bind fun r1 =>
  if r1.1 = 0 then
    some ((-1), r1.2)
  else
    (f_10_isBelow n r1.2 a2 100).bind fun r4 =>
    if r4.1 = 0 then
      some ((-1), r4.2)
    else
      gd (inb a1 4) <| gd (inb a2 100) <| some ((r4.2.1 (26 + a1.toNatClampNeg) a2.toNatClampNeg), r4.2)
abbrev rm_10_bottles : Room := { frames := 1, cells := 0, slots := 0, locals := 21 }
set_option maxRecDepth 100000 in
set_option maxHeartbeats 4000000 in
theorem k_10_bottles (l : Launch) (D : va_G) (cA : Nat → ClassId) (ad : Nat → Nat) (z : ZX) (hj : inj 120 ad) (n : Nat) (σ : St) (a1 : Int32) (a2 : Int32)  {res : Int32 × St} (h : f_10_bottles n σ a1 a2 = some res) : MXi l D dX 120 cA ad (EX ad z) yX10_bottles wsX10_bottles rm_10_bottles [.ref (ad 0), .int a1, .int a2] σ res := by
  refine Met.ofW (cc := cX10_bottles) (maxL := 3) (ret := (some .int)) (by decide) rfl ?_
  intro p e s m args below meth c s₁ B hml hv
  obtain ⟨hargs, hP, hK, hE⟩ := hv
  have hx := B.exec
  have hb := B.bytes
  have hr := B.returns
  have hts := atoms_spec (ws := wsX10_bottles) B.pre
  have hown : s.vm.findClass RX10 = some m.cls := findClass_of_methodNamed B.named
  have hlocks := B.notSynchronized
  have X : Cx p s m args c cX10_bottles 3 RX10 wsX10_bottles D dX 120 cA ad (EX ad z) := ⟨hx, hb, hml, hown, hts, hK, hj, hE, EX_ok ad z⟩
  have hS : va_S (inA 120 ad) s.heap s.heap [] := va_S.rf
  have hl := lv_entry ([.ref (ad 0), .int a1, .int a2]) (n := 3) (Nat.le_of_ble_eq_true rfl)
  rw [show entryFrame m args 3 = entryFrame m ([.ref (ad 0), .int a1, .int a2] : List Value).toArray 3 by rw [hargs]]
  rw [lg_entry_eq]
  generalize (lg_sl ([.ref (ad 0), .int a1, .int a2]) ++ List.replicate (3 - (lg_sl ([.ref (ad 0), .int a1, .int a2])).length) Slot.unset).toArray = ls at hl ⊢
  have hl : lv_has ls 3 [(0, .ref (ad 0)), (1, .int a1), (2, .int a2)] := hl
  obtain ⟨QQ, hQQ⟩ : ∃ Q, Q = MQ below (va_Qi (fun r u => r = res.1 ∧ u = res.2) (fun u t => va_P D vwCl (ww dX 120 cA ad u) t.heap) (inA 120 ad)) args s 0 0 (inA 120 ad) := ⟨_, rfl⟩
  show W p l e (headSpec wsX10_bottles rm_10_bottles).room s m args below meth c s.heap [] 0 0 (MQ below (va_Qi (fun r u => r = res.1 ∧ u = res.2) (fun u t => va_P D vwCl (ww dX 120 cA ad u) t.heap) (inA 120 ad)) args s 0 0 (inA 120 ad)) _
  rw [← hQQ]
  have in10 : ∀ w ∈ wsX100, w ∈ wsX10_bottles := by decide +kernel
  have in9 : ∀ w ∈ wsX90, w ∈ wsX10_bottles := by decide +kernel
  have in7 : ∀ w ∈ wsX70, w ∈ wsX10_bottles := by decide +kernel
  have lk10 : Cond.fieldLink RX10 10 "CureTown" "town" "LCureTown$Town;" ∈ wsX10_bottles := by decide +kernel
  have lk48 : Cond.fieldLink RX10 48 "CureTown$Town" "springs" "[LCureTown$Spring;" ∈ wsX10_bottles := by decide +kernel
  have lk191 : Cond.fieldLink RX10 191 "CureTown$Spring" "bottlesOf" "[I" ∈ wsX10_bottles := by decide +kernel
  unfold f_10_bottles at h
  obtain ⟨H, hH⟩ : ∃ H, H = s.heap := ⟨_, rfl⟩
  obtain ⟨locs, hlc⟩ : ∃ q : List Loc, q = [] := ⟨_, rfl⟩
  have hP : va_P D vwCl (ww dX 120 cA ad σ) s.heap := hP
  have hS : va_S (inA 120 ad) s.heap s.heap [] := hS
  rw [← hlc] at hS ⊢
  rw [show W p l e (headSpec wsX10_bottles rm_10_bottles).room s m args below meth c s.heap locs 0 0 QQ = W p l e (headSpec wsX10_bottles rm_10_bottles).room s m args below meth c H locs 0 0 QQ by rw [hH]]
  have hS : va_S (inA 120 ad) s.heap H locs := by rw [hH]; exact hS
  have hP : va_P D vwCl (ww dX 120 cA ad σ) H := by rw [hH]; exact hP
  clear hH hlc
  refine lv_iload_n hx hb dX10_bottles_0 rfl (lv_at hl 1 rfl) ?_
  refine lv_iconst (v := 4) hx hb dX10_bottles_1 (by decide) ?_
  obtain ⟨r1, k2, h⟩ := bd_some h
  refine x_Si (rest := []) X hP hS (k_10_isBelow l D cA ad z hj n σ a1 4 k2) 2 gX10_bottles_X10_isBelow rfl rfl rfl (by decide +kernel) ⟨Nat.le_of_ble_eq_true rfl, Nat.le_of_ble_eq_true rfl⟩ rfl hl.1 rfl (Nat.le_of_ble_eq_true rfl) dX10_bottles_2 ⟨Nat.zero_le _, Nat.zero_le _⟩ (fun H locs hP hS => ?_)
  refine lv_if_eq (tgt := 17) hx hb dX10_bottles_5 (by decide) (fun c3 => ?_) (fun c3 => ?_)
  · have h := it_t c3 h
    refine lv_iconst (v := (-1)) hx hb dX10_bottles_17 (by decide) ?_
    subst hQQ
    exact x_ri (σ0 := (fun _ _ => 0, fun _ _ => 0)) X hr hlocks hP hS (Option.some.inj h) dX10_bottles_18
  · have h := it_f c3 h
    refine lv_iload_n hx hb dX10_bottles_8 rfl (lv_at hl 2 rfl) ?_
    refine lv_bipush (v := 100) hx hb dX10_bottles_9 (by decide) ?_
    obtain ⟨r4, k5, h⟩ := bd_some h
    refine x_Si (rest := []) X hP hS (k_10_isBelow l D cA ad z hj n r1.2 a2 100 k5) 2 gX10_bottles_X10_isBelow rfl rfl rfl (by decide +kernel) ⟨Nat.le_of_ble_eq_true rfl, Nat.le_of_ble_eq_true rfl⟩ rfl hl.1 rfl (Nat.le_of_ble_eq_true rfl) dX10_bottles_11 ⟨Nat.zero_le _, Nat.zero_le _⟩ (fun H locs hP hS => ?_)
    refine lv_if_ne (tgt := 19) hx hb dX10_bottles_14 (by decide) (fun c6 => ?_) (fun c6 => ?_)
    · have h := it_f c6 h
      refine lv_aload_n hx hb dX10_bottles_19 rfl (lv_at hl 0 rfl) ?_
      refine x_gr X hP (j := 0) (by decide) (dX_0) rfl rfl (by decide) in10 lk10 dX10_bottles_20 ?_
      refine x_gr X hP (j := 0) (by decide) (dX_1) rfl rfl (by decide) in9 lk48 dX10_bottles_23 ?_
      refine lv_iload_n hx hb dX10_bottles_26 rfl (lv_at hl 1 rfl) ?_
      obtain ⟨g7, h⟩ := gd_some h
      refine x_ar X hP (by decide) (dX_2) g7 dX10_bottles_27 ?_
      refine x_gr X hP (j := 8) (fam_lt (inb_lt g7) (by decide)) (dX_22 (inb_lt g7)) rfl rfl (by decide) in7 lk191 dX10_bottles_28 ?_
      refine lv_iload_n hx hb dX10_bottles_31 rfl (lv_at hl 2 rfl) ?_
      obtain ⟨g8, h⟩ := gd_some h
      refine x_ai X hP (fam_lt (inb_lt g7) (by decide)) (dX_26 (inb_lt g7)) g8 dX10_bottles_32 ?_
      subst hQQ
      exact x_ri (σ0 := (fun _ _ => 0, fun _ _ => 0)) X hr hlocks hP hS (Option.some.inj h) dX10_bottles_33
    · have h := it_t c6 h
      refine lv_iconst (v := (-1)) hx hb dX10_bottles_17 (by decide) ?_
      subst hQQ
      exact x_ri (σ0 := (fun _ _ => 0, fun _ _ => 0)) X hr hlocks hP hS (Option.some.inj h) dX10_bottles_18
def b_10_sell_27 (n : Nat) (a1 : Int32) (a3 : Int32) (t7 : Int32 × Int32 × St) : Option ((Int32 × Int32 × St) ⊕ (Int32 × Int32 × St)) :=
  if 4 ≤ t7.2.1 then
    some (.inr (t7.1, t7.2.1, t7.2.2))
  else
    gd (inb t7.2.1 4) <| gd (inb a3 100) <| nm (if (t7.2.2.1 (26 + t7.2.1.toNatClampNeg) a3.toNatClampNeg) < t7.1 then (t7.2.2.1 (26 + t7.2.1.toNatClampNeg) a3.toNatClampNeg) else t7.1) fun v11 =>
    nm ((t7.2.2.1 (26 + t7.2.1.toNatClampNeg) a3.toNatClampNeg) - v11) fun v12 =>
    nm (si t7.2.2 (26 + t7.2.1.toNatClampNeg) (a3.toNatClampNeg) v12) fun σ13 =>
    nm (t7.1 - v11) fun v14 =>
    nm (t7.2.1 + 1) fun v15 =>
    some (.inl (v14, v15, σ13))
def b_10_sell_18 (n : Nat) (a1 : Int32) (t4 : Int32 × Int32 × St) : Option ((Int32 × Int32 × St) ⊕ (Int32 × Int32 × St)) :=
  if 100 ≤ t4.2.1 then
    some (.inr (t4.1, t4.2.1, t4.2.2))
  else
    (lq (b_10_sell_27 n a1 t4.2.1) n (t4.1, 0, t4.2.2)).bind fun t1016 =>
    nm (t4.2.1 + 1) fun v1019 =>
    some (.inl (t1016.1, v1019, t1016.2.2))
def f_10_sell (n : Nat) (σ : St) (a1 : Int32) : Option (Int32 × St) :=
  if a1 < 1 then
    some ((-1), σ)
  else
    if a1 ≤ 999 then
      (lq (b_10_sell_18 n a1) n (a1, 0, σ)).bind fun t2020 =>
      nm (a1 - t2020.1) fun v2023 =>
      nm ((t2020.2.2.1 0 5) + v2023) fun v2024 =>
      nm (si t2020.2.2 0 5 v2024) fun σ2025 =>
      nm (a1 - t2020.1) fun v2026 =>
      some (v2026, σ2025)
    else
      some ((-1), σ)
abbrev rm_10_sell : Room := { frames := 1, cells := 0, slots := 0, locals := 21 }
set_option maxRecDepth 100000 in
set_option maxHeartbeats 4000000 in
theorem k_10_sell (l : Launch) (D : va_G) (cA : Nat → ClassId) (ad : Nat → Nat) (z : ZX) (hj : inj 120 ad) (n : Nat) (σ : St) (a1 : Int32)  {res : Int32 × St} (h : f_10_sell n σ a1 = some res) : MXi l D dX 120 cA ad (EX ad z) yX10_sell wsX10_sell rm_10_sell [.ref (ad 0), .int a1] σ res := by
  refine Met.ofW (cc := cX10_sell) (maxL := 7) (ret := (some .int)) (by decide) rfl ?_
  intro p e s m args below meth c s₁ B hml hv
  obtain ⟨hargs, hP, hK, hE⟩ := hv
  have hx := B.exec
  have hb := B.bytes
  have hr := B.returns
  have hts := atoms_spec (ws := wsX10_sell) B.pre
  have hown : s.vm.findClass RX10 = some m.cls := findClass_of_methodNamed B.named
  have hlocks := B.notSynchronized
  have X : Cx p s m args c cX10_sell 7 RX10 wsX10_sell D dX 120 cA ad (EX ad z) := ⟨hx, hb, hml, hown, hts, hK, hj, hE, EX_ok ad z⟩
  have hS : va_S (inA 120 ad) s.heap s.heap [] := va_S.rf
  have hl := lv_entry ([.ref (ad 0), .int a1]) (n := 7) (Nat.le_of_ble_eq_true rfl)
  rw [show entryFrame m args 7 = entryFrame m ([.ref (ad 0), .int a1] : List Value).toArray 7 by rw [hargs]]
  rw [lg_entry_eq]
  generalize (lg_sl ([.ref (ad 0), .int a1]) ++ List.replicate (7 - (lg_sl ([.ref (ad 0), .int a1])).length) Slot.unset).toArray = ls at hl ⊢
  have hl : lv_has ls 7 [(0, .ref (ad 0)), (1, .int a1)] := hl
  obtain ⟨QQ, hQQ⟩ : ∃ Q, Q = MQ below (va_Qi (fun r u => r = res.1 ∧ u = res.2) (fun u t => va_P D vwCl (ww dX 120 cA ad u) t.heap) (inA 120 ad)) args s 0 0 (inA 120 ad) := ⟨_, rfl⟩
  show W p l e (headSpec wsX10_sell rm_10_sell).room s m args below meth c s.heap [] 0 0 (MQ below (va_Qi (fun r u => r = res.1 ∧ u = res.2) (fun u t => va_P D vwCl (ww dX 120 cA ad u) t.heap) (inA 120 ad)) args s 0 0 (inA 120 ad)) _
  rw [← hQQ]
  have in10 : ∀ w ∈ wsX100, w ∈ wsX10_sell := by decide +kernel
  have in9 : ∀ w ∈ wsX90, w ∈ wsX10_sell := by decide +kernel
  have in7 : ∀ w ∈ wsX70, w ∈ wsX10_sell := by decide +kernel
  have lk10 : Cond.fieldLink RX10 10 "CureTown" "town" "LCureTown$Town;" ∈ wsX10_sell := by decide +kernel
  have lk48 : Cond.fieldLink RX10 48 "CureTown$Town" "springs" "[LCureTown$Spring;" ∈ wsX10_sell := by decide +kernel
  have lk191 : Cond.fieldLink RX10 191 "CureTown$Spring" "bottlesOf" "[I" ∈ wsX10_sell := by decide +kernel
  have ml194min : Cond.methodLink RX10 194 Lib.Math.min.name ∈ wsX10_sell := by decide +kernel
  have ms194min : Cond.static Lib.Math.min.name ∈ wsX10_sell := by decide +kernel
  have mi194min : Cond.initialized "java/lang/Math" ∈ wsX10_sell := by decide +kernel
  have mc194min : Cond.code Lib.Math.min.name Lib.Math.min.code 2 (some .int) ∈ wsX10_sell := by decide +kernel
  have lk38 : Cond.fieldLink RX10 38 "CureTown" "bottlesSold" "I" ∈ wsX10_sell := by decide +kernel
  unfold f_10_sell at h
  obtain ⟨H, hH⟩ : ∃ H, H = s.heap := ⟨_, rfl⟩
  obtain ⟨locs, hlc⟩ : ∃ q : List Loc, q = [] := ⟨_, rfl⟩
  have hP : va_P D vwCl (ww dX 120 cA ad σ) s.heap := hP
  have hS : va_S (inA 120 ad) s.heap s.heap [] := hS
  rw [← hlc] at hS ⊢
  rw [show W p l e (headSpec wsX10_sell rm_10_sell).room s m args below meth c s.heap locs 0 0 QQ = W p l e (headSpec wsX10_sell rm_10_sell).room s m args below meth c H locs 0 0 QQ by rw [hH]]
  have hS : va_S (inA 120 ad) s.heap H locs := by rw [hH]; exact hS
  have hP : va_P D vwCl (ww dX 120 cA ad σ) H := by rw [hH]; exact hP
  clear hH hlc
  refine lv_iload_n hx hb dX10_sell_0 rfl (lv_at hl 1 rfl) ?_
  refine lv_iconst (v := 1) hx hb dX10_sell_1 (by decide) ?_
  refine lv_icmp_lt (tgt := 12) hx hb dX10_sell_2 (by decide) (fun c1 => ?_) (fun c1 => ?_)
  · have h := it_t c1 h
    refine lv_iconst (v := (-1)) hx hb dX10_sell_12 (by decide) ?_
    subst hQQ
    exact x_ri (σ0 := (fun _ _ => 0, fun _ _ => 0)) X hr hlocks hP hS (Option.some.inj h) dX10_sell_13
  · have h := it_f c1 h
    refine lv_iload_n hx hb dX10_sell_5 rfl (lv_at hl 1 rfl) ?_
    refine lv_sipush (v := 999) hx hb dX10_sell_6 (by decide) ?_
    refine lv_icmp_le (tgt := 14) hx hb dX10_sell_9 (by decide) (fun c2 => ?_) (fun c2 => ?_)
    · have h := it_t c2 h
      refine lv_iload_n hx hb dX10_sell_14 rfl (lv_at hl 1 rfl) ?_
      refine lv_istore_n (lv' := [(2, .int a1), (0, .ref (ad 0)), (1, .int a1)]) hx hb dX10_sell_15 rfl hl (by decide) rfl (fun ls hl => ?_)
      refine lv_iconst (v := 0) hx hb dX10_sell_16 (by decide) ?_
      refine lv_istore_n (lv' := [(3, .int 0), (2, .int a1), (0, .ref (ad 0)), (1, .int a1)]) hx hb dX10_sell_17 rfl hl (by decide) rfl (fun ls hl => ?_)
      obtain ⟨t2020, o2022, h⟩ := bd_some h
      refine lq_rule (P := fun t4 : Int32 × Int32 × St => ∀ (H : Heap) (locs : List Loc) (ls : Array Slot), va_P D vwCl (ww dX 120 cA ad t4.2.2) H → va_S (inA 120 ad) s.heap H locs → lv_has ls 7 [(0, .ref (ad 0)), (1, .int a1), (2, .int t4.1), (3, .int t4.2.1)] → W p l e (headSpec wsX10_sell rm_10_sell).room s m args below meth c H locs 0 0 QQ (F0 m 18 ls [])) (X := fun t2020 : Int32 × Int32 × St => ∀ (H : Heap) (locs : List Loc) (ls : Array Slot), va_P D vwCl (ww dX 120 cA ad t2020.2.2) H → va_S (inA 120 ad) s.heap H locs → lv_has ls 7 [(0, .ref (ad 0)), (1, .int a1), (2, .int t2020.1), (3, .int t2020.2.1)] → W p l e (headSpec wsX10_sell rm_10_sell).room s m args below meth c H locs 0 0 QQ (F0 m 84 ls [])) ?_ n _ _ o2022 ?_ H locs ls hP hS (lv_sub hl [2, 3, 1, 0] rfl)
      · clear h hP hS hl
        intro t4 rL3 h hCL3 hEL3 H locs ls hP hS hl
        unfold b_10_sell_18 at h
        refine lv_iload_n hx hb dX10_sell_18 rfl (lv_at hl 3 rfl) ?_
        refine lv_bipush (v := 100) hx hb dX10_sell_19 (by decide) ?_
        refine lv_icmp_ge (tgt := 84) hx hb dX10_sell_21 (by decide) (fun c5 => ?_) (fun c5 => ?_)
        · have h := it_t c5 h
          exact hEL3 _ (Option.some.inj h).symm H locs ls hP hS (lv_sub hl [0, 1, 2, 3] rfl)
        · have h := it_f c5 h
          refine lv_iconst (v := 0) hx hb dX10_sell_24 (by decide) ?_
          refine lv_istore (lv' := [(4, .int 0), (0, .ref (ad 0)), (1, .int a1), (2, .int t4.1), (3, .int t4.2.1)]) hx hb dX10_sell_25 hl (by decide) rfl (fun ls hl => ?_)
          obtain ⟨t1016, o1018, h⟩ := bd_some h
          refine lq_rule (P := fun t7 : Int32 × Int32 × St => ∀ (H : Heap) (locs : List Loc) (ls : Array Slot), va_P D vwCl (ww dX 120 cA ad t7.2.2) H → va_S (inA 120 ad) s.heap H locs → lv_has ls 7 [(0, .ref (ad 0)), (1, .int a1), (2, .int t7.1), (3, .int t4.2.1), (4, .int t7.2.1)] → W p l e (headSpec wsX10_sell rm_10_sell).room s m args below meth c H locs 0 0 QQ (F0 m 27 ls [])) (X := fun t1016 : Int32 × Int32 × St => ∀ (H : Heap) (locs : List Loc) (ls : Array Slot), va_P D vwCl (ww dX 120 cA ad t1016.2.2) H → va_S (inA 120 ad) s.heap H locs → lv_has ls 7 [(0, .ref (ad 0)), (1, .int a1), (2, .int t1016.1), (3, .int t4.2.1), (4, .int t1016.2.1)] → W p l e (headSpec wsX10_sell rm_10_sell).room s m args below meth c H locs 0 0 QQ (F0 m 78 ls [])) ?_ n _ _ o1018 ?_ H locs ls hP hS (lv_sub hl [1, 2, 3, 4, 0] rfl)
          · clear h hP hS hl
            intro t7 rL6 h hCL6 hEL6 H locs ls hP hS hl
            unfold b_10_sell_27 at h
            refine lv_iload hx hb dX10_sell_27 (lv_at hl 4 rfl) ?_
            refine lv_iconst (v := 4) hx hb dX10_sell_29 (by decide) ?_
            refine lv_icmp_ge (tgt := 78) hx hb dX10_sell_30 (by decide) (fun c8 => ?_) (fun c8 => ?_)
            · have h := it_t c8 h
              exact hEL6 _ (Option.some.inj h).symm H locs ls hP hS (lv_sub hl [0, 1, 2, 3, 4] rfl)
            · have h := it_f c8 h
              refine lv_aload_n hx hb dX10_sell_33 rfl (lv_at hl 0 rfl) ?_
              refine x_gr X hP (j := 0) (by decide) (dX_0) rfl rfl (by decide) in10 lk10 dX10_sell_34 ?_
              refine x_gr X hP (j := 0) (by decide) (dX_1) rfl rfl (by decide) in9 lk48 dX10_sell_37 ?_
              refine lv_iload hx hb dX10_sell_40 (lv_at hl 4 rfl) ?_
              obtain ⟨g9, h⟩ := gd_some h
              refine x_ar X hP (by decide) (dX_2) g9 dX10_sell_42 ?_
              refine x_gr X hP (j := 8) (fam_lt (inb_lt g9) (by decide)) (dX_22 (inb_lt g9)) rfl rfl (by decide) in7 lk191 dX10_sell_43 ?_
              refine lv_astore (lv' := [(5, .ref (ad (26 + t7.2.1.toNatClampNeg))), (0, .ref (ad 0)), (1, .int a1), (2, .int t7.1), (3, .int t4.2.1), (4, .int t7.2.1)]) hx hb dX10_sell_46 hl (by decide) rfl (fun ls hl => ?_)
              refine lv_iload_n hx hb dX10_sell_48 rfl (lv_at hl 3 rfl) ?_
              refine lv_aload hx hb dX10_sell_49 (lv_at hl 0 rfl) ?_
              refine lv_iload_n hx hb dX10_sell_51 rfl (lv_at hl 4 rfl) ?_
              obtain ⟨g10, h⟩ := gd_some h
              refine x_ai X hP (fam_lt (inb_lt g9) (by decide)) (dX_26 (inb_lt g9)) g10 dX10_sell_52 ?_
              refine va_mmin hx hb (hml.trans hl.1.symm) X.2.2.2.1 (X.2.2.2.2.1 _ ml194min) (X.2.2.2.2.1 _ ms194min) (X.2.2.2.2.1 _ mi194min) (X.2.2.2.2.1 _ mc194min) (Nat.le_of_ble_eq_true rfl) (Nat.le_of_ble_eq_true rfl) (Nat.zero_le _) (Nat.zero_le _) dX10_sell_53 ?_
              refine lv_topi (fun v11 ev11 => ?_)
              have h := nm_some ev11 h
              refine lv_istore (lv' := [(6, .int v11), (5, .ref (ad (26 + t7.2.1.toNatClampNeg))), (0, .ref (ad 0)), (1, .int a1), (2, .int t7.1), (3, .int t4.2.1), (4, .int t7.2.1)]) hx hb dX10_sell_56 hl (by decide) rfl (fun ls hl => ?_)
              refine lv_aload hx hb dX10_sell_58 (lv_at hl 1 rfl) ?_
              refine lv_iload_n hx hb dX10_sell_60 rfl (lv_at hl 5 rfl) ?_
              refine lv_dup2_11 hx hb dX10_sell_61 rfl rfl ?_
              refine x_ai X hP (fam_lt (inb_lt g9) (by decide)) (dX_26 (inb_lt g9)) g10 dX10_sell_62 ?_
              refine lv_iload hx hb dX10_sell_63 (lv_at hl 0 rfl) ?_
              refine lv_isub hx hb dX10_sell_65 ?_
              refine lv_topi (fun v12 ev12 => ?_)
              have h := nm_some ev12 h
              refine x_si X hP hS (fam_lt (inb_lt g9) (by decide)) (dX_26 (inb_lt g9)) g10 dX10_sell_66 (fun σ13 eσ13 H locs hP hS => ?_)
              have h := nm_some eσ13 h
              refine lv_iload_n hx hb dX10_sell_67 rfl (lv_at hl 4 rfl) ?_
              refine lv_iload hx hb dX10_sell_68 (lv_at hl 0 rfl) ?_
              refine lv_isub hx hb dX10_sell_70 ?_
              refine lv_topi (fun v14 ev14 => ?_)
              have h := nm_some ev14 h
              refine lv_istore_n (lv' := [(2, .int v14), (6, .int v11), (5, .ref (ad (26 + t7.2.1.toNatClampNeg))), (0, .ref (ad 0)), (1, .int a1), (3, .int t4.2.1), (4, .int t7.2.1)]) hx hb dX10_sell_71 rfl hl (by decide) rfl (fun ls hl => ?_)
              obtain ⟨v15, ev15⟩ : ∃ y : Int32, y = t7.2.1 + 1 := ⟨_, rfl⟩
              have h := nm_some ev15 h
              refine lv_iinc (v := v15) (lv' := [(4, .int v15), (2, .int v14), (6, .int v11), (5, .ref (ad (26 + t7.2.1.toNatClampNeg))), (0, .ref (ad 0)), (1, .int a1), (3, .int t4.2.1)]) hx hb dX10_sell_72 hl (k := 6) rfl (by rw [ev15]; rfl) (by decide) rfl (fun ls hl => ?_)
              refine lv_goto (tgt := 27) hx hb dX10_sell_75 (by decide) ?_
              exact hCL6 _ (Option.some.inj h).symm H locs ls hP hS (lv_sub hl [4, 5, 1, 6, 0] rfl)
          · intro H locs ls hP hS hl
            obtain ⟨v1019, ev1019⟩ : ∃ y : Int32, y = t4.2.1 + 1 := ⟨_, rfl⟩
            have h := nm_some ev1019 h
            refine lv_iinc (v := v1019) (lv' := [(3, .int v1019), (0, .ref (ad 0)), (1, .int a1), (2, .int t1016.1), (4, .int t1016.2.1)]) hx hb dX10_sell_78 hl (k := 3) rfl (by rw [ev1019]; rfl) (by decide) rfl (fun ls hl => ?_)
            refine lv_goto (tgt := 18) hx hb dX10_sell_81 (by decide) ?_
            exact hCL3 _ (Option.some.inj h).symm H locs ls hP hS (lv_sub hl [1, 2, 3, 0] rfl)
      · intro H locs ls hP hS hl
        refine lv_aload_n hx hb dX10_sell_84 rfl (lv_at hl 0 rfl) ?_
        refine lv_dup hx hb dX10_sell_85 rfl ?_
        refine x_gi X hP (j := 5) (by decide) (dX_0) rfl rfl (by decide) in10 lk38 dX10_sell_86 ?_
        refine lv_iload_n hx hb dX10_sell_89 rfl (lv_at hl 1 rfl) ?_
        refine lv_iload_n hx hb dX10_sell_90 rfl (lv_at hl 2 rfl) ?_
        refine lv_isub hx hb dX10_sell_91 ?_
        refine lv_topi (fun v2023 ev2023 => ?_)
        have h := nm_some ev2023 h
        refine lv_iadd hx hb dX10_sell_92 ?_
        refine lv_topi (fun v2024 ev2024 => ?_)
        have h := nm_some ev2024 h
        refine x_pi X hP hS (j := 5) (by decide) (dX_0) rfl rfl (by decide) in10 tyX10_ok nmX10 lk38 rfl rfl rfl rfl dX10_sell_93 (fun σ2025 eσ2025 H locs hP hS => ?_)
        have h := nm_some eσ2025 h
        refine lv_iload_n hx hb dX10_sell_96 rfl (lv_at hl 1 rfl) ?_
        refine lv_iload_n hx hb dX10_sell_97 rfl (lv_at hl 2 rfl) ?_
        refine lv_isub hx hb dX10_sell_98 ?_
        refine lv_topi (fun v2026 ev2026 => ?_)
        have h := nm_some ev2026 h
        subst hQQ
        exact x_ri (σ0 := (fun _ _ => 0, fun _ _ => 0)) X hr hlocks hP hS (Option.some.inj h) dX10_sell_99
    · have h := it_f c2 h
      refine lv_iconst (v := (-1)) hx hb dX10_sell_12 (by decide) ?_
      subst hQQ
      exact x_ri (σ0 := (fun _ _ => 0, fun _ _ => 0)) X hr hlocks hP hS (Option.some.inj h) dX10_sell_13
def f_10_bill (n : Nat) (σ : St) (a1 : Int32) (a2 : Int32) : Option (Int32 × St) :=
  (f_10_isBelow n σ a1 (σ.1 1 5)).bind fun r1 =>
  if r1.1 = 0 then
    some ((-1), r1.2)
  else
    gd (inb a1 8) <| if a2 = 0 then
      some ((r1.2.1 (36 + a1.toNatClampNeg) 5), r1.2)
    else if a2 = 1 then
      some ((r1.2.1 (36 + a1.toNatClampNeg) 6), r1.2)
    else if a2 = 2 then
      some ((r1.2.1 (36 + a1.toNatClampNeg) 7), r1.2)
    else if a2 = 3 then
      some ((r1.2.1 (36 + a1.toNatClampNeg) 8), r1.2)
    else 
      some ((-1), r1.2)
abbrev rm_10_bill : Room := { frames := 1, cells := 0, slots := 0, locals := 21 }
set_option maxRecDepth 100000 in
set_option maxHeartbeats 4000000 in
theorem k_10_bill (l : Launch) (D : va_G) (cA : Nat → ClassId) (ad : Nat → Nat) (z : ZX) (hj : inj 120 ad) (n : Nat) (σ : St) (a1 : Int32) (a2 : Int32)  {res : Int32 × St} (h : f_10_bill n σ a1 a2 = some res) : MXi l D dX 120 cA ad (EX ad z) yX10_bill wsX10_bill rm_10_bill [.ref (ad 0), .int a1, .int a2] σ res := by
  refine Met.ofW (cc := cX10_bill) (maxL := 4) (ret := (some .int)) (by decide) rfl ?_
  intro p e s m args below meth c s₁ B hml hv
  obtain ⟨hargs, hP, hK, hE⟩ := hv
  have hx := B.exec
  have hb := B.bytes
  have hr := B.returns
  have hts := atoms_spec (ws := wsX10_bill) B.pre
  have hown : s.vm.findClass RX10 = some m.cls := findClass_of_methodNamed B.named
  have hlocks := B.notSynchronized
  have X : Cx p s m args c cX10_bill 4 RX10 wsX10_bill D dX 120 cA ad (EX ad z) := ⟨hx, hb, hml, hown, hts, hK, hj, hE, EX_ok ad z⟩
  have hS : va_S (inA 120 ad) s.heap s.heap [] := va_S.rf
  have hl := lv_entry ([.ref (ad 0), .int a1, .int a2]) (n := 4) (Nat.le_of_ble_eq_true rfl)
  rw [show entryFrame m args 4 = entryFrame m ([.ref (ad 0), .int a1, .int a2] : List Value).toArray 4 by rw [hargs]]
  rw [lg_entry_eq]
  generalize (lg_sl ([.ref (ad 0), .int a1, .int a2]) ++ List.replicate (4 - (lg_sl ([.ref (ad 0), .int a1, .int a2])).length) Slot.unset).toArray = ls at hl ⊢
  have hl : lv_has ls 4 [(0, .ref (ad 0)), (1, .int a1), (2, .int a2)] := hl
  obtain ⟨QQ, hQQ⟩ : ∃ Q, Q = MQ below (va_Qi (fun r u => r = res.1 ∧ u = res.2) (fun u t => va_P D vwCl (ww dX 120 cA ad u) t.heap) (inA 120 ad)) args s 0 0 (inA 120 ad) := ⟨_, rfl⟩
  show W p l e (headSpec wsX10_bill rm_10_bill).room s m args below meth c s.heap [] 0 0 (MQ below (va_Qi (fun r u => r = res.1 ∧ u = res.2) (fun u t => va_P D vwCl (ww dX 120 cA ad u) t.heap) (inA 120 ad)) args s 0 0 (inA 120 ad)) _
  rw [← hQQ]
  have in10 : ∀ w ∈ wsX100, w ∈ wsX10_bill := by decide +kernel
  have in9 : ∀ w ∈ wsX90, w ∈ wsX10_bill := by decide +kernel
  have in4 : ∀ w ∈ wsX40, w ∈ wsX10_bill := by decide +kernel
  have lk10 : Cond.fieldLink RX10 10 "CureTown" "town" "LCureTown$Town;" ∈ wsX10_bill := by decide +kernel
  have lk113 : Cond.fieldLink RX10 113 "CureTown$Town" "guestCount" "I" ∈ wsX10_bill := by decide +kernel
  have lk116 : Cond.fieldLink RX10 116 "CureTown$Town" "guests" "[LCureTown$Guest;" ∈ wsX10_bill := by decide +kernel
  have lk200 : Cond.fieldLink RX10 200 "CureTown$Guest" "nights" "I" ∈ wsX10_bill := by decide +kernel
  have lk203 : Cond.fieldLink RX10 203 "CureTown$Guest" "tax" "I" ∈ wsX10_bill := by decide +kernel
  have lk206 : Cond.fieldLink RX10 206 "CureTown$Guest" "glasses" "I" ∈ wsX10_bill := by decide +kernel
  have lk207 : Cond.fieldLink RX10 207 "CureTown$Guest" "done" "I" ∈ wsX10_bill := by decide +kernel
  unfold f_10_bill at h
  obtain ⟨H, hH⟩ : ∃ H, H = s.heap := ⟨_, rfl⟩
  obtain ⟨locs, hlc⟩ : ∃ q : List Loc, q = [] := ⟨_, rfl⟩
  have hP : va_P D vwCl (ww dX 120 cA ad σ) s.heap := hP
  have hS : va_S (inA 120 ad) s.heap s.heap [] := hS
  rw [← hlc] at hS ⊢
  rw [show W p l e (headSpec wsX10_bill rm_10_bill).room s m args below meth c s.heap locs 0 0 QQ = W p l e (headSpec wsX10_bill rm_10_bill).room s m args below meth c H locs 0 0 QQ by rw [hH]]
  have hS : va_S (inA 120 ad) s.heap H locs := by rw [hH]; exact hS
  have hP : va_P D vwCl (ww dX 120 cA ad σ) H := by rw [hH]; exact hP
  clear hH hlc
  refine lv_iload_n hx hb dX10_bill_0 rfl (lv_at hl 1 rfl) ?_
  refine lv_aload_n hx hb dX10_bill_1 rfl (lv_at hl 0 rfl) ?_
  refine x_gr X hP (j := 0) (by decide) (dX_0) rfl rfl (by decide) in10 lk10 dX10_bill_2 ?_
  refine x_gi X hP (j := 5) (by decide) (dX_1) rfl rfl (by decide) in9 lk113 dX10_bill_5 ?_
  obtain ⟨r1, k2, h⟩ := bd_some h
  refine x_Si (rest := []) X hP hS (k_10_isBelow l D cA ad z hj n σ a1 (σ.1 1 5) k2) 2 gX10_bill_X10_isBelow rfl rfl rfl (by decide +kernel) ⟨Nat.le_of_ble_eq_true rfl, Nat.le_of_ble_eq_true rfl⟩ rfl hl.1 rfl (Nat.le_of_ble_eq_true rfl) dX10_bill_8 ⟨Nat.zero_le _, Nat.zero_le _⟩ (fun H locs hP hS => ?_)
  refine lv_if_ne (tgt := 16) hx hb dX10_bill_11 (by decide) (fun c3 => ?_) (fun c3 => ?_)
  · have h := it_f c3 h
    refine lv_aload_n hx hb dX10_bill_16 rfl (lv_at hl 0 rfl) ?_
    refine x_gr X hP (j := 0) (by decide) (dX_0) rfl rfl (by decide) in10 lk10 dX10_bill_17 ?_
    refine x_gr X hP (j := 2) (by decide) (dX_1) rfl rfl (by decide) in9 lk116 dX10_bill_20 ?_
    refine lv_iload_n hx hb dX10_bill_23 rfl (lv_at hl 1 rfl) ?_
    obtain ⟨g4, h⟩ := gd_some h
    refine x_ar X hP (by decide) (dX_4) g4 dX10_bill_24 ?_
    refine lv_astore_n (lv' := [(3, .ref (ad (36 + a1.toNatClampNeg))), (0, .ref (ad 0)), (1, .int a1), (2, .int a2)]) hx hb dX10_bill_25 rfl hl (by decide) rfl (fun ls hl => ?_)
    refine lv_iload_n hx hb dX10_bill_26 rfl (lv_at hl 3 rfl) ?_
    by_cases c5 : a2 = 0
    · have h := it_t c5 h
      refine lv_tableIn (off := 29) (tgt := 56) hx hb dX10_bill_27 (by rw [c5]; decide) (by rw [c5]; decide) (by rw [c5]; rfl) (by decide) ?_
      refine lv_aload_n hx hb dX10_bill_56 rfl (lv_at hl 0 rfl) ?_
      refine x_gi X hP (j := 5) (fam_lt (inb_lt g4) (by decide)) (dX_36 (inb_lt g4)) rfl rfl (by decide) in4 lk200 dX10_bill_57 ?_
      subst hQQ
      exact x_ri (σ0 := (fun _ _ => 0, fun _ _ => 0)) X hr hlocks hP hS (Option.some.inj h) dX10_bill_60
    · have h := it_f c5 h
      by_cases c6 : a2 = 1
      · have h := it_t c6 h
        refine lv_tableIn (off := 34) (tgt := 61) hx hb dX10_bill_27 (by rw [c6]; decide) (by rw [c6]; decide) (by rw [c6]; rfl) (by decide) ?_
        refine lv_aload_n hx hb dX10_bill_61 rfl (lv_at hl 0 rfl) ?_
        refine x_gi X hP (j := 6) (fam_lt (inb_lt g4) (by decide)) (dX_36 (inb_lt g4)) rfl rfl (by decide) in4 lk203 dX10_bill_62 ?_
        subst hQQ
        exact x_ri (σ0 := (fun _ _ => 0, fun _ _ => 0)) X hr hlocks hP hS (Option.some.inj h) dX10_bill_65
      · have h := it_f c6 h
        by_cases c7 : a2 = 2
        · have h := it_t c7 h
          refine lv_tableIn (off := 39) (tgt := 66) hx hb dX10_bill_27 (by rw [c7]; decide) (by rw [c7]; decide) (by rw [c7]; rfl) (by decide) ?_
          refine lv_aload_n hx hb dX10_bill_66 rfl (lv_at hl 0 rfl) ?_
          refine x_gi X hP (j := 7) (fam_lt (inb_lt g4) (by decide)) (dX_36 (inb_lt g4)) rfl rfl (by decide) in4 lk206 dX10_bill_67 ?_
          subst hQQ
          exact x_ri (σ0 := (fun _ _ => 0, fun _ _ => 0)) X hr hlocks hP hS (Option.some.inj h) dX10_bill_70
        · have h := it_f c7 h
          by_cases c8 : a2 = 3
          · have h := it_t c8 h
            refine lv_tableIn (off := 44) (tgt := 71) hx hb dX10_bill_27 (by rw [c8]; decide) (by rw [c8]; decide) (by rw [c8]; rfl) (by decide) ?_
            refine lv_aload_n hx hb dX10_bill_71 rfl (lv_at hl 0 rfl) ?_
            refine x_gi X hP (j := 8) (fam_lt (inb_lt g4) (by decide)) (dX_36 (inb_lt g4)) rfl rfl (by decide) in4 lk207 dX10_bill_72 ?_
            subst hQQ
            exact x_ri (σ0 := (fun _ _ => 0, fun _ _ => 0)) X hr hlocks hP hS (Option.some.inj h) dX10_bill_75
          · have h := it_f c8 h
            refine lv_tableOut (tgt := 76) hx hb dX10_bill_27 (tb_out 3 (tb_c c8 <| (tb_c c7 <| (tb_c c6 <| (tb_c c5 <| tb_0))))) (by decide) ?_
            refine lv_iconst (v := (-1)) hx hb dX10_bill_76 (by decide) ?_
            subst hQQ
            exact x_ri (σ0 := (fun _ _ => 0, fun _ _ => 0)) X hr hlocks hP hS (Option.some.inj h) dX10_bill_77
  · have h := it_t c3 h
    refine lv_iconst (v := (-1)) hx hb dX10_bill_14 (by decide) ?_
    subst hQQ
    exact x_ri (σ0 := (fun _ _ => 0, fun _ _ => 0)) X hr hlocks hP hS (Option.some.inj h) dX10_bill_15
