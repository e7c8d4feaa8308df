def b_11_next_120 (n : Nat) (a1 : Int32) (a2 : Int32) (t14 : Int32 × Int32 × St) : Option ((Int32 × Int32 × St) ⊕ (Int32 × Int32 × St)) :=
  if 48 ≤ t14.2.1 then
    some (.inr (t14.1, t14.2.1, t14.2.2))
  else
    nm (48 * a1) fun v16 =>
    nm (v16 + t14.2.1) fun v17 =>
    gd (inb v17 192) <| nm (t14.1 + (t14.2.2.1 25 v17.toNatClampNeg)) fun v19 =>
    nm (t14.2.1 + 1) fun v20 =>
    some (.inl (v19, v20, t14.2.2))
def b_11_next_89 (n : Nat)  (t8 : Int32 × St) : Option ((Int32 × St) ⊕ (Int32 × St)) :=
  if 4 ≤ t8.1 then
    some (.inr (t8.1, t8.2))
  else
    gd (inb t8.1 4) <| nm ((t8.2.1 3 t8.1.toNatClampNeg) - (t8.2.1 2 t8.1.toNatClampNeg)) fun v11 =>
    nm ((t8.2.1 1 t8.1.toNatClampNeg) * v11) fun v12 =>
    (lq (b_11_next_120 n t8.1 v12) n (0, 0, t8.2)).bind fun t1021 =>
    nm ((t1021.2.2.1 37 t8.1.toNatClampNeg) + v12) fun v1024 =>
    nm (si t1021.2.2 37 (t8.1.toNatClampNeg) v1024) fun σ1025 =>
    nm ((σ1025.1 38 t8.1.toNatClampNeg) + t1021.1) fun v1026 =>
    nm (si σ1025 38 (t8.1.toNatClampNeg) v1026) fun σ1027 =>
    nm (100 * t8.1) fun v1028 =>
    nm (v1028 + (σ1027.1 0 0)) fun v1029 =>
    nm (v12 - t1021.1) fun v1030 =>
    nm (v1030 / 10) fun v1031 =>
    gd (inb v1029 400) <| nm (si σ1027 36 (v1029.toNatClampNeg) v1031) fun σ1033 =>
    nm (v12 - t1021.1) fun v1034 =>
    nm (v1034 / 10) fun v1035 =>
    nm ((σ1033.1 39 t8.1.toNatClampNeg) + v1035) fun v1036 =>
    nm (si σ1033 39 (t8.1.toNatClampNeg) v1036) fun σ1037 =>
    nm (v12 - t1021.1) fun v1038 =>
    nm (v1038 - v1038 / 10 * 10) fun v1039 =>
    nm ((σ1037.1 40 t8.1.toNatClampNeg) + v1039) fun v1040 =>
    nm (si σ1037 40 (t8.1.toNatClampNeg) v1040) fun σ1041 =>
    nm (t8.1 + 1) fun v1042 =>
    some (.inl (v1042, σ1041))
def b_11_next_226 (n : Nat)  (t2047 : Int32 × St) : Option ((Int32 × St) ⊕ (Int32 × St)) :=
  if (t2047.2.1 0 1) ≤ t2047.1 then
    some (.inr (t2047.1, t2047.2))
  else
    (f_11_isHere n t2047.2 t2047.1 (t2047.2.1 0 0)).bind fun r2049 =>
    if r2049.1 = 0 then
      nm (t2047.1 + 1) fun v2063 =>
      some (.inl (v2063, r2049.2))
    else
      gd (inb t2047.1 8) <| nm ((r2049.2.1 21 t2047.1.toNatClampNeg) + 1) fun v2053 =>
      nm (si r2049.2 21 (t2047.1.toNatClampNeg) v2053) fun σ2054 =>
      gd (inb (σ2054.1 16 t2047.1.toNatClampNeg) 4) <| nm ((σ2054.1 22 t2047.1.toNatClampNeg) + (σ2054.1 6 (σ2054.1 16 t2047.1.toNatClampNeg).toNatClampNeg)) fun v2056 =>
      nm (si σ2054 22 (t2047.1.toNatClampNeg) v2056) fun σ2057 =>
      nm ((σ2057.1 23 t2047.1.toNatClampNeg) + (σ2057.1 29 t2047.1.toNatClampNeg)) fun v2058 =>
      nm (si σ2057 23 (t2047.1.toNatClampNeg) v2058) fun σ2059 =>
      nm ((σ2059.1 24 t2047.1.toNatClampNeg) + (σ2059.1 27 t2047.1.toNatClampNeg)) fun v2060 =>
      nm (si σ2059 24 (t2047.1.toNatClampNeg) v2060) fun σ2061 =>
      nm (t2047.1 + 1) fun v2062 =>
      some (.inl (v2062, σ2061))
def b_11_next_332 (n : Nat)  (t3071 : Int32 × St) : Option ((Int32 × St) ⊕ (Int32 × St)) :=
  if 4 ≤ t3071.1 then
    some (.inr (t3071.1, t3071.2))
  else
    if (t3071.2.1 0 0) < 20 then
      some (.inr (t3071.1, t3071.2))
    else
      nm (100 * t3071.1) fun v3074 =>
      nm (v3074 + (t3071.2.1 0 0)) fun v3075 =>
      nm (v3075 - 20) fun v3076 =>
      gd (inb v3076 400) <| nm ((t3071.2.1 0 60) + (t3071.2.1 36 v3076.toNatClampNeg)) fun v3078 =>
      nm (si t3071.2 0 60 v3078) fun σ3079 =>
      nm (100 * t3071.1) fun v3080 =>
      nm (v3080 + (σ3079.1 0 0)) fun v3081 =>
      nm (v3081 - 20) fun v3082 =>
      gd (inb v3082 400) <| nm (si σ3079 36 (v3082.toNatClampNeg) 0) fun σ3084 =>
      nm (t3071.1 + 1) fun v3085 =>
      some (.inl (v3085, σ3084))
def j_11_next_79 (n : Nat)  (σ : St) : Option (Int32 × St) :=
  (f_11_lays n σ (σ.1 0 0)).bind fun r5 =>
  (lq (b_11_next_89 n ) n (0, r5)).bind fun t2043 =>
  (lq (b_11_next_226 n ) n (0, t2043.2)).bind fun t3064 =>
  nm ((t3064.2.1 0 0) + 1) fun v3067 =>
  nm (si t3064.2 0 0 v3067) fun σ3068 =>
  nm (si σ3068 0 53 0) fun σ3069 =>
  (lq (b_11_next_332 n ) n (0, σ3069)).bind fun t4086 =>
  some ((t4086.2.1 0 0), t4086.2)
def b_11_next_49 (n : Nat)  (t8180 : Int32 × St) : Option ((Int32 × St) ⊕ (Int32 × St)) :=
  (f_11_here n t8180.2 (t8180.2.1 0 0)).bind fun r8181 =>
  if r8181.1 ≤ t8180.1 then
    some (.inr (t8180.1, r8181.2))
  else
    gd (inb t8180.1 8) <| nm (si r8181.2 26 (t8180.1.toNatClampNeg) (r8181.2.1 35 t8180.1.toNatClampNeg)) fun σ8185 =>
    nm (t8180.1 + 1) fun v8186 =>
    some (.inl (v8186, σ8185))
def f_11_next (n : Nat) (σ : St)  : Option (Int32 × St) :=
  if (σ.1 0 0) = 99 then
    some ((-1), σ)
  else
    (f_11_ranks n σ (σ.1 0 0)).bind fun r2 =>
    if (r2.1 0 53) = 0 then
      j_11_next_79 n   r2
    else
      (f_11_here n r2 (r2.1 0 0)).bind fun r8174 =>
      if 6 < r8174.1 then
        j_11_next_79 n   r8174.2
      else
        (f_11_finds n r8174.2 (r8174.2.1 0 0)).bind fun r8177 =>
        (lq (b_11_next_49 n ) n (0, r8177)).bind fun t9187 =>
        j_11_next_79 n   t9187.2
abbrev rm_11_next : Room := { frames := 5, cells := 0, slots := 0, locals := 128 }
set_option maxRecDepth 100000 in
set_option maxHeartbeats 4000000 in
theorem k_11_next (l : Launch) (D : va_G) (cA : Nat → ClassId) (ad : Nat → Nat) (hj : inj 41 ad) (n : Nat) (σ : St)   {res : Int32 × St} (h : f_11_next n σ  = some res) : MXi l D dM 41 cA ad ET yX11_next wsX11_next rm_11_next [.ref (ad 0)] σ res := by
  refine Met.ofW (cc := cX11_next) (maxL := 5) (ret := (some .int)) (by decide) rfl ?_
  intro p e s m args below meth c s₁ B hml hv
  obtain ⟨hargs, hP, hK, hE⟩ := hv
  have hx := B.exec
  have hb := B.bytes
  have hr := B.returns
  have hts := atoms_spec (ws := wsX11_next) B.pre
  have hown : s.vm.findClass RX11 = some m.cls := findClass_of_methodNamed B.named
  have hlocks := B.notSynchronized
  have X : Cx p s m args c cX11_next 5 RX11 wsX11_next D dM 41 cA ad ET := ⟨hx, hb, hml, hown, hts, hK, hj, hE, ET_ok⟩
  have hS : va_S (inA 41 ad) s.heap s.heap [] := va_S.rf
  have hl := lv_entry ([.ref (ad 0)]) (n := 5) (Nat.le_of_ble_eq_true rfl)
  rw [show entryFrame m args 5 = entryFrame m ([.ref (ad 0)] : List Value).toArray 5 by rw [hargs]]
  rw [lg_entry_eq]
  generalize (lg_sl ([.ref (ad 0)]) ++ List.replicate (5 - (lg_sl ([.ref (ad 0)])).length) Slot.unset).toArray = ls at hl ⊢
  have hl : lv_has ls 5 [(0, .ref (ad 0))] := hl
  obtain ⟨QQ, hQQ⟩ : ∃ Q, Q = MQ below (va_Qi (fun r u => r = res.1 ∧ u = res.2) (fun u t => va_P D vwCl (ww dM 41 cA ad u) t.heap) (inA 41 ad)) args s 0 0 (inA 41 ad) := ⟨_, rfl⟩
  show W p l e (headSpec wsX11_next rm_11_next).room s m args below meth c s.heap [] 0 0 (MQ below (va_Qi (fun r u => r = res.1 ∧ u = res.2) (fun u t => va_P D vwCl (ww dM 41 cA ad u) t.heap) (inA 41 ad)) args s 0 0 (inA 41 ad)) _
  rw [← hQQ]
  have in11 : ∀ w ∈ wsX110, w ∈ wsX11_next := by decide +kernel
  have lk230 : Cond.fieldLink RX11 230 "CureTownModel" "day" "I" ∈ wsX11_next := by decide +kernel
  have lk291 : Cond.fieldLink RX11 291 "CureTownModel" "isBest" "Z" ∈ wsX11_next := by decide +kernel
  have lk7 : Cond.fieldLink RX11 7 "CureTownModel" "gives" "[I" ∈ wsX11_next := by decide +kernel
  have lk16 : Cond.fieldLink RX11 16 "CureTownModel" "ends" "[I" ∈ wsX11_next := by decide +kernel
  have lk13 : Cond.fieldLink RX11 13 "CureTownModel" "begins" "[I" ∈ wsX11_next := by decide +kernel
  have lk88 : Cond.fieldLink RX11 88 "CureTownModel" "taken" "[I" ∈ wsX11_next := by decide +kernel
  have lk124 : Cond.fieldLink RX11 124 "CureTownModel" "given" "[I" ∈ wsX11_next := by decide +kernel
  have lk127 : Cond.fieldLink RX11 127 "CureTownModel" "drawn" "[I" ∈ wsX11_next := by decide +kernel
  have lk121 : Cond.fieldLink RX11 121 "CureTownModel" "bottles" "[I" ∈ wsX11_next := by decide +kernel
  have lk130 : Cond.fieldLink RX11 130 "CureTownModel" "filled" "[I" ∈ wsX11_next := by decide +kernel
  have lk133 : Cond.fieldLink RX11 133 "CureTownModel" "off" "[I" ∈ wsX11_next := by decide +kernel
  have lk233 : Cond.fieldLink RX11 233 "CureTownModel" "guests" "I" ∈ wsX11_next := by decide +kernel
  have lk76 : Cond.fieldLink RX11 76 "CureTownModel" "nights" "[I" ∈ wsX11_next := by decide +kernel
  have lk79 : Cond.fieldLink RX11 79 "CureTownModel" "tax" "[I" ∈ wsX11_next := by decide +kernel
  have lk25 : Cond.fieldLink RX11 25 "CureTownModel" "rate" "[I" ∈ wsX11_next := by decide +kernel
  have lk61 : Cond.fieldLink RX11 61 "CureTownModel" "rank" "[I" ∈ wsX11_next := by decide +kernel
  have lk82 : Cond.fieldLink RX11 82 "CureTownModel" "drunk" "[I" ∈ wsX11_next := by decide +kernel
  have lk100 : Cond.fieldLink RX11 100 "CureTownModel" "glasses" "[I" ∈ wsX11_next := by decide +kernel
  have lk85 : Cond.fieldLink RX11 85 "CureTownModel" "did" "[I" ∈ wsX11_next := by decide +kernel
  have lk94 : Cond.fieldLink RX11 94 "CureTownModel" "done" "[I" ∈ wsX11_next := by decide +kernel
  have lk295 : Cond.fieldLink RX11 295 "CureTownModel" "poured" "I" ∈ wsX11_next := by decide +kernel
  have lk91 : Cond.fieldLink RX11 91 "CureTownModel" "order" "[I" ∈ wsX11_next := by decide +kernel
  have lk118 : Cond.fieldLink RX11 118 "CureTownModel" "bestOrder" "[I" ∈ wsX11_next := by decide +kernel
  unfold f_11_next at h
  obtain ⟨H, hH⟩ : ∃ H, H = s.heap := ⟨_, rfl⟩
  obtain ⟨locs, hlc⟩ : ∃ q : List Loc, q = [] := ⟨_, rfl⟩
  have hP : va_P D vwCl (ww dM 41 cA ad σ) s.heap := hP
  have hS : va_S (inA 41 ad) s.heap s.heap [] := hS
  rw [← hlc] at hS ⊢
  rw [show W p l e (headSpec wsX11_next rm_11_next).room s m args below meth c s.heap locs 0 0 QQ = W p l e (headSpec wsX11_next rm_11_next).room s m args below meth c H locs 0 0 QQ by rw [hH]]
  have hS : va_S (inA 41 ad) s.heap H locs := by rw [hH]; exact hS
  have hP : va_P D vwCl (ww dM 41 cA ad σ) H := by rw [hH]; exact hP
  clear hH hlc
  refine lv_aload_n hx hb dX11_next_0 rfl (lv_at hl 0 rfl) ?_
  refine x_gi X hP (j := 0) (by decide) (dM_0) rfl rfl (by decide) in11 lk230 dX11_next_1 ?_
  refine lv_bipush (v := 99) hx hb dX11_next_4 (by decide) ?_
  refine lv_icmp_ne (tgt := 11) hx hb dX11_next_6 (by decide) (fun c1 => ?_) (fun c1 => ?_)
  · have h := it_f c1 h
    refine lv_aload_n hx hb dX11_next_11 rfl (lv_at hl 0 rfl) ?_
    refine lv_aload_n hx hb dX11_next_12 rfl (lv_at hl 0 rfl) ?_
    refine x_gi X hP (j := 0) (by decide) (dM_0) rfl rfl (by decide) in11 lk230 dX11_next_13 ?_
    obtain ⟨r2, k3, h⟩ := bd_some h
    refine x_Vv (rest := []) X hP hS (k_11_ranks l D cA ad hj n σ (σ.1 0 0) k3) (by decide) (dM_0) rfl 1 gX11_next_X11_ranks rfl rfl rfl (by decide +kernel) ⟨Nat.le_of_ble_eq_true rfl, Nat.le_of_ble_eq_true rfl⟩ rfl hl.1 rfl (Nat.le_of_ble_eq_true rfl) dX11_next_16 ⟨Nat.zero_le _, Nat.zero_le _⟩ (fun H locs hP hS => ?_)
    refine lv_aload_n hx hb dX11_next_19 rfl (lv_at hl 0 rfl) ?_
    refine x_gi X hP (j := 53) (by decide) (dM_0) rfl rfl (by decide) in11 lk291 dX11_next_20 ?_
    have hJ79 : ∀ (σ4 : St), j_11_next_79 n  σ4 = some res → ∀ (H : Heap) (locs : List Loc) (ls : Array Slot), va_P D vwCl (ww dM 41 cA ad σ4) H → va_S (inA 41 ad) s.heap H locs → lv_has ls 5 [(0, .ref (ad 0))] → W p l e (headSpec wsX11_next rm_11_next).room s m args below meth c H locs 0 0 QQ (F0 m 79 ls []) := by
      clear h hP hS hl
      intro  σ4 h H locs ls hP hS hl
      unfold j_11_next_79 at h
      refine lv_aload_n hx hb dX11_next_79 rfl (lv_at hl 0 rfl) ?_
      refine lv_aload_n hx hb dX11_next_80 rfl (lv_at hl 0 rfl) ?_
      refine x_gi X hP (j := 0) (by decide) (dM_0) rfl rfl (by decide) in11 lk230 dX11_next_81 ?_
      obtain ⟨r4089, k4090, h⟩ := bd_some h
      refine x_Vv (rest := []) X hP hS (k_11_lays l D cA ad hj n σ4 (σ4.1 0 0) k4090) (by decide) (dM_0) rfl 1 gX11_next_X11_lays rfl rfl rfl (by decide +kernel) ⟨Nat.le_of_ble_eq_true rfl, Nat.le_of_ble_eq_true rfl⟩ rfl hl.1 rfl (Nat.le_of_ble_eq_true rfl) dX11_next_84 ⟨Nat.zero_le _, Nat.zero_le _⟩ (fun H locs hP hS => ?_)
      refine lv_iconst (v := 0) hx hb dX11_next_87 (by decide) ?_
      refine lv_istore_n (lv' := [(1, .int 0), (0, .ref (ad 0))]) hx hb dX11_next_88 rfl hl (by decide) rfl (fun ls hl => ?_)
      obtain ⟨t6127, o6129, h⟩ := bd_some h
      refine lq_rule (P := fun t4092 : Int32 × St => ∀ (H : Heap) (locs : List Loc) (ls : Array Slot), va_P D vwCl (ww dM 41 cA ad t4092.2) H → va_S (inA 41 ad) s.heap H locs → lv_has ls 5 [(0, .ref (ad 0)), (1, .int t4092.1)] → W p l e (headSpec wsX11_next rm_11_next).room s m args below meth c H locs 0 0 QQ (F0 m 89 ls [])) (X := fun t6127 : Int32 × St => ∀ (H : Heap) (locs : List Loc) (ls : Array Slot), va_P D vwCl (ww dM 41 cA ad t6127.2) H → va_S (inA 41 ad) s.heap H locs → lv_has ls 5 [(0, .ref (ad 0)), (1, .int t6127.1)] → W p l e (headSpec wsX11_next rm_11_next).room s m args below meth c H locs 0 0 QQ (F0 m 224 ls [])) ?_ n _ _ o6129 ?_ H locs ls hP hS (lv_sub hl [1, 0] rfl)
      · clear h hP hS hl
        intro t4092 rL4091 h hCL4091 hEL4091 H locs ls hP hS hl
        unfold b_11_next_89 at h
        refine lv_iload_n hx hb dX11_next_89 rfl (lv_at hl 1 rfl) ?_
        refine lv_iconst (v := 4) hx hb dX11_next_90 (by decide) ?_
        refine lv_icmp_ge (tgt := 224) hx hb dX11_next_91 (by decide) (fun c4093 => ?_) (fun c4093 => ?_)
        · have h := it_t c4093 h
          exact hEL4091 _ (Option.some.inj h).symm H locs ls hP hS (lv_sub hl [0, 1] rfl)
        · have h := it_f c4093 h
          refine lv_aload_n hx hb dX11_next_94 rfl (lv_at hl 0 rfl) ?_
          refine x_gr X hP (j := 3) (by decide) (dM_0) rfl rfl (by decide) in11 lk7 dX11_next_95 ?_
          refine lv_iload_n hx hb dX11_next_98 rfl (lv_at hl 1 rfl) ?_
          obtain ⟨g4094, h⟩ := gd_some h
          refine x_ai X hP (by decide) (dM_1) g4094 dX11_next_99 ?_
          refine lv_aload_n hx hb dX11_next_100 rfl (lv_at hl 0 rfl) ?_
          refine x_gr X hP (j := 5) (by decide) (dM_0) rfl rfl (by decide) in11 lk16 dX11_next_101 ?_
          refine lv_iload_n hx hb dX11_next_104 rfl (lv_at hl 1 rfl) ?_
          refine x_ai X hP (by decide) (dM_3) g4094 dX11_next_105 ?_
          refine lv_aload_n hx hb dX11_next_106 rfl (lv_at hl 0 rfl) ?_
          refine x_gr X hP (j := 4) (by decide) (dM_0) rfl rfl (by decide) in11 lk13 dX11_next_107 ?_
          refine lv_iload_n hx hb dX11_next_110 rfl (lv_at hl 1 rfl) ?_
          refine x_ai X hP (by decide) (dM_2) g4094 dX11_next_111 ?_
          refine lv_isub hx hb dX11_next_112 ?_
          refine lv_topi (fun v4095 ev4095 => ?_)
          have h := nm_some ev4095 h
          refine lv_imul hx hb dX11_next_113 ?_
          refine lv_topi (fun v4096 ev4096 => ?_)
          have h := nm_some ev4096 h
          refine lv_istore_n (lv' := [(2, .int v4096), (0, .ref (ad 0)), (1, .int t4092.1)]) hx hb dX11_next_114 rfl hl (by decide) rfl (fun ls hl => ?_)
          refine lv_iconst (v := 0) hx hb dX11_next_115 (by decide) ?_
          refine lv_istore_n (lv' := [(3, .int 0), (2, .int v4096), (0, .ref (ad 0)), (1, .int t4092.1)]) hx hb dX11_next_116 rfl hl (by decide) rfl (fun ls hl => ?_)
          refine lv_iconst (v := 0) hx hb dX11_next_117 (by decide) ?_
          refine lv_istore (lv' := [(4, .int 0), (3, .int 0), (2, .int v4096), (0, .ref (ad 0)), (1, .int t4092.1)]) hx hb dX11_next_118 hl (by decide) rfl (fun ls hl => ?_)
          obtain ⟨t5105, o5107, h⟩ := bd_some h
          refine lq_rule (P := fun t4098 : Int32 × Int32 × St => ∀ (H : Heap) (locs : List Loc) (ls : Array Slot), va_P D vwCl (ww dM 41 cA ad t4098.2.2) H → va_S (inA 41 ad) s.heap H locs → lv_has ls 5 [(0, .ref (ad 0)), (1, .int t4092.1), (2, .int v4096), (3, .int t4098.1), (4, .int t4098.2.1)] → W p l e (headSpec wsX11_next rm_11_next).room s m args below meth c H locs 0 0 QQ (F0 m 120 ls [])) (X := fun t5105 : Int32 × Int32 × St => ∀ (H : Heap) (locs : List Loc) (ls : Array Slot), va_P D vwCl (ww dM 41 cA ad t5105.2.2) H → va_S (inA 41 ad) s.heap H locs → lv_has ls 5 [(0, .ref (ad 0)), (1, .int t4092.1), (2, .int v4096), (3, .int t5105.1), (4, .int t5105.2.1)] → W p l e (headSpec wsX11_next rm_11_next).room s m args below meth c H locs 0 0 QQ (F0 m 148 ls [])) ?_ n _ _ o5107 ?_ H locs ls hP hS (lv_sub hl [3, 4, 2, 1, 0] rfl)
          · clear h hP hS hl
            intro t4098 rL4097 h hCL4097 hEL4097 H locs ls hP hS hl
            unfold b_11_next_120 at h
            refine lv_iload hx hb dX11_next_120 (lv_at hl 4 rfl) ?_
            refine lv_bipush (v := 48) hx hb dX11_next_122 (by decide) ?_
            refine lv_icmp_ge (tgt := 148) hx hb dX11_next_124 (by decide) (fun c4099 => ?_) (fun c4099 => ?_)
            · have h := it_t c4099 h
              exact hEL4097 _ (Option.some.inj h).symm H locs ls hP hS (lv_sub hl [0, 1, 2, 3, 4] rfl)
            · have h := it_f c4099 h
              refine lv_iload_n hx hb dX11_next_127 rfl (lv_at hl 3 rfl) ?_
              refine lv_aload_n hx hb dX11_next_128 rfl (lv_at hl 0 rfl) ?_
              refine x_gr X hP (j := 39) (by decide) (dM_0) rfl rfl (by decide) in11 lk88 dX11_next_129 ?_
              refine lv_bipush (v := 48) hx hb dX11_next_132 (by decide) ?_
              refine lv_iload_n hx hb dX11_next_134 rfl (lv_at hl 1 rfl) ?_
              refine lv_imul hx hb dX11_next_135 ?_
              refine lv_topi (fun v4100 ev4100 => ?_)
              have h := nm_some ev4100 h
              refine lv_iload hx hb dX11_next_136 (lv_at hl 4 rfl) ?_
              refine lv_iadd hx hb dX11_next_138 ?_
              refine lv_topi (fun v4101 ev4101 => ?_)
              have h := nm_some ev4101 h
              obtain ⟨g4102, h⟩ := gd_some h
              refine x_ai X hP (by decide) (dM_25) g4102 dX11_next_139 ?_
              refine lv_iadd hx hb dX11_next_140 ?_
              refine lv_topi (fun v4103 ev4103 => ?_)
              have h := nm_some ev4103 h
              refine lv_istore_n (lv' := [(3, .int v4103), (0, .ref (ad 0)), (1, .int t4092.1), (2, .int v4096), (4, .int t4098.2.1)]) hx hb dX11_next_141 rfl hl (by decide) rfl (fun ls hl => ?_)
              obtain ⟨v4104, ev4104⟩ : ∃ y : Int32, y = t4098.2.1 + 1 := ⟨_, rfl⟩
              have h := nm_some ev4104 h
              refine lv_iinc (v := v4104) (lv' := [(4, .int v4104), (3, .int v4103), (0, .ref (ad 0)), (1, .int t4092.1), (2, .int v4096)]) hx hb dX11_next_142 hl (k := 4) rfl (by rw [ev4104]; rfl) (by decide) rfl (fun ls hl => ?_)
              refine lv_goto (tgt := 120) hx hb dX11_next_145 (by decide) ?_
              exact hCL4097 _ (Option.some.inj h).symm H locs ls hP hS (lv_sub hl [2, 3, 4, 1, 0] rfl)
          · intro H locs ls hP hS hl
            refine lv_aload_n hx hb dX11_next_148 rfl (lv_at hl 0 rfl) ?_
            refine x_gr X hP (j := 55) (by decide) (dM_0) rfl rfl (by decide) in11 lk124 dX11_next_149 ?_
            refine lv_iload_n hx hb dX11_next_152 rfl (lv_at hl 1 rfl) ?_
            refine lv_dup2_11 hx hb dX11_next_153 rfl rfl ?_
            refine x_ai X hP (by decide) (dM_37) g4094 dX11_next_154 ?_
            refine lv_iload_n hx hb dX11_next_155 rfl (lv_at hl 2 rfl) ?_
            refine lv_iadd hx hb dX11_next_156 ?_
            refine lv_topi (fun v5108 ev5108 => ?_)
            have h := nm_some ev5108 h
            refine x_si X hP hS (by decide) (dM_37) g4094 dX11_next_157 (fun σ5109 eσ5109 H locs hP hS => ?_)
            have h := nm_some eσ5109 h
            refine lv_aload_n hx hb dX11_next_158 rfl (lv_at hl 0 rfl) ?_
            refine x_gr X hP (j := 56) (by decide) (dM_0) rfl rfl (by decide) in11 lk127 dX11_next_159 ?_
            refine lv_iload_n hx hb dX11_next_162 rfl (lv_at hl 1 rfl) ?_
            refine lv_dup2_11 hx hb dX11_next_163 rfl rfl ?_
            refine x_ai X hP (by decide) (dM_38) g4094 dX11_next_164 ?_
            refine lv_iload_n hx hb dX11_next_165 rfl (lv_at hl 3 rfl) ?_
            refine lv_iadd hx hb dX11_next_166 ?_
            refine lv_topi (fun v5110 ev5110 => ?_)
            have h := nm_some ev5110 h
            refine x_si X hP hS (by decide) (dM_38) g4094 dX11_next_167 (fun σ5111 eσ5111 H locs hP hS => ?_)
            have h := nm_some eσ5111 h
            refine lv_aload_n hx hb dX11_next_168 rfl (lv_at hl 0 rfl) ?_
            refine x_gr X hP (j := 54) (by decide) (dM_0) rfl rfl (by decide) in11 lk121 dX11_next_169 ?_
            refine lv_bipush (v := 100) hx hb dX11_next_172 (by decide) ?_
            refine lv_iload_n hx hb dX11_next_174 rfl (lv_at hl 1 rfl) ?_
            refine lv_imul hx hb dX11_next_175 ?_
            refine lv_topi (fun v5112 ev5112 => ?_)
            have h := nm_some ev5112 h
            refine lv_aload_n hx hb dX11_next_176 rfl (lv_at hl 0 rfl) ?_
            refine x_gi X hP (j := 0) (by decide) (dM_0) rfl rfl (by decide) in11 lk230 dX11_next_177 ?_
            refine lv_iadd hx hb dX11_next_180 ?_
            refine lv_topi (fun v5113 ev5113 => ?_)
            have h := nm_some ev5113 h
            refine lv_iload_n hx hb dX11_next_181 rfl (lv_at hl 2 rfl) ?_
            refine lv_iload_n hx hb dX11_next_182 rfl (lv_at hl 3 rfl) ?_
            refine lv_isub hx hb dX11_next_183 ?_
            refine lv_topi (fun v5114 ev5114 => ?_)
            have h := nm_some ev5114 h
            refine lv_bipush (v := 10) hx hb dX11_next_184 (by decide) ?_
            refine lv_idiv hx hb dX11_next_186 (by decide) ?_
            refine lv_topi (fun v5115 ev5115 => ?_)
            have h := nm_some ev5115 h
            obtain ⟨g5116, h⟩ := gd_some h
            refine x_si X hP hS (by decide) (dM_36) g5116 dX11_next_187 (fun σ5117 eσ5117 H locs hP hS => ?_)
            have h := nm_some eσ5117 h
            refine lv_aload_n hx hb dX11_next_188 rfl (lv_at hl 0 rfl) ?_
            refine x_gr X hP (j := 57) (by decide) (dM_0) rfl rfl (by decide) in11 lk130 dX11_next_189 ?_
            refine lv_iload_n hx hb dX11_next_192 rfl (lv_at hl 1 rfl) ?_
            refine lv_dup2_11 hx hb dX11_next_193 rfl rfl ?_
            refine x_ai X hP (by decide) (dM_39) g4094 dX11_next_194 ?_
            refine lv_iload_n hx hb dX11_next_195 rfl (lv_at hl 2 rfl) ?_
            refine lv_iload_n hx hb dX11_next_196 rfl (lv_at hl 3 rfl) ?_
            refine lv_isub hx hb dX11_next_197 ?_
            refine lv_topi (fun v5118 ev5118 => ?_)
            have h := nm_some ev5118 h
            refine lv_bipush (v := 10) hx hb dX11_next_198 (by decide) ?_
            refine lv_idiv hx hb dX11_next_200 (by decide) ?_
            refine lv_topi (fun v5119 ev5119 => ?_)
            have h := nm_some ev5119 h
            refine lv_iadd hx hb dX11_next_201 ?_
            refine lv_topi (fun v5120 ev5120 => ?_)
            have h := nm_some ev5120 h
            refine x_si X hP hS (by decide) (dM_39) g4094 dX11_next_202 (fun σ5121 eσ5121 H locs hP hS => ?_)
            have h := nm_some eσ5121 h
            refine lv_aload_n hx hb dX11_next_203 rfl (lv_at hl 0 rfl) ?_
            refine x_gr X hP (j := 58) (by decide) (dM_0) rfl rfl (by decide) in11 lk133 dX11_next_204 ?_
            refine lv_iload_n hx hb dX11_next_207 rfl (lv_at hl 1 rfl) ?_
            refine lv_dup2_11 hx hb dX11_next_208 rfl rfl ?_
            refine x_ai X hP (by decide) (dM_40) g4094 dX11_next_209 ?_
            refine lv_iload_n hx hb dX11_next_210 rfl (lv_at hl 2 rfl) ?_
            refine lv_iload_n hx hb dX11_next_211 rfl (lv_at hl 3 rfl) ?_
            refine lv_isub hx hb dX11_next_212 ?_
            refine lv_topi (fun v5122 ev5122 => ?_)
            have h := nm_some ev5122 h
            refine lv_bipush (v := 10) hx hb dX11_next_213 (by decide) ?_
            refine lv_irem hx hb dX11_next_215 (by decide) ?_
            refine lv_topi (fun v5123 ev5123 => ?_)
            have h := nm_some ev5123 h
            refine lv_iadd hx hb dX11_next_216 ?_
            refine lv_topi (fun v5124 ev5124 => ?_)
            have h := nm_some ev5124 h
            refine x_si X hP hS (by decide) (dM_40) g4094 dX11_next_217 (fun σ5125 eσ5125 H locs hP hS => ?_)
            have h := nm_some eσ5125 h
            obtain ⟨v5126, ev5126⟩ : ∃ y : Int32, y = t4092.1 + 1 := ⟨_, rfl⟩
            have h := nm_some ev5126 h
            refine lv_iinc (v := v5126) (lv' := [(1, .int v5126), (0, .ref (ad 0)), (2, .int v4096), (3, .int t5105.1), (4, .int t5105.2.1)]) hx hb dX11_next_218 hl (k := 1) rfl (by rw [ev5126]; rfl) (by decide) rfl (fun ls hl => ?_)
            refine lv_goto (tgt := 89) hx hb dX11_next_221 (by decide) ?_
            exact hCL4091 _ (Option.some.inj h).symm H locs ls hP hS (lv_sub hl [1, 0] rfl)
      · intro H locs ls hP hS hl
        refine lv_iconst (v := 0) hx hb dX11_next_224 (by decide) ?_
        refine lv_istore_n (lv' := [(1, .int 0), (0, .ref (ad 0))]) hx hb dX11_next_225 rfl hl (by decide) rfl (fun ls hl => ?_)
        obtain ⟨t7148, o7150, h⟩ := bd_some h
        refine lq_rule (P := fun t6131 : Int32 × St => ∀ (H : Heap) (locs : List Loc) (ls : Array Slot), va_P D vwCl (ww dM 41 cA ad t6131.2) H → va_S (inA 41 ad) s.heap H locs → lv_has ls 5 [(0, .ref (ad 0)), (1, .int t6131.1)] → W p l e (headSpec wsX11_next rm_11_next).room s m args below meth c H locs 0 0 QQ (F0 m 226 ls [])) (X := fun t7148 : Int32 × St => ∀ (H : Heap) (locs : List Loc) (ls : Array Slot), va_P D vwCl (ww dM 41 cA ad t7148.2) H → va_S (inA 41 ad) s.heap H locs → lv_has ls 5 [(0, .ref (ad 0)), (1, .int t7148.1)] → W p l e (headSpec wsX11_next rm_11_next).room s m args below meth c H locs 0 0 QQ (F0 m 315 ls [])) ?_ n _ _ o7150 ?_ H locs ls hP hS (lv_sub hl [1, 0] rfl)
        · clear h hP hS hl
          intro t6131 rL6130 h hCL6130 hEL6130 H locs ls hP hS hl
          unfold b_11_next_226 at h
          refine lv_iload_n hx hb dX11_next_226 rfl (lv_at hl 1 rfl) ?_
          refine lv_aload_n hx hb dX11_next_227 rfl (lv_at hl 0 rfl) ?_
          refine x_gi X hP (j := 1) (by decide) (dM_0) rfl rfl (by decide) in11 lk233 dX11_next_228 ?_
          refine lv_icmp_ge (tgt := 315) hx hb dX11_next_231 (by decide) (fun c6132 => ?_) (fun c6132 => ?_)
          · have h := it_t c6132 h
            exact hEL6130 _ (Option.some.inj h).symm H locs ls hP hS (lv_sub hl [0, 1] rfl)
          · have h := it_f c6132 h
            refine lv_aload_n hx hb dX11_next_234 rfl (lv_at hl 0 rfl) ?_
            refine lv_iload_n hx hb dX11_next_235 rfl (lv_at hl 1 rfl) ?_
            refine lv_aload_n hx hb dX11_next_236 rfl (lv_at hl 0 rfl) ?_
            refine x_gi X hP (j := 0) (by decide) (dM_0) rfl rfl (by decide) in11 lk230 dX11_next_237 ?_
            obtain ⟨r6133, k6134, h⟩ := bd_some h
            refine x_Vi (rest := []) X hP hS (k_11_isHere l D cA ad hj n t6131.2 t6131.1 (t6131.2.1 0 0) k6134) (by decide) (dM_0) rfl 2 gX11_next_X11_isHere rfl rfl rfl (by decide +kernel) ⟨Nat.le_of_ble_eq_true rfl, Nat.le_of_ble_eq_true rfl⟩ rfl hl.1 rfl (Nat.le_of_ble_eq_true rfl) dX11_next_240 ⟨Nat.zero_le _, Nat.zero_le _⟩ (fun H locs hP hS => ?_)
            refine lv_if_ne (tgt := 249) hx hb dX11_next_243 (by decide) (fun c6135 => ?_) (fun c6135 => ?_)
            · have h := it_f c6135 h
              refine lv_aload_n hx hb dX11_next_249 rfl (lv_at hl 0 rfl) ?_
              refine x_gr X hP (j := 35) (by decide) (dM_0) rfl rfl (by decide) in11 lk76 dX11_next_250 ?_
              refine lv_iload_n hx hb dX11_next_253 rfl (lv_at hl 1 rfl) ?_
              refine lv_dup2_11 hx hb dX11_next_254 rfl rfl ?_
              obtain ⟨g6136, h⟩ := gd_some h
              refine x_ai X hP (by decide) (dM_21) g6136 dX11_next_255 ?_
              refine lv_iconst (v := 1) hx hb dX11_next_256 (by decide) ?_
              refine lv_iadd hx hb dX11_next_257 ?_
              refine lv_topi (fun v6137 ev6137 => ?_)
              have h := nm_some ev6137 h
              refine x_si X hP hS (by decide) (dM_21) g6136 dX11_next_258 (fun σ6138 eσ6138 H locs hP hS => ?_)
              have h := nm_some eσ6138 h
              refine lv_aload_n hx hb dX11_next_259 rfl (lv_at hl 0 rfl) ?_
              refine x_gr X hP (j := 36) (by decide) (dM_0) rfl rfl (by decide) in11 lk79 dX11_next_260 ?_
              refine lv_iload_n hx hb dX11_next_263 rfl (lv_at hl 1 rfl) ?_
              refine lv_dup2_11 hx hb dX11_next_264 rfl rfl ?_
              refine x_ai X hP (by decide) (dM_22) g6136 dX11_next_265 ?_
              refine lv_aload_n hx hb dX11_next_266 rfl (lv_at hl 0 rfl) ?_
              refine x_gr X hP (j := 8) (by decide) (dM_0) rfl rfl (by decide) in11 lk25 dX11_next_267 ?_
              refine lv_aload_n hx hb dX11_next_270 rfl (lv_at hl 0 rfl) ?_
              refine x_gr X hP (j := 30) (by decide) (dM_0) rfl rfl (by decide) in11 lk61 dX11_next_271 ?_
              refine lv_iload_n hx hb dX11_next_274 rfl (lv_at hl 1 rfl) ?_
              refine x_ai X hP (by decide) (dM_16) g6136 dX11_next_275 ?_
              obtain ⟨g6139, h⟩ := gd_some h
              refine x_ai X hP (by decide) (dM_6) g6139 dX11_next_276 ?_
              refine lv_iadd hx hb dX11_next_277 ?_
              refine lv_topi (fun v6140 ev6140 => ?_)
              have h := nm_some ev6140 h
              refine x_si X hP hS (by decide) (dM_22) g6136 dX11_next_278 (fun σ6141 eσ6141 H locs hP hS => ?_)
              have h := nm_some eσ6141 h
              refine lv_aload_n hx hb dX11_next_279 rfl (lv_at hl 0 rfl) ?_
              refine x_gr X hP (j := 37) (by decide) (dM_0) rfl rfl (by decide) in11 lk82 dX11_next_280 ?_
              refine lv_iload_n hx hb dX11_next_283 rfl (lv_at hl 1 rfl) ?_
              refine lv_dup2_11 hx hb dX11_next_284 rfl rfl ?_
              refine x_ai X hP (by decide) (dM_23) g6136 dX11_next_285 ?_
              refine lv_aload_n hx hb dX11_next_286 rfl (lv_at hl 0 rfl) ?_
              refine x_gr X hP (j := 43) (by decide) (dM_0) rfl rfl (by decide) in11 lk100 dX11_next_287 ?_
              refine lv_iload_n hx hb dX11_next_290 rfl (lv_at hl 1 rfl) ?_
              refine x_ai X hP (by decide) (dM_29) g6136 dX11_next_291 ?_
              refine lv_iadd hx hb dX11_next_292 ?_
              refine lv_topi (fun v6142 ev6142 => ?_)
              have h := nm_some ev6142 h
              refine x_si X hP hS (by decide) (dM_23) g6136 dX11_next_293 (fun σ6143 eσ6143 H locs hP hS => ?_)
              have h := nm_some eσ6143 h
              refine lv_aload_n hx hb dX11_next_294 rfl (lv_at hl 0 rfl) ?_
              refine x_gr X hP (j := 38) (by decide) (dM_0) rfl rfl (by decide) in11 lk85 dX11_next_295 ?_
              refine lv_iload_n hx hb dX11_next_298 rfl (lv_at hl 1 rfl) ?_
              refine lv_dup2_11 hx hb dX11_next_299 rfl rfl ?_
              refine x_ai X hP (by decide) (dM_24) g6136 dX11_next_300 ?_
              refine lv_aload_n hx hb dX11_next_301 rfl (lv_at hl 0 rfl) ?_
              refine x_gr X hP (j := 41) (by decide) (dM_0) rfl rfl (by decide) in11 lk94 dX11_next_302 ?_
              refine lv_iload_n hx hb dX11_next_305 rfl (lv_at hl 1 rfl) ?_
              refine x_ai X hP (by decide) (dM_27) g6136 dX11_next_306 ?_
              refine lv_iadd hx hb dX11_next_307 ?_
              refine lv_topi (fun v6144 ev6144 => ?_)
              have h := nm_some ev6144 h
              refine x_si X hP hS (by decide) (dM_24) g6136 dX11_next_308 (fun σ6145 eσ6145 H locs hP hS => ?_)
              have h := nm_some eσ6145 h
              obtain ⟨v6146, ev6146⟩ : ∃ y : Int32, y = t6131.1 + 1 := ⟨_, rfl⟩
              have h := nm_some ev6146 h
              refine lv_iinc (v := v6146) (lv' := [(1, .int v6146), (0, .ref (ad 0))]) hx hb dX11_next_309 hl (k := 1) rfl (by rw [ev6146]; rfl) (by decide) rfl (fun ls hl => ?_)
              refine lv_goto (tgt := 226) hx hb dX11_next_312 (by decide) ?_
              exact hCL6130 _ (Option.some.inj h).symm H locs ls hP hS (lv_sub hl [1, 0] rfl)
            · have h := it_t c6135 h
              refine lv_goto (tgt := 309) hx hb dX11_next_246 (by decide) ?_
              obtain ⟨v6147, ev6147⟩ : ∃ y : Int32, y = t6131.1 + 1 := ⟨_, rfl⟩
              have h := nm_some ev6147 h
              refine lv_iinc (v := v6147) (lv' := [(1, .int v6147), (0, .ref (ad 0))]) hx hb dX11_next_309 hl (k := 1) rfl (by rw [ev6147]; rfl) (by decide) rfl (fun ls hl => ?_)
              refine lv_goto (tgt := 226) hx hb dX11_next_312 (by decide) ?_
              exact hCL6130 _ (Option.some.inj h).symm H locs ls hP hS (lv_sub hl [1, 0] rfl)
        · intro H locs ls hP hS hl
          refine lv_aload_n hx hb dX11_next_315 rfl (lv_at hl 0 rfl) ?_
          refine lv_dup hx hb dX11_next_316 rfl ?_
          refine x_gi X hP (j := 0) (by decide) (dM_0) rfl rfl (by decide) in11 lk230 dX11_next_317 ?_
          refine lv_iconst (v := 1) hx hb dX11_next_320 (by decide) ?_
          refine lv_iadd hx hb dX11_next_321 ?_
          refine lv_topi (fun v7151 ev7151 => ?_)
          have h := nm_some ev7151 h
          refine x_pi X hP hS (j := 0) (by decide) (dM_0) rfl rfl (by decide) in11 tyX11_ok nmX11 lk230 rfl rfl rfl rfl dX11_next_322 (fun σ7152 eσ7152 H locs hP hS => ?_)
          have h := nm_some eσ7152 h
          refine lv_aload_n hx hb dX11_next_325 rfl (lv_at hl 0 rfl) ?_
          refine lv_iconst (v := 0) hx hb dX11_next_326 (by decide) ?_
          refine x_pi X hP hS (j := 53) (by decide) (dM_0) rfl rfl (by decide) in11 tyX11_ok nmX11 lk291 rfl rfl (by decide +kernel) (by decide +kernel) dX11_next_327 (fun σ7153 eσ7153 H locs hP hS => ?_)
          have h := nm_some eσ7153 h
          refine lv_iconst (v := 0) hx hb dX11_next_330 (by decide) ?_
          refine lv_istore_n (lv' := [(1, .int 0), (0, .ref (ad 0))]) hx hb dX11_next_331 rfl hl (by decide) rfl (fun ls hl => ?_)
          obtain ⟨t8170, o8172, h⟩ := bd_some h
          refine lq_rule (P := fun t7155 : Int32 × St => ∀ (H : Heap) (locs : List Loc) (ls : Array Slot), va_P D vwCl (ww dM 41 cA ad t7155.2) H → va_S (inA 41 ad) s.heap H locs → lv_has ls 5 [(0, .ref (ad 0)), (1, .int t7155.1)] → W p l e (headSpec wsX11_next rm_11_next).room s m args below meth c H locs 0 0 QQ (F0 m 332 ls [])) (X := fun t8170 : Int32 × St => ∀ (H : Heap) (locs : List Loc) (ls : Array Slot), va_P D vwCl (ww dM 41 cA ad t8170.2) H → va_S (inA 41 ad) s.heap H locs → lv_has ls 5 [(0, .ref (ad 0)), (1, .int t8170.1)] → W p l e (headSpec wsX11_next rm_11_next).room s m args below meth c H locs 0 0 QQ (F0 m 396 ls [])) ?_ n _ _ o8172 ?_ H locs ls hP hS (lv_sub hl [1, 0] rfl)
          · clear h hP hS hl
            intro t7155 rL7154 h hCL7154 hEL7154 H locs ls hP hS hl
            unfold b_11_next_332 at h
            refine lv_iload_n hx hb dX11_next_332 rfl (lv_at hl 1 rfl) ?_
            refine lv_iconst (v := 4) hx hb dX11_next_333 (by decide) ?_
            refine lv_icmp_ge (tgt := 396) hx hb dX11_next_334 (by decide) (fun c7156 => ?_) (fun c7156 => ?_)
            · have h := it_t c7156 h
              exact hEL7154 _ (Option.some.inj h).symm H locs ls hP hS (lv_sub hl [0, 1] rfl)
            · have h := it_f c7156 h
              refine lv_aload_n hx hb dX11_next_337 rfl (lv_at hl 0 rfl) ?_
              refine x_gi X hP (j := 0) (by decide) (dM_0) rfl rfl (by decide) in11 lk230 dX11_next_338 ?_
              refine lv_bipush (v := 20) hx hb dX11_next_341 (by decide) ?_
              refine lv_icmp_lt (tgt := 396) hx hb dX11_next_343 (by decide) (fun c7157 => ?_) (fun c7157 => ?_)
              · have h := it_t c7157 h
                exact hEL7154 _ (Option.some.inj h).symm H locs ls hP hS (lv_sub hl [0, 1] rfl)
              · have h := it_f c7157 h
                refine lv_aload_n hx hb dX11_next_346 rfl (lv_at hl 0 rfl) ?_
                refine lv_dup hx hb dX11_next_347 rfl ?_
                refine x_gi X hP (j := 60) (by decide) (dM_0) rfl rfl (by decide) in11 lk295 dX11_next_348 ?_
                refine lv_aload_n hx hb dX11_next_351 rfl (lv_at hl 0 rfl) ?_
                refine x_gr X hP (j := 54) (by decide) (dM_0) rfl rfl (by decide) in11 lk121 dX11_next_352 ?_
                refine lv_bipush (v := 100) hx hb dX11_next_355 (by decide) ?_
                refine lv_iload_n hx hb dX11_next_357 rfl (lv_at hl 1 rfl) ?_
                refine lv_imul hx hb dX11_next_358 ?_
                refine lv_topi (fun v7158 ev7158 => ?_)
                have h := nm_some ev7158 h
                refine lv_aload_n hx hb dX11_next_359 rfl (lv_at hl 0 rfl) ?_
                refine x_gi X hP (j := 0) (by decide) (dM_0) rfl rfl (by decide) in11 lk230 dX11_next_360 ?_
                refine lv_iadd hx hb dX11_next_363 ?_
                refine lv_topi (fun v7159 ev7159 => ?_)
                have h := nm_some ev7159 h
                refine lv_bipush (v := 20) hx hb dX11_next_364 (by decide) ?_
                refine lv_isub hx hb dX11_next_366 ?_
                refine lv_topi (fun v7160 ev7160 => ?_)
                have h := nm_some ev7160 h
                obtain ⟨g7161, h⟩ := gd_some h
                refine x_ai X hP (by decide) (dM_36) g7161 dX11_next_367 ?_
                refine lv_iadd hx hb dX11_next_368 ?_
                refine lv_topi (fun v7162 ev7162 => ?_)
                have h := nm_some ev7162 h
                refine x_pi X hP hS (j := 60) (by decide) (dM_0) rfl rfl (by decide) in11 tyX11_ok nmX11 lk295 rfl rfl rfl rfl dX11_next_369 (fun σ7163 eσ7163 H locs hP hS => ?_)
                have h := nm_some eσ7163 h
                refine lv_aload_n hx hb dX11_next_372 rfl (lv_at hl 0 rfl) ?_
                refine x_gr X hP (j := 54) (by decide) (dM_0) rfl rfl (by decide) in11 lk121 dX11_next_373 ?_
                refine lv_bipush (v := 100) hx hb dX11_next_376 (by decide) ?_
                refine lv_iload_n hx hb dX11_next_378 rfl (lv_at hl 1 rfl) ?_
                refine lv_imul hx hb dX11_next_379 ?_
                refine lv_topi (fun v7164 ev7164 => ?_)
                have h := nm_some ev7164 h
                refine lv_aload_n hx hb dX11_next_380 rfl (lv_at hl 0 rfl) ?_
                refine x_gi X hP (j := 0) (by decide) (dM_0) rfl rfl (by decide) in11 lk230 dX11_next_381 ?_
                refine lv_iadd hx hb dX11_next_384 ?_
                refine lv_topi (fun v7165 ev7165 => ?_)
                have h := nm_some ev7165 h
                refine lv_bipush (v := 20) hx hb dX11_next_385 (by decide) ?_
                refine lv_isub hx hb dX11_next_387 ?_
                refine lv_topi (fun v7166 ev7166 => ?_)
                have h := nm_some ev7166 h
                refine lv_iconst (v := 0) hx hb dX11_next_388 (by decide) ?_
                obtain ⟨g7167, h⟩ := gd_some h
                refine x_si X hP hS (by decide) (dM_36) g7167 dX11_next_389 (fun σ7168 eσ7168 H locs hP hS => ?_)
                have h := nm_some eσ7168 h
                obtain ⟨v7169, ev7169⟩ : ∃ y : Int32, y = t7155.1 + 1 := ⟨_, rfl⟩
                have h := nm_some ev7169 h
                refine lv_iinc (v := v7169) (lv' := [(1, .int v7169), (0, .ref (ad 0))]) hx hb dX11_next_390 hl (k := 1) rfl (by rw [ev7169]; rfl) (by decide) rfl (fun ls hl => ?_)
                refine lv_goto (tgt := 332) hx hb dX11_next_393 (by decide) ?_
                exact hCL7154 _ (Option.some.inj h).symm H locs ls hP hS (lv_sub hl [1, 0] rfl)
          · intro H locs ls hP hS hl
            refine lv_aload_n hx hb dX11_next_396 rfl (lv_at hl 0 rfl) ?_
            refine x_gi X hP (j := 0) (by decide) (dM_0) rfl rfl (by decide) in11 lk230 dX11_next_397 ?_
            subst hQQ
            exact x_ri (σ0 := (fun _ _ => 0, fun _ _ => 0)) X hr hlocks hP hS (Option.some.inj h) dX11_next_400
    refine lv_if_eq (tgt := 79) hx hb dX11_next_23 (by decide) (fun c8173 => ?_) (fun c8173 => ?_)
    · have h := it_t c8173 h
      exact hJ79   r2 h H locs ls hP hS (lv_sub hl [0] rfl)
    · have h := it_f c8173 h
      refine lv_aload_n hx hb dX11_next_26 rfl (lv_at hl 0 rfl) ?_
      refine lv_aload_n hx hb dX11_next_27 rfl (lv_at hl 0 rfl) ?_
      refine x_gi X hP (j := 0) (by decide) (dM_0) rfl rfl (by decide) in11 lk230 dX11_next_28 ?_
      obtain ⟨r8174, k8175, h⟩ := bd_some h
      refine x_Vi (rest := []) X hP hS (k_11_here l D cA ad hj n r2 (r2.1 0 0) k8175) (by decide) (dM_0) rfl 1 gX11_next_X11_here rfl rfl rfl (by decide +kernel) ⟨Nat.le_of_ble_eq_true rfl, Nat.le_of_ble_eq_true rfl⟩ rfl hl.1 rfl (Nat.le_of_ble_eq_true rfl) dX11_next_31 ⟨Nat.zero_le _, Nat.zero_le _⟩ (fun H locs hP hS => ?_)
      refine lv_bipush (v := 6) hx hb dX11_next_34 (by decide) ?_
      refine lv_icmp_gt (tgt := 79) hx hb dX11_next_36 (by decide) (fun c8176 => ?_) (fun c8176 => ?_)
      · have h := it_t c8176 h
        exact hJ79   r8174.2 h H locs ls hP hS (lv_sub hl [0] rfl)
      · have h := it_f c8176 h
        refine lv_aload_n hx hb dX11_next_39 rfl (lv_at hl 0 rfl) ?_
        refine lv_aload_n hx hb dX11_next_40 rfl (lv_at hl 0 rfl) ?_
        refine x_gi X hP (j := 0) (by decide) (dM_0) rfl rfl (by decide) in11 lk230 dX11_next_41 ?_
        obtain ⟨r8177, k8178, h⟩ := bd_some h
        refine x_Vv (rest := []) X hP hS (k_11_finds l D cA ad hj n r8174.2 (r8174.2.1 0 0) k8178) (by decide) (dM_0) rfl 1 gX11_next_X11_finds rfl rfl rfl (by decide +kernel) ⟨Nat.le_of_ble_eq_true rfl, Nat.le_of_ble_eq_true rfl⟩ rfl hl.1 rfl (Nat.le_of_ble_eq_true rfl) dX11_next_44 ⟨Nat.zero_le _, Nat.zero_le _⟩ (fun H locs hP hS => ?_)
        refine lv_iconst (v := 0) hx hb dX11_next_47 (by decide) ?_
        refine lv_istore_n (lv' := [(1, .int 0), (0, .ref (ad 0))]) hx hb dX11_next_48 rfl hl (by decide) rfl (fun ls hl => ?_)
        obtain ⟨t9187, o9189, h⟩ := bd_some h
        refine lq_rule (P := fun t8180 : Int32 × St => ∀ (H : Heap) (locs : List Loc) (ls : Array Slot), va_P D vwCl (ww dM 41 cA ad t8180.2) H → va_S (inA 41 ad) s.heap H locs → lv_has ls 5 [(0, .ref (ad 0)), (1, .int t8180.1)] → W p l e (headSpec wsX11_next rm_11_next).room s m args below meth c H locs 0 0 QQ (F0 m 49 ls [])) (X := fun t9187 : Int32 × St => ∀ (H : Heap) (locs : List Loc) (ls : Array Slot), va_P D vwCl (ww dM 41 cA ad t9187.2) H → va_S (inA 41 ad) s.heap H locs → lv_has ls 5 [(0, .ref (ad 0)), (1, .int t9187.1)] → W p l e (headSpec wsX11_next rm_11_next).room s m args below meth c H locs 0 0 QQ (F0 m 79 ls [])) ?_ n _ _ o9189 ?_ H locs ls hP hS (lv_sub hl [1, 0] rfl)
        · clear h hP hS hl
          intro t8180 rL8179 h hCL8179 hEL8179 H locs ls hP hS hl
          unfold b_11_next_49 at h
          refine lv_iload_n hx hb dX11_next_49 rfl (lv_at hl 1 rfl) ?_
          refine lv_aload_n hx hb dX11_next_50 rfl (lv_at hl 0 rfl) ?_
          refine lv_aload_n hx hb dX11_next_51 rfl (lv_at hl 0 rfl) ?_
          refine x_gi X hP (j := 0) (by decide) (dM_0) rfl rfl (by decide) in11 lk230 dX11_next_52 ?_
          obtain ⟨r8181, k8182, h⟩ := bd_some h
          refine x_Vi (rest := [.int t8180.1]) X hP hS (k_11_here l D cA ad hj n t8180.2 (t8180.2.1 0 0) k8182) (by decide) (dM_0) rfl 1 gX11_next_X11_here rfl rfl rfl (by decide +kernel) ⟨Nat.le_of_ble_eq_true rfl, Nat.le_of_ble_eq_true rfl⟩ rfl hl.1 rfl (Nat.le_of_ble_eq_true rfl) dX11_next_55 ⟨Nat.zero_le _, Nat.zero_le _⟩ (fun H locs hP hS => ?_)
          refine lv_icmp_ge (tgt := 79) hx hb dX11_next_58 (by decide) (fun c8183 => ?_) (fun c8183 => ?_)
          · have h := it_t c8183 h
            exact hEL8179 _ (Option.some.inj h).symm H locs ls hP hS (lv_sub hl [0, 1] rfl)
          · have h := it_f c8183 h
            refine lv_aload_n hx hb dX11_next_61 rfl (lv_at hl 0 rfl) ?_
            refine x_gr X hP (j := 40) (by decide) (dM_0) rfl rfl (by decide) in11 lk91 dX11_next_62 ?_
            refine lv_iload_n hx hb dX11_next_65 rfl (lv_at hl 1 rfl) ?_
            refine lv_aload_n hx hb dX11_next_66 rfl (lv_at hl 0 rfl) ?_
            refine x_gr X hP (j := 50) (by decide) (dM_0) rfl rfl (by decide) in11 lk118 dX11_next_67 ?_
            refine lv_iload_n hx hb dX11_next_70 rfl (lv_at hl 1 rfl) ?_
            obtain ⟨g8184, h⟩ := gd_some h
            refine x_ai X hP (by decide) (dM_35) g8184 dX11_next_71 ?_
            refine x_si X hP hS (by decide) (dM_26) g8184 dX11_next_72 (fun σ8185 eσ8185 H locs hP hS => ?_)
            have h := nm_some eσ8185 h
            obtain ⟨v8186, ev8186⟩ : ∃ y : Int32, y = t8180.1 + 1 := ⟨_, rfl⟩
            have h := nm_some ev8186 h
            refine lv_iinc (v := v8186) (lv' := [(1, .int v8186), (0, .ref (ad 0))]) hx hb dX11_next_73 hl (k := 1) rfl (by rw [ev8186]; rfl) (by decide) rfl (fun ls hl => ?_)
            refine lv_goto (tgt := 49) hx hb dX11_next_76 (by decide) ?_
            exact hCL8179 _ (Option.some.inj h).symm H locs ls hP hS (lv_sub hl [1, 0] rfl)
        · intro H locs ls hP hS hl
          exact hJ79   t9187.2 h H locs ls hP hS (lv_sub hl [0] rfl)
  · have h := it_t c1 h
    refine lv_iconst (v := (-1)) hx hb dX11_next_9 (by decide) ?_
    subst hQQ
    exact x_ri (σ0 := (fun _ _ => 0, fun _ _ => 0)) X hr hlocks hP hS (Option.some.inj h) dX11_next_10
def f_11_water (n : Nat) (σ : St) (a1 : Int32) (a2 : Int32) : Option (Int32 × St) :=
  (f_11_isSpring n σ a1).bind fun r1 =>
  if r1.1 = 0 then
    some ((-1), r1.2)
  else
    if a2 = 0 then
      gd (inb a1 4) <| some ((r1.2.1 37 a1.toNatClampNeg), r1.2)
    else
      if a2 = 1 then
        gd (inb a1 4) <| some ((r1.2.1 38 a1.toNatClampNeg), r1.2)
      else
        if a2 = 2 then
          gd (inb a1 4) <| some ((r1.2.1 39 a1.toNatClampNeg), r1.2)
        else
          if a2 = 3 then
            gd (inb a1 4) <| some ((r1.2.1 40 a1.toNatClampNeg), r1.2)
          else
            some ((-1), r1.2)
abbrev rm_11_water : Room := { frames := 2, cells := 0, slots := 0, locals := 42 }
set_option maxRecDepth 100000 in
set_option maxHeartbeats 4000000 in
theorem k_11_water (l : Launch) (D : va_G) (cA : Nat → ClassId) (ad : Nat → Nat) (hj : inj 41 ad) (n : Nat) (σ : St) (a1 : Int32) (a2 : Int32)  {res : Int32 × St} (h : f_11_water n σ a1 a2 = some res) : MXi l D dM 41 cA ad ET yX11_water wsX11_water rm_11_water [.ref (ad 0), .int a1, .int a2] σ res := by
  refine Met.ofW (cc := cX11_water) (maxL := 3) (ret := (some .int)) (by decide) rfl ?_
  intro p e s m args below meth c s₁ B hml hv
  obtain ⟨hargs, hP, hK, hE⟩ := hv
  have hx := B.exec
  have hb := B.bytes
  have hr := B.returns
  have hts := atoms_spec (ws := wsX11_water) B.pre
  have hown : s.vm.findClass RX11 = some m.cls := findClass_of_methodNamed B.named
  have hlocks := B.notSynchronized
  have X : Cx p s m args c cX11_water 3 RX11 wsX11_water D dM 41 cA ad ET := ⟨hx, hb, hml, hown, hts, hK, hj, hE, ET_ok⟩
  have hS : va_S (inA 41 ad) s.heap s.heap [] := va_S.rf
  have hl := lv_entry ([.ref (ad 0), .int a1, .int a2]) (n := 3) (Nat.le_of_ble_eq_true rfl)
  rw [show entryFrame m args 3 = entryFrame m ([.ref (ad 0), .int a1, .int a2] : List Value).toArray 3 by rw [hargs]]
  rw [lg_entry_eq]
  generalize (lg_sl ([.ref (ad 0), .int a1, .int a2]) ++ List.replicate (3 - (lg_sl ([.ref (ad 0), .int a1, .int a2])).length) Slot.unset).toArray = ls at hl ⊢
  have hl : lv_has ls 3 [(0, .ref (ad 0)), (1, .int a1), (2, .int a2)] := hl
  obtain ⟨QQ, hQQ⟩ : ∃ Q, Q = MQ below (va_Qi (fun r u => r = res.1 ∧ u = res.2) (fun u t => va_P D vwCl (ww dM 41 cA ad u) t.heap) (inA 41 ad)) args s 0 0 (inA 41 ad) := ⟨_, rfl⟩
  show W p l e (headSpec wsX11_water rm_11_water).room s m args below meth c s.heap [] 0 0 (MQ below (va_Qi (fun r u => r = res.1 ∧ u = res.2) (fun u t => va_P D vwCl (ww dM 41 cA ad u) t.heap) (inA 41 ad)) args s 0 0 (inA 41 ad)) _
  rw [← hQQ]
  have in11 : ∀ w ∈ wsX110, w ∈ wsX11_water := by decide +kernel
  have lk133 : Cond.fieldLink RX11 133 "CureTownModel" "off" "[I" ∈ wsX11_water := by decide +kernel
  have lk130 : Cond.fieldLink RX11 130 "CureTownModel" "filled" "[I" ∈ wsX11_water := by decide +kernel
  have lk127 : Cond.fieldLink RX11 127 "CureTownModel" "drawn" "[I" ∈ wsX11_water := by decide +kernel
  have lk124 : Cond.fieldLink RX11 124 "CureTownModel" "given" "[I" ∈ wsX11_water := by decide +kernel
  unfold f_11_water at h
  obtain ⟨H, hH⟩ : ∃ H, H = s.heap := ⟨_, rfl⟩
  obtain ⟨locs, hlc⟩ : ∃ q : List Loc, q = [] := ⟨_, rfl⟩
  have hP : va_P D vwCl (ww dM 41 cA ad σ) s.heap := hP
  have hS : va_S (inA 41 ad) s.heap s.heap [] := hS
  rw [← hlc] at hS ⊢
  rw [show W p l e (headSpec wsX11_water rm_11_water).room s m args below meth c s.heap locs 0 0 QQ = W p l e (headSpec wsX11_water rm_11_water).room s m args below meth c H locs 0 0 QQ by rw [hH]]
  have hS : va_S (inA 41 ad) s.heap H locs := by rw [hH]; exact hS
  have hP : va_P D vwCl (ww dM 41 cA ad σ) H := by rw [hH]; exact hP
  clear hH hlc
  refine lv_iload_n hx hb dX11_water_0 rfl (lv_at hl 1 rfl) ?_
  obtain ⟨r1, k2, h⟩ := bd_some h
  refine x_Si (rest := []) X hP hS (k_11_isSpring l D cA ad hj n σ a1 k2) 1 gX11_water_X11_isSpring rfl rfl rfl (by decide +kernel) ⟨Nat.le_of_ble_eq_true rfl, Nat.le_of_ble_eq_true rfl⟩ rfl hl.1 rfl (Nat.le_of_ble_eq_true rfl) dX11_water_1 ⟨Nat.zero_le _, Nat.zero_le _⟩ (fun H locs hP hS => ?_)
  refine lv_if_ne (tgt := 9) hx hb dX11_water_4 (by decide) (fun c3 => ?_) (fun c3 => ?_)
  · have h := it_f c3 h
    refine lv_iload_n hx hb dX11_water_9 rfl (lv_at hl 2 rfl) ?_
    refine lv_if_ne (tgt := 22) hx hb dX11_water_10 (by decide) (fun c4 => ?_) (fun c4 => ?_)
    · have h := it_f c4 h
      refine lv_iload_n hx hb dX11_water_22 rfl (lv_at hl 2 rfl) ?_
      refine lv_iconst (v := 1) hx hb dX11_water_23 (by decide) ?_
      refine lv_icmp_ne (tgt := 36) hx hb dX11_water_24 (by decide) (fun c5 => ?_) (fun c5 => ?_)
      · have h := it_f c5 h
        refine lv_iload_n hx hb dX11_water_36 rfl (lv_at hl 2 rfl) ?_
        refine lv_iconst (v := 2) hx hb dX11_water_37 (by decide) ?_
        refine lv_icmp_ne (tgt := 50) hx hb dX11_water_38 (by decide) (fun c6 => ?_) (fun c6 => ?_)
        · have h := it_f c6 h
          refine lv_iload_n hx hb dX11_water_50 rfl (lv_at hl 2 rfl) ?_
          refine lv_iconst (v := 3) hx hb dX11_water_51 (by decide) ?_
          refine lv_icmp_ne (tgt := 64) hx hb dX11_water_52 (by decide) (fun c7 => ?_) (fun c7 => ?_)
          · have h := it_f c7 h
            refine lv_iconst (v := (-1)) hx hb dX11_water_64 (by decide) ?_
            subst hQQ
            exact x_ri (σ0 := (fun _ _ => 0, fun _ _ => 0)) X hr hlocks hP hS (Option.some.inj h) dX11_water_65
          · have h := it_t c7 h
            refine lv_aload_n hx hb dX11_water_55 rfl (lv_at hl 0 rfl) ?_
            refine x_gr X hP (j := 58) (by decide) (dM_0) rfl rfl (by decide) in11 lk133 dX11_water_56 ?_
            refine lv_iload_n hx hb dX11_water_59 rfl (lv_at hl 1 rfl) ?_
            obtain ⟨g8, h⟩ := gd_some h
            refine x_ai X hP (by decide) (dM_40) g8 dX11_water_60 ?_
            refine lv_goto (tgt := 65) hx hb dX11_water_61 (by decide) ?_
            subst hQQ
            exact x_ri (σ0 := (fun _ _ => 0, fun _ _ => 0)) X hr hlocks hP hS (Option.some.inj h) dX11_water_65
        · have h := it_t c6 h
          refine lv_aload_n hx hb dX11_water_41 rfl (lv_at hl 0 rfl) ?_
          refine x_gr X hP (j := 57) (by decide) (dM_0) rfl rfl (by decide) in11 lk130 dX11_water_42 ?_
          refine lv_iload_n hx hb dX11_water_45 rfl (lv_at hl 1 rfl) ?_
          obtain ⟨g9, h⟩ := gd_some h
          refine x_ai X hP (by decide) (dM_39) g9 dX11_water_46 ?_
          refine lv_goto (tgt := 65) hx hb dX11_water_47 (by decide) ?_
          subst hQQ
          exact x_ri (σ0 := (fun _ _ => 0, fun _ _ => 0)) X hr hlocks hP hS (Option.some.inj h) dX11_water_65
      · have h := it_t c5 h
        refine lv_aload_n hx hb dX11_water_27 rfl (lv_at hl 0 rfl) ?_
        refine x_gr X hP (j := 56) (by decide) (dM_0) rfl rfl (by decide) in11 lk127 dX11_water_28 ?_
        refine lv_iload_n hx hb dX11_water_31 rfl (lv_at hl 1 rfl) ?_
        obtain ⟨g10, h⟩ := gd_some h
        refine x_ai X hP (by decide) (dM_38) g10 dX11_water_32 ?_
        refine lv_goto (tgt := 65) hx hb dX11_water_33 (by decide) ?_
        subst hQQ
        exact x_ri (σ0 := (fun _ _ => 0, fun _ _ => 0)) X hr hlocks hP hS (Option.some.inj h) dX11_water_65
    · have h := it_t c4 h
      refine lv_aload_n hx hb dX11_water_13 rfl (lv_at hl 0 rfl) ?_
      refine x_gr X hP (j := 55) (by decide) (dM_0) rfl rfl (by decide) in11 lk124 dX11_water_14 ?_
      refine lv_iload_n hx hb dX11_water_17 rfl (lv_at hl 1 rfl) ?_
      obtain ⟨g11, h⟩ := gd_some h
      refine x_ai X hP (by decide) (dM_37) g11 dX11_water_18 ?_
      refine lv_goto (tgt := 65) hx hb dX11_water_19 (by decide) ?_
      subst hQQ
      exact x_ri (σ0 := (fun _ _ => 0, fun _ _ => 0)) X hr hlocks hP hS (Option.some.inj h) dX11_water_65
  · have h := it_t c3 h
    refine lv_iconst (v := (-1)) hx hb dX11_water_7 (by decide) ?_
    subst hQQ
    exact x_ri (σ0 := (fun _ _ => 0, fun _ _ => 0)) X hr hlocks hP hS (Option.some.inj h) dX11_water_8
def f_11_bottles (n : Nat) (σ : St) (a1 : Int32) (a2 : Int32) : Option (Int32 × St) :=
  (f_11_isSpring n σ a1).bind fun r1 =>
  if r1.1 = 0 then
    some ((-1), r1.2)
  else
    (f_11_isDay n r1.2 a2 0).bind fun r4 =>
    if r4.1 = 0 then
      some ((-1), r4.2)
    else
      nm (100 * a1) fun v7 =>
      nm (v7 + a2) fun v8 =>
      gd (inb v8 400) <| some ((r4.2.1 36 v8.toNatClampNeg), r4.2)
abbrev rm_11_bottles : Room := { frames := 2, cells := 0, slots := 0, locals := 43 }
set_option maxRecDepth 100000 in
set_option maxHeartbeats 4000000 in
theorem k_11_bottles (l : Launch) (D : va_G) (cA : Nat → ClassId) (ad : Nat → Nat) (hj : inj 41 ad) (n : Nat) (σ : St) (a1 : Int32) (a2 : Int32)  {res : Int32 × St} (h : f_11_bottles n σ a1 a2 = some res) : MXi l D dM 41 cA ad ET yX11_bottles wsX11_bottles rm_11_bottles [.ref (ad 0), .int a1, .int a2] σ res := by
  refine Met.ofW (cc := cX11_bottles) (maxL := 3) (ret := (some .int)) (by decide) rfl ?_
  intro p e s m args below meth c s₁ B hml hv
  obtain ⟨hargs, hP, hK, hE⟩ := hv
  have hx := B.exec
  have hb := B.bytes
  have hr := B.returns
  have hts := atoms_spec (ws := wsX11_bottles) B.pre
  have hown : s.vm.findClass RX11 = some m.cls := findClass_of_methodNamed B.named
  have hlocks := B.notSynchronized
  have X : Cx p s m args c cX11_bottles 3 RX11 wsX11_bottles D dM 41 cA ad ET := ⟨hx, hb, hml, hown, hts, hK, hj, hE, ET_ok⟩
  have hS : va_S (inA 41 ad) s.heap s.heap [] := va_S.rf
  have hl := lv_entry ([.ref (ad 0), .int a1, .int a2]) (n := 3) (Nat.le_of_ble_eq_true rfl)
  rw [show entryFrame m args 3 = entryFrame m ([.ref (ad 0), .int a1, .int a2] : List Value).toArray 3 by rw [hargs]]
  rw [lg_entry_eq]
  generalize (lg_sl ([.ref (ad 0), .int a1, .int a2]) ++ List.replicate (3 - (lg_sl ([.ref (ad 0), .int a1, .int a2])).length) Slot.unset).toArray = ls at hl ⊢
  have hl : lv_has ls 3 [(0, .ref (ad 0)), (1, .int a1), (2, .int a2)] := hl
  obtain ⟨QQ, hQQ⟩ : ∃ Q, Q = MQ below (va_Qi (fun r u => r = res.1 ∧ u = res.2) (fun u t => va_P D vwCl (ww dM 41 cA ad u) t.heap) (inA 41 ad)) args s 0 0 (inA 41 ad) := ⟨_, rfl⟩
  show W p l e (headSpec wsX11_bottles rm_11_bottles).room s m args below meth c s.heap [] 0 0 (MQ below (va_Qi (fun r u => r = res.1 ∧ u = res.2) (fun u t => va_P D vwCl (ww dM 41 cA ad u) t.heap) (inA 41 ad)) args s 0 0 (inA 41 ad)) _
  rw [← hQQ]
  have in11 : ∀ w ∈ wsX110, w ∈ wsX11_bottles := by decide +kernel
  have lk121 : Cond.fieldLink RX11 121 "CureTownModel" "bottles" "[I" ∈ wsX11_bottles := by decide +kernel
  unfold f_11_bottles at h
  obtain ⟨H, hH⟩ : ∃ H, H = s.heap := ⟨_, rfl⟩
  obtain ⟨locs, hlc⟩ : ∃ q : List Loc, q = [] := ⟨_, rfl⟩
  have hP : va_P D vwCl (ww dM 41 cA ad σ) s.heap := hP
  have hS : va_S (inA 41 ad) s.heap s.heap [] := hS
  rw [← hlc] at hS ⊢
  rw [show W p l e (headSpec wsX11_bottles rm_11_bottles).room s m args below meth c s.heap locs 0 0 QQ = W p l e (headSpec wsX11_bottles rm_11_bottles).room s m args below meth c H locs 0 0 QQ by rw [hH]]
  have hS : va_S (inA 41 ad) s.heap H locs := by rw [hH]; exact hS
  have hP : va_P D vwCl (ww dM 41 cA ad σ) H := by rw [hH]; exact hP
  clear hH hlc
  refine lv_iload_n hx hb dX11_bottles_0 rfl (lv_at hl 1 rfl) ?_
  obtain ⟨r1, k2, h⟩ := bd_some h
  refine x_Si (rest := []) X hP hS (k_11_isSpring l D cA ad hj n σ a1 k2) 1 gX11_bottles_X11_isSpring rfl rfl rfl (by decide +kernel) ⟨Nat.le_of_ble_eq_true rfl, Nat.le_of_ble_eq_true rfl⟩ rfl hl.1 rfl (Nat.le_of_ble_eq_true rfl) dX11_bottles_1 ⟨Nat.zero_le _, Nat.zero_le _⟩ (fun H locs hP hS => ?_)
  refine lv_if_eq (tgt := 29) hx hb dX11_bottles_4 (by decide) (fun c3 => ?_) (fun c3 => ?_)
  · have h := it_t c3 h
    refine lv_iconst (v := (-1)) hx hb dX11_bottles_29 (by decide) ?_
    subst hQQ
    exact x_ri (σ0 := (fun _ _ => 0, fun _ _ => 0)) X hr hlocks hP hS (Option.some.inj h) dX11_bottles_30
  · have h := it_f c3 h
    refine lv_iload_n hx hb dX11_bottles_7 rfl (lv_at hl 2 rfl) ?_
    refine lv_iconst (v := 0) hx hb dX11_bottles_8 (by decide) ?_
    obtain ⟨r4, k5, h⟩ := bd_some h
    refine x_Si (rest := []) X hP hS (k_11_isDay l D cA ad hj n r1.2 a2 0 k5) 2 gX11_bottles_X11_isDay rfl rfl rfl (by decide +kernel) ⟨Nat.le_of_ble_eq_true rfl, Nat.le_of_ble_eq_true rfl⟩ rfl hl.1 rfl (Nat.le_of_ble_eq_true rfl) dX11_bottles_9 ⟨Nat.zero_le _, Nat.zero_le _⟩ (fun H locs hP hS => ?_)
    refine lv_if_eq (tgt := 29) hx hb dX11_bottles_12 (by decide) (fun c6 => ?_) (fun c6 => ?_)
    · have h := it_t c6 h
      refine lv_iconst (v := (-1)) hx hb dX11_bottles_29 (by decide) ?_
      subst hQQ
      exact x_ri (σ0 := (fun _ _ => 0, fun _ _ => 0)) X hr hlocks hP hS (Option.some.inj h) dX11_bottles_30
    · have h := it_f c6 h
      refine lv_aload_n hx hb dX11_bottles_15 rfl (lv_at hl 0 rfl) ?_
      refine x_gr X hP (j := 54) (by decide) (dM_0) rfl rfl (by decide) in11 lk121 dX11_bottles_16 ?_
      refine lv_bipush (v := 100) hx hb dX11_bottles_19 (by decide) ?_
      refine lv_iload_n hx hb dX11_bottles_21 rfl (lv_at hl 1 rfl) ?_
      refine lv_imul hx hb dX11_bottles_22 ?_
      refine lv_topi (fun v7 ev7 => ?_)
      have h := nm_some ev7 h
      refine lv_iload_n hx hb dX11_bottles_23 rfl (lv_at hl 2 rfl) ?_
      refine lv_iadd hx hb dX11_bottles_24 ?_
      refine lv_topi (fun v8 ev8 => ?_)
      have h := nm_some ev8 h
      obtain ⟨g9, h⟩ := gd_some h
      refine x_ai X hP (by decide) (dM_36) g9 dX11_bottles_25 ?_
      refine lv_goto (tgt := 30) hx hb dX11_bottles_26 (by decide) ?_
      subst hQQ
      exact x_ri (σ0 := (fun _ _ => 0, fun _ _ => 0)) X hr hlocks hP hS (Option.some.inj h) dX11_bottles_30
def j_11_sell_64 (n : Nat) (a1 : Int32) (a2 : Int32) (a3 : Int32) (a4 : Int32) (w0_ : Int32) (σ : St) : Option ((Int32 × Int32 × St) ⊕ (Int32 × Int32 × St)) :=
  nm (100 * a4) fun v15 =>
  nm (v15 + a3) fun v16 =>
  gd (inb v16 400) <| nm ((σ.1 36 v16.toNatClampNeg) - w0_) fun v18 =>
  nm (si σ 36 (v16.toNatClampNeg) v18) fun σ19 =>
  nm (a2 - w0_) fun v20 =>
  nm (a4 + 1) fun v21 =>
  some (.inl (v20, v21, σ19))
def b_11_sell_26 (n : Nat) (a1 : Int32) (a3 : Int32) (t8 : Int32 × Int32 × St) : Option ((Int32 × Int32 × St) ⊕ (Int32 × Int32 × St)) :=
  if 4 ≤ t8.2.1 then
    some (.inr (t8.1, t8.2.1, t8.2.2))
  else
    nm (100 * t8.2.1) fun v10 =>
    nm (v10 + a3) fun v11 =>
    gd (inb v11 400) <| if t8.1 ≤ (t8.2.2.1 36 v11.toNatClampNeg) then
      j_11_sell_64 n a1 t8.1 a3 t8.2.1 t8.1 t8.2.2
    else
      nm (100 * t8.2.1) fun v30 =>
      nm (v30 + a3) fun v31 =>
      gd (inb v31 400) <| j_11_sell_64 n a1 t8.1 a3 t8.2.1 (t8.2.2.1 36 v31.toNatClampNeg) t8.2.2
def b_11_sell_17 (n : Nat) (a1 : Int32) (t5 : Int32 × Int32 × St) : Option ((Int32 × Int32 × St) ⊕ (Int32 × Int32 × St)) :=
  if 100 ≤ t5.2.1 then
    some (.inr (t5.1, t5.2.1, t5.2.2))
  else
    (lq (b_11_sell_26 n a1 t5.2.1) n (t5.1, 0, t5.2.2)).bind fun t1033 =>
    nm (t5.2.1 + 1) fun v1036 =>
    some (.inl (t1033.1, v1036, t1033.2.2))
def f_11_sell (n : Nat) (σ : St) (a1 : Int32) : Option (Int32 × St) :=
  (f_11_isIn n σ a1 1 999).bind fun r1 =>
  if r1.1 = 0 then
    some ((-1), r1.2)
  else
    (lq (b_11_sell_17 n a1) n (a1, 0, r1.2)).bind fun t2037 =>
    nm (a1 - t2037.1) fun v2040 =>
    nm ((t2037.2.2.1 0 59) + v2040) fun v2041 =>
    nm (si t2037.2.2 0 59 v2041) fun σ2042 =>
    nm (a1 - t2037.1) fun v2043 =>
    some (v2043, σ2042)
abbrev rm_11_sell : Room := { frames := 1, cells := 0, slots := 0, locals := 22 }
set_option maxRecDepth 100000 in
set_option maxHeartbeats 4000000 in
theorem k_11_sell (l : Launch) (D : va_G) (cA : Nat → ClassId) (ad : Nat → Nat) (hj : inj 41 ad) (n : Nat) (σ : St) (a1 : Int32)  {res : Int32 × St} (h : f_11_sell n σ a1 = some res) : MXi l D dM 41 cA ad ET yX11_sell wsX11_sell rm_11_sell [.ref (ad 0), .int a1] σ res := by
  refine Met.ofW (cc := cX11_sell) (maxL := 6) (ret := (some .int)) (by decide) rfl ?_
  intro p e s m args below meth c s₁ B hml hv
  obtain ⟨hargs, hP, hK, hE⟩ := hv
  have hx := B.exec
  have hb := B.bytes
  have hr := B.returns
  have hts := atoms_spec (ws := wsX11_sell) B.pre
  have hown : s.vm.findClass RX11 = some m.cls := findClass_of_methodNamed B.named
  have hlocks := B.notSynchronized
  have X : Cx p s m args c cX11_sell 6 RX11 wsX11_sell D dM 41 cA ad ET := ⟨hx, hb, hml, hown, hts, hK, hj, hE, ET_ok⟩
  have hS : va_S (inA 41 ad) s.heap s.heap [] := va_S.rf
  have hl := lv_entry ([.ref (ad 0), .int a1]) (n := 6) (Nat.le_of_ble_eq_true rfl)
  rw [show entryFrame m args 6 = entryFrame m ([.ref (ad 0), .int a1] : List Value).toArray 6 by rw [hargs]]
  rw [lg_entry_eq]
  generalize (lg_sl ([.ref (ad 0), .int a1]) ++ List.replicate (6 - (lg_sl ([.ref (ad 0), .int a1])).length) Slot.unset).toArray = ls at hl ⊢
  have hl : lv_has ls 6 [(0, .ref (ad 0)), (1, .int a1)] := hl
  obtain ⟨QQ, hQQ⟩ : ∃ Q, Q = MQ below (va_Qi (fun r u => r = res.1 ∧ u = res.2) (fun u t => va_P D vwCl (ww dM 41 cA ad u) t.heap) (inA 41 ad)) args s 0 0 (inA 41 ad) := ⟨_, rfl⟩
  show W p l e (headSpec wsX11_sell rm_11_sell).room s m args below meth c s.heap [] 0 0 (MQ below (va_Qi (fun r u => r = res.1 ∧ u = res.2) (fun u t => va_P D vwCl (ww dM 41 cA ad u) t.heap) (inA 41 ad)) args s 0 0 (inA 41 ad)) _
  rw [← hQQ]
  have in11 : ∀ w ∈ wsX110, w ∈ wsX11_sell := by decide +kernel
  have lk121 : Cond.fieldLink RX11 121 "CureTownModel" "bottles" "[I" ∈ wsX11_sell := by decide +kernel
  have lk298 : Cond.fieldLink RX11 298 "CureTownModel" "soldAll" "I" ∈ wsX11_sell := by decide +kernel
  unfold f_11_sell at h
  obtain ⟨H, hH⟩ : ∃ H, H = s.heap := ⟨_, rfl⟩
  obtain ⟨locs, hlc⟩ : ∃ q : List Loc, q = [] := ⟨_, rfl⟩
  have hP : va_P D vwCl (ww dM 41 cA ad σ) s.heap := hP
  have hS : va_S (inA 41 ad) s.heap s.heap [] := hS
  rw [← hlc] at hS ⊢
  rw [show W p l e (headSpec wsX11_sell rm_11_sell).room s m args below meth c s.heap locs 0 0 QQ = W p l e (headSpec wsX11_sell rm_11_sell).room s m args below meth c H locs 0 0 QQ by rw [hH]]
  have hS : va_S (inA 41 ad) s.heap H locs := by rw [hH]; exact hS
  have hP : va_P D vwCl (ww dM 41 cA ad σ) H := by rw [hH]; exact hP
  clear hH hlc
  refine lv_iload_n hx hb dX11_sell_0 rfl (lv_at hl 1 rfl) ?_
  refine lv_iconst (v := 1) hx hb dX11_sell_1 (by decide) ?_
  refine lv_sipush (v := 999) hx hb dX11_sell_2 (by decide) ?_
  obtain ⟨r1, k2, h⟩ := bd_some h
  refine x_Si (rest := []) X hP hS (k_11_isIn l D cA ad hj n σ a1 1 999 k2) 3 gX11_sell_X11_isIn rfl rfl rfl (by decide +kernel) ⟨Nat.le_of_ble_eq_true rfl, Nat.le_of_ble_eq_true rfl⟩ rfl hl.1 rfl (Nat.le_of_ble_eq_true rfl) dX11_sell_5 ⟨Nat.zero_le _, Nat.zero_le _⟩ (fun H locs hP hS => ?_)
  refine lv_if_ne (tgt := 13) hx hb dX11_sell_8 (by decide) (fun c3 => ?_) (fun c3 => ?_)
  · have h := it_f c3 h
    refine lv_iload_n hx hb dX11_sell_13 rfl (lv_at hl 1 rfl) ?_
    refine lv_istore_n (lv' := [(2, .int a1), (0, .ref (ad 0)), (1, .int a1)]) hx hb dX11_sell_14 rfl hl (by decide) rfl (fun ls hl => ?_)
    refine lv_iconst (v := 0) hx hb dX11_sell_15 (by decide) ?_
    refine lv_istore_n (lv' := [(3, .int 0), (2, .int a1), (0, .ref (ad 0)), (1, .int a1)]) hx hb dX11_sell_16 rfl hl (by decide) rfl (fun ls hl => ?_)
    obtain ⟨t2037, o2039, h⟩ := bd_some h
    refine lq_rule (P := fun t5 : Int32 × Int32 × St => ∀ (H : Heap) (locs : List Loc) (ls : Array Slot), va_P D vwCl (ww dM 41 cA ad t5.2.2) H → va_S (inA 41 ad) s.heap H locs → lv_has ls 6 [(0, .ref (ad 0)), (1, .int a1), (2, .int t5.1), (3, .int t5.2.1)] → W p l e (headSpec wsX11_sell rm_11_sell).room s m args below meth c H locs 0 0 QQ (F0 m 17 ls [])) (X := fun t2037 : Int32 × Int32 × St => ∀ (H : Heap) (locs : List Loc) (ls : Array Slot), va_P D vwCl (ww dM 41 cA ad t2037.2.2) H → va_S (inA 41 ad) s.heap H locs → lv_has ls 6 [(0, .ref (ad 0)), (1, .int a1), (2, .int t2037.1), (3, .int t2037.2.1)] → W p l e (headSpec wsX11_sell rm_11_sell).room s m args below meth c H locs 0 0 QQ (F0 m 100 ls [])) ?_ n _ _ o2039 ?_ H locs ls hP hS (lv_sub hl [2, 3, 1, 0] rfl)
    · clear h hP hS hl
      intro t5 rL4 h hCL4 hEL4 H locs ls hP hS hl
      unfold b_11_sell_17 at h
      refine lv_iload_n hx hb dX11_sell_17 rfl (lv_at hl 3 rfl) ?_
      refine lv_bipush (v := 100) hx hb dX11_sell_18 (by decide) ?_
      refine lv_icmp_ge (tgt := 100) hx hb dX11_sell_20 (by decide) (fun c6 => ?_) (fun c6 => ?_)
      · have h := it_t c6 h
        exact hEL4 _ (Option.some.inj h).symm H locs ls hP hS (lv_sub hl [0, 1, 2, 3] rfl)
      · have h := it_f c6 h
        refine lv_iconst (v := 0) hx hb dX11_sell_23 (by decide) ?_
        refine lv_istore (lv' := [(4, .int 0), (0, .ref (ad 0)), (1, .int a1), (2, .int t5.1), (3, .int t5.2.1)]) hx hb dX11_sell_24 hl (by decide) rfl (fun ls hl => ?_)
        obtain ⟨t1033, o1035, h⟩ := bd_some h
        refine lq_rule (P := fun t8 : Int32 × Int32 × St => ∀ (H : Heap) (locs : List Loc) (ls : Array Slot), va_P D vwCl (ww dM 41 cA ad t8.2.2) H → va_S (inA 41 ad) s.heap H locs → lv_has ls 6 [(0, .ref (ad 0)), (1, .int a1), (2, .int t8.1), (3, .int t5.2.1), (4, .int t8.2.1)] → W p l e (headSpec wsX11_sell rm_11_sell).room s m args below meth c H locs 0 0 QQ (F0 m 26 ls [])) (X := fun t1033 : Int32 × Int32 × St => ∀ (H : Heap) (locs : List Loc) (ls : Array Slot), va_P D vwCl (ww dM 41 cA ad t1033.2.2) H → va_S (inA 41 ad) s.heap H locs → lv_has ls 6 [(0, .ref (ad 0)), (1, .int a1), (2, .int t1033.1), (3, .int t5.2.1), (4, .int t1033.2.1)] → W p l e (headSpec wsX11_sell rm_11_sell).room s m args below meth c H locs 0 0 QQ (F0 m 94 ls [])) ?_ n _ _ o1035 ?_ H locs ls hP hS (lv_sub hl [1, 2, 3, 4, 0] rfl)
        · clear h hP hS hl
          intro t8 rL7 h hCL7 hEL7 H locs ls hP hS hl
          unfold b_11_sell_26 at h
          refine lv_iload hx hb dX11_sell_26 (lv_at hl 4 rfl) ?_
          refine lv_iconst (v := 4) hx hb dX11_sell_28 (by decide) ?_
          refine lv_icmp_ge (tgt := 94) hx hb dX11_sell_29 (by decide) (fun c9 => ?_) (fun c9 => ?_)
          · have h := it_t c9 h
            exact hEL7 _ (Option.some.inj h).symm H locs ls hP hS (lv_sub hl [0, 1, 2, 3, 4] rfl)
          · have h := it_f c9 h
            refine lv_aload_n hx hb dX11_sell_32 rfl (lv_at hl 0 rfl) ?_
            refine x_gr X hP (j := 54) (by decide) (dM_0) rfl rfl (by decide) in11 lk121 dX11_sell_33 ?_
            refine lv_bipush (v := 100) hx hb dX11_sell_36 (by decide) ?_
            refine lv_iload hx hb dX11_sell_38 (lv_at hl 4 rfl) ?_
            refine lv_imul hx hb dX11_sell_40 ?_
            refine lv_topi (fun v10 ev10 => ?_)
            have h := nm_some ev10 h
            refine lv_iload_n hx hb dX11_sell_41 rfl (lv_at hl 3 rfl) ?_
            refine lv_iadd hx hb dX11_sell_42 ?_
            refine lv_topi (fun v11 ev11 => ?_)
            have h := nm_some ev11 h
            obtain ⟨g12, h⟩ := gd_some h
            refine x_ai X hP (by decide) (dM_36) g12 dX11_sell_43 ?_
            refine lv_iload_n hx hb dX11_sell_44 rfl (lv_at hl 2 rfl) ?_
            have hJ64 : ∀ (w13 : Int32) (σ14 : St), j_11_sell_64 n a1 t8.1 t5.2.1 t8.2.1 w13 σ14 = some rL7 → ∀ (H : Heap) (locs : List Loc) (ls : Array Slot), va_P D vwCl (ww dM 41 cA ad σ14) H → va_S (inA 41 ad) s.heap H locs → lv_has ls 6 [(0, .ref (ad 0)), (1, .int a1), (2, .int t8.1), (3, .int t5.2.1), (4, .int t8.2.1)] → W p l e (headSpec wsX11_sell rm_11_sell).room s m args below meth c H locs 0 0 QQ (F0 m 64 ls [.int w13]) := by
              clear h hP hS hl
              intro w13 σ14 h H locs ls hP hS hl
              unfold j_11_sell_64 at h
              refine lv_istore (lv' := [(5, .int w13), (0, .ref (ad 0)), (1, .int a1), (2, .int t8.1), (3, .int t5.2.1), (4, .int t8.2.1)]) hx hb dX11_sell_64 hl (by decide) rfl (fun ls hl => ?_)
              refine lv_aload_n hx hb dX11_sell_66 rfl (lv_at hl 1 rfl) ?_
              refine x_gr X hP (j := 54) (by decide) (dM_0) rfl rfl (by decide) in11 lk121 dX11_sell_67 ?_
              refine lv_bipush (v := 100) hx hb dX11_sell_70 (by decide) ?_
              refine lv_iload hx hb dX11_sell_72 (lv_at hl 5 rfl) ?_
              refine lv_imul hx hb dX11_sell_74 ?_
              refine lv_topi (fun v22 ev22 => ?_)
              have h := nm_some ev22 h
              refine lv_iload_n hx hb dX11_sell_75 rfl (lv_at hl 4 rfl) ?_
              refine lv_iadd hx hb dX11_sell_76 ?_
              refine lv_topi (fun v23 ev23 => ?_)
              have h := nm_some ev23 h
              refine lv_dup2_11 hx hb dX11_sell_77 rfl rfl ?_
              obtain ⟨g24, h⟩ := gd_some h
              refine x_ai X hP (by decide) (dM_36) g24 dX11_sell_78 ?_
              refine lv_iload hx hb dX11_sell_79 (lv_at hl 0 rfl) ?_
              refine lv_isub hx hb dX11_sell_81 ?_
              refine lv_topi (fun v25 ev25 => ?_)
              have h := nm_some ev25 h
              refine x_si X hP hS (by decide) (dM_36) g24 dX11_sell_82 (fun σ26 eσ26 H locs hP hS => ?_)
              have h := nm_some eσ26 h
              refine lv_iload_n hx hb dX11_sell_83 rfl (lv_at hl 3 rfl) ?_
              refine lv_iload hx hb dX11_sell_84 (lv_at hl 0 rfl) ?_
              refine lv_isub hx hb dX11_sell_86 ?_
              refine lv_topi (fun v27 ev27 => ?_)
              have h := nm_some ev27 h
              refine lv_istore_n (lv' := [(2, .int v27), (5, .int w13), (0, .ref (ad 0)), (1, .int a1), (3, .int t5.2.1), (4, .int t8.2.1)]) hx hb dX11_sell_87 rfl hl (by decide) rfl (fun ls hl => ?_)
              obtain ⟨v28, ev28⟩ : ∃ y : Int32, y = t8.2.1 + 1 := ⟨_, rfl⟩
              have h := nm_some ev28 h
              refine lv_iinc (v := v28) (lv' := [(4, .int v28), (2, .int v27), (5, .int w13), (0, .ref (ad 0)), (1, .int a1), (3, .int t5.2.1)]) hx hb dX11_sell_88 hl (k := 5) rfl (by rw [ev28]; rfl) (by decide) rfl (fun ls hl => ?_)
              refine lv_goto (tgt := 26) hx hb dX11_sell_91 (by decide) ?_
              exact hCL7 _ (Option.some.inj h).symm H locs ls hP hS (lv_sub hl [3, 4, 1, 5, 0] rfl)
            refine lv_icmp_ge (tgt := 63) hx hb dX11_sell_45 (by decide) (fun c29 => ?_) (fun c29 => ?_)
            · have h := it_t c29 h
              refine lv_iload_n hx hb dX11_sell_63 rfl (lv_at hl 2 rfl) ?_
              exact hJ64  t8.1 t8.2.2 h H locs ls hP hS (lv_sub hl [0, 1, 2, 3, 4] rfl)
            · have h := it_f c29 h
              refine lv_aload_n hx hb dX11_sell_48 rfl (lv_at hl 0 rfl) ?_
              refine x_gr X hP (j := 54) (by decide) (dM_0) rfl rfl (by decide) in11 lk121 dX11_sell_49 ?_
              refine lv_bipush (v := 100) hx hb dX11_sell_52 (by decide) ?_
              refine lv_iload hx hb dX11_sell_54 (lv_at hl 4 rfl) ?_
              refine lv_imul hx hb dX11_sell_56 ?_
              refine lv_topi (fun v30 ev30 => ?_)
              have h := nm_some ev30 h
              refine lv_iload_n hx hb dX11_sell_57 rfl (lv_at hl 3 rfl) ?_
              refine lv_iadd hx hb dX11_sell_58 ?_
              refine lv_topi (fun v31 ev31 => ?_)
              have h := nm_some ev31 h
              obtain ⟨g32, h⟩ := gd_some h
              refine x_ai X hP (by decide) (dM_36) g32 dX11_sell_59 ?_
              refine lv_goto (tgt := 64) hx hb dX11_sell_60 (by decide) ?_
              exact hJ64  (t8.2.2.1 36 v31.toNatClampNeg) t8.2.2 h H locs ls hP hS (lv_sub hl [0, 1, 2, 3, 4] rfl)
        · intro H locs ls hP hS hl
          obtain ⟨v1036, ev1036⟩ : ∃ y : Int32, y = t5.2.1 + 1 := ⟨_, rfl⟩
          have h := nm_some ev1036 h
          refine lv_iinc (v := v1036) (lv' := [(3, .int v1036), (0, .ref (ad 0)), (1, .int a1), (2, .int t1033.1), (4, .int t1033.2.1)]) hx hb dX11_sell_94 hl (k := 3) rfl (by rw [ev1036]; rfl) (by decide) rfl (fun ls hl => ?_)
          refine lv_goto (tgt := 17) hx hb dX11_sell_97 (by decide) ?_
          exact hCL4 _ (Option.some.inj h).symm H locs ls hP hS (lv_sub hl [1, 2, 3, 0] rfl)
    · intro H locs ls hP hS hl
      refine lv_aload_n hx hb dX11_sell_100 rfl (lv_at hl 0 rfl) ?_
      refine lv_dup hx hb dX11_sell_101 rfl ?_
      refine x_gi X hP (j := 59) (by decide) (dM_0) rfl rfl (by decide) in11 lk298 dX11_sell_102 ?_
      refine lv_iload_n hx hb dX11_sell_105 rfl (lv_at hl 1 rfl) ?_
      refine lv_iload_n hx hb dX11_sell_106 rfl (lv_at hl 2 rfl) ?_
      refine lv_isub hx hb dX11_sell_107 ?_
      refine lv_topi (fun v2040 ev2040 => ?_)
      have h := nm_some ev2040 h
      refine lv_iadd hx hb dX11_sell_108 ?_
      refine lv_topi (fun v2041 ev2041 => ?_)
      have h := nm_some ev2041 h
      refine x_pi X hP hS (j := 59) (by decide) (dM_0) rfl rfl (by decide) in11 tyX11_ok nmX11 lk298 rfl rfl rfl rfl dX11_sell_109 (fun σ2042 eσ2042 H locs hP hS => ?_)
      have h := nm_some eσ2042 h
      refine lv_iload_n hx hb dX11_sell_112 rfl (lv_at hl 1 rfl) ?_
      refine lv_iload_n hx hb dX11_sell_113 rfl (lv_at hl 2 rfl) ?_
      refine lv_isub hx hb dX11_sell_114 ?_
      refine lv_topi (fun v2043 ev2043 => ?_)
      have h := nm_some ev2043 h
      subst hQQ
      exact x_ri (σ0 := (fun _ _ => 0, fun _ _ => 0)) X hr hlocks hP hS (Option.some.inj h) dX11_sell_115
  · have h := it_t c3 h
    refine lv_iconst (v := (-1)) hx hb dX11_sell_11 (by decide) ?_
    subst hQQ
    exact x_ri (σ0 := (fun _ _ => 0, fun _ _ => 0)) X hr hlocks hP hS (Option.some.inj h) dX11_sell_12
def f_11_bill (n : Nat) (σ : St) (a1 : Int32) (a2 : Int32) : Option (Int32 × St) :=
  nm ((σ.1 0 1) - 1) fun v1 =>
  (f_11_isIn n σ a1 0 v1).bind fun r2 =>
  if r2.1 = 0 then
    some ((-1), r2.2)
  else
    if a2 = 0 then
      gd (inb a1 8) <| some ((r2.2.1 21 a1.toNatClampNeg), r2.2)
    else
      if a2 = 1 then
        gd (inb a1 8) <| some ((r2.2.1 22 a1.toNatClampNeg), r2.2)
      else
        if a2 = 2 then
          gd (inb a1 8) <| some ((r2.2.1 23 a1.toNatClampNeg), r2.2)
        else
          if a2 = 3 then
            gd (inb a1 8) <| some ((r2.2.1 24 a1.toNatClampNeg), r2.2)
          else
            some ((-1), r2.2)
abbrev rm_11_bill : Room := { frames := 1, cells := 0, slots := 0, locals := 22 }
set_option maxRecDepth 100000 in
set_option maxHeartbeats 4000000 in
theorem k_11_bill (l : Launch) (D : va_G) (cA : Nat → ClassId) (ad : Nat → Nat) (hj : inj 41 ad) (n : Nat) (σ : St) (a1 : Int32) (a2 : Int32)  {res : Int32 × St} (h : f_11_bill n σ a1 a2 = some res) : MXi l D dM 41 cA ad ET yX11_bill wsX11_bill rm_11_bill [.ref (ad 0), .int a1, .int a2] σ res := by
  refine Met.ofW (cc := cX11_bill) (maxL := 3) (ret := (some .int)) (by decide) rfl ?_
  intro p e s m args below meth c s₁ B hml hv
  obtain ⟨hargs, hP, hK, hE⟩ := hv
  have hx := B.exec
  have hb := B.bytes
  have hr := B.returns
  have hts := atoms_spec (ws := wsX11_bill) B.pre
  have hown : s.vm.findClass RX11 = some m.cls := findClass_of_methodNamed B.named
  have hlocks := B.notSynchronized
  have X : Cx p s m args c cX11_bill 3 RX11 wsX11_bill D dM 41 cA ad ET := ⟨hx, hb, hml, hown, hts, hK, hj, hE, ET_ok⟩
  have hS : va_S (inA 41 ad) s.heap s.heap [] := va_S.rf
  have hl := lv_entry ([.ref (ad 0), .int a1, .int a2]) (n := 3) (Nat.le_of_ble_eq_true rfl)
  rw [show entryFrame m args 3 = entryFrame m ([.ref (ad 0), .int a1, .int a2] : List Value).toArray 3 by rw [hargs]]
  rw [lg_entry_eq]
  generalize (lg_sl ([.ref (ad 0), .int a1, .int a2]) ++ List.replicate (3 - (lg_sl ([.ref (ad 0), .int a1, .int a2])).length) Slot.unset).toArray = ls at hl ⊢
  have hl : lv_has ls 3 [(0, .ref (ad 0)), (1, .int a1), (2, .int a2)] := hl
  obtain ⟨QQ, hQQ⟩ : ∃ Q, Q = MQ below (va_Qi (fun r u => r = res.1 ∧ u = res.2) (fun u t => va_P D vwCl (ww dM 41 cA ad u) t.heap) (inA 41 ad)) args s 0 0 (inA 41 ad) := ⟨_, rfl⟩
  show W p l e (headSpec wsX11_bill rm_11_bill).room s m args below meth c s.heap [] 0 0 (MQ below (va_Qi (fun r u => r = res.1 ∧ u = res.2) (fun u t => va_P D vwCl (ww dM 41 cA ad u) t.heap) (inA 41 ad)) args s 0 0 (inA 41 ad)) _
  rw [← hQQ]
  have in11 : ∀ w ∈ wsX110, w ∈ wsX11_bill := by decide +kernel
  have lk233 : Cond.fieldLink RX11 233 "CureTownModel" "guests" "I" ∈ wsX11_bill := by decide +kernel
  have lk85 : Cond.fieldLink RX11 85 "CureTownModel" "did" "[I" ∈ wsX11_bill := by decide +kernel
  have lk82 : Cond.fieldLink RX11 82 "CureTownModel" "drunk" "[I" ∈ wsX11_bill := by decide +kernel
  have lk79 : Cond.fieldLink RX11 79 "CureTownModel" "tax" "[I" ∈ wsX11_bill := by decide +kernel
  have lk76 : Cond.fieldLink RX11 76 "CureTownModel" "nights" "[I" ∈ wsX11_bill := by decide +kernel
  unfold f_11_bill at h
  obtain ⟨H, hH⟩ : ∃ H, H = s.heap := ⟨_, rfl⟩
  obtain ⟨locs, hlc⟩ : ∃ q : List Loc, q = [] := ⟨_, rfl⟩
  have hP : va_P D vwCl (ww dM 41 cA ad σ) s.heap := hP
  have hS : va_S (inA 41 ad) s.heap s.heap [] := hS
  rw [← hlc] at hS ⊢
  rw [show W p l e (headSpec wsX11_bill rm_11_bill).room s m args below meth c s.heap locs 0 0 QQ = W p l e (headSpec wsX11_bill rm_11_bill).room s m args below meth c H locs 0 0 QQ by rw [hH]]
  have hS : va_S (inA 41 ad) s.heap H locs := by rw [hH]; exact hS
  have hP : va_P D vwCl (ww dM 41 cA ad σ) H := by rw [hH]; exact hP
  clear hH hlc
  refine lv_iload_n hx hb dX11_bill_0 rfl (lv_at hl 1 rfl) ?_
  refine lv_iconst (v := 0) hx hb dX11_bill_1 (by decide) ?_
  refine lv_aload_n hx hb dX11_bill_2 rfl (lv_at hl 0 rfl) ?_
  refine x_gi X hP (j := 1) (by decide) (dM_0) rfl rfl (by decide) in11 lk233 dX11_bill_3 ?_
  refine lv_iconst (v := 1) hx hb dX11_bill_6 (by decide) ?_
  refine lv_isub hx hb dX11_bill_7 ?_
  refine lv_topi (fun v1 ev1 => ?_)
  have h := nm_some ev1 h
  obtain ⟨r2, k3, h⟩ := bd_some h
  refine x_Si (rest := []) X hP hS (k_11_isIn l D cA ad hj n σ a1 0 v1 k3) 3 gX11_bill_X11_isIn rfl rfl rfl (by decide +kernel) ⟨Nat.le_of_ble_eq_true rfl, Nat.le_of_ble_eq_true rfl⟩ rfl hl.1 rfl (Nat.le_of_ble_eq_true rfl) dX11_bill_8 ⟨Nat.zero_le _, Nat.zero_le _⟩ (fun H locs hP hS => ?_)
  refine lv_if_ne (tgt := 16) hx hb dX11_bill_11 (by decide) (fun c4 => ?_) (fun c4 => ?_)
  · have h := it_f c4 h
    refine lv_iload_n hx hb dX11_bill_16 rfl (lv_at hl 2 rfl) ?_
    refine lv_if_ne (tgt := 29) hx hb dX11_bill_17 (by decide) (fun c5 => ?_) (fun c5 => ?_)
    · have h := it_f c5 h
      refine lv_iload_n hx hb dX11_bill_29 rfl (lv_at hl 2 rfl) ?_
      refine lv_iconst (v := 1) hx hb dX11_bill_30 (by decide) ?_
      refine lv_icmp_ne (tgt := 43) hx hb dX11_bill_31 (by decide) (fun c6 => ?_) (fun c6 => ?_)
      · have h := it_f c6 h
        refine lv_iload_n hx hb dX11_bill_43 rfl (lv_at hl 2 rfl) ?_
        refine lv_iconst (v := 2) hx hb dX11_bill_44 (by decide) ?_
        refine lv_icmp_ne (tgt := 57) hx hb dX11_bill_45 (by decide) (fun c7 => ?_) (fun c7 => ?_)
        · have h := it_f c7 h
          refine lv_iload_n hx hb dX11_bill_57 rfl (lv_at hl 2 rfl) ?_
          refine lv_iconst (v := 3) hx hb dX11_bill_58 (by decide) ?_
          refine lv_icmp_ne (tgt := 71) hx hb dX11_bill_59 (by decide) (fun c8 => ?_) (fun c8 => ?_)
          · have h := it_f c8 h
            refine lv_iconst (v := (-1)) hx hb dX11_bill_71 (by decide) ?_
            subst hQQ
            exact x_ri (σ0 := (fun _ _ => 0, fun _ _ => 0)) X hr hlocks hP hS (Option.some.inj h) dX11_bill_72
          · have h := it_t c8 h
            refine lv_aload_n hx hb dX11_bill_62 rfl (lv_at hl 0 rfl) ?_
            refine x_gr X hP (j := 38) (by decide) (dM_0) rfl rfl (by decide) in11 lk85 dX11_bill_63 ?_
            refine lv_iload_n hx hb dX11_bill_66 rfl (lv_at hl 1 rfl) ?_
            obtain ⟨g9, h⟩ := gd_some h
            refine x_ai X hP (by decide) (dM_24) g9 dX11_bill_67 ?_
            refine lv_goto (tgt := 72) hx hb dX11_bill_68 (by decide) ?_
            subst hQQ
            exact x_ri (σ0 := (fun _ _ => 0, fun _ _ => 0)) X hr hlocks hP hS (Option.some.inj h) dX11_bill_72
        · have h := it_t c7 h
          refine lv_aload_n hx hb dX11_bill_48 rfl (lv_at hl 0 rfl) ?_
          refine x_gr X hP (j := 37) (by decide) (dM_0) rfl rfl (by decide) in11 lk82 dX11_bill_49 ?_
          refine lv_iload_n hx hb dX11_bill_52 rfl (lv_at hl 1 rfl) ?_
          obtain ⟨g10, h⟩ := gd_some h
          refine x_ai X hP (by decide) (dM_23) g10 dX11_bill_53 ?_
          refine lv_goto (tgt := 72) hx hb dX11_bill_54 (by decide) ?_
          subst hQQ
          exact x_ri (σ0 := (fun _ _ => 0, fun _ _ => 0)) X hr hlocks hP hS (Option.some.inj h) dX11_bill_72
      · have h := it_t c6 h
        refine lv_aload_n hx hb dX11_bill_34 rfl (lv_at hl 0 rfl) ?_
        refine x_gr X hP (j := 36) (by decide) (dM_0) rfl rfl (by decide) in11 lk79 dX11_bill_35 ?_
        refine lv_iload_n hx hb dX11_bill_38 rfl (lv_at hl 1 rfl) ?_
        obtain ⟨g11, h⟩ := gd_some h
        refine x_ai X hP (by decide) (dM_22) g11 dX11_bill_39 ?_
        refine lv_goto (tgt := 72) hx hb dX11_bill_40 (by decide) ?_
        subst hQQ
        exact x_ri (σ0 := (fun _ _ => 0, fun _ _ => 0)) X hr hlocks hP hS (Option.some.inj h) dX11_bill_72
    · have h := it_t c5 h
      refine lv_aload_n hx hb dX11_bill_20 rfl (lv_at hl 0 rfl) ?_
      refine x_gr X hP (j := 35) (by decide) (dM_0) rfl rfl (by decide) in11 lk76 dX11_bill_21 ?_
      refine lv_iload_n hx hb dX11_bill_24 rfl (lv_at hl 1 rfl) ?_
      obtain ⟨g12, h⟩ := gd_some h
      refine x_ai X hP (by decide) (dM_21) g12 dX11_bill_25 ?_
      refine lv_goto (tgt := 72) hx hb dX11_bill_26 (by decide) ?_
      subst hQQ
      exact x_ri (σ0 := (fun _ _ => 0, fun _ _ => 0)) X hr hlocks hP hS (Option.some.inj h) dX11_bill_72
  · have h := it_t c4 h
    refine lv_iconst (v := (-1)) hx hb dX11_bill_14 (by decide) ?_
    subst hQQ
    exact x_ri (σ0 := (fun _ _ => 0, fun _ _ => 0)) X hr hlocks hP hS (Option.some.inj h) dX11_bill_15
def b_11_look_70 (n : Nat)  (t9 : Int32 × Int32 × St) : Option ((Int32 × Int32 × St) ⊕ (Int32 × Int32 × St)) :=
  if 400 ≤ t9.2.1 then
    some (.inr (t9.1, t9.2.1, t9.2.2))
  else
    gd (inb t9.2.1 400) <| nm (t9.1 + (t9.2.2.1 36 t9.2.1.toNatClampNeg)) fun v12 =>
    nm (t9.2.1 + 1) fun v13 =>
    some (.inl (v12, v13, t9.2.2))
def f_11_look (n : Nat) (σ : St) (a1 : Int32) : Option (Int32 × St) :=
  if a1 = 0 then
    some ((σ.1 0 0), σ)
  else if a1 = 1 then
    some ((σ.1 0 2), σ)
  else if a1 = 2 then
    some ((σ.1 0 1), σ)
  else if a1 = 3 then
    (f_11_here n σ (σ.1 0 0)).bind fun r5 =>
    some (r5.1, r5.2)
  else if a1 = 4 then
    (lq (b_11_look_70 n ) n (0, 0, σ)).bind fun t1014 =>
    some (t1014.1, t1014.2.2)
  else if a1 = 5 then
    some ((σ.1 0 59), σ)
  else if a1 = 6 then
    some ((σ.1 0 60), σ)
  else 
    some ((-1), σ)
abbrev rm_11_look : Room := { frames := 3, cells := 0, slots := 0, locals := 67 }
set_option maxRecDepth 100000 in
set_option maxHeartbeats 4000000 in
theorem k_11_look (l : Launch) (D : va_G) (cA : Nat → ClassId) (ad : Nat → Nat) (hj : inj 41 ad) (n : Nat) (σ : St) (a1 : Int32)  {res : Int32 × St} (h : f_11_look n σ a1 = some res) : MXi l D dM 41 cA ad ET yX11_look wsX11_look rm_11_look [.ref (ad 0), .int a1] σ res := by
  refine Met.ofW (cc := cX11_look) (maxL := 4) (ret := (some .int)) (by decide) rfl ?_
  intro p e s m args below meth c s₁ B hml hv
  obtain ⟨hargs, hP, hK, hE⟩ := hv
  have hx := B.exec
  have hb := B.bytes
  have hr := B.returns
  have hts := atoms_spec (ws := wsX11_look) B.pre
  have hown : s.vm.findClass RX11 = some m.cls := findClass_of_methodNamed B.named
  have hlocks := B.notSynchronized
  have X : Cx p s m args c cX11_look 4 RX11 wsX11_look D dM 41 cA ad ET := ⟨hx, hb, hml, hown, hts, hK, hj, hE, ET_ok⟩
  have hS : va_S (inA 41 ad) s.heap s.heap [] := va_S.rf
  have hl := lv_entry ([.ref (ad 0), .int a1]) (n := 4) (Nat.le_of_ble_eq_true rfl)
  rw [show entryFrame m args 4 = entryFrame m ([.ref (ad 0), .int a1] : List Value).toArray 4 by rw [hargs]]
  rw [lg_entry_eq]
  generalize (lg_sl ([.ref (ad 0), .int a1]) ++ List.replicate (4 - (lg_sl ([.ref (ad 0), .int a1])).length) Slot.unset).toArray = ls at hl ⊢
  have hl : lv_has ls 4 [(0, .ref (ad 0)), (1, .int a1)] := hl
  obtain ⟨QQ, hQQ⟩ : ∃ Q, Q = MQ below (va_Qi (fun r u => r = res.1 ∧ u = res.2) (fun u t => va_P D vwCl (ww dM 41 cA ad u) t.heap) (inA 41 ad)) args s 0 0 (inA 41 ad) := ⟨_, rfl⟩
  show W p l e (headSpec wsX11_look rm_11_look).room s m args below meth c s.heap [] 0 0 (MQ below (va_Qi (fun r u => r = res.1 ∧ u = res.2) (fun u t => va_P D vwCl (ww dM 41 cA ad u) t.heap) (inA 41 ad)) args s 0 0 (inA 41 ad)) _
  rw [← hQQ]
  have in11 : ∀ w ∈ wsX110, w ∈ wsX11_look := by decide +kernel
  have lk230 : Cond.fieldLink RX11 230 "CureTownModel" "day" "I" ∈ wsX11_look := by decide +kernel
  have lk207 : Cond.fieldLink RX11 207 "CureTownModel" "regimens" "I" ∈ wsX11_look := by decide +kernel
  have lk233 : Cond.fieldLink RX11 233 "CureTownModel" "guests" "I" ∈ wsX11_look := by decide +kernel
  have lk121 : Cond.fieldLink RX11 121 "CureTownModel" "bottles" "[I" ∈ wsX11_look := by decide +kernel
  have lk298 : Cond.fieldLink RX11 298 "CureTownModel" "soldAll" "I" ∈ wsX11_look := by decide +kernel
  have lk295 : Cond.fieldLink RX11 295 "CureTownModel" "poured" "I" ∈ wsX11_look := by decide +kernel
  unfold f_11_look at h
  obtain ⟨H, hH⟩ : ∃ H, H = s.heap := ⟨_, rfl⟩
  obtain ⟨locs, hlc⟩ : ∃ q : List Loc, q = [] := ⟨_, rfl⟩
  have hP : va_P D vwCl (ww dM 41 cA ad σ) s.heap := hP
  have hS : va_S (inA 41 ad) s.heap s.heap [] := hS
  rw [← hlc] at hS ⊢
  rw [show W p l e (headSpec wsX11_look rm_11_look).room s m args below meth c s.heap locs 0 0 QQ = W p l e (headSpec wsX11_look rm_11_look).room s m args below meth c H locs 0 0 QQ by rw [hH]]
  have hS : va_S (inA 41 ad) s.heap H locs := by rw [hH]; exact hS
  have hP : va_P D vwCl (ww dM 41 cA ad σ) H := by rw [hH]; exact hP
  clear hH hlc
  refine lv_iconst (v := 0) hx hb dX11_look_0 (by decide) ?_
  refine lv_istore_n (lv' := [(2, .int 0), (0, .ref (ad 0)), (1, .int a1)]) hx hb dX11_look_1 rfl hl (by decide) rfl (fun ls hl => ?_)
  refine lv_iload_n hx hb dX11_look_2 rfl (lv_at hl 2 rfl) ?_
  by_cases c1 : a1 = 0
  · have h := it_t c1 h
    refine lv_tableIn (off := 41) (tgt := 44) hx hb dX11_look_3 (by rw [c1]; decide) (by rw [c1]; decide) (by rw [c1]; rfl) (by decide) ?_
    refine lv_aload_n hx hb dX11_look_44 rfl (lv_at hl 1 rfl) ?_
    refine x_gi X hP (j := 0) (by decide) (dM_0) rfl rfl (by decide) in11 lk230 dX11_look_45 ?_
    subst hQQ
    exact x_ri (σ0 := (fun _ _ => 0, fun _ _ => 0)) X hr hlocks hP hS (Option.some.inj h) dX11_look_48
  · have h := it_f c1 h
    by_cases c2 : a1 = 1
    · have h := it_t c2 h
      refine lv_tableIn (off := 46) (tgt := 49) hx hb dX11_look_3 (by rw [c2]; decide) (by rw [c2]; decide) (by rw [c2]; rfl) (by decide) ?_
      refine lv_aload_n hx hb dX11_look_49 rfl (lv_at hl 1 rfl) ?_
      refine x_gi X hP (j := 2) (by decide) (dM_0) rfl rfl (by decide) in11 lk207 dX11_look_50 ?_
      subst hQQ
      exact x_ri (σ0 := (fun _ _ => 0, fun _ _ => 0)) X hr hlocks hP hS (Option.some.inj h) dX11_look_53
    · have h := it_f c2 h
      by_cases c3 : a1 = 2
      · have h := it_t c3 h
        refine lv_tableIn (off := 51) (tgt := 54) hx hb dX11_look_3 (by rw [c3]; decide) (by rw [c3]; decide) (by rw [c3]; rfl) (by decide) ?_
        refine lv_aload_n hx hb dX11_look_54 rfl (lv_at hl 1 rfl) ?_
        refine x_gi X hP (j := 1) (by decide) (dM_0) rfl rfl (by decide) in11 lk233 dX11_look_55 ?_
        subst hQQ
        exact x_ri (σ0 := (fun _ _ => 0, fun _ _ => 0)) X hr hlocks hP hS (Option.some.inj h) dX11_look_58
      · have h := it_f c3 h
        by_cases c4 : a1 = 3
        · have h := it_t c4 h
          refine lv_tableIn (off := 56) (tgt := 59) hx hb dX11_look_3 (by rw [c4]; decide) (by rw [c4]; decide) (by rw [c4]; rfl) (by decide) ?_
          refine lv_aload_n hx hb dX11_look_59 rfl (lv_at hl 1 rfl) ?_
          refine lv_aload_n hx hb dX11_look_60 rfl (lv_at hl 1 rfl) ?_
          refine x_gi X hP (j := 0) (by decide) (dM_0) rfl rfl (by decide) in11 lk230 dX11_look_61 ?_
          obtain ⟨r5, k6, h⟩ := bd_some h
          refine x_Vi (rest := []) X hP hS (k_11_here l D cA ad hj n σ (σ.1 0 0) k6) (by decide) (dM_0) rfl 1 gX11_look_X11_here rfl rfl rfl (by decide +kernel) ⟨Nat.le_of_ble_eq_true rfl, Nat.le_of_ble_eq_true rfl⟩ rfl hl.1 rfl (Nat.le_of_ble_eq_true rfl) dX11_look_64 ⟨Nat.zero_le _, Nat.zero_le _⟩ (fun H locs hP hS => ?_)
          subst hQQ
          exact x_ri (σ0 := (fun _ _ => 0, fun _ _ => 0)) X hr hlocks hP hS (Option.some.inj h) dX11_look_67
        · have h := it_f c4 h
          by_cases c7 : a1 = 4
          · have h := it_t c7 h
            refine lv_tableIn (off := 65) (tgt := 68) hx hb dX11_look_3 (by rw [c7]; decide) (by rw [c7]; decide) (by rw [c7]; rfl) (by decide) ?_
            refine lv_iconst (v := 0) hx hb dX11_look_68 (by decide) ?_
            refine lv_istore_n (lv' := [(3, .int 0), (2, .int 0), (0, .ref (ad 0)), (1, .int a1)]) hx hb dX11_look_69 rfl hl (by decide) rfl (fun ls hl => ?_)
            obtain ⟨t1014, o1016, h⟩ := bd_some h
            refine lq_rule (P := fun t9 : Int32 × Int32 × St => ∀ (H : Heap) (locs : List Loc) (ls : Array Slot), va_P D vwCl (ww dM 41 cA ad t9.2.2) H → va_S (inA 41 ad) s.heap H locs → lv_has ls 4 [(0, .ref (ad 0)), (2, .int t9.1), (3, .int t9.2.1)] → W p l e (headSpec wsX11_look rm_11_look).room s m args below meth c H locs 0 0 QQ (F0 m 70 ls [])) (X := fun t1014 : Int32 × Int32 × St => ∀ (H : Heap) (locs : List Loc) (ls : Array Slot), va_P D vwCl (ww dM 41 cA ad t1014.2.2) H → va_S (inA 41 ad) s.heap H locs → lv_has ls 4 [(0, .ref (ad 0)), (2, .int t1014.1), (3, .int t1014.2.1)] → W p l e (headSpec wsX11_look rm_11_look).room s m args below meth c H locs 0 0 QQ (F0 m 92 ls [])) ?_ n _ _ o1016 ?_ H locs ls hP hS (lv_sub hl [2, 1, 0] rfl)
            · clear h hP hS hl
              intro t9 rL8 h hCL8 hEL8 H locs ls hP hS hl
              unfold b_11_look_70 at h
              refine lv_iload_n hx hb dX11_look_70 rfl (lv_at hl 2 rfl) ?_
              refine lv_sipush (v := 400) hx hb dX11_look_71 (by decide) ?_
              refine lv_icmp_ge (tgt := 92) hx hb dX11_look_74 (by decide) (fun c10 => ?_) (fun c10 => ?_)
              · have h := it_t c10 h
                exact hEL8 _ (Option.some.inj h).symm H locs ls hP hS (lv_sub hl [0, 1, 2] rfl)
              · have h := it_f c10 h
                refine lv_iload_n hx hb dX11_look_77 rfl (lv_at hl 1 rfl) ?_
                refine lv_aload_n hx hb dX11_look_78 rfl (lv_at hl 0 rfl) ?_
                refine x_gr X hP (j := 54) (by decide) (dM_0) rfl rfl (by decide) in11 lk121 dX11_look_79 ?_
                refine lv_iload_n hx hb dX11_look_82 rfl (lv_at hl 2 rfl) ?_
                obtain ⟨g11, h⟩ := gd_some h
                refine x_ai X hP (by decide) (dM_36) g11 dX11_look_83 ?_
                refine lv_iadd hx hb dX11_look_84 ?_
                refine lv_topi (fun v12 ev12 => ?_)
                have h := nm_some ev12 h
                refine lv_istore_n (lv' := [(2, .int v12), (0, .ref (ad 0)), (3, .int t9.2.1)]) hx hb dX11_look_85 rfl hl (by decide) rfl (fun ls hl => ?_)
                obtain ⟨v13, ev13⟩ : ∃ y : Int32, y = t9.2.1 + 1 := ⟨_, rfl⟩
                have h := nm_some ev13 h
                refine lv_iinc (v := v13) (lv' := [(3, .int v13), (2, .int v12), (0, .ref (ad 0))]) hx hb dX11_look_86 hl (k := 2) rfl (by rw [ev13]; rfl) (by decide) rfl (fun ls hl => ?_)
                refine lv_goto (tgt := 70) hx hb dX11_look_89 (by decide) ?_
                exact hCL8 _ (Option.some.inj h).symm H locs ls hP hS (lv_sub hl [2, 1, 0] rfl)
            · intro H locs ls hP hS hl
              refine lv_iload_n hx hb dX11_look_92 rfl (lv_at hl 1 rfl) ?_
              subst hQQ
              exact x_ri (σ0 := (fun _ _ => 0, fun _ _ => 0)) X hr hlocks hP hS (Option.some.inj h) dX11_look_93
          · have h := it_f c7 h
            by_cases c1017 : a1 = 5
            · have h := it_t c1017 h
              refine lv_tableIn (off := 91) (tgt := 94) hx hb dX11_look_3 (by rw [c1017]; decide) (by rw [c1017]; decide) (by rw [c1017]; rfl) (by decide) ?_
              refine lv_aload_n hx hb dX11_look_94 rfl (lv_at hl 1 rfl) ?_
              refine x_gi X hP (j := 59) (by decide) (dM_0) rfl rfl (by decide) in11 lk298 dX11_look_95 ?_
              subst hQQ
              exact x_ri (σ0 := (fun _ _ => 0, fun _ _ => 0)) X hr hlocks hP hS (Option.some.inj h) dX11_look_98
            · have h := it_f c1017 h
              by_cases c1018 : a1 = 6
              · have h := it_t c1018 h
                refine lv_tableIn (off := 96) (tgt := 99) hx hb dX11_look_3 (by rw [c1018]; decide) (by rw [c1018]; decide) (by rw [c1018]; rfl) (by decide) ?_
                refine lv_aload_n hx hb dX11_look_99 rfl (lv_at hl 1 rfl) ?_
                refine x_gi X hP (j := 60) (by decide) (dM_0) rfl rfl (by decide) in11 lk295 dX11_look_100 ?_
                subst hQQ
                exact x_ri (σ0 := (fun _ _ => 0, fun _ _ => 0)) X hr hlocks hP hS (Option.some.inj h) dX11_look_103
              · have h := it_f c1018 h
                refine lv_tableOut (tgt := 104) hx hb dX11_look_3 (tb_out 6 (tb_c c1018 <| (tb_c c1017 <| (tb_c c7 <| (tb_c c4 <| (tb_c c3 <| (tb_c c2 <| (tb_c c1 <| tb_0)))))))) (by decide) ?_
                refine lv_iconst (v := (-1)) hx hb dX11_look_104 (by decide) ?_
                subst hQQ
                exact x_ri (σ0 := (fun _ _ => 0, fun _ _ => 0)) X hr hlocks hP hS (Option.some.inj h) dX11_look_105
