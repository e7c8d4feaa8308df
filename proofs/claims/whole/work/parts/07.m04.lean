def j_11_plan_125 (n : Nat) (a2 : Int32) (a3 : Int32) (w0_ : Int32) (σ : St) : Option (Int32 × St) :=
  gd (inb a2 8) <| nm ((σ.1 27 a2.toNatClampNeg) - 1) fun v15 =>
  (f_11_isIn n σ w0_ 0 v15).bind fun r16 =>
  if r16.1 = 0 then
    some ((-1), r16.2)
  else
    nm (30 * a2) fun v19 =>
    nm (v19 + w0_) fun v20 =>
    if 50 ≤ a3 then
      if 90 ≤ a3 then
        gd (inb v20 240) <| some ((r16.2.1 34 v20.toNatClampNeg), r16.2)
      else
        gd (inb v20 240) <| some ((r16.2.1 33 v20.toNatClampNeg), r16.2)
    else
      gd (inb v20 240) <| some ((r16.2.1 32 v20.toNatClampNeg), r16.2)
def f_11_plan (n : Nat) (σ : St) (a1 : Int32) (a2 : Int32) (a3 : Int32) : Option (Int32 × St) :=
  (f_11_isDay n σ a1 (σ.1 0 0)).bind fun r1 =>
  if r1.1 = 0 then
    some ((-1), r1.2)
  else
    (f_11_isHere n r1.2 a2 a1).bind fun r4 =>
    if r4.1 = 0 then
      some ((-1), r4.2)
    else
      (f_11_ranks n r4.2 a1).bind fun r7 =>
      (f_11_lays n r7 a1).bind fun r9 =>
      if 10 ≤ a3 then
        if 50 ≤ a3 then
          if 90 ≤ a3 then
            nm (a3 - 90) fun v40 =>
            j_11_plan_125 n a2 a3 v40 r9
          else
            nm (a3 - 50) fun v41 =>
            j_11_plan_125 n a2 a3 v41 r9
        else
          nm (a3 - 10) fun v42 =>
          j_11_plan_125 n a2 a3 v42 r9
      else
        if a3 = 0 then
          gd (inb a2 8) <| some ((r9.1 27 a2.toNatClampNeg), r9)
        else
          if a3 = 1 then
            gd (inb a2 8) <| some ((r9.1 28 a2.toNatClampNeg), r9)
          else
            if a3 = 2 then
              gd (inb a2 8) <| some ((r9.1 29 a2.toNatClampNeg), r9)
            else
              if a3 = 3 then
                gd (inb a2 8) <| some ((r9.1 30 a2.toNatClampNeg), r9)
              else
                some ((-1), r9)
abbrev rm_11_plan : Room := { frames := 4, cells := 0, slots := 0, locals := 102 }
set_option maxRecDepth 100000 in
set_option maxHeartbeats 4000000 in
theorem k_11_plan (l : Launch) (D : va_G) (cA : Nat → ClassId) (ad : Nat → Nat) (hj : inj 41 ad) (n : Nat) (σ : St) (a1 : Int32) (a2 : Int32) (a3 : Int32)  {res : Int32 × St} (h : f_11_plan n σ a1 a2 a3 = some res) : MXi l D dM 41 cA ad ET yX11_plan wsX11_plan rm_11_plan [.ref (ad 0), .int a1, .int a2, .int a3] σ res := by
  refine Met.ofW (cc := cX11_plan) (maxL := 6) (ret := (some .int)) (by decide) rfl ?_
  intro p e s m args below meth c s₁ B hml hv
  obtain ⟨hargs, hP, hK, hE⟩ := hv
  have hx := B.exec
  have hb := B.bytes
  have hr := B.returns
  have hts := atoms_spec (ws := wsX11_plan) B.pre
  have hown : s.vm.findClass RX11 = some m.cls := findClass_of_methodNamed B.named
  have hlocks := B.notSynchronized
  have X : Cx p s m args c cX11_plan 6 RX11 wsX11_plan D dM 41 cA ad ET := ⟨hx, hb, hml, hown, hts, hK, hj, hE, ET_ok⟩
  have hS : va_S (inA 41 ad) s.heap s.heap [] := va_S.rf
  have hl := lv_entry ([.ref (ad 0), .int a1, .int a2, .int a3]) (n := 6) (Nat.le_of_ble_eq_true rfl)
  rw [show entryFrame m args 6 = entryFrame m ([.ref (ad 0), .int a1, .int a2, .int a3] : List Value).toArray 6 by rw [hargs]]
  rw [lg_entry_eq]
  generalize (lg_sl ([.ref (ad 0), .int a1, .int a2, .int a3]) ++ List.replicate (6 - (lg_sl ([.ref (ad 0), .int a1, .int a2, .int a3])).length) Slot.unset).toArray = ls at hl ⊢
  have hl : lv_has ls 6 [(0, .ref (ad 0)), (1, .int a1), (2, .int a2), (3, .int a3)] := hl
  obtain ⟨QQ, hQQ⟩ : ∃ Q, Q = MQ below (va_Qi (fun r u => r = res.1 ∧ u = res.2) (fun u t => va_P D vwCl (ww dM 41 cA ad u) t.heap) (inA 41 ad)) args s 0 0 (inA 41 ad) := ⟨_, rfl⟩
  show W p l e (headSpec wsX11_plan rm_11_plan).room s m args below meth c s.heap [] 0 0 (MQ below (va_Qi (fun r u => r = res.1 ∧ u = res.2) (fun u t => va_P D vwCl (ww dM 41 cA ad u) t.heap) (inA 41 ad)) args s 0 0 (inA 41 ad)) _
  rw [← hQQ]
  have in11 : ∀ w ∈ wsX110, w ∈ wsX11_plan := by decide +kernel
  have lk230 : Cond.fieldLink RX11 230 "CureTownModel" "day" "I" ∈ wsX11_plan := by decide +kernel
  have lk94 : Cond.fieldLink RX11 94 "CureTownModel" "done" "[I" ∈ wsX11_plan := by decide +kernel
  have lk115 : Cond.fieldLink RX11 115 "CureTownModel" "what0" "[I" ∈ wsX11_plan := by decide +kernel
  have lk112 : Cond.fieldLink RX11 112 "CureTownModel" "where" "[I" ∈ wsX11_plan := by decide +kernel
  have lk109 : Cond.fieldLink RX11 109 "CureTownModel" "when" "[I" ∈ wsX11_plan := by decide +kernel
  have lk103 : Cond.fieldLink RX11 103 "CureTownModel" "lost" "[I" ∈ wsX11_plan := by decide +kernel
  have lk100 : Cond.fieldLink RX11 100 "CureTownModel" "glasses" "[I" ∈ wsX11_plan := by decide +kernel
  have lk97 : Cond.fieldLink RX11 97 "CureTownModel" "end" "[I" ∈ wsX11_plan := by decide +kernel
  unfold f_11_plan at h
  obtain ⟨H, hH⟩ : ∃ H, H = s.heap := ⟨_, rfl⟩
  obtain ⟨locs, hlc⟩ : ∃ q : List Loc, q = [] := ⟨_, rfl⟩
  have hP : va_P D vwCl (ww dM 41 cA ad σ) s.heap := hP
  have hS : va_S (inA 41 ad) s.heap s.heap [] := hS
  rw [← hlc] at hS ⊢
  rw [show W p l e (headSpec wsX11_plan rm_11_plan).room s m args below meth c s.heap locs 0 0 QQ = W p l e (headSpec wsX11_plan rm_11_plan).room s m args below meth c H locs 0 0 QQ by rw [hH]]
  have hS : va_S (inA 41 ad) s.heap H locs := by rw [hH]; exact hS
  have hP : va_P D vwCl (ww dM 41 cA ad σ) H := by rw [hH]; exact hP
  clear hH hlc
  refine lv_iload_n hx hb dX11_plan_0 rfl (lv_at hl 1 rfl) ?_
  refine lv_aload_n hx hb dX11_plan_1 rfl (lv_at hl 0 rfl) ?_
  refine x_gi X hP (j := 0) (by decide) (dM_0) rfl rfl (by decide) in11 lk230 dX11_plan_2 ?_
  obtain ⟨r1, k2, h⟩ := bd_some h
  refine x_Si (rest := []) X hP hS (k_11_isDay l D cA ad hj n σ a1 (σ.1 0 0) k2) 2 gX11_plan_X11_isDay rfl rfl rfl (by decide +kernel) ⟨Nat.le_of_ble_eq_true rfl, Nat.le_of_ble_eq_true rfl⟩ rfl hl.1 rfl (Nat.le_of_ble_eq_true rfl) dX11_plan_5 ⟨Nat.zero_le _, Nat.zero_le _⟩ (fun H locs hP hS => ?_)
  refine lv_if_eq (tgt := 20) hx hb dX11_plan_8 (by decide) (fun c3 => ?_) (fun c3 => ?_)
  · have h := it_t c3 h
    refine lv_iconst (v := (-1)) hx hb dX11_plan_20 (by decide) ?_
    subst hQQ
    exact x_ri (σ0 := (fun _ _ => 0, fun _ _ => 0)) X hr hlocks hP hS (Option.some.inj h) dX11_plan_21
  · have h := it_f c3 h
    refine lv_aload_n hx hb dX11_plan_11 rfl (lv_at hl 0 rfl) ?_
    refine lv_iload_n hx hb dX11_plan_12 rfl (lv_at hl 2 rfl) ?_
    refine lv_iload_n hx hb dX11_plan_13 rfl (lv_at hl 1 rfl) ?_
    obtain ⟨r4, k5, h⟩ := bd_some h
    refine x_Vi (rest := []) X hP hS (k_11_isHere l D cA ad hj n r1.2 a2 a1 k5) (by decide) (dM_0) rfl 2 gX11_plan_X11_isHere rfl rfl rfl (by decide +kernel) ⟨Nat.le_of_ble_eq_true rfl, Nat.le_of_ble_eq_true rfl⟩ rfl hl.1 rfl (Nat.le_of_ble_eq_true rfl) dX11_plan_14 ⟨Nat.zero_le _, Nat.zero_le _⟩ (fun H locs hP hS => ?_)
    refine lv_if_ne (tgt := 22) hx hb dX11_plan_17 (by decide) (fun c6 => ?_) (fun c6 => ?_)
    · have h := it_f c6 h
      refine lv_aload_n hx hb dX11_plan_22 rfl (lv_at hl 0 rfl) ?_
      refine lv_iload_n hx hb dX11_plan_23 rfl (lv_at hl 1 rfl) ?_
      obtain ⟨r7, k8, h⟩ := bd_some h
      refine x_Vv (rest := []) X hP hS (k_11_ranks l D cA ad hj n r4.2 a1 k8) (by decide) (dM_0) rfl 1 gX11_plan_X11_ranks rfl rfl rfl (by decide +kernel) ⟨Nat.le_of_ble_eq_true rfl, Nat.le_of_ble_eq_true rfl⟩ rfl hl.1 rfl (Nat.le_of_ble_eq_true rfl) dX11_plan_24 ⟨Nat.zero_le _, Nat.zero_le _⟩ (fun H locs hP hS => ?_)
      refine lv_aload_n hx hb dX11_plan_27 rfl (lv_at hl 0 rfl) ?_
      refine lv_iload_n hx hb dX11_plan_28 rfl (lv_at hl 1 rfl) ?_
      obtain ⟨r9, k10, h⟩ := bd_some h
      refine x_Vv (rest := []) X hP hS (k_11_lays l D cA ad hj n r7 a1 k10) (by decide) (dM_0) rfl 1 gX11_plan_X11_lays rfl rfl rfl (by decide +kernel) ⟨Nat.le_of_ble_eq_true rfl, Nat.le_of_ble_eq_true rfl⟩ rfl hl.1 rfl (Nat.le_of_ble_eq_true rfl) dX11_plan_29 ⟨Nat.zero_le _, Nat.zero_le _⟩ (fun H locs hP hS => ?_)
      refine lv_iload_n hx hb dX11_plan_32 rfl (lv_at hl 3 rfl) ?_
      refine lv_bipush (v := 10) hx hb dX11_plan_33 (by decide) ?_
      refine lv_icmp_ge (tgt := 95) hx hb dX11_plan_35 (by decide) (fun c11 => ?_) (fun c11 => ?_)
      · have h := it_t c11 h
        refine lv_iload_n hx hb dX11_plan_95 rfl (lv_at hl 3 rfl) ?_
        refine lv_bipush (v := 50) hx hb dX11_plan_96 (by decide) ?_
        have hJ125 : ∀ (w12 : Int32) (σ13 : St), j_11_plan_125 n a2 a3 w12 σ13 = some res → ∀ (H : Heap) (locs : List Loc) (ls : Array Slot), va_P D vwCl (ww dM 41 cA ad σ13) H → va_S (inA 41 ad) s.heap H locs → lv_has ls 6 [(0, .ref (ad 0)), (2, .int a2), (3, .int a3)] → W p l e (headSpec wsX11_plan rm_11_plan).room s m args below meth c H locs 0 0 QQ (F0 m 125 ls [.int w12]) := by
          clear h hP hS hl
          intro w12 σ13 h H locs ls hP hS hl
          unfold j_11_plan_125 at h
          refine lv_istore (lv' := [(4, .int w12), (0, .ref (ad 0)), (2, .int a2), (3, .int a3)]) hx hb dX11_plan_125 hl (by decide) rfl (fun ls hl => ?_)
          refine lv_iload hx hb dX11_plan_127 (lv_at hl 0 rfl) ?_
          refine lv_iconst (v := 0) hx hb dX11_plan_129 (by decide) ?_
          refine lv_aload_n hx hb dX11_plan_130 rfl (lv_at hl 1 rfl) ?_
          refine x_gr X hP (j := 41) (by decide) (dM_0) rfl rfl (by decide) in11 lk94 dX11_plan_131 ?_
          refine lv_iload_n hx hb dX11_plan_134 rfl (lv_at hl 2 rfl) ?_
          obtain ⟨g26, h⟩ := gd_some h
          refine x_ai X hP (by decide) (dM_27) g26 dX11_plan_135 ?_
          refine lv_iconst (v := 1) hx hb dX11_plan_136 (by decide) ?_
          refine lv_isub hx hb dX11_plan_137 ?_
          refine lv_topi (fun v27 ev27 => ?_)
          have h := nm_some ev27 h
          obtain ⟨r28, k29, h⟩ := bd_some h
          refine x_Si (rest := []) X hP hS (k_11_isIn l D cA ad hj n σ13 w12 0 v27 k29) 3 gX11_plan_X11_isIn rfl rfl rfl (by decide +kernel) ⟨Nat.le_of_ble_eq_true rfl, Nat.le_of_ble_eq_true rfl⟩ rfl hl.1 rfl (Nat.le_of_ble_eq_true rfl) dX11_plan_138 ⟨Nat.zero_le _, Nat.zero_le _⟩ (fun H locs hP hS => ?_)
          refine lv_if_ne (tgt := 146) hx hb dX11_plan_141 (by decide) (fun c30 => ?_) (fun c30 => ?_)
          · have h := it_f c30 h
            refine lv_bipush (v := 30) hx hb dX11_plan_146 (by decide) ?_
            refine lv_iload_n hx hb dX11_plan_148 rfl (lv_at hl 2 rfl) ?_
            refine lv_imul hx hb dX11_plan_149 ?_
            refine lv_topi (fun v31 ev31 => ?_)
            have h := nm_some ev31 h
            refine lv_iload hx hb dX11_plan_150 (lv_at hl 0 rfl) ?_
            refine lv_iadd hx hb dX11_plan_152 ?_
            refine lv_topi (fun v32 ev32 => ?_)
            have h := nm_some ev32 h
            refine lv_istore (lv' := [(5, .int v32), (4, .int w12), (0, .ref (ad 0)), (2, .int a2), (3, .int a3)]) hx hb dX11_plan_153 hl (by decide) rfl (fun ls hl => ?_)
            refine lv_iload_n hx hb dX11_plan_155 rfl (lv_at hl 4 rfl) ?_
            refine lv_bipush (v := 50) hx hb dX11_plan_156 (by decide) ?_
            refine lv_icmp_ge (tgt := 171) hx hb dX11_plan_158 (by decide) (fun c33 => ?_) (fun c33 => ?_)
            · have h := it_t c33 h
              refine lv_iload_n hx hb dX11_plan_171 rfl (lv_at hl 4 rfl) ?_
              refine lv_bipush (v := 90) hx hb dX11_plan_172 (by decide) ?_
              refine lv_icmp_ge (tgt := 187) hx hb dX11_plan_174 (by decide) (fun c34 => ?_) (fun c34 => ?_)
              · have h := it_t c34 h
                refine lv_aload_n hx hb dX11_plan_187 rfl (lv_at hl 2 rfl) ?_
                refine x_gr X hP (j := 48) (by decide) (dM_0) rfl rfl (by decide) in11 lk115 dX11_plan_188 ?_
                refine lv_iload hx hb dX11_plan_191 (lv_at hl 0 rfl) ?_
                obtain ⟨g35, h⟩ := gd_some h
                refine x_ai X hP (by decide) (dM_34) g35 dX11_plan_193 ?_
                subst hQQ
                exact x_ri (σ0 := (fun _ _ => 0, fun _ _ => 0)) X hr hlocks hP hS (Option.some.inj h) dX11_plan_194
              · have h := it_f c34 h
                refine lv_aload_n hx hb dX11_plan_177 rfl (lv_at hl 2 rfl) ?_
                refine x_gr X hP (j := 47) (by decide) (dM_0) rfl rfl (by decide) in11 lk112 dX11_plan_178 ?_
                refine lv_iload hx hb dX11_plan_181 (lv_at hl 0 rfl) ?_
                obtain ⟨g36, h⟩ := gd_some h
                refine x_ai X hP (by decide) (dM_33) g36 dX11_plan_183 ?_
                refine lv_goto (tgt := 194) hx hb dX11_plan_184 (by decide) ?_
                subst hQQ
                exact x_ri (σ0 := (fun _ _ => 0, fun _ _ => 0)) X hr hlocks hP hS (Option.some.inj h) dX11_plan_194
            · have h := it_f c33 h
              refine lv_aload_n hx hb dX11_plan_161 rfl (lv_at hl 2 rfl) ?_
              refine x_gr X hP (j := 46) (by decide) (dM_0) rfl rfl (by decide) in11 lk109 dX11_plan_162 ?_
              refine lv_iload hx hb dX11_plan_165 (lv_at hl 0 rfl) ?_
              obtain ⟨g37, h⟩ := gd_some h
              refine x_ai X hP (by decide) (dM_32) g37 dX11_plan_167 ?_
              refine lv_goto (tgt := 194) hx hb dX11_plan_168 (by decide) ?_
              subst hQQ
              exact x_ri (σ0 := (fun _ _ => 0, fun _ _ => 0)) X hr hlocks hP hS (Option.some.inj h) dX11_plan_194
          · have h := it_t c30 h
            refine lv_iconst (v := (-1)) hx hb dX11_plan_144 (by decide) ?_
            subst hQQ
            exact x_ri (σ0 := (fun _ _ => 0, fun _ _ => 0)) X hr hlocks hP hS (Option.some.inj h) dX11_plan_145
        refine lv_icmp_ge (tgt := 108) hx hb dX11_plan_98 (by decide) (fun c38 => ?_) (fun c38 => ?_)
        · have h := it_t c38 h
          refine lv_iload_n hx hb dX11_plan_108 rfl (lv_at hl 3 rfl) ?_
          refine lv_bipush (v := 90) hx hb dX11_plan_109 (by decide) ?_
          refine lv_icmp_ge (tgt := 121) hx hb dX11_plan_111 (by decide) (fun c39 => ?_) (fun c39 => ?_)
          · have h := it_t c39 h
            refine lv_iload_n hx hb dX11_plan_121 rfl (lv_at hl 3 rfl) ?_
            refine lv_bipush (v := 90) hx hb dX11_plan_122 (by decide) ?_
            refine lv_isub hx hb dX11_plan_124 ?_
            refine lv_topi (fun v40 ev40 => ?_)
            have h := nm_some ev40 h
            exact hJ125  v40 r9 h H locs ls hP hS (lv_sub hl [0, 2, 3] rfl)
          · have h := it_f c39 h
            refine lv_iload_n hx hb dX11_plan_114 rfl (lv_at hl 3 rfl) ?_
            refine lv_bipush (v := 50) hx hb dX11_plan_115 (by decide) ?_
            refine lv_isub hx hb dX11_plan_117 ?_
            refine lv_topi (fun v41 ev41 => ?_)
            have h := nm_some ev41 h
            refine lv_goto (tgt := 125) hx hb dX11_plan_118 (by decide) ?_
            exact hJ125  v41 r9 h H locs ls hP hS (lv_sub hl [0, 2, 3] rfl)
        · have h := it_f c38 h
          refine lv_iload_n hx hb dX11_plan_101 rfl (lv_at hl 3 rfl) ?_
          refine lv_bipush (v := 10) hx hb dX11_plan_102 (by decide) ?_
          refine lv_isub hx hb dX11_plan_104 ?_
          refine lv_topi (fun v42 ev42 => ?_)
          have h := nm_some ev42 h
          refine lv_goto (tgt := 125) hx hb dX11_plan_105 (by decide) ?_
          exact hJ125  v42 r9 h H locs ls hP hS (lv_sub hl [0, 2, 3] rfl)
      · have h := it_f c11 h
        refine lv_iload_n hx hb dX11_plan_38 rfl (lv_at hl 3 rfl) ?_
        refine lv_if_ne (tgt := 51) hx hb dX11_plan_39 (by decide) (fun c43 => ?_) (fun c43 => ?_)
        · have h := it_f c43 h
          refine lv_iload_n hx hb dX11_plan_51 rfl (lv_at hl 3 rfl) ?_
          refine lv_iconst (v := 1) hx hb dX11_plan_52 (by decide) ?_
          refine lv_icmp_ne (tgt := 65) hx hb dX11_plan_53 (by decide) (fun c44 => ?_) (fun c44 => ?_)
          · have h := it_f c44 h
            refine lv_iload_n hx hb dX11_plan_65 rfl (lv_at hl 3 rfl) ?_
            refine lv_iconst (v := 2) hx hb dX11_plan_66 (by decide) ?_
            refine lv_icmp_ne (tgt := 79) hx hb dX11_plan_67 (by decide) (fun c45 => ?_) (fun c45 => ?_)
            · have h := it_f c45 h
              refine lv_iload_n hx hb dX11_plan_79 rfl (lv_at hl 3 rfl) ?_
              refine lv_iconst (v := 3) hx hb dX11_plan_80 (by decide) ?_
              refine lv_icmp_ne (tgt := 93) hx hb dX11_plan_81 (by decide) (fun c46 => ?_) (fun c46 => ?_)
              · have h := it_f c46 h
                refine lv_iconst (v := (-1)) hx hb dX11_plan_93 (by decide) ?_
                subst hQQ
                exact x_ri (σ0 := (fun _ _ => 0, fun _ _ => 0)) X hr hlocks hP hS (Option.some.inj h) dX11_plan_94
              · have h := it_t c46 h
                refine lv_aload_n hx hb dX11_plan_84 rfl (lv_at hl 0 rfl) ?_
                refine x_gr X hP (j := 44) (by decide) (dM_0) rfl rfl (by decide) in11 lk103 dX11_plan_85 ?_
                refine lv_iload_n hx hb dX11_plan_88 rfl (lv_at hl 2 rfl) ?_
                obtain ⟨g47, h⟩ := gd_some h
                refine x_ai X hP (by decide) (dM_30) g47 dX11_plan_89 ?_
                refine lv_goto (tgt := 94) hx hb dX11_plan_90 (by decide) ?_
                subst hQQ
                exact x_ri (σ0 := (fun _ _ => 0, fun _ _ => 0)) X hr hlocks hP hS (Option.some.inj h) dX11_plan_94
            · have h := it_t c45 h
              refine lv_aload_n hx hb dX11_plan_70 rfl (lv_at hl 0 rfl) ?_
              refine x_gr X hP (j := 43) (by decide) (dM_0) rfl rfl (by decide) in11 lk100 dX11_plan_71 ?_
              refine lv_iload_n hx hb dX11_plan_74 rfl (lv_at hl 2 rfl) ?_
              obtain ⟨g48, h⟩ := gd_some h
              refine x_ai X hP (by decide) (dM_29) g48 dX11_plan_75 ?_
              refine lv_goto (tgt := 94) hx hb dX11_plan_76 (by decide) ?_
              subst hQQ
              exact x_ri (σ0 := (fun _ _ => 0, fun _ _ => 0)) X hr hlocks hP hS (Option.some.inj h) dX11_plan_94
          · have h := it_t c44 h
            refine lv_aload_n hx hb dX11_plan_56 rfl (lv_at hl 0 rfl) ?_
            refine x_gr X hP (j := 42) (by decide) (dM_0) rfl rfl (by decide) in11 lk97 dX11_plan_57 ?_
            refine lv_iload_n hx hb dX11_plan_60 rfl (lv_at hl 2 rfl) ?_
            obtain ⟨g49, h⟩ := gd_some h
            refine x_ai X hP (by decide) (dM_28) g49 dX11_plan_61 ?_
            refine lv_goto (tgt := 94) hx hb dX11_plan_62 (by decide) ?_
            subst hQQ
            exact x_ri (σ0 := (fun _ _ => 0, fun _ _ => 0)) X hr hlocks hP hS (Option.some.inj h) dX11_plan_94
        · have h := it_t c43 h
          refine lv_aload_n hx hb dX11_plan_42 rfl (lv_at hl 0 rfl) ?_
          refine x_gr X hP (j := 41) (by decide) (dM_0) rfl rfl (by decide) in11 lk94 dX11_plan_43 ?_
          refine lv_iload_n hx hb dX11_plan_46 rfl (lv_at hl 2 rfl) ?_
          obtain ⟨g50, h⟩ := gd_some h
          refine x_ai X hP (by decide) (dM_27) g50 dX11_plan_47 ?_
          refine lv_goto (tgt := 94) hx hb dX11_plan_48 (by decide) ?_
          subst hQQ
          exact x_ri (σ0 := (fun _ _ => 0, fun _ _ => 0)) X hr hlocks hP hS (Option.some.inj h) dX11_plan_94
    · have h := it_t c6 h
      refine lv_iconst (v := (-1)) hx hb dX11_plan_20 (by decide) ?_
      subst hQQ
      exact x_ri (σ0 := (fun _ _ => 0, fun _ _ => 0)) X hr hlocks hP hS (Option.some.inj h) dX11_plan_21
def f_11_taken (n : Nat) (σ : St) (a1 : Int32) (a2 : Int32) (a3 : Int32) : Option (Int32 × St) :=
  (f_11_isDay n σ a1 (σ.1 0 0)).bind fun r1 =>
  if r1.1 = 0 then
    some ((-1), r1.2)
  else
    (f_11_isSpring n r1.2 a2).bind fun r4 =>
    if r4.1 = 0 then
      some ((-1), r4.2)
    else
      (f_11_isIn n r4.2 a3 0 47).bind fun r7 =>
      if r7.1 = 0 then
        some ((-1), r7.2)
      else
        (f_11_ranks n r7.2 a1).bind fun r10 =>
        (f_11_lays n r10 a1).bind fun r12 =>
        nm (48 * a2) fun v14 =>
        nm (v14 + a3) fun v15 =>
        gd (inb v15 192) <| some ((r12.1 25 v15.toNatClampNeg), r12)
abbrev rm_11_taken : Room := { frames := 4, cells := 0, slots := 0, locals := 102 }
set_option maxRecDepth 100000 in
set_option maxHeartbeats 4000000 in
theorem k_11_taken (l : Launch) (D : va_G) (cA : Nat → ClassId) (ad : Nat → Nat) (hj : inj 41 ad) (n : Nat) (σ : St) (a1 : Int32) (a2 : Int32) (a3 : Int32)  {res : Int32 × St} (h : f_11_taken n σ a1 a2 a3 = some res) : MXi l D dM 41 cA ad ET yX11_taken wsX11_taken rm_11_taken [.ref (ad 0), .int a1, .int a2, .int a3] σ res := by
  refine Met.ofW (cc := cX11_taken) (maxL := 4) (ret := (some .int)) (by decide) rfl ?_
  intro p e s m args below meth c s₁ B hml hv
  obtain ⟨hargs, hP, hK, hE⟩ := hv
  have hx := B.exec
  have hb := B.bytes
  have hr := B.returns
  have hts := atoms_spec (ws := wsX11_taken) B.pre
  have hown : s.vm.findClass RX11 = some m.cls := findClass_of_methodNamed B.named
  have hlocks := B.notSynchronized
  have X : Cx p s m args c cX11_taken 4 RX11 wsX11_taken D dM 41 cA ad ET := ⟨hx, hb, hml, hown, hts, hK, hj, hE, ET_ok⟩
  have hS : va_S (inA 41 ad) s.heap s.heap [] := va_S.rf
  have hl := lv_entry ([.ref (ad 0), .int a1, .int a2, .int a3]) (n := 4) (Nat.le_of_ble_eq_true rfl)
  rw [show entryFrame m args 4 = entryFrame m ([.ref (ad 0), .int a1, .int a2, .int a3] : List Value).toArray 4 by rw [hargs]]
  rw [lg_entry_eq]
  generalize (lg_sl ([.ref (ad 0), .int a1, .int a2, .int a3]) ++ List.replicate (4 - (lg_sl ([.ref (ad 0), .int a1, .int a2, .int a3])).length) Slot.unset).toArray = ls at hl ⊢
  have hl : lv_has ls 4 [(0, .ref (ad 0)), (1, .int a1), (2, .int a2), (3, .int a3)] := hl
  obtain ⟨QQ, hQQ⟩ : ∃ Q, Q = MQ below (va_Qi (fun r u => r = res.1 ∧ u = res.2) (fun u t => va_P D vwCl (ww dM 41 cA ad u) t.heap) (inA 41 ad)) args s 0 0 (inA 41 ad) := ⟨_, rfl⟩
  show W p l e (headSpec wsX11_taken rm_11_taken).room s m args below meth c s.heap [] 0 0 (MQ below (va_Qi (fun r u => r = res.1 ∧ u = res.2) (fun u t => va_P D vwCl (ww dM 41 cA ad u) t.heap) (inA 41 ad)) args s 0 0 (inA 41 ad)) _
  rw [← hQQ]
  have in11 : ∀ w ∈ wsX110, w ∈ wsX11_taken := by decide +kernel
  have lk230 : Cond.fieldLink RX11 230 "CureTownModel" "day" "I" ∈ wsX11_taken := by decide +kernel
  have lk88 : Cond.fieldLink RX11 88 "CureTownModel" "taken" "[I" ∈ wsX11_taken := by decide +kernel
  unfold f_11_taken at h
  obtain ⟨H, hH⟩ : ∃ H, H = s.heap := ⟨_, rfl⟩
  obtain ⟨locs, hlc⟩ : ∃ q : List Loc, q = [] := ⟨_, rfl⟩
  have hP : va_P D vwCl (ww dM 41 cA ad σ) s.heap := hP
  have hS : va_S (inA 41 ad) s.heap s.heap [] := hS
  rw [← hlc] at hS ⊢
  rw [show W p l e (headSpec wsX11_taken rm_11_taken).room s m args below meth c s.heap locs 0 0 QQ = W p l e (headSpec wsX11_taken rm_11_taken).room s m args below meth c H locs 0 0 QQ by rw [hH]]
  have hS : va_S (inA 41 ad) s.heap H locs := by rw [hH]; exact hS
  have hP : va_P D vwCl (ww dM 41 cA ad σ) H := by rw [hH]; exact hP
  clear hH hlc
  refine lv_iload_n hx hb dX11_taken_0 rfl (lv_at hl 1 rfl) ?_
  refine lv_aload_n hx hb dX11_taken_1 rfl (lv_at hl 0 rfl) ?_
  refine x_gi X hP (j := 0) (by decide) (dM_0) rfl rfl (by decide) in11 lk230 dX11_taken_2 ?_
  obtain ⟨r1, k2, h⟩ := bd_some h
  refine x_Si (rest := []) X hP hS (k_11_isDay l D cA ad hj n σ a1 (σ.1 0 0) k2) 2 gX11_taken_X11_isDay rfl rfl rfl (by decide +kernel) ⟨Nat.le_of_ble_eq_true rfl, Nat.le_of_ble_eq_true rfl⟩ rfl hl.1 rfl (Nat.le_of_ble_eq_true rfl) dX11_taken_5 ⟨Nat.zero_le _, Nat.zero_le _⟩ (fun H locs hP hS => ?_)
  refine lv_if_eq (tgt := 28) hx hb dX11_taken_8 (by decide) (fun c3 => ?_) (fun c3 => ?_)
  · have h := it_t c3 h
    refine lv_iconst (v := (-1)) hx hb dX11_taken_28 (by decide) ?_
    subst hQQ
    exact x_ri (σ0 := (fun _ _ => 0, fun _ _ => 0)) X hr hlocks hP hS (Option.some.inj h) dX11_taken_29
  · have h := it_f c3 h
    refine lv_iload_n hx hb dX11_taken_11 rfl (lv_at hl 2 rfl) ?_
    obtain ⟨r4, k5, h⟩ := bd_some h
    refine x_Si (rest := []) X hP hS (k_11_isSpring l D cA ad hj n r1.2 a2 k5) 1 gX11_taken_X11_isSpring rfl rfl rfl (by decide +kernel) ⟨Nat.le_of_ble_eq_true rfl, Nat.le_of_ble_eq_true rfl⟩ rfl hl.1 rfl (Nat.le_of_ble_eq_true rfl) dX11_taken_12 ⟨Nat.zero_le _, Nat.zero_le _⟩ (fun H locs hP hS => ?_)
    refine lv_if_eq (tgt := 28) hx hb dX11_taken_15 (by decide) (fun c6 => ?_) (fun c6 => ?_)
    · have h := it_t c6 h
      refine lv_iconst (v := (-1)) hx hb dX11_taken_28 (by decide) ?_
      subst hQQ
      exact x_ri (σ0 := (fun _ _ => 0, fun _ _ => 0)) X hr hlocks hP hS (Option.some.inj h) dX11_taken_29
    · have h := it_f c6 h
      refine lv_iload_n hx hb dX11_taken_18 rfl (lv_at hl 3 rfl) ?_
      refine lv_iconst (v := 0) hx hb dX11_taken_19 (by decide) ?_
      refine lv_bipush (v := 47) hx hb dX11_taken_20 (by decide) ?_
      obtain ⟨r7, k8, h⟩ := bd_some h
      refine x_Si (rest := []) X hP hS (k_11_isIn l D cA ad hj n r4.2 a3 0 47 k8) 3 gX11_taken_X11_isIn rfl rfl rfl (by decide +kernel) ⟨Nat.le_of_ble_eq_true rfl, Nat.le_of_ble_eq_true rfl⟩ rfl hl.1 rfl (Nat.le_of_ble_eq_true rfl) dX11_taken_22 ⟨Nat.zero_le _, Nat.zero_le _⟩ (fun H locs hP hS => ?_)
      refine lv_if_ne (tgt := 30) hx hb dX11_taken_25 (by decide) (fun c9 => ?_) (fun c9 => ?_)
      · have h := it_f c9 h
        refine lv_aload_n hx hb dX11_taken_30 rfl (lv_at hl 0 rfl) ?_
        refine lv_iload_n hx hb dX11_taken_31 rfl (lv_at hl 1 rfl) ?_
        obtain ⟨r10, k11, h⟩ := bd_some h
        refine x_Vv (rest := []) X hP hS (k_11_ranks l D cA ad hj n r7.2 a1 k11) (by decide) (dM_0) rfl 1 gX11_taken_X11_ranks rfl rfl rfl (by decide +kernel) ⟨Nat.le_of_ble_eq_true rfl, Nat.le_of_ble_eq_true rfl⟩ rfl hl.1 rfl (Nat.le_of_ble_eq_true rfl) dX11_taken_32 ⟨Nat.zero_le _, Nat.zero_le _⟩ (fun H locs hP hS => ?_)
        refine lv_aload_n hx hb dX11_taken_35 rfl (lv_at hl 0 rfl) ?_
        refine lv_iload_n hx hb dX11_taken_36 rfl (lv_at hl 1 rfl) ?_
        obtain ⟨r12, k13, h⟩ := bd_some h
        refine x_Vv (rest := []) X hP hS (k_11_lays l D cA ad hj n r10 a1 k13) (by decide) (dM_0) rfl 1 gX11_taken_X11_lays rfl rfl rfl (by decide +kernel) ⟨Nat.le_of_ble_eq_true rfl, Nat.le_of_ble_eq_true rfl⟩ rfl hl.1 rfl (Nat.le_of_ble_eq_true rfl) dX11_taken_37 ⟨Nat.zero_le _, Nat.zero_le _⟩ (fun H locs hP hS => ?_)
        refine lv_aload_n hx hb dX11_taken_40 rfl (lv_at hl 0 rfl) ?_
        refine x_gr X hP (j := 39) (by decide) (dM_0) rfl rfl (by decide) in11 lk88 dX11_taken_41 ?_
        refine lv_bipush (v := 48) hx hb dX11_taken_44 (by decide) ?_
        refine lv_iload_n hx hb dX11_taken_46 rfl (lv_at hl 2 rfl) ?_
        refine lv_imul hx hb dX11_taken_47 ?_
        refine lv_topi (fun v14 ev14 => ?_)
        have h := nm_some ev14 h
        refine lv_iload_n hx hb dX11_taken_48 rfl (lv_at hl 3 rfl) ?_
        refine lv_iadd hx hb dX11_taken_49 ?_
        refine lv_topi (fun v15 ev15 => ?_)
        have h := nm_some ev15 h
        obtain ⟨g16, h⟩ := gd_some h
        refine x_ai X hP (by decide) (dM_25) g16 dX11_taken_50 ?_
        subst hQQ
        exact x_ri (σ0 := (fun _ _ => 0, fun _ _ => 0)) X hr hlocks hP hS (Option.some.inj h) dX11_taken_51
      · have h := it_t c9 h
        refine lv_iconst (v := (-1)) hx hb dX11_taken_28 (by decide) ?_
        subst hQQ
        exact x_ri (σ0 := (fun _ _ => 0, fun _ _ => 0)) X hr hlocks hP hS (Option.some.inj h) dX11_taken_29
def b_11_nextOrder_4 (n : Nat) (a1 : Int32) (t3 : Int32 × St) : Option ((Int32 × St) ⊕ (Int32 × St)) :=
  if t3.1 < 0 then
    some (.inr (t3.1, t3.2))
  else
    gd (inb t3.1 8) <| nm (t3.1 + 1) fun v6 =>
    gd (inb v6 8) <| if (t3.2.1 26 t3.1.toNatClampNeg) ≤ (t3.2.1 26 v6.toNatClampNeg) then
      some (.inr (t3.1, t3.2))
    else
      nm (t3.1 + (-1)) fun v9 =>
      some (.inl (v9, t3.2))
def b_11_nextOrder_41 (n : Nat) (a1 : Int32) (a2 : Int32) (t1016 : Int32 × St) : Option ((Int32 × St) ⊕ (Int32 × St)) :=
  gd (inb t1016.1 8) <| gd (inb a2 8) <| if (t1016.2.1 26 a2.toNatClampNeg) ≤ (t1016.2.1 26 t1016.1.toNatClampNeg) then
    some (.inr (t1016.1, t1016.2))
  else
    nm (t1016.1 + (-1)) fun v1020 =>
    some (.inl (v1020, t1016.2))
def b_11_nextOrder_100 (n : Nat)  (t2032 : Int32 × Int32 × St) : Option ((Int32 × Int32 × St) ⊕ (Int32 × Int32 × St)) :=
  if t2032.2.1 ≤ t2032.1 then
    some (.inr (t2032.1, t2032.2.1, t2032.2.2))
  else
    gd (inb t2032.1 8) <| nm ((t2032.2.2.1 26 t2032.1.toNatClampNeg)) fun v2035 =>
    gd (inb t2032.2.1 8) <| nm (si t2032.2.2 26 (t2032.1.toNatClampNeg) (t2032.2.2.1 26 t2032.2.1.toNatClampNeg)) fun σ2037 =>
    nm (si σ2037 26 (t2032.2.1.toNatClampNeg) v2035) fun σ2038 =>
    nm (t2032.1 + 1) fun v2039 =>
    nm (t2032.2.1 + (-1)) fun v2040 =>
    some (.inl (v2039, v2040, σ2038))
def f_11_nextOrder (n : Nat) (σ : St) (a1 : Int32) : Option (Int32 × St) :=
  nm (a1 - 2) fun v1 =>
  (lq (b_11_nextOrder_4 n a1) n (v1, σ)).bind fun t1010 =>
  if 0 ≤ t1010.1 then
    nm (a1 - 1) fun v1014 =>
    (lq (b_11_nextOrder_41 n a1 t1010.1) n (v1014, t1010.2)).bind fun t2021 =>
    gd (inb t1010.1 8) <| nm ((t2021.2.1 26 t1010.1.toNatClampNeg)) fun v2025 =>
    gd (inb t2021.1 8) <| nm (si t2021.2 26 (t1010.1.toNatClampNeg) (t2021.2.1 26 t2021.1.toNatClampNeg)) fun σ2027 =>
    nm (si σ2027 26 (t2021.1.toNatClampNeg) v2025) fun σ2028 =>
    nm (t1010.1 + 1) fun v2029 =>
    nm (a1 - 1) fun v2030 =>
    (lq (b_11_nextOrder_100 n ) n (v2029, v2030, σ2028)).bind fun t3041 =>
    some (1, t3041.2.2)
  else
    some (0, t1010.2)
abbrev rm_11_nextOrder : Room := { frames := 0, cells := 0, slots := 0, locals := 0 }
set_option maxRecDepth 100000 in
set_option maxHeartbeats 4000000 in
theorem k_11_nextOrder (l : Launch) (D : va_G) (cA : Nat → ClassId) (ad : Nat → Nat) (hj : inj 41 ad) (n : Nat) (σ : St) (a1 : Int32)  {res : Int32 × St} (h : f_11_nextOrder n σ a1 = some res) : MXi l D dM 41 cA ad ET yX11_nextOrder wsX11_nextOrder rm_11_nextOrder [.ref (ad 0), .int a1] σ res := by
  refine Met.ofW (cc := cX11_nextOrder) (maxL := 7) (ret := (some .boolean)) (by decide) rfl ?_
  intro p e s m args below meth c s₁ B hml hv
  obtain ⟨hargs, hP, hK, hE⟩ := hv
  have hx := B.exec
  have hb := B.bytes
  have hr := B.returns
  have hts := atoms_spec (ws := wsX11_nextOrder) B.pre
  have hown : s.vm.findClass RX11 = some m.cls := findClass_of_methodNamed B.named
  have hlocks := B.notSynchronized
  have X : Cx p s m args c cX11_nextOrder 7 RX11 wsX11_nextOrder D dM 41 cA ad ET := ⟨hx, hb, hml, hown, hts, hK, hj, hE, ET_ok⟩
  have hS : va_S (inA 41 ad) s.heap s.heap [] := va_S.rf
  have hl := lv_entry ([.ref (ad 0), .int a1]) (n := 7) (Nat.le_of_ble_eq_true rfl)
  rw [show entryFrame m args 7 = entryFrame m ([.ref (ad 0), .int a1] : List Value).toArray 7 by rw [hargs]]
  rw [lg_entry_eq]
  generalize (lg_sl ([.ref (ad 0), .int a1]) ++ List.replicate (7 - (lg_sl ([.ref (ad 0), .int a1])).length) Slot.unset).toArray = ls at hl ⊢
  have hl : lv_has ls 7 [(0, .ref (ad 0)), (1, .int a1)] := hl
  obtain ⟨QQ, hQQ⟩ : ∃ Q, Q = MQ below (va_Qi (fun r u => r = res.1 ∧ u = res.2) (fun u t => va_P D vwCl (ww dM 41 cA ad u) t.heap) (inA 41 ad)) args s 0 0 (inA 41 ad) := ⟨_, rfl⟩
  show W p l e (headSpec wsX11_nextOrder rm_11_nextOrder).room s m args below meth c s.heap [] 0 0 (MQ below (va_Qi (fun r u => r = res.1 ∧ u = res.2) (fun u t => va_P D vwCl (ww dM 41 cA ad u) t.heap) (inA 41 ad)) args s 0 0 (inA 41 ad)) _
  rw [← hQQ]
  have in11 : ∀ w ∈ wsX110, w ∈ wsX11_nextOrder := by decide +kernel
  have lk91 : Cond.fieldLink RX11 91 "CureTownModel" "order" "[I" ∈ wsX11_nextOrder := by decide +kernel
  unfold f_11_nextOrder at h
  obtain ⟨H, hH⟩ : ∃ H, H = s.heap := ⟨_, rfl⟩
  obtain ⟨locs, hlc⟩ : ∃ q : List Loc, q = [] := ⟨_, rfl⟩
  have hP : va_P D vwCl (ww dM 41 cA ad σ) s.heap := hP
  have hS : va_S (inA 41 ad) s.heap s.heap [] := hS
  rw [← hlc] at hS ⊢
  rw [show W p l e (headSpec wsX11_nextOrder rm_11_nextOrder).room s m args below meth c s.heap locs 0 0 QQ = W p l e (headSpec wsX11_nextOrder rm_11_nextOrder).room s m args below meth c H locs 0 0 QQ by rw [hH]]
  have hS : va_S (inA 41 ad) s.heap H locs := by rw [hH]; exact hS
  have hP : va_P D vwCl (ww dM 41 cA ad σ) H := by rw [hH]; exact hP
  clear hH hlc
  refine lv_iload_n hx hb dX11_nextOrder_0 rfl (lv_at hl 1 rfl) ?_
  refine lv_iconst (v := 2) hx hb dX11_nextOrder_1 (by decide) ?_
  refine lv_isub hx hb dX11_nextOrder_2 ?_
  refine lv_topi (fun v1 ev1 => ?_)
  have h := nm_some ev1 h
  refine lv_istore_n (lv' := [(2, .int v1), (0, .ref (ad 0)), (1, .int a1)]) hx hb dX11_nextOrder_3 rfl hl (by decide) rfl (fun ls hl => ?_)
  obtain ⟨t1010, o1012, h⟩ := bd_some h
  refine lq_rule (P := fun t3 : Int32 × St => ∀ (H : Heap) (locs : List Loc) (ls : Array Slot), va_P D vwCl (ww dM 41 cA ad t3.2) H → va_S (inA 41 ad) s.heap H locs → lv_has ls 7 [(0, .ref (ad 0)), (1, .int a1), (2, .int t3.1)] → W p l e (headSpec wsX11_nextOrder rm_11_nextOrder).room s m args below meth c H locs 0 0 QQ (F0 m 4 ls [])) (X := fun t1010 : Int32 × St => ∀ (H : Heap) (locs : List Loc) (ls : Array Slot), va_P D vwCl (ww dM 41 cA ad t1010.2) H → va_S (inA 41 ad) s.heap H locs → lv_has ls 7 [(0, .ref (ad 0)), (1, .int a1), (2, .int t1010.1)] → W p l e (headSpec wsX11_nextOrder rm_11_nextOrder).room s m args below meth c H locs 0 0 QQ (F0 m 31 ls [])) ?_ n _ _ o1012 ?_ H locs ls hP hS (lv_sub hl [1, 2, 0] rfl)
  · clear h hP hS hl
    intro t3 rL2 h hCL2 hEL2 H locs ls hP hS hl
    unfold b_11_nextOrder_4 at h
    refine lv_iload_n hx hb dX11_nextOrder_4 rfl (lv_at hl 2 rfl) ?_
    refine lv_if_lt (tgt := 31) hx hb dX11_nextOrder_5 (by decide) (fun c4 => ?_) (fun c4 => ?_)
    · have h := it_t c4 h
      exact hEL2 _ (Option.some.inj h).symm H locs ls hP hS (lv_sub hl [0, 1, 2] rfl)
    · have h := it_f c4 h
      refine lv_aload_n hx hb dX11_nextOrder_8 rfl (lv_at hl 0 rfl) ?_
      refine x_gr X hP (j := 40) (by decide) (dM_0) rfl rfl (by decide) in11 lk91 dX11_nextOrder_9 ?_
      refine lv_iload_n hx hb dX11_nextOrder_12 rfl (lv_at hl 2 rfl) ?_
      obtain ⟨g5, h⟩ := gd_some h
      refine x_ai X hP (by decide) (dM_26) g5 dX11_nextOrder_13 ?_
      refine lv_aload_n hx hb dX11_nextOrder_14 rfl (lv_at hl 0 rfl) ?_
      refine x_gr X hP (j := 40) (by decide) (dM_0) rfl rfl (by decide) in11 lk91 dX11_nextOrder_15 ?_
      refine lv_iload_n hx hb dX11_nextOrder_18 rfl (lv_at hl 2 rfl) ?_
      refine lv_iconst (v := 1) hx hb dX11_nextOrder_19 (by decide) ?_
      refine lv_iadd hx hb dX11_nextOrder_20 ?_
      refine lv_topi (fun v6 ev6 => ?_)
      have h := nm_some ev6 h
      obtain ⟨g7, h⟩ := gd_some h
      refine x_ai X hP (by decide) (dM_26) g7 dX11_nextOrder_21 ?_
      refine lv_icmp_le (tgt := 31) hx hb dX11_nextOrder_22 (by decide) (fun c8 => ?_) (fun c8 => ?_)
      · have h := it_t c8 h
        exact hEL2 _ (Option.some.inj h).symm H locs ls hP hS (lv_sub hl [0, 1, 2] rfl)
      · have h := it_f c8 h
        obtain ⟨v9, ev9⟩ : ∃ y : Int32, y = t3.1 + (-1) := ⟨_, rfl⟩
        have h := nm_some ev9 h
        refine lv_iinc (v := v9) (lv' := [(2, .int v9), (0, .ref (ad 0)), (1, .int a1)]) hx hb dX11_nextOrder_25 hl (k := 2) rfl (by rw [ev9]; rfl) (by decide) rfl (fun ls hl => ?_)
        refine lv_goto (tgt := 4) hx hb dX11_nextOrder_28 (by decide) ?_
        exact hCL2 _ (Option.some.inj h).symm H locs ls hP hS (lv_sub hl [1, 2, 0] rfl)
  · intro H locs ls hP hS hl
    refine lv_iload_n hx hb dX11_nextOrder_31 rfl (lv_at hl 2 rfl) ?_
    refine lv_if_ge (tgt := 37) hx hb dX11_nextOrder_32 (by decide) (fun c1013 => ?_) (fun c1013 => ?_)
    · have h := it_t c1013 h
      refine lv_iload_n hx hb dX11_nextOrder_37 rfl (lv_at hl 1 rfl) ?_
      refine lv_iconst (v := 1) hx hb dX11_nextOrder_38 (by decide) ?_
      refine lv_isub hx hb dX11_nextOrder_39 ?_
      refine lv_topi (fun v1014 ev1014 => ?_)
      have h := nm_some ev1014 h
      refine lv_istore_n (lv' := [(3, .int v1014), (0, .ref (ad 0)), (1, .int a1), (2, .int t1010.1)]) hx hb dX11_nextOrder_40 rfl hl (by decide) rfl (fun ls hl => ?_)
      obtain ⟨t2021, o2023, h⟩ := bd_some h
      refine lq_rule (P := fun t1016 : Int32 × St => ∀ (H : Heap) (locs : List Loc) (ls : Array Slot), va_P D vwCl (ww dM 41 cA ad t1016.2) H → va_S (inA 41 ad) s.heap H locs → lv_has ls 7 [(0, .ref (ad 0)), (1, .int a1), (2, .int t1010.1), (3, .int t1016.1)] → W p l e (headSpec wsX11_nextOrder rm_11_nextOrder).room s m args below meth c H locs 0 0 QQ (F0 m 41 ls [])) (X := fun t2021 : Int32 × St => ∀ (H : Heap) (locs : List Loc) (ls : Array Slot), va_P D vwCl (ww dM 41 cA ad t2021.2) H → va_S (inA 41 ad) s.heap H locs → lv_has ls 7 [(0, .ref (ad 0)), (1, .int a1), (2, .int t1010.1), (3, .int t2021.1)] → W p l e (headSpec wsX11_nextOrder rm_11_nextOrder).room s m args below meth c H locs 0 0 QQ (F0 m 62 ls [])) ?_ n _ _ o2023 ?_ H locs ls hP hS (lv_sub hl [1, 2, 3, 0] rfl)
      · clear h hP hS hl
        intro t1016 rL1015 h hCL1015 hEL1015 H locs ls hP hS hl
        unfold b_11_nextOrder_41 at h
        refine lv_aload_n hx hb dX11_nextOrder_41 rfl (lv_at hl 0 rfl) ?_
        refine x_gr X hP (j := 40) (by decide) (dM_0) rfl rfl (by decide) in11 lk91 dX11_nextOrder_42 ?_
        refine lv_iload_n hx hb dX11_nextOrder_45 rfl (lv_at hl 3 rfl) ?_
        obtain ⟨g1017, h⟩ := gd_some h
        refine x_ai X hP (by decide) (dM_26) g1017 dX11_nextOrder_46 ?_
        refine lv_aload_n hx hb dX11_nextOrder_47 rfl (lv_at hl 0 rfl) ?_
        refine x_gr X hP (j := 40) (by decide) (dM_0) rfl rfl (by decide) in11 lk91 dX11_nextOrder_48 ?_
        refine lv_iload_n hx hb dX11_nextOrder_51 rfl (lv_at hl 2 rfl) ?_
        obtain ⟨g1018, h⟩ := gd_some h
        refine x_ai X hP (by decide) (dM_26) g1018 dX11_nextOrder_52 ?_
        refine lv_icmp_ge (tgt := 62) hx hb dX11_nextOrder_53 (by decide) (fun c1019 => ?_) (fun c1019 => ?_)
        · have h := it_t c1019 h
          exact hEL1015 _ (Option.some.inj h).symm H locs ls hP hS (lv_sub hl [0, 1, 2, 3] rfl)
        · have h := it_f c1019 h
          obtain ⟨v1020, ev1020⟩ : ∃ y : Int32, y = t1016.1 + (-1) := ⟨_, rfl⟩
          have h := nm_some ev1020 h
          refine lv_iinc (v := v1020) (lv' := [(3, .int v1020), (0, .ref (ad 0)), (1, .int a1), (2, .int t1010.1)]) hx hb dX11_nextOrder_56 hl (k := 3) rfl (by rw [ev1020]; rfl) (by decide) rfl (fun ls hl => ?_)
          refine lv_goto (tgt := 41) hx hb dX11_nextOrder_59 (by decide) ?_
          exact hCL1015 _ (Option.some.inj h).symm H locs ls hP hS (lv_sub hl [1, 2, 3, 0] rfl)
      · intro H locs ls hP hS hl
        refine lv_aload_n hx hb dX11_nextOrder_62 rfl (lv_at hl 0 rfl) ?_
        refine x_gr X hP (j := 40) (by decide) (dM_0) rfl rfl (by decide) in11 lk91 dX11_nextOrder_63 ?_
        refine lv_iload_n hx hb dX11_nextOrder_66 rfl (lv_at hl 2 rfl) ?_
        obtain ⟨g2024, h⟩ := gd_some h
        refine x_ai X hP (by decide) (dM_26) g2024 dX11_nextOrder_67 ?_
        refine lv_topi (fun v2025 ev2025 => ?_)
        have h := nm_some ev2025 h
        refine lv_istore (lv' := [(4, .int v2025), (0, .ref (ad 0)), (1, .int a1), (2, .int t1010.1), (3, .int t2021.1)]) hx hb dX11_nextOrder_68 hl (by decide) rfl (fun ls hl => ?_)
        refine lv_aload_n hx hb dX11_nextOrder_70 rfl (lv_at hl 1 rfl) ?_
        refine x_gr X hP (j := 40) (by decide) (dM_0) rfl rfl (by decide) in11 lk91 dX11_nextOrder_71 ?_
        refine lv_iload_n hx hb dX11_nextOrder_74 rfl (lv_at hl 3 rfl) ?_
        refine lv_aload_n hx hb dX11_nextOrder_75 rfl (lv_at hl 1 rfl) ?_
        refine x_gr X hP (j := 40) (by decide) (dM_0) rfl rfl (by decide) in11 lk91 dX11_nextOrder_76 ?_
        refine lv_iload_n hx hb dX11_nextOrder_79 rfl (lv_at hl 4 rfl) ?_
        obtain ⟨g2026, h⟩ := gd_some h
        refine x_ai X hP (by decide) (dM_26) g2026 dX11_nextOrder_80 ?_
        refine x_si X hP hS (by decide) (dM_26) g2024 dX11_nextOrder_81 (fun σ2027 eσ2027 H locs hP hS => ?_)
        have h := nm_some eσ2027 h
        refine lv_aload_n hx hb dX11_nextOrder_82 rfl (lv_at hl 1 rfl) ?_
        refine x_gr X hP (j := 40) (by decide) (dM_0) rfl rfl (by decide) in11 lk91 dX11_nextOrder_83 ?_
        refine lv_iload_n hx hb dX11_nextOrder_86 rfl (lv_at hl 4 rfl) ?_
        refine lv_iload hx hb dX11_nextOrder_87 (lv_at hl 0 rfl) ?_
        refine x_si X hP hS (by decide) (dM_26) g2026 dX11_nextOrder_89 (fun σ2028 eσ2028 H locs hP hS => ?_)
        have h := nm_some eσ2028 h
        refine lv_iload_n hx hb dX11_nextOrder_90 rfl (lv_at hl 3 rfl) ?_
        refine lv_iconst (v := 1) hx hb dX11_nextOrder_91 (by decide) ?_
        refine lv_iadd hx hb dX11_nextOrder_92 ?_
        refine lv_topi (fun v2029 ev2029 => ?_)
        have h := nm_some ev2029 h
        refine lv_istore (lv' := [(5, .int v2029), (4, .int v2025), (0, .ref (ad 0)), (1, .int a1), (2, .int t1010.1), (3, .int t2021.1)]) hx hb dX11_nextOrder_93 hl (by decide) rfl (fun ls hl => ?_)
        refine lv_iload_n hx hb dX11_nextOrder_95 rfl (lv_at hl 3 rfl) ?_
        refine lv_iconst (v := 1) hx hb dX11_nextOrder_96 (by decide) ?_
        refine lv_isub hx hb dX11_nextOrder_97 ?_
        refine lv_topi (fun v2030 ev2030 => ?_)
        have h := nm_some ev2030 h
        refine lv_istore (lv' := [(6, .int v2030), (5, .int v2029), (4, .int v2025), (0, .ref (ad 0)), (1, .int a1), (2, .int t1010.1), (3, .int t2021.1)]) hx hb dX11_nextOrder_98 hl (by decide) rfl (fun ls hl => ?_)
        obtain ⟨t3041, o3043, h⟩ := bd_some h
        refine lq_rule (P := fun t2032 : Int32 × Int32 × St => ∀ (H : Heap) (locs : List Loc) (ls : Array Slot), va_P D vwCl (ww dM 41 cA ad t2032.2.2) H → va_S (inA 41 ad) s.heap H locs → lv_has ls 7 [(0, .ref (ad 0)), (5, .int t2032.1), (6, .int t2032.2.1)] → W p l e (headSpec wsX11_nextOrder rm_11_nextOrder).room s m args below meth c H locs 0 0 QQ (F0 m 100 ls [])) (X := fun t3041 : Int32 × Int32 × St => ∀ (H : Heap) (locs : List Loc) (ls : Array Slot), va_P D vwCl (ww dM 41 cA ad t3041.2.2) H → va_S (inA 41 ad) s.heap H locs → lv_has ls 7 [(0, .ref (ad 0)), (5, .int t3041.1), (6, .int t3041.2.1)] → W p l e (headSpec wsX11_nextOrder rm_11_nextOrder).room s m args below meth c H locs 0 0 QQ (F0 m 148 ls [])) ?_ n _ _ o3043 ?_ H locs ls hP hS (lv_sub hl [3, 1, 0] rfl)
        · clear h hP hS hl
          intro t2032 rL2031 h hCL2031 hEL2031 H locs ls hP hS hl
          unfold b_11_nextOrder_100 at h
          refine lv_iload hx hb dX11_nextOrder_100 (lv_at hl 1 rfl) ?_
          refine lv_iload hx hb dX11_nextOrder_102 (lv_at hl 2 rfl) ?_
          refine lv_icmp_ge (tgt := 148) hx hb dX11_nextOrder_104 (by decide) (fun c2033 => ?_) (fun c2033 => ?_)
          · have h := it_t c2033 h
            exact hEL2031 _ (Option.some.inj h).symm H locs ls hP hS (lv_sub hl [0, 1, 2] rfl)
          · have h := it_f c2033 h
            refine lv_aload_n hx hb dX11_nextOrder_107 rfl (lv_at hl 0 rfl) ?_
            refine x_gr X hP (j := 40) (by decide) (dM_0) rfl rfl (by decide) in11 lk91 dX11_nextOrder_108 ?_
            refine lv_iload hx hb dX11_nextOrder_111 (lv_at hl 1 rfl) ?_
            obtain ⟨g2034, h⟩ := gd_some h
            refine x_ai X hP (by decide) (dM_26) g2034 dX11_nextOrder_113 ?_
            refine lv_topi (fun v2035 ev2035 => ?_)
            have h := nm_some ev2035 h
            refine lv_istore (lv' := [(4, .int v2035), (0, .ref (ad 0)), (5, .int t2032.1), (6, .int t2032.2.1)]) hx hb dX11_nextOrder_114 hl (by decide) rfl (fun ls hl => ?_)
            refine lv_aload_n hx hb dX11_nextOrder_116 rfl (lv_at hl 1 rfl) ?_
            refine x_gr X hP (j := 40) (by decide) (dM_0) rfl rfl (by decide) in11 lk91 dX11_nextOrder_117 ?_
            refine lv_iload hx hb dX11_nextOrder_120 (lv_at hl 2 rfl) ?_
            refine lv_aload_n hx hb dX11_nextOrder_122 rfl (lv_at hl 1 rfl) ?_
            refine x_gr X hP (j := 40) (by decide) (dM_0) rfl rfl (by decide) in11 lk91 dX11_nextOrder_123 ?_
            refine lv_iload hx hb dX11_nextOrder_126 (lv_at hl 3 rfl) ?_
            obtain ⟨g2036, h⟩ := gd_some h
            refine x_ai X hP (by decide) (dM_26) g2036 dX11_nextOrder_128 ?_
            refine x_si X hP hS (by decide) (dM_26) g2034 dX11_nextOrder_129 (fun σ2037 eσ2037 H locs hP hS => ?_)
            have h := nm_some eσ2037 h
            refine lv_aload_n hx hb dX11_nextOrder_130 rfl (lv_at hl 1 rfl) ?_
            refine x_gr X hP (j := 40) (by decide) (dM_0) rfl rfl (by decide) in11 lk91 dX11_nextOrder_131 ?_
            refine lv_iload hx hb dX11_nextOrder_134 (lv_at hl 3 rfl) ?_
            refine lv_iload hx hb dX11_nextOrder_136 (lv_at hl 0 rfl) ?_
            refine x_si X hP hS (by decide) (dM_26) g2036 dX11_nextOrder_138 (fun σ2038 eσ2038 H locs hP hS => ?_)
            have h := nm_some eσ2038 h
            obtain ⟨v2039, ev2039⟩ : ∃ y : Int32, y = t2032.1 + 1 := ⟨_, rfl⟩
            have h := nm_some ev2039 h
            refine lv_iinc (v := v2039) (lv' := [(5, .int v2039), (4, .int v2035), (0, .ref (ad 0)), (6, .int t2032.2.1)]) hx hb dX11_nextOrder_139 hl (k := 2) rfl (by rw [ev2039]; rfl) (by decide) rfl (fun ls hl => ?_)
            obtain ⟨v2040, ev2040⟩ : ∃ y : Int32, y = t2032.2.1 + (-1) := ⟨_, rfl⟩
            have h := nm_some ev2040 h
            refine lv_iinc (v := v2040) (lv' := [(6, .int v2040), (5, .int v2039), (4, .int v2035), (0, .ref (ad 0))]) hx hb dX11_nextOrder_142 hl (k := 3) rfl (by rw [ev2040]; rfl) (by decide) rfl (fun ls hl => ?_)
            refine lv_goto (tgt := 100) hx hb dX11_nextOrder_145 (by decide) ?_
            exact hCL2031 _ (Option.some.inj h).symm H locs ls hP hS (lv_sub hl [3, 1, 0] rfl)
        · intro H locs ls hP hS hl
          refine lv_iconst (v := 1) hx hb dX11_nextOrder_148 (by decide) ?_
          subst hQQ
          exact x_rz X hr hlocks hP hS (by decide +kernel) (Option.some.inj h) dX11_nextOrder_149
    · have h := it_f c1013 h
      refine lv_iconst (v := 0) hx hb dX11_nextOrder_35 (by decide) ?_
      subst hQQ
      exact x_rz X hr hlocks hP hS (by decide +kernel) (Option.some.inj h) dX11_nextOrder_36
def b_11_finds_4 (n : Nat) (a1 : Int32) (t2 : Int32 × Int32 × St) : Option ((Int32 × Int32 × St) ⊕ (Int32 × Int32 × St)) :=
  if (t2.2.2.1 0 1) ≤ t2.2.1 then
    some (.inr (t2.1, t2.2.1, t2.2.2))
  else
    (f_11_isHere n t2.2.2 t2.2.1 a1).bind fun r4 =>
    if r4.1 = 0 then
      nm (t2.2.1 + 1) fun v11 =>
      some (.inl (t2.1, v11, r4.2))
    else
      gd (inb t2.1 8) <| nm (si r4.2 26 (t2.1.toNatClampNeg) t2.2.1) fun σ8 =>
      nm (t2.1 + 1) fun v9 =>
      nm (t2.2.1 + 1) fun v10 =>
      some (.inl (v9, v10, σ8))
def b_11_finds_65 (n : Nat) (a1 : Int32) (a2 : Int32) (t1022 : Int32 × Int32 × Int32 × St) : Option ((Int32 × Int32 × Int32 × St) ⊕ (Int32 × Int32 × Int32 × St)) :=
  if a2 ≤ t1022.2.2.1 then
    some (.inr (t1022.1, t1022.2.1, t1022.2.2.1, t1022.2.2.2))
  else
    gd (inb t1022.2.2.1 8) <| gd (inb (t1022.2.2.2.1 26 t1022.2.2.1.toNatClampNeg) 8) <| nm (t1022.1 + (t1022.2.2.2.1 27 (t1022.2.2.2.1 26 t1022.2.2.1.toNatClampNeg).toNatClampNeg)) fun v1026 =>
    nm (t1022.2.1 + (t1022.2.2.2.1 28 (t1022.2.2.2.1 26 t1022.2.2.1.toNatClampNeg).toNatClampNeg)) fun v1027 =>
    nm (t1022.2.2.1 + 1) fun v1028 =>
    some (.inl (v1026, v1027, v1028, t1022.2.2.2))
def b_11_finds_153 (n : Nat) (a1 : Int32) (a2 : Int32) (t2036 : Int32 × St) : Option ((Int32 × St) ⊕ (Int32 × St)) :=
  if a2 ≤ t2036.1 then
    some (.inr (t2036.1, t2036.2))
  else
    gd (inb t2036.1 8) <| nm (si t2036.2 35 (t2036.1.toNatClampNeg) (t2036.2.1 26 t2036.1.toNatClampNeg)) fun σ2039 =>
    nm (t2036.1 + 1) fun v2040 =>
    some (.inl (v2040, σ2039))
def b_11_finds_47 (n : Nat) (a1 : Int32) (a2 : Int32) (t1017 : Int32 × St) : Option ((Int32 × St) ⊕ (Int32 × St)) :=
  if t1017.1 = 0 then
    some (.inr (t1017.1, t1017.2))
  else
    (f_11_lays n t1017.2 a1).bind fun r1019 =>
    (lq (b_11_finds_65 n a1 a2) n (0, 0, 0, r1019)).bind fun t2029 =>
    if (t2029.2.2.2.1 0 51) < t2029.1 then
      nm (si t2029.2.2.2 0 51 t2029.1) fun σ2033 =>
      nm (si σ2033 0 52 t2029.2.1) fun σ2034 =>
      (lq (b_11_finds_153 n a1 a2) n (0, σ2034)).bind fun t3041 =>
      (f_11_nextOrder n t3041.2 a2).bind fun r3044 =>
      some (.inl (r3044.1, r3044.2))
    else
      if t2029.1 = (t2029.2.2.2.1 0 51) then
        if (t2029.2.2.2.1 0 52) ≤ t2029.2.1 then
          (f_11_nextOrder n t2029.2.2.2 a2).bind fun r3050 =>
          some (.inl (r3050.1, r3050.2))
        else
          nm (si t2029.2.2.2 0 51 t2029.1) fun σ3052 =>
          nm (si σ3052 0 52 t2029.2.1) fun σ3053 =>
          (lq (b_11_finds_153 n a1 a2) n (0, σ3053)).bind fun t4060 =>
          (f_11_nextOrder n t4060.2 a2).bind fun r4063 =>
          some (.inl (r4063.1, r4063.2))
      else
        (f_11_nextOrder n t2029.2.2.2 a2).bind fun r3047 =>
        some (.inl (r3047.1, r3047.2))
def f_11_finds (n : Nat) (σ : St) (a1 : Int32) : Option (St) :=
  (lq (b_11_finds_4 n a1) n (0, 0, σ)).bind fun t1012 =>
  nm (si t1012.2.2 0 51 (-1)) fun σ1015 =>
  (lq (b_11_finds_47 n a1 t1012.1) n (1, σ1015)).bind fun t5065 =>
  some t5065.2
abbrev rm_11_finds : Room := { frames := 4, cells := 0, slots := 0, locals := 102 }
set_option maxRecDepth 100000 in
set_option maxHeartbeats 4000000 in
theorem k_11_finds (l : Launch) (D : va_G) (cA : Nat → ClassId) (ad : Nat → Nat) (hj : inj 41 ad) (n : Nat) (σ : St) (a1 : Int32)  {res : St} (h : f_11_finds n σ a1 = some res) : MXv l D dM 41 cA ad ET yX11_finds wsX11_finds rm_11_finds [.ref (ad 0), .int a1] σ res := by
  refine Met.ofW (cc := cX11_finds) (maxL := 7) (ret := none) (by decide) rfl ?_
  intro p e s m args below meth c s₁ B hml hv
  obtain ⟨hargs, hP, hK, hE⟩ := hv
  have hx := B.exec
  have hb := B.bytes
  have hr := B.returns
  have hts := atoms_spec (ws := wsX11_finds) B.pre
  have hown : s.vm.findClass RX11 = some m.cls := findClass_of_methodNamed B.named
  have hlocks := B.notSynchronized
  have X : Cx p s m args c cX11_finds 7 RX11 wsX11_finds D dM 41 cA ad ET := ⟨hx, hb, hml, hown, hts, hK, hj, hE, ET_ok⟩
  have hS : va_S (inA 41 ad) s.heap s.heap [] := va_S.rf
  have hl := lv_entry ([.ref (ad 0), .int a1]) (n := 7) (Nat.le_of_ble_eq_true rfl)
  rw [show entryFrame m args 7 = entryFrame m ([.ref (ad 0), .int a1] : List Value).toArray 7 by rw [hargs]]
  rw [lg_entry_eq]
  generalize (lg_sl ([.ref (ad 0), .int a1]) ++ List.replicate (7 - (lg_sl ([.ref (ad 0), .int a1])).length) Slot.unset).toArray = ls at hl ⊢
  have hl : lv_has ls 7 [(0, .ref (ad 0)), (1, .int a1)] := hl
  obtain ⟨QQ, hQQ⟩ : ∃ Q, Q = MQ below (va_Qv (fun u => u = res) (fun u t => va_P D vwCl (ww dM 41 cA ad u) t.heap) (inA 41 ad)) args s 0 0 (inA 41 ad) := ⟨_, rfl⟩
  show W p l e (headSpec wsX11_finds rm_11_finds).room s m args below meth c s.heap [] 0 0 (MQ below (va_Qv (fun u => u = res) (fun u t => va_P D vwCl (ww dM 41 cA ad u) t.heap) (inA 41 ad)) args s 0 0 (inA 41 ad)) _
  rw [← hQQ]
  have in11 : ∀ w ∈ wsX110, w ∈ wsX11_finds := by decide +kernel
  have lk233 : Cond.fieldLink RX11 233 "CureTownModel" "guests" "I" ∈ wsX11_finds := by decide +kernel
  have lk91 : Cond.fieldLink RX11 91 "CureTownModel" "order" "[I" ∈ wsX11_finds := by decide +kernel
  have lk279 : Cond.fieldLink RX11 279 "CureTownModel" "bestDone" "I" ∈ wsX11_finds := by decide +kernel
  have lk94 : Cond.fieldLink RX11 94 "CureTownModel" "done" "[I" ∈ wsX11_finds := by decide +kernel
  have lk97 : Cond.fieldLink RX11 97 "CureTownModel" "end" "[I" ∈ wsX11_finds := by decide +kernel
  have lk282 : Cond.fieldLink RX11 282 "CureTownModel" "bestEnds" "I" ∈ wsX11_finds := by decide +kernel
  have lk118 : Cond.fieldLink RX11 118 "CureTownModel" "bestOrder" "[I" ∈ wsX11_finds := by decide +kernel
  unfold f_11_finds at h
  obtain ⟨H, hH⟩ : ∃ H, H = s.heap := ⟨_, rfl⟩
  obtain ⟨locs, hlc⟩ : ∃ q : List Loc, q = [] := ⟨_, rfl⟩
  have hP : va_P D vwCl (ww dM 41 cA ad σ) s.heap := hP
  have hS : va_S (inA 41 ad) s.heap s.heap [] := hS
  rw [← hlc] at hS ⊢
  rw [show W p l e (headSpec wsX11_finds rm_11_finds).room s m args below meth c s.heap locs 0 0 QQ = W p l e (headSpec wsX11_finds rm_11_finds).room s m args below meth c H locs 0 0 QQ by rw [hH]]
  have hS : va_S (inA 41 ad) s.heap H locs := by rw [hH]; exact hS
  have hP : va_P D vwCl (ww dM 41 cA ad σ) H := by rw [hH]; exact hP
  clear hH hlc
  refine lv_iconst (v := 0) hx hb dX11_finds_0 (by decide) ?_
  refine lv_istore_n (lv' := [(2, .int 0), (0, .ref (ad 0)), (1, .int a1)]) hx hb dX11_finds_1 rfl hl (by decide) rfl (fun ls hl => ?_)
  refine lv_iconst (v := 0) hx hb dX11_finds_2 (by decide) ?_
  refine lv_istore_n (lv' := [(3, .int 0), (2, .int 0), (0, .ref (ad 0)), (1, .int a1)]) hx hb dX11_finds_3 rfl hl (by decide) rfl (fun ls hl => ?_)
  obtain ⟨t1012, o1014, h⟩ := bd_some h
  refine lq_rule (P := fun t2 : Int32 × Int32 × St => ∀ (H : Heap) (locs : List Loc) (ls : Array Slot), va_P D vwCl (ww dM 41 cA ad t2.2.2) H → va_S (inA 41 ad) s.heap H locs → lv_has ls 7 [(0, .ref (ad 0)), (1, .int a1), (2, .int t2.1), (3, .int t2.2.1)] → W p l e (headSpec wsX11_finds rm_11_finds).room s m args below meth c H locs 0 0 QQ (F0 m 4 ls [])) (X := fun t1012 : Int32 × Int32 × St => ∀ (H : Heap) (locs : List Loc) (ls : Array Slot), va_P D vwCl (ww dM 41 cA ad t1012.2.2) H → va_S (inA 41 ad) s.heap H locs → lv_has ls 7 [(0, .ref (ad 0)), (1, .int a1), (2, .int t1012.1), (3, .int t1012.2.1)] → W p l e (headSpec wsX11_finds rm_11_finds).room s m args below meth c H locs 0 0 QQ (F0 m 40 ls [])) ?_ n _ _ o1014 ?_ H locs ls hP hS (lv_sub hl [2, 3, 1, 0] rfl)
  · clear h hP hS hl
    intro t2 rL1 h hCL1 hEL1 H locs ls hP hS hl
    unfold b_11_finds_4 at h
    refine lv_iload_n hx hb dX11_finds_4 rfl (lv_at hl 3 rfl) ?_
    refine lv_aload_n hx hb dX11_finds_5 rfl (lv_at hl 0 rfl) ?_
    refine x_gi X hP (j := 1) (by decide) (dM_0) rfl rfl (by decide) in11 lk233 dX11_finds_6 ?_
    refine lv_icmp_ge (tgt := 40) hx hb dX11_finds_9 (by decide) (fun c3 => ?_) (fun c3 => ?_)
    · have h := it_t c3 h
      exact hEL1 _ (Option.some.inj h).symm H locs ls hP hS (lv_sub hl [0, 1, 2, 3] rfl)
    · have h := it_f c3 h
      refine lv_aload_n hx hb dX11_finds_12 rfl (lv_at hl 0 rfl) ?_
      refine lv_iload_n hx hb dX11_finds_13 rfl (lv_at hl 3 rfl) ?_
      refine lv_iload_n hx hb dX11_finds_14 rfl (lv_at hl 1 rfl) ?_
      obtain ⟨r4, k5, h⟩ := bd_some h
      refine x_Vi (rest := []) X hP hS (k_11_isHere l D cA ad hj n t2.2.2 t2.2.1 a1 k5) (by decide) (dM_0) rfl 2 gX11_finds_X11_isHere rfl rfl rfl (by decide +kernel) ⟨Nat.le_of_ble_eq_true rfl, Nat.le_of_ble_eq_true rfl⟩ rfl hl.1 rfl (Nat.le_of_ble_eq_true rfl) dX11_finds_15 ⟨Nat.zero_le _, Nat.zero_le _⟩ (fun H locs hP hS => ?_)
      refine lv_if_ne (tgt := 24) hx hb dX11_finds_18 (by decide) (fun c6 => ?_) (fun c6 => ?_)
      · have h := it_f c6 h
        refine lv_aload_n hx hb dX11_finds_24 rfl (lv_at hl 0 rfl) ?_
        refine x_gr X hP (j := 40) (by decide) (dM_0) rfl rfl (by decide) in11 lk91 dX11_finds_25 ?_
        refine lv_iload_n hx hb dX11_finds_28 rfl (lv_at hl 2 rfl) ?_
        refine lv_iload_n hx hb dX11_finds_29 rfl (lv_at hl 3 rfl) ?_
        obtain ⟨g7, h⟩ := gd_some h
        refine x_si X hP hS (by decide) (dM_26) g7 dX11_finds_30 (fun σ8 eσ8 H locs hP hS => ?_)
        have h := nm_some eσ8 h
        obtain ⟨v9, ev9⟩ : ∃ y : Int32, y = t2.1 + 1 := ⟨_, rfl⟩
        have h := nm_some ev9 h
        refine lv_iinc (v := v9) (lv' := [(2, .int v9), (0, .ref (ad 0)), (1, .int a1), (3, .int t2.2.1)]) hx hb dX11_finds_31 hl (k := 2) rfl (by rw [ev9]; rfl) (by decide) rfl (fun ls hl => ?_)
        obtain ⟨v10, ev10⟩ : ∃ y : Int32, y = t2.2.1 + 1 := ⟨_, rfl⟩
        have h := nm_some ev10 h
        refine lv_iinc (v := v10) (lv' := [(3, .int v10), (2, .int v9), (0, .ref (ad 0)), (1, .int a1)]) hx hb dX11_finds_34 hl (k := 3) rfl (by rw [ev10]; rfl) (by decide) rfl (fun ls hl => ?_)
        refine lv_goto (tgt := 4) hx hb dX11_finds_37 (by decide) ?_
        exact hCL1 _ (Option.some.inj h).symm H locs ls hP hS (lv_sub hl [2, 3, 1, 0] rfl)
      · have h := it_t c6 h
        refine lv_goto (tgt := 34) hx hb dX11_finds_21 (by decide) ?_
        obtain ⟨v11, ev11⟩ : ∃ y : Int32, y = t2.2.1 + 1 := ⟨_, rfl⟩
        have h := nm_some ev11 h
        refine lv_iinc (v := v11) (lv' := [(3, .int v11), (0, .ref (ad 0)), (1, .int a1), (2, .int t2.1)]) hx hb dX11_finds_34 hl (k := 3) rfl (by rw [ev11]; rfl) (by decide) rfl (fun ls hl => ?_)
        refine lv_goto (tgt := 4) hx hb dX11_finds_37 (by decide) ?_
        exact hCL1 _ (Option.some.inj h).symm H locs ls hP hS (lv_sub hl [1, 2, 3, 0] rfl)
  · intro H locs ls hP hS hl
    refine lv_aload_n hx hb dX11_finds_40 rfl (lv_at hl 0 rfl) ?_
    refine lv_iconst (v := (-1)) hx hb dX11_finds_41 (by decide) ?_
    refine x_pi X hP hS (j := 51) (by decide) (dM_0) rfl rfl (by decide) in11 tyX11_ok nmX11 lk279 rfl rfl rfl rfl dX11_finds_42 (fun σ1015 eσ1015 H locs hP hS => ?_)
    have h := nm_some eσ1015 h
    refine lv_iconst (v := 1) hx hb dX11_finds_45 (by decide) ?_
    refine lv_istore_n (lv' := [(3, .int 1), (0, .ref (ad 0)), (1, .int a1), (2, .int t1012.1)]) hx hb dX11_finds_46 rfl hl (by decide) rfl (fun ls hl => ?_)
    obtain ⟨t5065, o5067, h⟩ := bd_some h
    refine lq_rule (P := fun t1017 : Int32 × St => ∀ (H : Heap) (locs : List Loc) (ls : Array Slot), va_P D vwCl (ww dM 41 cA ad t1017.2) H → va_S (inA 41 ad) s.heap H locs → lv_has ls 7 [(0, .ref (ad 0)), (1, .int a1), (2, .int t1012.1), (3, .int t1017.1)] → W p l e (headSpec wsX11_finds rm_11_finds).room s m args below meth c H locs 0 0 QQ (F0 m 47 ls [])) (X := fun t5065 : Int32 × St => ∀ (H : Heap) (locs : List Loc) (ls : Array Slot), va_P D vwCl (ww dM 41 cA ad t5065.2) H → va_S (inA 41 ad) s.heap H locs → lv_has ls 7 [(0, .ref (ad 0)), (1, .int a1), (2, .int t1012.1), (3, .int t5065.1)] → W p l e (headSpec wsX11_finds rm_11_finds).room s m args below meth c H locs 0 0 QQ (F0 m 188 ls [])) ?_ n _ _ o5067 ?_ H locs ls hP hS (lv_sub hl [1, 2, 3, 0] rfl)
    · clear h hP hS hl
      intro t1017 rL1016 h hCL1016 hEL1016 H locs ls hP hS hl
      unfold b_11_finds_47 at h
      refine lv_iload_n hx hb dX11_finds_47 rfl (lv_at hl 3 rfl) ?_
      refine lv_if_eq (tgt := 188) hx hb dX11_finds_48 (by decide) (fun c1018 => ?_) (fun c1018 => ?_)
      · have h := it_t c1018 h
        exact hEL1016 _ (Option.some.inj h).symm H locs ls hP hS (lv_sub hl [0, 1, 2, 3] rfl)
      · have h := it_f c1018 h
        refine lv_aload_n hx hb dX11_finds_51 rfl (lv_at hl 0 rfl) ?_
        refine lv_iload_n hx hb dX11_finds_52 rfl (lv_at hl 1 rfl) ?_
        obtain ⟨r1019, k1020, h⟩ := bd_some h
        refine x_Vv (rest := []) X hP hS (k_11_lays l D cA ad hj n t1017.2 a1 k1020) (by decide) (dM_0) rfl 1 gX11_finds_X11_lays rfl rfl rfl (by decide +kernel) ⟨Nat.le_of_ble_eq_true rfl, Nat.le_of_ble_eq_true rfl⟩ rfl hl.1 rfl (Nat.le_of_ble_eq_true rfl) dX11_finds_53 ⟨Nat.zero_le _, Nat.zero_le _⟩ (fun H locs hP hS => ?_)
        refine lv_iconst (v := 0) hx hb dX11_finds_56 (by decide) ?_
        refine lv_istore (lv' := [(4, .int 0), (0, .ref (ad 0)), (1, .int a1), (2, .int t1012.1), (3, .int t1017.1)]) hx hb dX11_finds_57 hl (by decide) rfl (fun ls hl => ?_)
        refine lv_iconst (v := 0) hx hb dX11_finds_59 (by decide) ?_
        refine lv_istore (lv' := [(5, .int 0), (4, .int 0), (0, .ref (ad 0)), (1, .int a1), (2, .int t1012.1), (3, .int t1017.1)]) hx hb dX11_finds_60 hl (by decide) rfl (fun ls hl => ?_)
        refine lv_iconst (v := 0) hx hb dX11_finds_62 (by decide) ?_
        refine lv_istore (lv' := [(6, .int 0), (5, .int 0), (4, .int 0), (0, .ref (ad 0)), (1, .int a1), (2, .int t1012.1), (3, .int t1017.1)]) hx hb dX11_finds_63 hl (by decide) rfl (fun ls hl => ?_)
        obtain ⟨t2029, o2031, h⟩ := bd_some h
        refine lq_rule (P := fun t1022 : Int32 × Int32 × Int32 × St => ∀ (H : Heap) (locs : List Loc) (ls : Array Slot), va_P D vwCl (ww dM 41 cA ad t1022.2.2.2) H → va_S (inA 41 ad) s.heap H locs → lv_has ls 7 [(0, .ref (ad 0)), (1, .int a1), (2, .int t1012.1), (4, .int t1022.1), (5, .int t1022.2.1), (6, .int t1022.2.2.1)] → W p l e (headSpec wsX11_finds rm_11_finds).room s m args below meth c H locs 0 0 QQ (F0 m 65 ls [])) (X := fun t2029 : Int32 × Int32 × Int32 × St => ∀ (H : Heap) (locs : List Loc) (ls : Array Slot), va_P D vwCl (ww dM 41 cA ad t2029.2.2.2) H → va_S (inA 41 ad) s.heap H locs → lv_has ls 7 [(0, .ref (ad 0)), (1, .int a1), (2, .int t1012.1), (4, .int t2029.1), (5, .int t2029.2.1), (6, .int t2029.2.2.1)] → W p l e (headSpec wsX11_finds rm_11_finds).room s m args below meth c H locs 0 0 QQ (F0 m 111 ls [])) ?_ n _ _ o2031 ?_ H locs ls hP hS (lv_sub hl [3, 4, 5, 2, 1, 0] rfl)
        · clear h hP hS hl
          intro t1022 rL1021 h hCL1021 hEL1021 H locs ls hP hS hl
          unfold b_11_finds_65 at h
          refine lv_iload hx hb dX11_finds_65 (lv_at hl 5 rfl) ?_
          refine lv_iload_n hx hb dX11_finds_67 rfl (lv_at hl 2 rfl) ?_
          refine lv_icmp_ge (tgt := 111) hx hb dX11_finds_68 (by decide) (fun c1023 => ?_) (fun c1023 => ?_)
          · have h := it_t c1023 h
            exact hEL1021 _ (Option.some.inj h).symm H locs ls hP hS (lv_sub hl [0, 1, 2, 3, 4, 5] rfl)
          · have h := it_f c1023 h
            refine lv_iload hx hb dX11_finds_71 (lv_at hl 3 rfl) ?_
            refine lv_aload_n hx hb dX11_finds_73 rfl (lv_at hl 0 rfl) ?_
            refine x_gr X hP (j := 41) (by decide) (dM_0) rfl rfl (by decide) in11 lk94 dX11_finds_74 ?_
            refine lv_aload_n hx hb dX11_finds_77 rfl (lv_at hl 0 rfl) ?_
            refine x_gr X hP (j := 40) (by decide) (dM_0) rfl rfl (by decide) in11 lk91 dX11_finds_78 ?_
            refine lv_iload hx hb dX11_finds_81 (lv_at hl 5 rfl) ?_
            obtain ⟨g1024, h⟩ := gd_some h
            refine x_ai X hP (by decide) (dM_26) g1024 dX11_finds_83 ?_
            obtain ⟨g1025, h⟩ := gd_some h
            refine x_ai X hP (by decide) (dM_27) g1025 dX11_finds_84 ?_
            refine lv_iadd hx hb dX11_finds_85 ?_
            refine lv_topi (fun v1026 ev1026 => ?_)
            have h := nm_some ev1026 h
            refine lv_istore (lv' := [(4, .int v1026), (0, .ref (ad 0)), (1, .int a1), (2, .int t1012.1), (5, .int t1022.2.1), (6, .int t1022.2.2.1)]) hx hb dX11_finds_86 hl (by decide) rfl (fun ls hl => ?_)
            refine lv_iload hx hb dX11_finds_88 (lv_at hl 4 rfl) ?_
            refine lv_aload_n hx hb dX11_finds_90 rfl (lv_at hl 1 rfl) ?_
            refine x_gr X hP (j := 42) (by decide) (dM_0) rfl rfl (by decide) in11 lk97 dX11_finds_91 ?_
            refine lv_aload_n hx hb dX11_finds_94 rfl (lv_at hl 1 rfl) ?_
            refine x_gr X hP (j := 40) (by decide) (dM_0) rfl rfl (by decide) in11 lk91 dX11_finds_95 ?_
            refine lv_iload hx hb dX11_finds_98 (lv_at hl 5 rfl) ?_
            refine x_ai X hP (by decide) (dM_26) g1024 dX11_finds_100 ?_
            refine x_ai X hP (by decide) (dM_28) g1025 dX11_finds_101 ?_
            refine lv_iadd hx hb dX11_finds_102 ?_
            refine lv_topi (fun v1027 ev1027 => ?_)
            have h := nm_some ev1027 h
            refine lv_istore (lv' := [(5, .int v1027), (4, .int v1026), (0, .ref (ad 0)), (1, .int a1), (2, .int t1012.1), (6, .int t1022.2.2.1)]) hx hb dX11_finds_103 hl (by decide) rfl (fun ls hl => ?_)
            obtain ⟨v1028, ev1028⟩ : ∃ y : Int32, y = t1022.2.2.1 + 1 := ⟨_, rfl⟩
            have h := nm_some ev1028 h
            refine lv_iinc (v := v1028) (lv' := [(6, .int v1028), (5, .int v1027), (4, .int v1026), (0, .ref (ad 0)), (1, .int a1), (2, .int t1012.1)]) hx hb dX11_finds_105 hl (k := 5) rfl (by rw [ev1028]; rfl) (by decide) rfl (fun ls hl => ?_)
            refine lv_goto (tgt := 65) hx hb dX11_finds_108 (by decide) ?_
            exact hCL1021 _ (Option.some.inj h).symm H locs ls hP hS (lv_sub hl [3, 4, 5, 2, 1, 0] rfl)
        · intro H locs ls hP hS hl
          refine lv_iload hx hb dX11_finds_111 (lv_at hl 3 rfl) ?_
          refine lv_aload_n hx hb dX11_finds_113 rfl (lv_at hl 0 rfl) ?_
          refine x_gi X hP (j := 51) (by decide) (dM_0) rfl rfl (by decide) in11 lk279 dX11_finds_114 ?_
          refine lv_icmp_gt (tgt := 138) hx hb dX11_finds_117 (by decide) (fun c2032 => ?_) (fun c2032 => ?_)
          · have h := it_t c2032 h
            refine lv_aload_n hx hb dX11_finds_138 rfl (lv_at hl 0 rfl) ?_
            refine lv_iload hx hb dX11_finds_139 (lv_at hl 3 rfl) ?_
            refine x_pi X hP hS (j := 51) (by decide) (dM_0) rfl rfl (by decide) in11 tyX11_ok nmX11 lk279 rfl rfl rfl rfl dX11_finds_141 (fun σ2033 eσ2033 H locs hP hS => ?_)
            have h := nm_some eσ2033 h
            refine lv_aload_n hx hb dX11_finds_144 rfl (lv_at hl 0 rfl) ?_
            refine lv_iload hx hb dX11_finds_145 (lv_at hl 4 rfl) ?_
            refine x_pi X hP hS (j := 52) (by decide) (dM_0) rfl rfl (by decide) in11 tyX11_ok nmX11 lk282 rfl rfl rfl rfl dX11_finds_147 (fun σ2034 eσ2034 H locs hP hS => ?_)
            have h := nm_some eσ2034 h
            refine lv_iconst (v := 0) hx hb dX11_finds_150 (by decide) ?_
            refine lv_istore (lv' := [(6, .int 0), (0, .ref (ad 0)), (1, .int a1), (2, .int t1012.1), (4, .int t2029.1), (5, .int t2029.2.1)]) hx hb dX11_finds_151 hl (by decide) rfl (fun ls hl => ?_)
            obtain ⟨t3041, o3043, h⟩ := bd_some h
            refine lq_rule (P := fun t2036 : Int32 × St => ∀ (H : Heap) (locs : List Loc) (ls : Array Slot), va_P D vwCl (ww dM 41 cA ad t2036.2) H → va_S (inA 41 ad) s.heap H locs → lv_has ls 7 [(0, .ref (ad 0)), (1, .int a1), (2, .int t1012.1), (6, .int t2036.1)] → W p l e (headSpec wsX11_finds rm_11_finds).room s m args below meth c H locs 0 0 QQ (F0 m 153 ls [])) (X := fun t3041 : Int32 × St => ∀ (H : Heap) (locs : List Loc) (ls : Array Slot), va_P D vwCl (ww dM 41 cA ad t3041.2) H → va_S (inA 41 ad) s.heap H locs → lv_has ls 7 [(0, .ref (ad 0)), (1, .int a1), (2, .int t1012.1), (6, .int t3041.1)] → W p l e (headSpec wsX11_finds rm_11_finds).room s m args below meth c H locs 0 0 QQ (F0 m 179 ls [])) ?_ n _ _ o3043 ?_ H locs ls hP hS (lv_sub hl [1, 2, 3, 0] rfl)
            · clear h hP hS hl
              intro t2036 rL2035 h hCL2035 hEL2035 H locs ls hP hS hl
              unfold b_11_finds_153 at h
              refine lv_iload hx hb dX11_finds_153 (lv_at hl 3 rfl) ?_
              refine lv_iload_n hx hb dX11_finds_155 rfl (lv_at hl 2 rfl) ?_
              refine lv_icmp_ge (tgt := 179) hx hb dX11_finds_156 (by decide) (fun c2037 => ?_) (fun c2037 => ?_)
              · have h := it_t c2037 h
                exact hEL2035 _ (Option.some.inj h).symm H locs ls hP hS (lv_sub hl [0, 1, 2, 3] rfl)
              · have h := it_f c2037 h
                refine lv_aload_n hx hb dX11_finds_159 rfl (lv_at hl 0 rfl) ?_
                refine x_gr X hP (j := 50) (by decide) (dM_0) rfl rfl (by decide) in11 lk118 dX11_finds_160 ?_
                refine lv_iload hx hb dX11_finds_163 (lv_at hl 3 rfl) ?_
                refine lv_aload_n hx hb dX11_finds_165 rfl (lv_at hl 0 rfl) ?_
                refine x_gr X hP (j := 40) (by decide) (dM_0) rfl rfl (by decide) in11 lk91 dX11_finds_166 ?_
                refine lv_iload hx hb dX11_finds_169 (lv_at hl 3 rfl) ?_
                obtain ⟨g2038, h⟩ := gd_some h
                refine x_ai X hP (by decide) (dM_26) g2038 dX11_finds_171 ?_
                refine x_si X hP hS (by decide) (dM_35) g2038 dX11_finds_172 (fun σ2039 eσ2039 H locs hP hS => ?_)
                have h := nm_some eσ2039 h
                obtain ⟨v2040, ev2040⟩ : ∃ y : Int32, y = t2036.1 + 1 := ⟨_, rfl⟩
                have h := nm_some ev2040 h
                refine lv_iinc (v := v2040) (lv' := [(6, .int v2040), (0, .ref (ad 0)), (1, .int a1), (2, .int t1012.1)]) hx hb dX11_finds_173 hl (k := 3) rfl (by rw [ev2040]; rfl) (by decide) rfl (fun ls hl => ?_)
                refine lv_goto (tgt := 153) hx hb dX11_finds_176 (by decide) ?_
                exact hCL2035 _ (Option.some.inj h).symm H locs ls hP hS (lv_sub hl [1, 2, 3, 0] rfl)
            · intro H locs ls hP hS hl
              refine lv_aload_n hx hb dX11_finds_179 rfl (lv_at hl 0 rfl) ?_
              refine lv_iload_n hx hb dX11_finds_180 rfl (lv_at hl 2 rfl) ?_
              obtain ⟨r3044, k3045, h⟩ := bd_some h
              refine x_Vi (rest := []) X hP hS (k_11_nextOrder l D cA ad hj n t3041.2 t1012.1 k3045) (by decide) (dM_0) rfl 1 gX11_finds_X11_nextOrder rfl rfl rfl (by decide +kernel) ⟨Nat.le_of_ble_eq_true rfl, Nat.le_of_ble_eq_true rfl⟩ rfl hl.1 rfl (Nat.le_of_ble_eq_true rfl) dX11_finds_181 ⟨Nat.zero_le _, Nat.zero_le _⟩ (fun H locs hP hS => ?_)
              refine lv_istore_n (lv' := [(3, .int r3044.1), (0, .ref (ad 0)), (1, .int a1), (2, .int t1012.1), (6, .int t3041.1)]) hx hb dX11_finds_184 rfl hl (by decide) rfl (fun ls hl => ?_)
              refine lv_goto (tgt := 47) hx hb dX11_finds_185 (by decide) ?_
              exact hCL1016 _ (Option.some.inj h).symm H locs ls hP hS (lv_sub hl [1, 2, 3, 0] rfl)
          · have h := it_f c2032 h
            refine lv_iload hx hb dX11_finds_120 (lv_at hl 3 rfl) ?_
            refine lv_aload_n hx hb dX11_finds_122 rfl (lv_at hl 0 rfl) ?_
            refine x_gi X hP (j := 51) (by decide) (dM_0) rfl rfl (by decide) in11 lk279 dX11_finds_123 ?_
            refine lv_icmp_ne (tgt := 179) hx hb dX11_finds_126 (by decide) (fun c3046 => ?_) (fun c3046 => ?_)
            · have h := it_f c3046 h
              refine lv_aload_n hx hb dX11_finds_179 rfl (lv_at hl 0 rfl) ?_
              refine lv_iload_n hx hb dX11_finds_180 rfl (lv_at hl 2 rfl) ?_
              obtain ⟨r3047, k3048, h⟩ := bd_some h
              refine x_Vi (rest := []) X hP hS (k_11_nextOrder l D cA ad hj n t2029.2.2.2 t1012.1 k3048) (by decide) (dM_0) rfl 1 gX11_finds_X11_nextOrder rfl rfl rfl (by decide +kernel) ⟨Nat.le_of_ble_eq_true rfl, Nat.le_of_ble_eq_true rfl⟩ rfl hl.1 rfl (Nat.le_of_ble_eq_true rfl) dX11_finds_181 ⟨Nat.zero_le _, Nat.zero_le _⟩ (fun H locs hP hS => ?_)
              refine lv_istore_n (lv' := [(3, .int r3047.1), (0, .ref (ad 0)), (1, .int a1), (2, .int t1012.1), (4, .int t2029.1), (5, .int t2029.2.1), (6, .int t2029.2.2.1)]) hx hb dX11_finds_184 rfl hl (by decide) rfl (fun ls hl => ?_)
              refine lv_goto (tgt := 47) hx hb dX11_finds_185 (by decide) ?_
              exact hCL1016 _ (Option.some.inj h).symm H locs ls hP hS (lv_sub hl [1, 2, 3, 0] rfl)
            · have h := it_t c3046 h
              refine lv_iload hx hb dX11_finds_129 (lv_at hl 4 rfl) ?_
              refine lv_aload_n hx hb dX11_finds_131 rfl (lv_at hl 0 rfl) ?_
              refine x_gi X hP (j := 52) (by decide) (dM_0) rfl rfl (by decide) in11 lk282 dX11_finds_132 ?_
              refine lv_icmp_ge (tgt := 179) hx hb dX11_finds_135 (by decide) (fun c3049 => ?_) (fun c3049 => ?_)
              · have h := it_t c3049 h
                refine lv_aload_n hx hb dX11_finds_179 rfl (lv_at hl 0 rfl) ?_
                refine lv_iload_n hx hb dX11_finds_180 rfl (lv_at hl 2 rfl) ?_
                obtain ⟨r3050, k3051, h⟩ := bd_some h
                refine x_Vi (rest := []) X hP hS (k_11_nextOrder l D cA ad hj n t2029.2.2.2 t1012.1 k3051) (by decide) (dM_0) rfl 1 gX11_finds_X11_nextOrder rfl rfl rfl (by decide +kernel) ⟨Nat.le_of_ble_eq_true rfl, Nat.le_of_ble_eq_true rfl⟩ rfl hl.1 rfl (Nat.le_of_ble_eq_true rfl) dX11_finds_181 ⟨Nat.zero_le _, Nat.zero_le _⟩ (fun H locs hP hS => ?_)
                refine lv_istore_n (lv' := [(3, .int r3050.1), (0, .ref (ad 0)), (1, .int a1), (2, .int t1012.1), (4, .int t2029.1), (5, .int t2029.2.1), (6, .int t2029.2.2.1)]) hx hb dX11_finds_184 rfl hl (by decide) rfl (fun ls hl => ?_)
                refine lv_goto (tgt := 47) hx hb dX11_finds_185 (by decide) ?_
                exact hCL1016 _ (Option.some.inj h).symm H locs ls hP hS (lv_sub hl [1, 2, 3, 0] rfl)
              · have h := it_f c3049 h
                refine lv_aload_n hx hb dX11_finds_138 rfl (lv_at hl 0 rfl) ?_
                refine lv_iload hx hb dX11_finds_139 (lv_at hl 3 rfl) ?_
                refine x_pi X hP hS (j := 51) (by decide) (dM_0) rfl rfl (by decide) in11 tyX11_ok nmX11 lk279 rfl rfl rfl rfl dX11_finds_141 (fun σ3052 eσ3052 H locs hP hS => ?_)
                have h := nm_some eσ3052 h
                refine lv_aload_n hx hb dX11_finds_144 rfl (lv_at hl 0 rfl) ?_
                refine lv_iload hx hb dX11_finds_145 (lv_at hl 4 rfl) ?_
                refine x_pi X hP hS (j := 52) (by decide) (dM_0) rfl rfl (by decide) in11 tyX11_ok nmX11 lk282 rfl rfl rfl rfl dX11_finds_147 (fun σ3053 eσ3053 H locs hP hS => ?_)
                have h := nm_some eσ3053 h
                refine lv_iconst (v := 0) hx hb dX11_finds_150 (by decide) ?_
                refine lv_istore (lv' := [(6, .int 0), (0, .ref (ad 0)), (1, .int a1), (2, .int t1012.1), (4, .int t2029.1), (5, .int t2029.2.1)]) hx hb dX11_finds_151 hl (by decide) rfl (fun ls hl => ?_)
                obtain ⟨t4060, o4062, h⟩ := bd_some h
                refine lq_rule (P := fun t3055 : Int32 × St => ∀ (H : Heap) (locs : List Loc) (ls : Array Slot), va_P D vwCl (ww dM 41 cA ad t3055.2) H → va_S (inA 41 ad) s.heap H locs → lv_has ls 7 [(0, .ref (ad 0)), (1, .int a1), (2, .int t1012.1), (6, .int t3055.1)] → W p l e (headSpec wsX11_finds rm_11_finds).room s m args below meth c H locs 0 0 QQ (F0 m 153 ls [])) (X := fun t4060 : Int32 × St => ∀ (H : Heap) (locs : List Loc) (ls : Array Slot), va_P D vwCl (ww dM 41 cA ad t4060.2) H → va_S (inA 41 ad) s.heap H locs → lv_has ls 7 [(0, .ref (ad 0)), (1, .int a1), (2, .int t1012.1), (6, .int t4060.1)] → W p l e (headSpec wsX11_finds rm_11_finds).room s m args below meth c H locs 0 0 QQ (F0 m 179 ls [])) ?_ n _ _ o4062 ?_ H locs ls hP hS (lv_sub hl [1, 2, 3, 0] rfl)
                · clear h hP hS hl
                  intro t3055 rL3054 h hCL3054 hEL3054 H locs ls hP hS hl
                  unfold b_11_finds_153 at h
                  refine lv_iload hx hb dX11_finds_153 (lv_at hl 3 rfl) ?_
                  refine lv_iload_n hx hb dX11_finds_155 rfl (lv_at hl 2 rfl) ?_
                  refine lv_icmp_ge (tgt := 179) hx hb dX11_finds_156 (by decide) (fun c3056 => ?_) (fun c3056 => ?_)
                  · have h := it_t c3056 h
                    exact hEL3054 _ (Option.some.inj h).symm H locs ls hP hS (lv_sub hl [0, 1, 2, 3] rfl)
                  · have h := it_f c3056 h
                    refine lv_aload_n hx hb dX11_finds_159 rfl (lv_at hl 0 rfl) ?_
                    refine x_gr X hP (j := 50) (by decide) (dM_0) rfl rfl (by decide) in11 lk118 dX11_finds_160 ?_
                    refine lv_iload hx hb dX11_finds_163 (lv_at hl 3 rfl) ?_
                    refine lv_aload_n hx hb dX11_finds_165 rfl (lv_at hl 0 rfl) ?_
                    refine x_gr X hP (j := 40) (by decide) (dM_0) rfl rfl (by decide) in11 lk91 dX11_finds_166 ?_
                    refine lv_iload hx hb dX11_finds_169 (lv_at hl 3 rfl) ?_
                    obtain ⟨g3057, h⟩ := gd_some h
                    refine x_ai X hP (by decide) (dM_26) g3057 dX11_finds_171 ?_
                    refine x_si X hP hS (by decide) (dM_35) g3057 dX11_finds_172 (fun σ3058 eσ3058 H locs hP hS => ?_)
                    have h := nm_some eσ3058 h
                    obtain ⟨v3059, ev3059⟩ : ∃ y : Int32, y = t3055.1 + 1 := ⟨_, rfl⟩
                    have h := nm_some ev3059 h
                    refine lv_iinc (v := v3059) (lv' := [(6, .int v3059), (0, .ref (ad 0)), (1, .int a1), (2, .int t1012.1)]) hx hb dX11_finds_173 hl (k := 3) rfl (by rw [ev3059]; rfl) (by decide) rfl (fun ls hl => ?_)
                    refine lv_goto (tgt := 153) hx hb dX11_finds_176 (by decide) ?_
                    exact hCL3054 _ (Option.some.inj h).symm H locs ls hP hS (lv_sub hl [1, 2, 3, 0] rfl)
                · intro H locs ls hP hS hl
                  refine lv_aload_n hx hb dX11_finds_179 rfl (lv_at hl 0 rfl) ?_
                  refine lv_iload_n hx hb dX11_finds_180 rfl (lv_at hl 2 rfl) ?_
                  obtain ⟨r4063, k4064, h⟩ := bd_some h
                  refine x_Vi (rest := []) X hP hS (k_11_nextOrder l D cA ad hj n t4060.2 t1012.1 k4064) (by decide) (dM_0) rfl 1 gX11_finds_X11_nextOrder rfl rfl rfl (by decide +kernel) ⟨Nat.le_of_ble_eq_true rfl, Nat.le_of_ble_eq_true rfl⟩ rfl hl.1 rfl (Nat.le_of_ble_eq_true rfl) dX11_finds_181 ⟨Nat.zero_le _, Nat.zero_le _⟩ (fun H locs hP hS => ?_)
                  refine lv_istore_n (lv' := [(3, .int r4063.1), (0, .ref (ad 0)), (1, .int a1), (2, .int t1012.1), (6, .int t4060.1)]) hx hb dX11_finds_184 rfl hl (by decide) rfl (fun ls hl => ?_)
                  refine lv_goto (tgt := 47) hx hb dX11_finds_185 (by decide) ?_
                  exact hCL1016 _ (Option.some.inj h).symm H locs ls hP hS (lv_sub hl [1, 2, 3, 0] rfl)
    · intro H locs ls hP hS hl
      subst hQQ
      exact x_rv X hr hlocks hP hS (Option.some.inj h) dX11_finds_188
def f_11_best (n : Nat) (σ : St) (a1 : Int32) (a2 : Int32) : Option (Int32 × St) :=
  (f_11_isDay n σ a1 (σ.1 0 0)).bind fun r1 =>
  if r1.1 = 0 then
    some ((-1), r1.2)
  else
    (f_11_here n r1.2 a1).bind fun r4 =>
    if r4.1 ≤ 6 then
      (f_11_finds n r4.2 a1).bind fun r7 =>
      if a2 = 0 then
        some ((r7.1 0 51), r7)
      else
        if a2 = 1 then
          some ((r7.1 0 52), r7)
        else
          (f_11_here n r7 a1).bind fun r11 =>
          nm (9 + r11.1) fun v13 =>
          (f_11_isIn n r11.2 a2 10 v13).bind fun r14 =>
          if r14.1 = 0 then
            some ((-1), r14.2)
          else
            nm (a2 - 10) fun v17 =>
            gd (inb v17 8) <| some ((r14.2.1 35 v17.toNatClampNeg), r14.2)
    else
      some ((-1), r4.2)
abbrev rm_11_best : Room := { frames := 5, cells := 0, slots := 0, locals := 128 }
set_option maxRecDepth 100000 in
set_option maxHeartbeats 4000000 in
theorem k_11_best (l : Launch) (D : va_G) (cA : Nat → ClassId) (ad : Nat → Nat) (hj : inj 41 ad) (n : Nat) (σ : St) (a1 : Int32) (a2 : Int32)  {res : Int32 × St} (h : f_11_best n σ a1 a2 = some res) : MXi l D dM 41 cA ad ET yX11_best wsX11_best rm_11_best [.ref (ad 0), .int a1, .int a2] σ res := by
  refine Met.ofW (cc := cX11_best) (maxL := 3) (ret := (some .int)) (by decide) rfl ?_
  intro p e s m args below meth c s₁ B hml hv
  obtain ⟨hargs, hP, hK, hE⟩ := hv
  have hx := B.exec
  have hb := B.bytes
  have hr := B.returns
  have hts := atoms_spec (ws := wsX11_best) B.pre
  have hown : s.vm.findClass RX11 = some m.cls := findClass_of_methodNamed B.named
  have hlocks := B.notSynchronized
  have X : Cx p s m args c cX11_best 3 RX11 wsX11_best D dM 41 cA ad ET := ⟨hx, hb, hml, hown, hts, hK, hj, hE, ET_ok⟩
  have hS : va_S (inA 41 ad) s.heap s.heap [] := va_S.rf
  have hl := lv_entry ([.ref (ad 0), .int a1, .int a2]) (n := 3) (Nat.le_of_ble_eq_true rfl)
  rw [show entryFrame m args 3 = entryFrame m ([.ref (ad 0), .int a1, .int a2] : List Value).toArray 3 by rw [hargs]]
  rw [lg_entry_eq]
  generalize (lg_sl ([.ref (ad 0), .int a1, .int a2]) ++ List.replicate (3 - (lg_sl ([.ref (ad 0), .int a1, .int a2])).length) Slot.unset).toArray = ls at hl ⊢
  have hl : lv_has ls 3 [(0, .ref (ad 0)), (1, .int a1), (2, .int a2)] := hl
  obtain ⟨QQ, hQQ⟩ : ∃ Q, Q = MQ below (va_Qi (fun r u => r = res.1 ∧ u = res.2) (fun u t => va_P D vwCl (ww dM 41 cA ad u) t.heap) (inA 41 ad)) args s 0 0 (inA 41 ad) := ⟨_, rfl⟩
  show W p l e (headSpec wsX11_best rm_11_best).room s m args below meth c s.heap [] 0 0 (MQ below (va_Qi (fun r u => r = res.1 ∧ u = res.2) (fun u t => va_P D vwCl (ww dM 41 cA ad u) t.heap) (inA 41 ad)) args s 0 0 (inA 41 ad)) _
  rw [← hQQ]
  have in11 : ∀ w ∈ wsX110, w ∈ wsX11_best := by decide +kernel
  have lk230 : Cond.fieldLink RX11 230 "CureTownModel" "day" "I" ∈ wsX11_best := by decide +kernel
  have lk118 : Cond.fieldLink RX11 118 "CureTownModel" "bestOrder" "[I" ∈ wsX11_best := by decide +kernel
  have lk282 : Cond.fieldLink RX11 282 "CureTownModel" "bestEnds" "I" ∈ wsX11_best := by decide +kernel
  have lk279 : Cond.fieldLink RX11 279 "CureTownModel" "bestDone" "I" ∈ wsX11_best := by decide +kernel
  unfold f_11_best at h
  obtain ⟨H, hH⟩ : ∃ H, H = s.heap := ⟨_, rfl⟩
  obtain ⟨locs, hlc⟩ : ∃ q : List Loc, q = [] := ⟨_, rfl⟩
  have hP : va_P D vwCl (ww dM 41 cA ad σ) s.heap := hP
  have hS : va_S (inA 41 ad) s.heap s.heap [] := hS
  rw [← hlc] at hS ⊢
  rw [show W p l e (headSpec wsX11_best rm_11_best).room s m args below meth c s.heap locs 0 0 QQ = W p l e (headSpec wsX11_best rm_11_best).room s m args below meth c H locs 0 0 QQ by rw [hH]]
  have hS : va_S (inA 41 ad) s.heap H locs := by rw [hH]; exact hS
  have hP : va_P D vwCl (ww dM 41 cA ad σ) H := by rw [hH]; exact hP
  clear hH hlc
  refine lv_iload_n hx hb dX11_best_0 rfl (lv_at hl 1 rfl) ?_
  refine lv_aload_n hx hb dX11_best_1 rfl (lv_at hl 0 rfl) ?_
  refine x_gi X hP (j := 0) (by decide) (dM_0) rfl rfl (by decide) in11 lk230 dX11_best_2 ?_
  obtain ⟨r1, k2, h⟩ := bd_some h
  refine x_Si (rest := []) X hP hS (k_11_isDay l D cA ad hj n σ a1 (σ.1 0 0) k2) 2 gX11_best_X11_isDay rfl rfl rfl (by decide +kernel) ⟨Nat.le_of_ble_eq_true rfl, Nat.le_of_ble_eq_true rfl⟩ rfl hl.1 rfl (Nat.le_of_ble_eq_true rfl) dX11_best_5 ⟨Nat.zero_le _, Nat.zero_le _⟩ (fun H locs hP hS => ?_)
  refine lv_if_eq (tgt := 21) hx hb dX11_best_8 (by decide) (fun c3 => ?_) (fun c3 => ?_)
  · have h := it_t c3 h
    refine lv_iconst (v := (-1)) hx hb dX11_best_21 (by decide) ?_
    subst hQQ
    exact x_ri (σ0 := (fun _ _ => 0, fun _ _ => 0)) X hr hlocks hP hS (Option.some.inj h) dX11_best_22
  · have h := it_f c3 h
    refine lv_aload_n hx hb dX11_best_11 rfl (lv_at hl 0 rfl) ?_
    refine lv_iload_n hx hb dX11_best_12 rfl (lv_at hl 1 rfl) ?_
    obtain ⟨r4, k5, h⟩ := bd_some h
    refine x_Vi (rest := []) X hP hS (k_11_here l D cA ad hj n r1.2 a1 k5) (by decide) (dM_0) rfl 1 gX11_best_X11_here rfl rfl rfl (by decide +kernel) ⟨Nat.le_of_ble_eq_true rfl, Nat.le_of_ble_eq_true rfl⟩ rfl hl.1 rfl (Nat.le_of_ble_eq_true rfl) dX11_best_13 ⟨Nat.zero_le _, Nat.zero_le _⟩ (fun H locs hP hS => ?_)
    refine lv_bipush (v := 6) hx hb dX11_best_16 (by decide) ?_
    refine lv_icmp_le (tgt := 23) hx hb dX11_best_18 (by decide) (fun c6 => ?_) (fun c6 => ?_)
    · have h := it_t c6 h
      refine lv_aload_n hx hb dX11_best_23 rfl (lv_at hl 0 rfl) ?_
      refine lv_iload_n hx hb dX11_best_24 rfl (lv_at hl 1 rfl) ?_
      obtain ⟨r7, k8, h⟩ := bd_some h
      refine x_Vv (rest := []) X hP hS (k_11_finds l D cA ad hj n r4.2 a1 k8) (by decide) (dM_0) rfl 1 gX11_best_X11_finds rfl rfl rfl (by decide +kernel) ⟨Nat.le_of_ble_eq_true rfl, Nat.le_of_ble_eq_true rfl⟩ rfl hl.1 rfl (Nat.le_of_ble_eq_true rfl) dX11_best_25 ⟨Nat.zero_le _, Nat.zero_le _⟩ (fun H locs hP hS => ?_)
      refine lv_iload_n hx hb dX11_best_28 rfl (lv_at hl 2 rfl) ?_
      refine lv_if_ne (tgt := 39) hx hb dX11_best_29 (by decide) (fun c9 => ?_) (fun c9 => ?_)
      · have h := it_f c9 h
        refine lv_iload_n hx hb dX11_best_39 rfl (lv_at hl 2 rfl) ?_
        refine lv_iconst (v := 1) hx hb dX11_best_40 (by decide) ?_
        refine lv_icmp_ne (tgt := 51) hx hb dX11_best_41 (by decide) (fun c10 => ?_) (fun c10 => ?_)
        · have h := it_f c10 h
          refine lv_iload_n hx hb dX11_best_51 rfl (lv_at hl 2 rfl) ?_
          refine lv_bipush (v := 10) hx hb dX11_best_52 (by decide) ?_
          refine lv_bipush (v := 9) hx hb dX11_best_54 (by decide) ?_
          refine lv_aload_n hx hb dX11_best_56 rfl (lv_at hl 0 rfl) ?_
          refine lv_iload_n hx hb dX11_best_57 rfl (lv_at hl 1 rfl) ?_
          obtain ⟨r11, k12, h⟩ := bd_some h
          refine x_Vi (rest := [.int 9, .int 10, .int a2]) X hP hS (k_11_here l D cA ad hj n r7 a1 k12) (by decide) (dM_0) rfl 1 gX11_best_X11_here rfl rfl rfl (by decide +kernel) ⟨Nat.le_of_ble_eq_true rfl, Nat.le_of_ble_eq_true rfl⟩ rfl hl.1 rfl (Nat.le_of_ble_eq_true rfl) dX11_best_58 ⟨Nat.zero_le _, Nat.zero_le _⟩ (fun H locs hP hS => ?_)
          refine lv_iadd hx hb dX11_best_61 ?_
          refine lv_topi (fun v13 ev13 => ?_)
          have h := nm_some ev13 h
          obtain ⟨r14, k15, h⟩ := bd_some h
          refine x_Si (rest := []) X hP hS (k_11_isIn l D cA ad hj n r11.2 a2 10 v13 k15) 3 gX11_best_X11_isIn rfl rfl rfl (by decide +kernel) ⟨Nat.le_of_ble_eq_true rfl, Nat.le_of_ble_eq_true rfl⟩ rfl hl.1 rfl (Nat.le_of_ble_eq_true rfl) dX11_best_62 ⟨Nat.zero_le _, Nat.zero_le _⟩ (fun H locs hP hS => ?_)
          refine lv_if_eq (tgt := 80) hx hb dX11_best_65 (by decide) (fun c16 => ?_) (fun c16 => ?_)
          · have h := it_t c16 h
            refine lv_iconst (v := (-1)) hx hb dX11_best_80 (by decide) ?_
            subst hQQ
            exact x_ri (σ0 := (fun _ _ => 0, fun _ _ => 0)) X hr hlocks hP hS (Option.some.inj h) dX11_best_81
          · have h := it_f c16 h
            refine lv_aload_n hx hb dX11_best_68 rfl (lv_at hl 0 rfl) ?_
            refine x_gr X hP (j := 50) (by decide) (dM_0) rfl rfl (by decide) in11 lk118 dX11_best_69 ?_
            refine lv_iload_n hx hb dX11_best_72 rfl (lv_at hl 2 rfl) ?_
            refine lv_bipush (v := 10) hx hb dX11_best_73 (by decide) ?_
            refine lv_isub hx hb dX11_best_75 ?_
            refine lv_topi (fun v17 ev17 => ?_)
            have h := nm_some ev17 h
            obtain ⟨g18, h⟩ := gd_some h
            refine x_ai X hP (by decide) (dM_35) g18 dX11_best_76 ?_
            refine lv_goto (tgt := 81) hx hb dX11_best_77 (by decide) ?_
            subst hQQ
            exact x_ri (σ0 := (fun _ _ => 0, fun _ _ => 0)) X hr hlocks hP hS (Option.some.inj h) dX11_best_81
        · have h := it_t c10 h
          refine lv_aload_n hx hb dX11_best_44 rfl (lv_at hl 0 rfl) ?_
          refine x_gi X hP (j := 52) (by decide) (dM_0) rfl rfl (by decide) in11 lk282 dX11_best_45 ?_
          refine lv_goto (tgt := 81) hx hb dX11_best_48 (by decide) ?_
          subst hQQ
          exact x_ri (σ0 := (fun _ _ => 0, fun _ _ => 0)) X hr hlocks hP hS (Option.some.inj h) dX11_best_81
      · have h := it_t c9 h
        refine lv_aload_n hx hb dX11_best_32 rfl (lv_at hl 0 rfl) ?_
        refine x_gi X hP (j := 51) (by decide) (dM_0) rfl rfl (by decide) in11 lk279 dX11_best_33 ?_
        refine lv_goto (tgt := 81) hx hb dX11_best_36 (by decide) ?_
        subst hQQ
        exact x_ri (σ0 := (fun _ _ => 0, fun _ _ => 0)) X hr hlocks hP hS (Option.some.inj h) dX11_best_81
    · have h := it_f c6 h
      refine lv_iconst (v := (-1)) hx hb dX11_best_21 (by decide) ?_
      subst hQQ
      exact x_ri (σ0 := (fun _ _ => 0, fun _ _ => 0)) X hr hlocks hP hS (Option.some.inj h) dX11_best_22
def f_11_keep (n : Nat) (σ : St) (a1 : Int32) : Option (Int32 × St) :=
  (f_11_here n σ (σ.1 0 0)).bind fun r1 =>
  if r1.1 ≤ 6 then
    gd (isb a1) <| nm (si r1.2 0 53 a1) fun σ4 =>
    some (1, σ4)
  else
    some (0, r1.2)
abbrev rm_11_keep : Room := { frames := 3, cells := 0, slots := 0, locals := 67 }
set_option maxRecDepth 100000 in
set_option maxHeartbeats 4000000 in
theorem k_11_keep (l : Launch) (D : va_G) (cA : Nat → ClassId) (ad : Nat → Nat) (hj : inj 41 ad) (n : Nat) (σ : St) (a1 : Int32)  {res : Int32 × St} (h : f_11_keep n σ a1 = some res) : MXi l D dM 41 cA ad ET yX11_keep wsX11_keep rm_11_keep [.ref (ad 0), .int a1] σ res := by
  refine Met.ofW (cc := cX11_keep) (maxL := 2) (ret := (some .boolean)) (by decide) rfl ?_
  intro p e s m args below meth c s₁ B hml hv
  obtain ⟨hargs, hP, hK, hE⟩ := hv
  have hx := B.exec
  have hb := B.bytes
  have hr := B.returns
  have hts := atoms_spec (ws := wsX11_keep) B.pre
  have hown : s.vm.findClass RX11 = some m.cls := findClass_of_methodNamed B.named
  have hlocks := B.notSynchronized
  have X : Cx p s m args c cX11_keep 2 RX11 wsX11_keep D dM 41 cA ad ET := ⟨hx, hb, hml, hown, hts, hK, hj, hE, ET_ok⟩
  have hS : va_S (inA 41 ad) s.heap s.heap [] := va_S.rf
  have hl := lv_entry ([.ref (ad 0), .int a1]) (n := 2) (Nat.le_of_ble_eq_true rfl)
  rw [show entryFrame m args 2 = entryFrame m ([.ref (ad 0), .int a1] : List Value).toArray 2 by rw [hargs]]
  rw [lg_entry_eq]
  generalize (lg_sl ([.ref (ad 0), .int a1]) ++ List.replicate (2 - (lg_sl ([.ref (ad 0), .int a1])).length) Slot.unset).toArray = ls at hl ⊢
  have hl : lv_has ls 2 [(0, .ref (ad 0)), (1, .int a1)] := hl
  obtain ⟨QQ, hQQ⟩ : ∃ Q, Q = MQ below (va_Qi (fun r u => r = res.1 ∧ u = res.2) (fun u t => va_P D vwCl (ww dM 41 cA ad u) t.heap) (inA 41 ad)) args s 0 0 (inA 41 ad) := ⟨_, rfl⟩
  show W p l e (headSpec wsX11_keep rm_11_keep).room s m args below meth c s.heap [] 0 0 (MQ below (va_Qi (fun r u => r = res.1 ∧ u = res.2) (fun u t => va_P D vwCl (ww dM 41 cA ad u) t.heap) (inA 41 ad)) args s 0 0 (inA 41 ad)) _
  rw [← hQQ]
  have in11 : ∀ w ∈ wsX110, w ∈ wsX11_keep := by decide +kernel
  have lk230 : Cond.fieldLink RX11 230 "CureTownModel" "day" "I" ∈ wsX11_keep := by decide +kernel
  have lk291 : Cond.fieldLink RX11 291 "CureTownModel" "isBest" "Z" ∈ wsX11_keep := by decide +kernel
  unfold f_11_keep at h
  obtain ⟨H, hH⟩ : ∃ H, H = s.heap := ⟨_, rfl⟩
  obtain ⟨locs, hlc⟩ : ∃ q : List Loc, q = [] := ⟨_, rfl⟩
  have hP : va_P D vwCl (ww dM 41 cA ad σ) s.heap := hP
  have hS : va_S (inA 41 ad) s.heap s.heap [] := hS
  rw [← hlc] at hS ⊢
  rw [show W p l e (headSpec wsX11_keep rm_11_keep).room s m args below meth c s.heap locs 0 0 QQ = W p l e (headSpec wsX11_keep rm_11_keep).room s m args below meth c H locs 0 0 QQ by rw [hH]]
  have hS : va_S (inA 41 ad) s.heap H locs := by rw [hH]; exact hS
  have hP : va_P D vwCl (ww dM 41 cA ad σ) H := by rw [hH]; exact hP
  clear hH hlc
  refine lv_aload_n hx hb dX11_keep_0 rfl (lv_at hl 0 rfl) ?_
  refine lv_aload_n hx hb dX11_keep_1 rfl (lv_at hl 0 rfl) ?_
  refine x_gi X hP (j := 0) (by decide) (dM_0) rfl rfl (by decide) in11 lk230 dX11_keep_2 ?_
  obtain ⟨r1, k2, h⟩ := bd_some h
  refine x_Vi (rest := []) X hP hS (k_11_here l D cA ad hj n σ (σ.1 0 0) k2) (by decide) (dM_0) rfl 1 gX11_keep_X11_here rfl rfl rfl (by decide +kernel) ⟨Nat.le_of_ble_eq_true rfl, Nat.le_of_ble_eq_true rfl⟩ rfl hl.1 rfl (Nat.le_of_ble_eq_true rfl) dX11_keep_5 ⟨Nat.zero_le _, Nat.zero_le _⟩ (fun H locs hP hS => ?_)
  refine lv_bipush (v := 6) hx hb dX11_keep_8 (by decide) ?_
  refine lv_icmp_le (tgt := 15) hx hb dX11_keep_10 (by decide) (fun c3 => ?_) (fun c3 => ?_)
  · have h := it_t c3 h
    refine lv_aload_n hx hb dX11_keep_15 rfl (lv_at hl 0 rfl) ?_
    refine lv_iload_n hx hb dX11_keep_16 rfl (lv_at hl 1 rfl) ?_
    obtain ⟨g5, h⟩ := gd_some h
    refine x_pi X hP hS (j := 53) (by decide) (dM_0) rfl rfl (by decide) in11 tyX11_ok nmX11 lk291 rfl rfl (isb_nar g5) (isb_fit g5) dX11_keep_17 (fun σ4 eσ4 H locs hP hS => ?_)
    have h := nm_some eσ4 h
    refine lv_iconst (v := 1) hx hb dX11_keep_20 (by decide) ?_
    subst hQQ
    exact x_rz X hr hlocks hP hS (by decide +kernel) (Option.some.inj h) dX11_keep_21
  · have h := it_f c3 h
    refine lv_iconst (v := 0) hx hb dX11_keep_13 (by decide) ?_
    subst hQQ
    exact x_rz X hr hlocks hP hS (by decide +kernel) (Option.some.inj h) dX11_keep_14
