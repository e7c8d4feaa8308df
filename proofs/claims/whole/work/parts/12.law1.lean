def Sim (Rel : St → St → Prop) (fx fm : St → Option (Int32 × St)) : Prop := ∀ σ τ, Rel σ τ → ∃ (r : Int32) (σ' τ' : St), fx σ = some (r, σ') ∧ fm τ = some (r, τ') ∧ Rel σ' τ'
def Lc (p : Program) (s : State) (m : MethodId) (c : Code) (b : Nat) (D : va_G) (cA : Nat → ClassId) (ad : Nat → Nat) (z : ZX) (cB : Nat → ClassId) (bd : Nat → Nat) : Prop := p.tables.exec = Jvm.exec ∧ c.code = code ∧ c.maxLocals = 4 ∧ s.vm.findClass RL = some m.cls ∧ (∀ w ∈ lw_tbl, w.before #[Value.ref b] s = true) ∧ va_K D vwCl (tt dX 120 cA) s ∧ va_K D vwCl (tt dM 41 cB) s ∧ inj 120 ad ∧ inj 41 bd ∧ EX ad z s ∧ (∀ k, k < 120 → s.heap.size ≤ ad k) ∧ (∀ k, k < 41 → s.heap.size ≤ bd k) ∧ ∀ i, i < 120 → ∀ j, j < 41 → ad i ≠ bd j
section LL
variable {p : Program} {l : Launch} {e : Env} {s : State} {m : MethodId} {below : List Frame} {meth : Method} {c : Code} {H : Heap} {locs : List Loc} {cells slots : Nat} {Q : State → Prop} {b : Nat}
variable {pc : Nat} {ls : Array Slot} {rest : List Value} {D : va_G} {cA cB : Nat → ClassId} {ad bd : Nat → Nat} {z : ZX} {σ τ : St}
variable {y : MethodName} {ws ws' : List Cond} {rm : Room} {index maxL : Nat} {bytes : ByteArray} {ret : Option FieldType} {As st0 : List Value}
theorem l_X (C : Lc p s m c b D cA ad z cB bd) (hPX : va_P D vwCl (ww dX 120 cA ad σ) H) (hPM : va_P D vwCl (ww dM 41 cB bd τ) H) (hS : va_S (fun q : Nat => s.heap.size ≤ q) s.heap H locs) {res : Int32 × St} (hM : MXi l D dX 120 cA ad (EX ad z) y ws rm (.ref (ad 0) :: As) σ res) (n : Nat) (hT : GoodIn lw_tbl (wsV RL index RX10 y ws)) (hw : ws = Cond.code y bytes maxL ret :: ws') (hrc : rm.cells = 0) (hrs : rm.slots = 0)
    (hy : y.cls = RX10 ∧ y.cls ≠ "java/lang/invoke/MethodHandle" ∧ y.cls ≠ "java/lang/invoke/VarHandle" ∧ (parseMethodDescriptor y.desc).map (fun d => d.parameters.length) = some n) (hR : rm.frames + 1 ≤ room_1.frames ∧ 8 + (maxL + 11) + rm.locals ≤ room_1.locals) (hn : As.length = n) (hsz : ls.size = 4) (hst : st0 = As.reverse ++ .ref (ad 0) :: rest) (hW : (rest.map fun v => v.category).sum ≤ 8) (hdg : decode code pc = .ok (.invokevirtual index, 3)) (hf : cells ≤ room_1.cells ∧ slots ≤ room_1.slots)
    (kk : ∀ (H1 : Heap) (locs1 : List Loc), va_P D vwCl (ww dX 120 cA ad res.2) H1 → va_P D vwCl (ww dM 41 cB bd τ) H1 → va_S (fun q : Nat => s.heap.size ≤ q) s.heap H1 locs1 → W p l e room_1 s m #[Value.ref b] below meth c H1 locs1 cells slots Q (F0 m (pc + 3) ls (.int res.1 :: rest))) : W p l e room_1 s m #[Value.ref b] below meth c H locs cells slots Q (F0 m pc ls st0) := by
  obtain ⟨hx, hb, hml, hown, hts, hKX, hKM, hjX, hjM, hEX, hadX, hadM, hdis⟩ := C
  refine va_calli (va_runV (As := As) (rest := rest) ⟨hx, hb, hml, hown, hts⟩ hM (cwV n hts hT hw hrc hrs hy hR) ⟨x_blind (EX_ok ad z), va_recv hKX hPX (ci := 10) rfl (ww_obj (by decide) dX_0), fun U hU hW => ⟨rfl, by rw [hU]; exact hPX, va_K.moved hW.alike hKX, (EX_ok ad z).2 s U H [] hEX ⟨hS.1, fun q h1 _ => hS.2.1 q h1 (Nat.not_le.mpr h1), fun _ h => by cases h⟩ hW hU⟩⟩ rfl hn hsz hst (lv_room hW) hdg hf) hS (fun q _ h => by obtain ⟨k, hk, rfl⟩ := h; exact hadX k hk) (fun q h => by obtain ⟨k, hk, rfl⟩ := h; exact hadX k hk) (fun r u t H1 locs1 ht hvm hw hB hz1 hk1 hS1 => ?_)
  obtain ⟨rfl, rfl⟩ := hw
  rw [ht] at hB
  refine kk H1 locs1 hB (hPM.kept (fun k q hq => ?_)) hS1
  obtain ⟨hk, e9⟩ := ww_lt hq
  refine hk1 q.1 (hPM k q hq).lt (fun h => ?_)
  obtain ⟨i, hi, e8⟩ := h
  exact hdis i hi k hk (by rw [← e8, e9])
theorem l_M (C : Lc p s m c b D cA ad z cB bd) (hPX : va_P D vwCl (ww dX 120 cA ad σ) H) (hPM : va_P D vwCl (ww dM 41 cB bd τ) H) (hS : va_S (fun q : Nat => s.heap.size ≤ q) s.heap H locs) {res : Int32 × St} (hM : MXi l D dM 41 cB bd ET y ws rm (.ref (bd 0) :: As) τ res) (n : Nat) (hT : GoodIn lw_tbl (wsV RL index RX11 y ws)) (hw : ws = Cond.code y bytes maxL ret :: ws') (hrc : rm.cells = 0) (hrs : rm.slots = 0)
    (hy : y.cls = RX11 ∧ y.cls ≠ "java/lang/invoke/MethodHandle" ∧ y.cls ≠ "java/lang/invoke/VarHandle" ∧ (parseMethodDescriptor y.desc).map (fun d => d.parameters.length) = some n) (hR : rm.frames + 1 ≤ room_1.frames ∧ 8 + (maxL + 11) + rm.locals ≤ room_1.locals) (hn : As.length = n) (hsz : ls.size = 4) (hst : st0 = As.reverse ++ .ref (bd 0) :: rest) (hW : (rest.map fun v => v.category).sum ≤ 8) (hdg : decode code pc = .ok (.invokevirtual index, 3)) (hf : cells ≤ room_1.cells ∧ slots ≤ room_1.slots)
    (kk : ∀ (H1 : Heap) (locs1 : List Loc), va_P D vwCl (ww dX 120 cA ad σ) H1 → va_P D vwCl (ww dM 41 cB bd res.2) H1 → va_S (fun q : Nat => s.heap.size ≤ q) s.heap H1 locs1 → W p l e room_1 s m #[Value.ref b] below meth c H1 locs1 cells slots Q (F0 m (pc + 3) ls (.int res.1 :: rest))) : W p l e room_1 s m #[Value.ref b] below meth c H locs cells slots Q (F0 m pc ls st0) := by
  obtain ⟨hx, hb, hml, hown, hts, hKX, hKM, hjX, hjM, hEX, hadX, hadM, hdis⟩ := C
  refine va_calli (va_runV (As := As) (rest := rest) ⟨hx, hb, hml, hown, hts⟩ hM (cwV n hts hT hw hrc hrs hy hR) ⟨x_blind (N := 41) (ad := bd) ET_ok, va_recv hKM hPM (ci := 11) rfl (ww_obj (by decide) dM_0), fun U hU hW => ⟨rfl, by rw [hU]; exact hPM, va_K.moved hW.alike hKM, trivial⟩⟩ rfl hn hsz hst (lv_room hW) hdg hf) hS (fun q _ h => by obtain ⟨k, hk, rfl⟩ := h; exact hadM k hk) (fun q h => by obtain ⟨k, hk, rfl⟩ := h; exact hadM k hk) (fun r u t H1 locs1 ht hvm hw hB hz1 hk1 hS1 => ?_)
  obtain ⟨rfl, rfl⟩ := hw
  rw [ht] at hB
  refine kk H1 locs1 (hPX.kept (fun k q hq => ?_)) hB hS1
  obtain ⟨hk, e9⟩ := ww_lt hq
  refine hk1 q.1 (hPX k q hq).lt (fun h => ?_)
  obtain ⟨i, hi, e8⟩ := h
  exact hdis k hk i hi (by rw [← e8, e9])
end LL
theorem l_in {i k L : Nat} {v : Int32} (hv : v = nI k) (h : i + 6 ≤ L) (hk : k < 6) (hL : L ≤ 3072) : vp_in (nI i + v) L := by
  rw [hv, nI_add]
  exact vp_in_nI (by omega) (by omega)
set_option maxRecDepth 100000 in
set_option maxHeartbeats 4000000 in
theorem lc_spring {p : Program} {l : Launch} {e : Env} {s : State} {m : MethodId} {below : List Frame} {meth : Method} {c : Code} {H : Heap} {locs : List Loc} {Q : State → Prop} {b : Nat} {ls : Array Slot} {D : va_G} {cA cB : Nat → ClassId} {ad bd : Nat → Nat} {z : ZX} {σ τ : St} {Rel : St → St → Prop} {n L i : Nat} {xs : Nat → Int32} (C : Lc p s m c b D cA ad z cB bd) (hX : va_X b L xs s s.heap) (hbl : b < s.heap.size) (hL : L ≤ 3072) (hi : i + 6 ≤ L) (hsim : ∀ (a1 : Int32) (a2 : Int32) (a3 : Int32) (a4 : Int32) (a5 : Int32), Sim Rel (fun σ => f_10_spring n σ a1 a2 a3 a4 a5) (fun τ => f_11_spring n τ a1 a2 a3 a4 a5)) (hRel : Rel σ τ) (hPX : va_P D vwCl (ww dX 120 cA ad σ) H) (hPM : va_P D vwCl (ww dM 41 cB bd τ) H) (hS : va_S (fun q : Nat => s.heap.size ≤ q) s.heap H locs) (hl : lv_has ls 4 [(0, .ref b), (1, .ref (ad 0)), (2, .ref (bd 0)), (3, .int (nI i))])
    (kk : ∀ (σ' τ' : St) (H : Heap) (locs : List Loc) (ls : Array Slot), Rel σ' τ' → va_P D vwCl (ww dX 120 cA ad σ') H → va_P D vwCl (ww dM 41 cB bd τ') H → va_S (fun q : Nat => s.heap.size ≤ q) s.heap H locs → lv_has ls 4 [(0, .ref b), (1, .ref (ad 0)), (2, .ref (bd 0)), (3, .int (nI i))] → W p l e room_1 s m #[Value.ref b] below meth c H locs 161 7151 Q (F0 m 813 ls [])) : W p l e room_1 s m #[Value.ref b] below meth c H locs 161 7151 Q (F0 m 124 ls []) := by
  have hx := C.1
  have hb := C.2.1
  have hbA : ¬ (fun q : Nat => s.heap.size ≤ q) b := Nat.not_le.mpr hbl
  obtain ⟨r, σ', τ', e1, e2, hR2⟩ := hsim (xs (nI i + 1).toNatClampNeg) (xs (nI i + 2).toNatClampNeg) (xs (nI i + 3).toNatClampNeg) (xs (nI i + 4).toNatClampNeg) (xs (nI i + 5).toNatClampNeg) σ τ hRel
  refine lv_aload_n hx hb dL_law_124 rfl (lv_at hl 1 rfl) ?_
  refine lv_aload_n hx hb dL_law_125 rfl (lv_at hl 0 rfl) ?_
  refine lv_iload_n hx hb dL_law_126 rfl (lv_at hl 3 rfl) ?_
  refine lv_iconst (v := 1) hx hb dL_law_127 (by decide) ?_
  refine lv_iadd hx hb dL_law_128 ?_
  refine va_sld hx hb hX hbl hbA hS (l_in (k := 1) rfl hi (by decide) hL) dL_law_129 ?_
  refine lv_aload_n hx hb dL_law_130 rfl (lv_at hl 0 rfl) ?_
  refine lv_iload_n hx hb dL_law_131 rfl (lv_at hl 3 rfl) ?_
  refine lv_iconst (v := 2) hx hb dL_law_132 (by decide) ?_
  refine lv_iadd hx hb dL_law_133 ?_
  refine va_sld hx hb hX hbl hbA hS (l_in (k := 2) rfl hi (by decide) hL) dL_law_134 ?_
  refine lv_aload_n hx hb dL_law_135 rfl (lv_at hl 0 rfl) ?_
  refine lv_iload_n hx hb dL_law_136 rfl (lv_at hl 3 rfl) ?_
  refine lv_iconst (v := 3) hx hb dL_law_137 (by decide) ?_
  refine lv_iadd hx hb dL_law_138 ?_
  refine va_sld hx hb hX hbl hbA hS (l_in (k := 3) rfl hi (by decide) hL) dL_law_139 ?_
  refine lv_aload_n hx hb dL_law_140 rfl (lv_at hl 0 rfl) ?_
  refine lv_iload_n hx hb dL_law_141 rfl (lv_at hl 3 rfl) ?_
  refine lv_iconst (v := 4) hx hb dL_law_142 (by decide) ?_
  refine lv_iadd hx hb dL_law_143 ?_
  refine va_sld hx hb hX hbl hbA hS (l_in (k := 4) rfl hi (by decide) hL) dL_law_144 ?_
  refine lv_aload_n hx hb dL_law_145 rfl (lv_at hl 0 rfl) ?_
  refine lv_iload_n hx hb dL_law_146 rfl (lv_at hl 3 rfl) ?_
  refine lv_iconst (v := 5) hx hb dL_law_147 (by decide) ?_
  refine lv_iadd hx hb dL_law_148 ?_
  refine va_sld hx hb hX hbl hbA hS (l_in (k := 5) rfl hi (by decide) hL) dL_law_149 ?_
  refine l_X (rest := []) C hPX hPM hS (k_10_spring l D cA ad z C.2.2.2.2.2.2.2.1 n σ (xs (nI i + 1).toNatClampNeg) (xs (nI i + 2).toNatClampNeg) (xs (nI i + 3).toNatClampNeg) (xs (nI i + 4).toNatClampNeg) (xs (nI i + 5).toNatClampNeg) e1) 5 gT_X10_spring rfl rfl rfl (by decide +kernel) ⟨Nat.le_of_ble_eq_true rfl, Nat.le_of_ble_eq_true rfl⟩ rfl hl.1 rfl (Nat.le_of_ble_eq_true rfl) dL_law_150 ⟨Nat.le_of_ble_eq_true rfl, Nat.le_of_ble_eq_true rfl⟩ (fun H locs hPX hPM hS => ?_)
  refine lv_aload_n hx hb dL_law_153 rfl (lv_at hl 2 rfl) ?_
  refine lv_aload_n hx hb dL_law_154 rfl (lv_at hl 0 rfl) ?_
  refine lv_iload_n hx hb dL_law_155 rfl (lv_at hl 3 rfl) ?_
  refine lv_iconst (v := 1) hx hb dL_law_156 (by decide) ?_
  refine lv_iadd hx hb dL_law_157 ?_
  refine va_sld hx hb hX hbl hbA hS (l_in (k := 1) rfl hi (by decide) hL) dL_law_158 ?_
  refine lv_aload_n hx hb dL_law_159 rfl (lv_at hl 0 rfl) ?_
  refine lv_iload_n hx hb dL_law_160 rfl (lv_at hl 3 rfl) ?_
  refine lv_iconst (v := 2) hx hb dL_law_161 (by decide) ?_
  refine lv_iadd hx hb dL_law_162 ?_
  refine va_sld hx hb hX hbl hbA hS (l_in (k := 2) rfl hi (by decide) hL) dL_law_163 ?_
  refine lv_aload_n hx hb dL_law_164 rfl (lv_at hl 0 rfl) ?_
  refine lv_iload_n hx hb dL_law_165 rfl (lv_at hl 3 rfl) ?_
  refine lv_iconst (v := 3) hx hb dL_law_166 (by decide) ?_
  refine lv_iadd hx hb dL_law_167 ?_
  refine va_sld hx hb hX hbl hbA hS (l_in (k := 3) rfl hi (by decide) hL) dL_law_168 ?_
  refine lv_aload_n hx hb dL_law_169 rfl (lv_at hl 0 rfl) ?_
  refine lv_iload_n hx hb dL_law_170 rfl (lv_at hl 3 rfl) ?_
  refine lv_iconst (v := 4) hx hb dL_law_171 (by decide) ?_
  refine lv_iadd hx hb dL_law_172 ?_
  refine va_sld hx hb hX hbl hbA hS (l_in (k := 4) rfl hi (by decide) hL) dL_law_173 ?_
  refine lv_aload_n hx hb dL_law_174 rfl (lv_at hl 0 rfl) ?_
  refine lv_iload_n hx hb dL_law_175 rfl (lv_at hl 3 rfl) ?_
  refine lv_iconst (v := 5) hx hb dL_law_176 (by decide) ?_
  refine lv_iadd hx hb dL_law_177 ?_
  refine va_sld hx hb hX hbl hbA hS (l_in (k := 5) rfl hi (by decide) hL) dL_law_178 ?_
  refine l_M (rest := [.int r]) C hPX hPM hS (k_11_spring l D cB bd C.2.2.2.2.2.2.2.2.1 n τ (xs (nI i + 1).toNatClampNeg) (xs (nI i + 2).toNatClampNeg) (xs (nI i + 3).toNatClampNeg) (xs (nI i + 4).toNatClampNeg) (xs (nI i + 5).toNatClampNeg) e2) 5 gT_X11_spring rfl rfl rfl (by decide +kernel) ⟨Nat.le_of_ble_eq_true rfl, Nat.le_of_ble_eq_true rfl⟩ rfl hl.1 rfl (Nat.le_of_ble_eq_true rfl) dL_law_179 ⟨Nat.le_of_ble_eq_true rfl, Nat.le_of_ble_eq_true rfl⟩ (fun H locs hPX hPM hS => ?_)
  exact lv_icmp_eq (tgt := 813) hx hb dL_law_182 (by decide) (fun _ => kk σ' τ' H locs ls hR2 hPX hPM hS hl) (fun c9 => absurd rfl c9)
set_option maxRecDepth 100000 in
set_option maxHeartbeats 4000000 in
theorem lc_bath {p : Program} {l : Launch} {e : Env} {s : State} {m : MethodId} {below : List Frame} {meth : Method} {c : Code} {H : Heap} {locs : List Loc} {Q : State → Prop} {b : Nat} {ls : Array Slot} {D : va_G} {cA cB : Nat → ClassId} {ad bd : Nat → Nat} {z : ZX} {σ τ : St} {Rel : St → St → Prop} {n L i : Nat} {xs : Nat → Int32} (C : Lc p s m c b D cA ad z cB bd) (hX : va_X b L xs s s.heap) (hbl : b < s.heap.size) (hL : L ≤ 3072) (hi : i + 6 ≤ L) (hsim : ∀ (a1 : Int32) (a2 : Int32) (a3 : Int32), (a3 = 0 ∨ a3 = 1) → Sim Rel (fun σ => f_10_bath n σ a1 a2 a3) (fun τ => f_11_bath n τ a1 a2 a3)) (hRel : Rel σ τ) (hPX : va_P D vwCl (ww dX 120 cA ad σ) H) (hPM : va_P D vwCl (ww dM 41 cB bd τ) H) (hS : va_S (fun q : Nat => s.heap.size ≤ q) s.heap H locs) (hl : lv_has ls 4 [(0, .ref b), (1, .ref (ad 0)), (2, .ref (bd 0)), (3, .int (nI i))])
    (kk : ∀ (σ' τ' : St) (H : Heap) (locs : List Loc) (ls : Array Slot), Rel σ' τ' → va_P D vwCl (ww dX 120 cA ad σ') H → va_P D vwCl (ww dM 41 cB bd τ') H → va_S (fun q : Nat => s.heap.size ≤ q) s.heap H locs → lv_has ls 4 [(0, .ref b), (1, .ref (ad 0)), (2, .ref (bd 0)), (3, .int (nI i))] → W p l e room_1 s m #[Value.ref b] below meth c H locs 161 7151 Q (F0 m 813 ls [])) : W p l e room_1 s m #[Value.ref b] below meth c H locs 161 7151 Q (F0 m 187 ls []) := by
  have hx := C.1
  have hb := C.2.1
  have hbA : ¬ (fun q : Nat => s.heap.size ≤ q) b := Nat.not_le.mpr hbl
  refine lv_aload_n hx hb dL_law_187 rfl (lv_at hl 1 rfl) ?_
  refine lv_aload_n hx hb dL_law_188 rfl (lv_at hl 0 rfl) ?_
  refine lv_iload_n hx hb dL_law_189 rfl (lv_at hl 3 rfl) ?_
  refine lv_iconst (v := 1) hx hb dL_law_190 (by decide) ?_
  refine lv_iadd hx hb dL_law_191 ?_
  refine va_sld hx hb hX hbl hbA hS (l_in (k := 1) rfl hi (by decide) hL) dL_law_192 ?_
  refine lv_aload_n hx hb dL_law_193 rfl (lv_at hl 0 rfl) ?_
  refine lv_iload_n hx hb dL_law_194 rfl (lv_at hl 3 rfl) ?_
  refine lv_iconst (v := 2) hx hb dL_law_195 (by decide) ?_
  refine lv_iadd hx hb dL_law_196 ?_
  refine va_sld hx hb hX hbl hbA hS (l_in (k := 2) rfl hi (by decide) hL) dL_law_197 ?_
  refine lv_aload_n hx hb dL_law_198 rfl (lv_at hl 0 rfl) ?_
  refine lv_iload_n hx hb dL_law_199 rfl (lv_at hl 3 rfl) ?_
  refine lv_iconst (v := 3) hx hb dL_law_200 (by decide) ?_
  refine lv_iadd hx hb dL_law_201 ?_
  refine va_sld hx hb hX hbl hbA hS (l_in (k := 3) rfl hi (by decide) hL) dL_law_202 ?_
  refine lv_if_eq (tgt := 210) hx hb dL_law_203 (by decide) (fun c1 => ?_) (fun c1 => ?_)
  · obtain ⟨r, σ', τ', e1, e2, hR2⟩ := hsim (xs (nI i + 1).toNatClampNeg) (xs (nI i + 2).toNatClampNeg) 0 (Or.inl rfl) σ τ hRel
    refine lv_iconst (v := 0) hx hb dL_law_210 (by decide) ?_
    refine l_X (rest := []) C hPX hPM hS (k_10_bath l D cA ad z C.2.2.2.2.2.2.2.1 n σ (xs (nI i + 1).toNatClampNeg) (xs (nI i + 2).toNatClampNeg) 0 e1) 3 gT_X10_bath rfl rfl rfl (by decide +kernel) ⟨Nat.le_of_ble_eq_true rfl, Nat.le_of_ble_eq_true rfl⟩ rfl hl.1 rfl (Nat.le_of_ble_eq_true rfl) dL_law_211 ⟨Nat.le_of_ble_eq_true rfl, Nat.le_of_ble_eq_true rfl⟩ (fun H locs hPX hPM hS => ?_)
    refine lv_aload_n hx hb dL_law_214 rfl (lv_at hl 2 rfl) ?_
    refine lv_aload_n hx hb dL_law_215 rfl (lv_at hl 0 rfl) ?_
    refine lv_iload_n hx hb dL_law_216 rfl (lv_at hl 3 rfl) ?_
    refine lv_iconst (v := 1) hx hb dL_law_217 (by decide) ?_
    refine lv_iadd hx hb dL_law_218 ?_
    refine va_sld hx hb hX hbl hbA hS (l_in (k := 1) rfl hi (by decide) hL) dL_law_219 ?_
    refine lv_aload_n hx hb dL_law_220 rfl (lv_at hl 0 rfl) ?_
    refine lv_iload_n hx hb dL_law_221 rfl (lv_at hl 3 rfl) ?_
    refine lv_iconst (v := 2) hx hb dL_law_222 (by decide) ?_
    refine lv_iadd hx hb dL_law_223 ?_
    refine va_sld hx hb hX hbl hbA hS (l_in (k := 2) rfl hi (by decide) hL) dL_law_224 ?_
    refine lv_aload_n hx hb dL_law_225 rfl (lv_at hl 0 rfl) ?_
    refine lv_iload_n hx hb dL_law_226 rfl (lv_at hl 3 rfl) ?_
    refine lv_iconst (v := 3) hx hb dL_law_227 (by decide) ?_
    refine lv_iadd hx hb dL_law_228 ?_
    refine va_sld hx hb hX hbl hbA hS (l_in (k := 3) rfl hi (by decide) hL) dL_law_229 ?_
    refine lv_if_eq (tgt := 237) hx hb dL_law_230 (by decide) (fun _ => ?_) (fun c2 => absurd c1 c2)
    refine lv_iconst (v := 0) hx hb dL_law_237 (by decide) ?_
    refine l_M (rest := [.int r]) C hPX hPM hS (k_11_bath l D cB bd C.2.2.2.2.2.2.2.2.1 n τ (xs (nI i + 1).toNatClampNeg) (xs (nI i + 2).toNatClampNeg) 0 e2) 3 gT_X11_bath rfl rfl rfl (by decide +kernel) ⟨Nat.le_of_ble_eq_true rfl, Nat.le_of_ble_eq_true rfl⟩ rfl hl.1 rfl (Nat.le_of_ble_eq_true rfl) dL_law_238 ⟨Nat.le_of_ble_eq_true rfl, Nat.le_of_ble_eq_true rfl⟩ (fun H locs hPX hPM hS => ?_)
    exact lv_icmp_eq (tgt := 813) hx hb dL_law_241 (by decide) (fun _ => kk σ' τ' H locs ls hR2 hPX hPM hS hl) (fun c9 => absurd rfl c9)
  · obtain ⟨r, σ', τ', e1, e2, hR2⟩ := hsim (xs (nI i + 1).toNatClampNeg) (xs (nI i + 2).toNatClampNeg) 1 (Or.inr rfl) σ τ hRel
    refine lv_iconst (v := 1) hx hb dL_law_206 (by decide) ?_
    refine lv_goto (tgt := 211) hx hb dL_law_207 (by decide) ?_
    refine l_X (rest := []) C hPX hPM hS (k_10_bath l D cA ad z C.2.2.2.2.2.2.2.1 n σ (xs (nI i + 1).toNatClampNeg) (xs (nI i + 2).toNatClampNeg) 1 e1) 3 gT_X10_bath rfl rfl rfl (by decide +kernel) ⟨Nat.le_of_ble_eq_true rfl, Nat.le_of_ble_eq_true rfl⟩ rfl hl.1 rfl (Nat.le_of_ble_eq_true rfl) dL_law_211 ⟨Nat.le_of_ble_eq_true rfl, Nat.le_of_ble_eq_true rfl⟩ (fun H locs hPX hPM hS => ?_)
    refine lv_aload_n hx hb dL_law_214 rfl (lv_at hl 2 rfl) ?_
    refine lv_aload_n hx hb dL_law_215 rfl (lv_at hl 0 rfl) ?_
    refine lv_iload_n hx hb dL_law_216 rfl (lv_at hl 3 rfl) ?_
    refine lv_iconst (v := 1) hx hb dL_law_217 (by decide) ?_
    refine lv_iadd hx hb dL_law_218 ?_
    refine va_sld hx hb hX hbl hbA hS (l_in (k := 1) rfl hi (by decide) hL) dL_law_219 ?_
    refine lv_aload_n hx hb dL_law_220 rfl (lv_at hl 0 rfl) ?_
    refine lv_iload_n hx hb dL_law_221 rfl (lv_at hl 3 rfl) ?_
    refine lv_iconst (v := 2) hx hb dL_law_222 (by decide) ?_
    refine lv_iadd hx hb dL_law_223 ?_
    refine va_sld hx hb hX hbl hbA hS (l_in (k := 2) rfl hi (by decide) hL) dL_law_224 ?_
    refine lv_aload_n hx hb dL_law_225 rfl (lv_at hl 0 rfl) ?_
    refine lv_iload_n hx hb dL_law_226 rfl (lv_at hl 3 rfl) ?_
    refine lv_iconst (v := 3) hx hb dL_law_227 (by decide) ?_
    refine lv_iadd hx hb dL_law_228 ?_
    refine va_sld hx hb hX hbl hbA hS (l_in (k := 3) rfl hi (by decide) hL) dL_law_229 ?_
    refine lv_if_eq (tgt := 237) hx hb dL_law_230 (by decide) (fun c2 => absurd c2 c1) (fun _ => ?_)
    refine lv_iconst (v := 1) hx hb dL_law_233 (by decide) ?_
    refine lv_goto (tgt := 238) hx hb dL_law_234 (by decide) ?_
    refine l_M (rest := [.int r]) C hPX hPM hS (k_11_bath l D cB bd C.2.2.2.2.2.2.2.2.1 n τ (xs (nI i + 1).toNatClampNeg) (xs (nI i + 2).toNatClampNeg) 1 e2) 3 gT_X11_bath rfl rfl rfl (by decide +kernel) ⟨Nat.le_of_ble_eq_true rfl, Nat.le_of_ble_eq_true rfl⟩ rfl hl.1 rfl (Nat.le_of_ble_eq_true rfl) dL_law_238 ⟨Nat.le_of_ble_eq_true rfl, Nat.le_of_ble_eq_true rfl⟩ (fun H locs hPX hPM hS => ?_)
    exact lv_icmp_eq (tgt := 813) hx hb dL_law_241 (by decide) (fun _ => kk σ' τ' H locs ls hR2 hPX hPM hS hl) (fun c9 => absurd rfl c9)
set_option maxRecDepth 100000 in
set_option maxHeartbeats 4000000 in
theorem lc_rate {p : Program} {l : Launch} {e : Env} {s : State} {m : MethodId} {below : List Frame} {meth : Method} {c : Code} {H : Heap} {locs : List Loc} {Q : State → Prop} {b : Nat} {ls : Array Slot} {D : va_G} {cA cB : Nat → ClassId} {ad bd : Nat → Nat} {z : ZX} {σ τ : St} {Rel : St → St → Prop} {n L i : Nat} {xs : Nat → Int32} (C : Lc p s m c b D cA ad z cB bd) (hX : va_X b L xs s s.heap) (hbl : b < s.heap.size) (hL : L ≤ 3072) (hi : i + 6 ≤ L) (hsim : ∀ (a1 : Int32) (a2 : Int32), Sim Rel (fun σ => f_10_rate n σ a1 a2) (fun τ => f_11_rate n τ a1 a2)) (hRel : Rel σ τ) (hPX : va_P D vwCl (ww dX 120 cA ad σ) H) (hPM : va_P D vwCl (ww dM 41 cB bd τ) H) (hS : va_S (fun q : Nat => s.heap.size ≤ q) s.heap H locs) (hl : lv_has ls 4 [(0, .ref b), (1, .ref (ad 0)), (2, .ref (bd 0)), (3, .int (nI i))])
    (kk : ∀ (σ' τ' : St) (H : Heap) (locs : List Loc) (ls : Array Slot), Rel σ' τ' → va_P D vwCl (ww dX 120 cA ad σ') H → va_P D vwCl (ww dM 41 cB bd τ') H → va_S (fun q : Nat => s.heap.size ≤ q) s.heap H locs → lv_has ls 4 [(0, .ref b), (1, .ref (ad 0)), (2, .ref (bd 0)), (3, .int (nI i))] → W p l e room_1 s m #[Value.ref b] below meth c H locs 161 7151 Q (F0 m 813 ls [])) : W p l e room_1 s m #[Value.ref b] below meth c H locs 161 7151 Q (F0 m 246 ls []) := by
  have hx := C.1
  have hb := C.2.1
  have hbA : ¬ (fun q : Nat => s.heap.size ≤ q) b := Nat.not_le.mpr hbl
  obtain ⟨r, σ', τ', e1, e2, hR2⟩ := hsim (xs (nI i + 1).toNatClampNeg) (xs (nI i + 2).toNatClampNeg) σ τ hRel
  refine lv_aload_n hx hb dL_law_246 rfl (lv_at hl 1 rfl) ?_
  refine lv_aload_n hx hb dL_law_247 rfl (lv_at hl 0 rfl) ?_
  refine lv_iload_n hx hb dL_law_248 rfl (lv_at hl 3 rfl) ?_
  refine lv_iconst (v := 1) hx hb dL_law_249 (by decide) ?_
  refine lv_iadd hx hb dL_law_250 ?_
  refine va_sld hx hb hX hbl hbA hS (l_in (k := 1) rfl hi (by decide) hL) dL_law_251 ?_
  refine lv_aload_n hx hb dL_law_252 rfl (lv_at hl 0 rfl) ?_
  refine lv_iload_n hx hb dL_law_253 rfl (lv_at hl 3 rfl) ?_
  refine lv_iconst (v := 2) hx hb dL_law_254 (by decide) ?_
  refine lv_iadd hx hb dL_law_255 ?_
  refine va_sld hx hb hX hbl hbA hS (l_in (k := 2) rfl hi (by decide) hL) dL_law_256 ?_
  refine l_X (rest := []) C hPX hPM hS (k_10_rate l D cA ad z C.2.2.2.2.2.2.2.1 n σ (xs (nI i + 1).toNatClampNeg) (xs (nI i + 2).toNatClampNeg) e1) 2 gT_X10_rate rfl rfl rfl (by decide +kernel) ⟨Nat.le_of_ble_eq_true rfl, Nat.le_of_ble_eq_true rfl⟩ rfl hl.1 rfl (Nat.le_of_ble_eq_true rfl) dL_law_257 ⟨Nat.le_of_ble_eq_true rfl, Nat.le_of_ble_eq_true rfl⟩ (fun H locs hPX hPM hS => ?_)
  refine lv_aload_n hx hb dL_law_260 rfl (lv_at hl 2 rfl) ?_
  refine lv_aload_n hx hb dL_law_261 rfl (lv_at hl 0 rfl) ?_
  refine lv_iload_n hx hb dL_law_262 rfl (lv_at hl 3 rfl) ?_
  refine lv_iconst (v := 1) hx hb dL_law_263 (by decide) ?_
  refine lv_iadd hx hb dL_law_264 ?_
  refine va_sld hx hb hX hbl hbA hS (l_in (k := 1) rfl hi (by decide) hL) dL_law_265 ?_
  refine lv_aload_n hx hb dL_law_266 rfl (lv_at hl 0 rfl) ?_
  refine lv_iload_n hx hb dL_law_267 rfl (lv_at hl 3 rfl) ?_
  refine lv_iconst (v := 2) hx hb dL_law_268 (by decide) ?_
  refine lv_iadd hx hb dL_law_269 ?_
  refine va_sld hx hb hX hbl hbA hS (l_in (k := 2) rfl hi (by decide) hL) dL_law_270 ?_
  refine l_M (rest := [.int r]) C hPX hPM hS (k_11_rate l D cB bd C.2.2.2.2.2.2.2.2.1 n τ (xs (nI i + 1).toNatClampNeg) (xs (nI i + 2).toNatClampNeg) e2) 2 gT_X11_rate rfl rfl rfl (by decide +kernel) ⟨Nat.le_of_ble_eq_true rfl, Nat.le_of_ble_eq_true rfl⟩ rfl hl.1 rfl (Nat.le_of_ble_eq_true rfl) dL_law_271 ⟨Nat.le_of_ble_eq_true rfl, Nat.le_of_ble_eq_true rfl⟩ (fun H locs hPX hPM hS => ?_)
  exact lv_icmp_eq (tgt := 813) hx hb dL_law_274 (by decide) (fun _ => kk σ' τ' H locs ls hR2 hPX hPM hS hl) (fun c9 => absurd rfl c9)
set_option maxRecDepth 100000 in
set_option maxHeartbeats 4000000 in
theorem lc_feed {p : Program} {l : Launch} {e : Env} {s : State} {m : MethodId} {below : List Frame} {meth : Method} {c : Code} {H : Heap} {locs : List Loc} {Q : State → Prop} {b : Nat} {ls : Array Slot} {D : va_G} {cA cB : Nat → ClassId} {ad bd : Nat → Nat} {z : ZX} {σ τ : St} {Rel : St → St → Prop} {n L i : Nat} {xs : Nat → Int32} (C : Lc p s m c b D cA ad z cB bd) (hX : va_X b L xs s s.heap) (hbl : b < s.heap.size) (hL : L ≤ 3072) (hi : i + 6 ≤ L) (hsim : ∀ (a1 : Int32) (a2 : Int32) (a3 : Int32) (a4 : Int32) (a5 : Int32), Sim Rel (fun σ => f_10_feed n σ a1 a2 a3 a4 a5) (fun τ => f_11_feed n τ a1 a2 a3 a4 a5)) (hRel : Rel σ τ) (hPX : va_P D vwCl (ww dX 120 cA ad σ) H) (hPM : va_P D vwCl (ww dM 41 cB bd τ) H) (hS : va_S (fun q : Nat => s.heap.size ≤ q) s.heap H locs) (hl : lv_has ls 4 [(0, .ref b), (1, .ref (ad 0)), (2, .ref (bd 0)), (3, .int (nI i))])
    (kk : ∀ (σ' τ' : St) (H : Heap) (locs : List Loc) (ls : Array Slot), Rel σ' τ' → va_P D vwCl (ww dX 120 cA ad σ') H → va_P D vwCl (ww dM 41 cB bd τ') H → va_S (fun q : Nat => s.heap.size ≤ q) s.heap H locs → lv_has ls 4 [(0, .ref b), (1, .ref (ad 0)), (2, .ref (bd 0)), (3, .int (nI i))] → W p l e room_1 s m #[Value.ref b] below meth c H locs 161 7151 Q (F0 m 813 ls [])) : W p l e room_1 s m #[Value.ref b] below meth c H locs 161 7151 Q (F0 m 279 ls []) := by
  have hx := C.1
  have hb := C.2.1
  have hbA : ¬ (fun q : Nat => s.heap.size ≤ q) b := Nat.not_le.mpr hbl
  obtain ⟨r, σ', τ', e1, e2, hR2⟩ := hsim (xs (nI i + 1).toNatClampNeg) (xs (nI i + 2).toNatClampNeg) (xs (nI i + 3).toNatClampNeg) (xs (nI i + 4).toNatClampNeg) (xs (nI i + 5).toNatClampNeg) σ τ hRel
  refine lv_aload_n hx hb dL_law_279 rfl (lv_at hl 1 rfl) ?_
  refine lv_aload_n hx hb dL_law_280 rfl (lv_at hl 0 rfl) ?_
  refine lv_iload_n hx hb dL_law_281 rfl (lv_at hl 3 rfl) ?_
  refine lv_iconst (v := 1) hx hb dL_law_282 (by decide) ?_
  refine lv_iadd hx hb dL_law_283 ?_
  refine va_sld hx hb hX hbl hbA hS (l_in (k := 1) rfl hi (by decide) hL) dL_law_284 ?_
  refine lv_aload_n hx hb dL_law_285 rfl (lv_at hl 0 rfl) ?_
  refine lv_iload_n hx hb dL_law_286 rfl (lv_at hl 3 rfl) ?_
  refine lv_iconst (v := 2) hx hb dL_law_287 (by decide) ?_
  refine lv_iadd hx hb dL_law_288 ?_
  refine va_sld hx hb hX hbl hbA hS (l_in (k := 2) rfl hi (by decide) hL) dL_law_289 ?_
  refine lv_aload_n hx hb dL_law_290 rfl (lv_at hl 0 rfl) ?_
  refine lv_iload_n hx hb dL_law_291 rfl (lv_at hl 3 rfl) ?_
  refine lv_iconst (v := 3) hx hb dL_law_292 (by decide) ?_
  refine lv_iadd hx hb dL_law_293 ?_
  refine va_sld hx hb hX hbl hbA hS (l_in (k := 3) rfl hi (by decide) hL) dL_law_294 ?_
  refine lv_aload_n hx hb dL_law_295 rfl (lv_at hl 0 rfl) ?_
  refine lv_iload_n hx hb dL_law_296 rfl (lv_at hl 3 rfl) ?_
  refine lv_iconst (v := 4) hx hb dL_law_297 (by decide) ?_
  refine lv_iadd hx hb dL_law_298 ?_
  refine va_sld hx hb hX hbl hbA hS (l_in (k := 4) rfl hi (by decide) hL) dL_law_299 ?_
  refine lv_aload_n hx hb dL_law_300 rfl (lv_at hl 0 rfl) ?_
  refine lv_iload_n hx hb dL_law_301 rfl (lv_at hl 3 rfl) ?_
  refine lv_iconst (v := 5) hx hb dL_law_302 (by decide) ?_
  refine lv_iadd hx hb dL_law_303 ?_
  refine va_sld hx hb hX hbl hbA hS (l_in (k := 5) rfl hi (by decide) hL) dL_law_304 ?_
  refine l_X (rest := []) C hPX hPM hS (k_10_feed l D cA ad z C.2.2.2.2.2.2.2.1 n σ (xs (nI i + 1).toNatClampNeg) (xs (nI i + 2).toNatClampNeg) (xs (nI i + 3).toNatClampNeg) (xs (nI i + 4).toNatClampNeg) (xs (nI i + 5).toNatClampNeg) e1) 5 gT_X10_feed rfl rfl rfl (by decide +kernel) ⟨Nat.le_of_ble_eq_true rfl, Nat.le_of_ble_eq_true rfl⟩ rfl hl.1 rfl (Nat.le_of_ble_eq_true rfl) dL_law_305 ⟨Nat.le_of_ble_eq_true rfl, Nat.le_of_ble_eq_true rfl⟩ (fun H locs hPX hPM hS => ?_)
  refine lv_aload_n hx hb dL_law_308 rfl (lv_at hl 2 rfl) ?_
  refine lv_aload_n hx hb dL_law_309 rfl (lv_at hl 0 rfl) ?_
  refine lv_iload_n hx hb dL_law_310 rfl (lv_at hl 3 rfl) ?_
  refine lv_iconst (v := 1) hx hb dL_law_311 (by decide) ?_
  refine lv_iadd hx hb dL_law_312 ?_
  refine va_sld hx hb hX hbl hbA hS (l_in (k := 1) rfl hi (by decide) hL) dL_law_313 ?_
  refine lv_aload_n hx hb dL_law_314 rfl (lv_at hl 0 rfl) ?_
  refine lv_iload_n hx hb dL_law_315 rfl (lv_at hl 3 rfl) ?_
  refine lv_iconst (v := 2) hx hb dL_law_316 (by decide) ?_
  refine lv_iadd hx hb dL_law_317 ?_
  refine va_sld hx hb hX hbl hbA hS (l_in (k := 2) rfl hi (by decide) hL) dL_law_318 ?_
  refine lv_aload_n hx hb dL_law_319 rfl (lv_at hl 0 rfl) ?_
  refine lv_iload_n hx hb dL_law_320 rfl (lv_at hl 3 rfl) ?_
  refine lv_iconst (v := 3) hx hb dL_law_321 (by decide) ?_
  refine lv_iadd hx hb dL_law_322 ?_
  refine va_sld hx hb hX hbl hbA hS (l_in (k := 3) rfl hi (by decide) hL) dL_law_323 ?_
  refine lv_aload_n hx hb dL_law_324 rfl (lv_at hl 0 rfl) ?_
  refine lv_iload_n hx hb dL_law_325 rfl (lv_at hl 3 rfl) ?_
  refine lv_iconst (v := 4) hx hb dL_law_326 (by decide) ?_
  refine lv_iadd hx hb dL_law_327 ?_
  refine va_sld hx hb hX hbl hbA hS (l_in (k := 4) rfl hi (by decide) hL) dL_law_328 ?_
  refine lv_aload_n hx hb dL_law_329 rfl (lv_at hl 0 rfl) ?_
  refine lv_iload_n hx hb dL_law_330 rfl (lv_at hl 3 rfl) ?_
  refine lv_iconst (v := 5) hx hb dL_law_331 (by decide) ?_
  refine lv_iadd hx hb dL_law_332 ?_
  refine va_sld hx hb hX hbl hbA hS (l_in (k := 5) rfl hi (by decide) hL) dL_law_333 ?_
  refine l_M (rest := [.int r]) C hPX hPM hS (k_11_feed l D cB bd C.2.2.2.2.2.2.2.2.1 n τ (xs (nI i + 1).toNatClampNeg) (xs (nI i + 2).toNatClampNeg) (xs (nI i + 3).toNatClampNeg) (xs (nI i + 4).toNatClampNeg) (xs (nI i + 5).toNatClampNeg) e2) 5 gT_X11_feed rfl rfl rfl (by decide +kernel) ⟨Nat.le_of_ble_eq_true rfl, Nat.le_of_ble_eq_true rfl⟩ rfl hl.1 rfl (Nat.le_of_ble_eq_true rfl) dL_law_334 ⟨Nat.le_of_ble_eq_true rfl, Nat.le_of_ble_eq_true rfl⟩ (fun H locs hPX hPM hS => ?_)
  exact lv_icmp_eq (tgt := 813) hx hb dL_law_337 (by decide) (fun _ => kk σ' τ' H locs ls hR2 hPX hPM hS hl) (fun c9 => absurd rfl c9)
set_option maxRecDepth 100000 in
set_option maxHeartbeats 4000000 in
theorem lc_end {p : Program} {l : Launch} {e : Env} {s : State} {m : MethodId} {below : List Frame} {meth : Method} {c : Code} {H : Heap} {locs : List Loc} {Q : State → Prop} {b : Nat} {ls : Array Slot} {D : va_G} {cA cB : Nat → ClassId} {ad bd : Nat → Nat} {z : ZX} {σ τ : St} {Rel : St → St → Prop} {n L i : Nat} {xs : Nat → Int32} (C : Lc p s m c b D cA ad z cB bd) (hX : va_X b L xs s s.heap) (hbl : b < s.heap.size) (hL : L ≤ 3072) (hi : i + 6 ≤ L) (hsim : ∀ (a1 : Int32), Sim Rel (fun σ => f_10_end n σ a1) (fun τ => f_11_end n τ a1)) (hRel : Rel σ τ) (hPX : va_P D vwCl (ww dX 120 cA ad σ) H) (hPM : va_P D vwCl (ww dM 41 cB bd τ) H) (hS : va_S (fun q : Nat => s.heap.size ≤ q) s.heap H locs) (hl : lv_has ls 4 [(0, .ref b), (1, .ref (ad 0)), (2, .ref (bd 0)), (3, .int (nI i))])
    (kk : ∀ (σ' τ' : St) (H : Heap) (locs : List Loc) (ls : Array Slot), Rel σ' τ' → va_P D vwCl (ww dX 120 cA ad σ') H → va_P D vwCl (ww dM 41 cB bd τ') H → va_S (fun q : Nat => s.heap.size ≤ q) s.heap H locs → lv_has ls 4 [(0, .ref b), (1, .ref (ad 0)), (2, .ref (bd 0)), (3, .int (nI i))] → W p l e room_1 s m #[Value.ref b] below meth c H locs 161 7151 Q (F0 m 813 ls [])) : W p l e room_1 s m #[Value.ref b] below meth c H locs 161 7151 Q (F0 m 342 ls []) := by
  have hx := C.1
  have hb := C.2.1
  have hbA : ¬ (fun q : Nat => s.heap.size ≤ q) b := Nat.not_le.mpr hbl
  obtain ⟨r, σ', τ', e1, e2, hR2⟩ := hsim (xs (nI i + 1).toNatClampNeg) σ τ hRel
  refine lv_aload_n hx hb dL_law_342 rfl (lv_at hl 1 rfl) ?_
  refine lv_aload_n hx hb dL_law_343 rfl (lv_at hl 0 rfl) ?_
  refine lv_iload_n hx hb dL_law_344 rfl (lv_at hl 3 rfl) ?_
  refine lv_iconst (v := 1) hx hb dL_law_345 (by decide) ?_
  refine lv_iadd hx hb dL_law_346 ?_
  refine va_sld hx hb hX hbl hbA hS (l_in (k := 1) rfl hi (by decide) hL) dL_law_347 ?_
  refine l_X (rest := []) C hPX hPM hS (k_10_end l D cA ad z C.2.2.2.2.2.2.2.1 n σ (xs (nI i + 1).toNatClampNeg) e1) 1 gT_X10_end rfl rfl rfl (by decide +kernel) ⟨Nat.le_of_ble_eq_true rfl, Nat.le_of_ble_eq_true rfl⟩ rfl hl.1 rfl (Nat.le_of_ble_eq_true rfl) dL_law_348 ⟨Nat.le_of_ble_eq_true rfl, Nat.le_of_ble_eq_true rfl⟩ (fun H locs hPX hPM hS => ?_)
  refine lv_aload_n hx hb dL_law_351 rfl (lv_at hl 2 rfl) ?_
  refine lv_aload_n hx hb dL_law_352 rfl (lv_at hl 0 rfl) ?_
  refine lv_iload_n hx hb dL_law_353 rfl (lv_at hl 3 rfl) ?_
  refine lv_iconst (v := 1) hx hb dL_law_354 (by decide) ?_
  refine lv_iadd hx hb dL_law_355 ?_
  refine va_sld hx hb hX hbl hbA hS (l_in (k := 1) rfl hi (by decide) hL) dL_law_356 ?_
  refine l_M (rest := [.int r]) C hPX hPM hS (k_11_end l D cB bd C.2.2.2.2.2.2.2.2.1 n τ (xs (nI i + 1).toNatClampNeg) e2) 1 gT_X11_end rfl rfl rfl (by decide +kernel) ⟨Nat.le_of_ble_eq_true rfl, Nat.le_of_ble_eq_true rfl⟩ rfl hl.1 rfl (Nat.le_of_ble_eq_true rfl) dL_law_357 ⟨Nat.le_of_ble_eq_true rfl, Nat.le_of_ble_eq_true rfl⟩ (fun H locs hPX hPM hS => ?_)
  exact lv_icmp_eq (tgt := 813) hx hb dL_law_360 (by decide) (fun _ => kk σ' τ' H locs ls hR2 hPX hPM hS hl) (fun c9 => absurd rfl c9)
set_option maxRecDepth 100000 in
set_option maxHeartbeats 4000000 in
theorem lc_load {p : Program} {l : Launch} {e : Env} {s : State} {m : MethodId} {below : List Frame} {meth : Method} {c : Code} {H : Heap} {locs : List Loc} {Q : State → Prop} {b : Nat} {ls : Array Slot} {D : va_G} {cA cB : Nat → ClassId} {ad bd : Nat → Nat} {z : ZX} {σ τ : St} {Rel : St → St → Prop} {n L i : Nat} {xs : Nat → Int32} (C : Lc p s m c b D cA ad z cB bd) (hX : va_X b L xs s s.heap) (hbl : b < s.heap.size) (hL : L ≤ 3072) (hi : i + 6 ≤ L) (hsim :  Sim Rel (fun σ => f_10_load n σ ) (fun τ => f_11_load n τ )) (hRel : Rel σ τ) (hPX : va_P D vwCl (ww dX 120 cA ad σ) H) (hPM : va_P D vwCl (ww dM 41 cB bd τ) H) (hS : va_S (fun q : Nat => s.heap.size ≤ q) s.heap H locs) (hl : lv_has ls 4 [(0, .ref b), (1, .ref (ad 0)), (2, .ref (bd 0)), (3, .int (nI i))])
    (kk : ∀ (σ' τ' : St) (H : Heap) (locs : List Loc) (ls : Array Slot), Rel σ' τ' → va_P D vwCl (ww dX 120 cA ad σ') H → va_P D vwCl (ww dM 41 cB bd τ') H → va_S (fun q : Nat => s.heap.size ≤ q) s.heap H locs → lv_has ls 4 [(0, .ref b), (1, .ref (ad 0)), (2, .ref (bd 0)), (3, .int (nI i))] → W p l e room_1 s m #[Value.ref b] below meth c H locs 161 7151 Q (F0 m 813 ls [])) : W p l e room_1 s m #[Value.ref b] below meth c H locs 161 7151 Q (F0 m 365 ls []) := by
  have hx := C.1
  have hb := C.2.1
  have hbA : ¬ (fun q : Nat => s.heap.size ≤ q) b := Nat.not_le.mpr hbl
  obtain ⟨r, σ', τ', e1, e2, hR2⟩ := hsim  σ τ hRel
  refine lv_aload_n hx hb dL_law_365 rfl (lv_at hl 1 rfl) ?_
  refine l_X (rest := []) C hPX hPM hS (k_10_load l D cA ad z C.2.2.2.2.2.2.2.1 n σ  e1) 0 gT_X10_load rfl rfl rfl (by decide +kernel) ⟨Nat.le_of_ble_eq_true rfl, Nat.le_of_ble_eq_true rfl⟩ rfl hl.1 rfl (Nat.le_of_ble_eq_true rfl) dL_law_366 ⟨Nat.le_of_ble_eq_true rfl, Nat.le_of_ble_eq_true rfl⟩ (fun H locs hPX hPM hS => ?_)
  refine lv_aload_n hx hb dL_law_369 rfl (lv_at hl 2 rfl) ?_
  refine l_M (rest := [.int r]) C hPX hPM hS (k_11_load l D cB bd C.2.2.2.2.2.2.2.2.1 n τ  e2) 0 gT_X11_load rfl rfl rfl (by decide +kernel) ⟨Nat.le_of_ble_eq_true rfl, Nat.le_of_ble_eq_true rfl⟩ rfl hl.1 rfl (Nat.le_of_ble_eq_true rfl) dL_law_370 ⟨Nat.le_of_ble_eq_true rfl, Nat.le_of_ble_eq_true rfl⟩ (fun H locs hPX hPM hS => ?_)
  exact lv_icmp_eq (tgt := 813) hx hb dL_law_373 (by decide) (fun _ => kk σ' τ' H locs ls hR2 hPX hPM hS hl) (fun c9 => absurd rfl c9)
set_option maxRecDepth 100000 in
set_option maxHeartbeats 4000000 in
theorem lc_fault {p : Program} {l : Launch} {e : Env} {s : State} {m : MethodId} {below : List Frame} {meth : Method} {c : Code} {H : Heap} {locs : List Loc} {Q : State → Prop} {b : Nat} {ls : Array Slot} {D : va_G} {cA cB : Nat → ClassId} {ad bd : Nat → Nat} {z : ZX} {σ τ : St} {Rel : St → St → Prop} {n L i : Nat} {xs : Nat → Int32} (C : Lc p s m c b D cA ad z cB bd) (hX : va_X b L xs s s.heap) (hbl : b < s.heap.size) (hL : L ≤ 3072) (hi : i + 6 ≤ L) (hsim : ∀ (a1 : Int32), Sim Rel (fun σ => f_10_fault n σ a1) (fun τ => f_11_fault n τ a1)) (hRel : Rel σ τ) (hPX : va_P D vwCl (ww dX 120 cA ad σ) H) (hPM : va_P D vwCl (ww dM 41 cB bd τ) H) (hS : va_S (fun q : Nat => s.heap.size ≤ q) s.heap H locs) (hl : lv_has ls 4 [(0, .ref b), (1, .ref (ad 0)), (2, .ref (bd 0)), (3, .int (nI i))])
    (kk : ∀ (σ' τ' : St) (H : Heap) (locs : List Loc) (ls : Array Slot), Rel σ' τ' → va_P D vwCl (ww dX 120 cA ad σ') H → va_P D vwCl (ww dM 41 cB bd τ') H → va_S (fun q : Nat => s.heap.size ≤ q) s.heap H locs → lv_has ls 4 [(0, .ref b), (1, .ref (ad 0)), (2, .ref (bd 0)), (3, .int (nI i))] → W p l e room_1 s m #[Value.ref b] below meth c H locs 161 7151 Q (F0 m 813 ls [])) : W p l e room_1 s m #[Value.ref b] below meth c H locs 161 7151 Q (F0 m 378 ls []) := by
  have hx := C.1
  have hb := C.2.1
  have hbA : ¬ (fun q : Nat => s.heap.size ≤ q) b := Nat.not_le.mpr hbl
  obtain ⟨r, σ', τ', e1, e2, hR2⟩ := hsim (xs (nI i + 1).toNatClampNeg) σ τ hRel
  refine lv_aload_n hx hb dL_law_378 rfl (lv_at hl 1 rfl) ?_
  refine lv_aload_n hx hb dL_law_379 rfl (lv_at hl 0 rfl) ?_
  refine lv_iload_n hx hb dL_law_380 rfl (lv_at hl 3 rfl) ?_
  refine lv_iconst (v := 1) hx hb dL_law_381 (by decide) ?_
  refine lv_iadd hx hb dL_law_382 ?_
  refine va_sld hx hb hX hbl hbA hS (l_in (k := 1) rfl hi (by decide) hL) dL_law_383 ?_
  refine l_X (rest := []) C hPX hPM hS (k_10_fault l D cA ad z C.2.2.2.2.2.2.2.1 n σ (xs (nI i + 1).toNatClampNeg) e1) 1 gT_X10_fault rfl rfl rfl (by decide +kernel) ⟨Nat.le_of_ble_eq_true rfl, Nat.le_of_ble_eq_true rfl⟩ rfl hl.1 rfl (Nat.le_of_ble_eq_true rfl) dL_law_384 ⟨Nat.le_of_ble_eq_true rfl, Nat.le_of_ble_eq_true rfl⟩ (fun H locs hPX hPM hS => ?_)
  refine lv_aload_n hx hb dL_law_387 rfl (lv_at hl 2 rfl) ?_
  refine lv_aload_n hx hb dL_law_388 rfl (lv_at hl 0 rfl) ?_
  refine lv_iload_n hx hb dL_law_389 rfl (lv_at hl 3 rfl) ?_
  refine lv_iconst (v := 1) hx hb dL_law_390 (by decide) ?_
  refine lv_iadd hx hb dL_law_391 ?_
  refine va_sld hx hb hX hbl hbA hS (l_in (k := 1) rfl hi (by decide) hL) dL_law_392 ?_
  refine l_M (rest := [.int r]) C hPX hPM hS (k_11_fault l D cB bd C.2.2.2.2.2.2.2.2.1 n τ (xs (nI i + 1).toNatClampNeg) e2) 1 gT_X11_fault rfl rfl rfl (by decide +kernel) ⟨Nat.le_of_ble_eq_true rfl, Nat.le_of_ble_eq_true rfl⟩ rfl hl.1 rfl (Nat.le_of_ble_eq_true rfl) dL_law_393 ⟨Nat.le_of_ble_eq_true rfl, Nat.le_of_ble_eq_true rfl⟩ (fun H locs hPX hPM hS => ?_)
  exact lv_icmp_eq (tgt := 813) hx hb dL_law_396 (by decide) (fun _ => kk σ' τ' H locs ls hR2 hPX hPM hS hl) (fun c9 => absurd rfl c9)
set_option maxRecDepth 100000 in
set_option maxHeartbeats 4000000 in
theorem lc_guest {p : Program} {l : Launch} {e : Env} {s : State} {m : MethodId} {below : List Frame} {meth : Method} {c : Code} {H : Heap} {locs : List Loc} {Q : State → Prop} {b : Nat} {ls : Array Slot} {D : va_G} {cA cB : Nat → ClassId} {ad bd : Nat → Nat} {z : ZX} {σ τ : St} {Rel : St → St → Prop} {n L i : Nat} {xs : Nat → Int32} (C : Lc p s m c b D cA ad z cB bd) (hX : va_X b L xs s s.heap) (hbl : b < s.heap.size) (hL : L ≤ 3072) (hi : i + 6 ≤ L) (hsim : ∀ (a1 : Int32) (a2 : Int32) (a3 : Int32) (a4 : Int32) (a5 : Int32), Sim Rel (fun σ => f_10_guest n σ a1 a2 a3 a4 a5) (fun τ => f_11_guest n τ a1 a2 a3 a4 a5)) (hRel : Rel σ τ) (hPX : va_P D vwCl (ww dX 120 cA ad σ) H) (hPM : va_P D vwCl (ww dM 41 cB bd τ) H) (hS : va_S (fun q : Nat => s.heap.size ≤ q) s.heap H locs) (hl : lv_has ls 4 [(0, .ref b), (1, .ref (ad 0)), (2, .ref (bd 0)), (3, .int (nI i))])
    (kk : ∀ (σ' τ' : St) (H : Heap) (locs : List Loc) (ls : Array Slot), Rel σ' τ' → va_P D vwCl (ww dX 120 cA ad σ') H → va_P D vwCl (ww dM 41 cB bd τ') H → va_S (fun q : Nat => s.heap.size ≤ q) s.heap H locs → lv_has ls 4 [(0, .ref b), (1, .ref (ad 0)), (2, .ref (bd 0)), (3, .int (nI i))] → W p l e room_1 s m #[Value.ref b] below meth c H locs 161 7151 Q (F0 m 813 ls [])) : W p l e room_1 s m #[Value.ref b] below meth c H locs 161 7151 Q (F0 m 401 ls []) := by
  have hx := C.1
  have hb := C.2.1
  have hbA : ¬ (fun q : Nat => s.heap.size ≤ q) b := Nat.not_le.mpr hbl
  obtain ⟨r, σ', τ', e1, e2, hR2⟩ := hsim (xs (nI i + 1).toNatClampNeg) (xs (nI i + 2).toNatClampNeg) (xs (nI i + 3).toNatClampNeg) (xs (nI i + 4).toNatClampNeg) (xs (nI i + 5).toNatClampNeg) σ τ hRel
  refine lv_aload_n hx hb dL_law_401 rfl (lv_at hl 1 rfl) ?_
  refine lv_aload_n hx hb dL_law_402 rfl (lv_at hl 0 rfl) ?_
  refine lv_iload_n hx hb dL_law_403 rfl (lv_at hl 3 rfl) ?_
  refine lv_iconst (v := 1) hx hb dL_law_404 (by decide) ?_
  refine lv_iadd hx hb dL_law_405 ?_
  refine va_sld hx hb hX hbl hbA hS (l_in (k := 1) rfl hi (by decide) hL) dL_law_406 ?_
  refine lv_aload_n hx hb dL_law_407 rfl (lv_at hl 0 rfl) ?_
  refine lv_iload_n hx hb dL_law_408 rfl (lv_at hl 3 rfl) ?_
  refine lv_iconst (v := 2) hx hb dL_law_409 (by decide) ?_
  refine lv_iadd hx hb dL_law_410 ?_
  refine va_sld hx hb hX hbl hbA hS (l_in (k := 2) rfl hi (by decide) hL) dL_law_411 ?_
  refine lv_aload_n hx hb dL_law_412 rfl (lv_at hl 0 rfl) ?_
  refine lv_iload_n hx hb dL_law_413 rfl (lv_at hl 3 rfl) ?_
  refine lv_iconst (v := 3) hx hb dL_law_414 (by decide) ?_
  refine lv_iadd hx hb dL_law_415 ?_
  refine va_sld hx hb hX hbl hbA hS (l_in (k := 3) rfl hi (by decide) hL) dL_law_416 ?_
  refine lv_aload_n hx hb dL_law_417 rfl (lv_at hl 0 rfl) ?_
  refine lv_iload_n hx hb dL_law_418 rfl (lv_at hl 3 rfl) ?_
  refine lv_iconst (v := 4) hx hb dL_law_419 (by decide) ?_
  refine lv_iadd hx hb dL_law_420 ?_
  refine va_sld hx hb hX hbl hbA hS (l_in (k := 4) rfl hi (by decide) hL) dL_law_421 ?_
  refine lv_aload_n hx hb dL_law_422 rfl (lv_at hl 0 rfl) ?_
  refine lv_iload_n hx hb dL_law_423 rfl (lv_at hl 3 rfl) ?_
  refine lv_iconst (v := 5) hx hb dL_law_424 (by decide) ?_
  refine lv_iadd hx hb dL_law_425 ?_
  refine va_sld hx hb hX hbl hbA hS (l_in (k := 5) rfl hi (by decide) hL) dL_law_426 ?_
  refine l_X (rest := []) C hPX hPM hS (k_10_guest l D cA ad z C.2.2.2.2.2.2.2.1 n σ (xs (nI i + 1).toNatClampNeg) (xs (nI i + 2).toNatClampNeg) (xs (nI i + 3).toNatClampNeg) (xs (nI i + 4).toNatClampNeg) (xs (nI i + 5).toNatClampNeg) e1) 5 gT_X10_guest rfl rfl rfl (by decide +kernel) ⟨Nat.le_of_ble_eq_true rfl, Nat.le_of_ble_eq_true rfl⟩ rfl hl.1 rfl (Nat.le_of_ble_eq_true rfl) dL_law_427 ⟨Nat.le_of_ble_eq_true rfl, Nat.le_of_ble_eq_true rfl⟩ (fun H locs hPX hPM hS => ?_)
  refine lv_aload_n hx hb dL_law_430 rfl (lv_at hl 2 rfl) ?_
  refine lv_aload_n hx hb dL_law_431 rfl (lv_at hl 0 rfl) ?_
  refine lv_iload_n hx hb dL_law_432 rfl (lv_at hl 3 rfl) ?_
  refine lv_iconst (v := 1) hx hb dL_law_433 (by decide) ?_
  refine lv_iadd hx hb dL_law_434 ?_
  refine va_sld hx hb hX hbl hbA hS (l_in (k := 1) rfl hi (by decide) hL) dL_law_435 ?_
  refine lv_aload_n hx hb dL_law_436 rfl (lv_at hl 0 rfl) ?_
  refine lv_iload_n hx hb dL_law_437 rfl (lv_at hl 3 rfl) ?_
  refine lv_iconst (v := 2) hx hb dL_law_438 (by decide) ?_
  refine lv_iadd hx hb dL_law_439 ?_
  refine va_sld hx hb hX hbl hbA hS (l_in (k := 2) rfl hi (by decide) hL) dL_law_440 ?_
  refine lv_aload_n hx hb dL_law_441 rfl (lv_at hl 0 rfl) ?_
  refine lv_iload_n hx hb dL_law_442 rfl (lv_at hl 3 rfl) ?_
  refine lv_iconst (v := 3) hx hb dL_law_443 (by decide) ?_
  refine lv_iadd hx hb dL_law_444 ?_
  refine va_sld hx hb hX hbl hbA hS (l_in (k := 3) rfl hi (by decide) hL) dL_law_445 ?_
  refine lv_aload_n hx hb dL_law_446 rfl (lv_at hl 0 rfl) ?_
  refine lv_iload_n hx hb dL_law_447 rfl (lv_at hl 3 rfl) ?_
  refine lv_iconst (v := 4) hx hb dL_law_448 (by decide) ?_
  refine lv_iadd hx hb dL_law_449 ?_
  refine va_sld hx hb hX hbl hbA hS (l_in (k := 4) rfl hi (by decide) hL) dL_law_450 ?_
  refine lv_aload_n hx hb dL_law_451 rfl (lv_at hl 0 rfl) ?_
  refine lv_iload_n hx hb dL_law_452 rfl (lv_at hl 3 rfl) ?_
  refine lv_iconst (v := 5) hx hb dL_law_453 (by decide) ?_
  refine lv_iadd hx hb dL_law_454 ?_
  refine va_sld hx hb hX hbl hbA hS (l_in (k := 5) rfl hi (by decide) hL) dL_law_455 ?_
  refine l_M (rest := [.int r]) C hPX hPM hS (k_11_guest l D cB bd C.2.2.2.2.2.2.2.2.1 n τ (xs (nI i + 1).toNatClampNeg) (xs (nI i + 2).toNatClampNeg) (xs (nI i + 3).toNatClampNeg) (xs (nI i + 4).toNatClampNeg) (xs (nI i + 5).toNatClampNeg) e2) 5 gT_X11_guest rfl rfl rfl (by decide +kernel) ⟨Nat.le_of_ble_eq_true rfl, Nat.le_of_ble_eq_true rfl⟩ rfl hl.1 rfl (Nat.le_of_ble_eq_true rfl) dL_law_456 ⟨Nat.le_of_ble_eq_true rfl, Nat.le_of_ble_eq_true rfl⟩ (fun H locs hPX hPM hS => ?_)
  exact lv_icmp_eq (tgt := 813) hx hb dL_law_459 (by decide) (fun _ => kk σ' τ' H locs ls hR2 hPX hPM hS hl) (fun c9 => absurd rfl c9)
set_option maxRecDepth 100000 in
set_option maxHeartbeats 4000000 in
theorem lc_leave {p : Program} {l : Launch} {e : Env} {s : State} {m : MethodId} {below : List Frame} {meth : Method} {c : Code} {H : Heap} {locs : List Loc} {Q : State → Prop} {b : Nat} {ls : Array Slot} {D : va_G} {cA cB : Nat → ClassId} {ad bd : Nat → Nat} {z : ZX} {σ τ : St} {Rel : St → St → Prop} {n L i : Nat} {xs : Nat → Int32} (C : Lc p s m c b D cA ad z cB bd) (hX : va_X b L xs s s.heap) (hbl : b < s.heap.size) (hL : L ≤ 3072) (hi : i + 6 ≤ L) (hsim : ∀ (a1 : Int32) (a2 : Int32), Sim Rel (fun σ => f_10_leave n σ a1 a2) (fun τ => f_11_leave n τ a1 a2)) (hRel : Rel σ τ) (hPX : va_P D vwCl (ww dX 120 cA ad σ) H) (hPM : va_P D vwCl (ww dM 41 cB bd τ) H) (hS : va_S (fun q : Nat => s.heap.size ≤ q) s.heap H locs) (hl : lv_has ls 4 [(0, .ref b), (1, .ref (ad 0)), (2, .ref (bd 0)), (3, .int (nI i))])
    (kk : ∀ (σ' τ' : St) (H : Heap) (locs : List Loc) (ls : Array Slot), Rel σ' τ' → va_P D vwCl (ww dX 120 cA ad σ') H → va_P D vwCl (ww dM 41 cB bd τ') H → va_S (fun q : Nat => s.heap.size ≤ q) s.heap H locs → lv_has ls 4 [(0, .ref b), (1, .ref (ad 0)), (2, .ref (bd 0)), (3, .int (nI i))] → W p l e room_1 s m #[Value.ref b] below meth c H locs 161 7151 Q (F0 m 813 ls [])) : W p l e room_1 s m #[Value.ref b] below meth c H locs 161 7151 Q (F0 m 464 ls []) := by
  have hx := C.1
  have hb := C.2.1
  have hbA : ¬ (fun q : Nat => s.heap.size ≤ q) b := Nat.not_le.mpr hbl
  obtain ⟨r, σ', τ', e1, e2, hR2⟩ := hsim (xs (nI i + 1).toNatClampNeg) (xs (nI i + 2).toNatClampNeg) σ τ hRel
  refine lv_aload_n hx hb dL_law_464 rfl (lv_at hl 1 rfl) ?_
  refine lv_aload_n hx hb dL_law_465 rfl (lv_at hl 0 rfl) ?_
  refine lv_iload_n hx hb dL_law_466 rfl (lv_at hl 3 rfl) ?_
  refine lv_iconst (v := 1) hx hb dL_law_467 (by decide) ?_
  refine lv_iadd hx hb dL_law_468 ?_
  refine va_sld hx hb hX hbl hbA hS (l_in (k := 1) rfl hi (by decide) hL) dL_law_469 ?_
  refine lv_aload_n hx hb dL_law_470 rfl (lv_at hl 0 rfl) ?_
  refine lv_iload_n hx hb dL_law_471 rfl (lv_at hl 3 rfl) ?_
  refine lv_iconst (v := 2) hx hb dL_law_472 (by decide) ?_
  refine lv_iadd hx hb dL_law_473 ?_
  refine va_sld hx hb hX hbl hbA hS (l_in (k := 2) rfl hi (by decide) hL) dL_law_474 ?_
  refine l_X (rest := []) C hPX hPM hS (k_10_leave l D cA ad z C.2.2.2.2.2.2.2.1 n σ (xs (nI i + 1).toNatClampNeg) (xs (nI i + 2).toNatClampNeg) e1) 2 gT_X10_leave rfl rfl rfl (by decide +kernel) ⟨Nat.le_of_ble_eq_true rfl, Nat.le_of_ble_eq_true rfl⟩ rfl hl.1 rfl (Nat.le_of_ble_eq_true rfl) dL_law_475 ⟨Nat.le_of_ble_eq_true rfl, Nat.le_of_ble_eq_true rfl⟩ (fun H locs hPX hPM hS => ?_)
  refine lv_aload_n hx hb dL_law_478 rfl (lv_at hl 2 rfl) ?_
  refine lv_aload_n hx hb dL_law_479 rfl (lv_at hl 0 rfl) ?_
  refine lv_iload_n hx hb dL_law_480 rfl (lv_at hl 3 rfl) ?_
  refine lv_iconst (v := 1) hx hb dL_law_481 (by decide) ?_
  refine lv_iadd hx hb dL_law_482 ?_
  refine va_sld hx hb hX hbl hbA hS (l_in (k := 1) rfl hi (by decide) hL) dL_law_483 ?_
  refine lv_aload_n hx hb dL_law_484 rfl (lv_at hl 0 rfl) ?_
  refine lv_iload_n hx hb dL_law_485 rfl (lv_at hl 3 rfl) ?_
  refine lv_iconst (v := 2) hx hb dL_law_486 (by decide) ?_
  refine lv_iadd hx hb dL_law_487 ?_
  refine va_sld hx hb hX hbl hbA hS (l_in (k := 2) rfl hi (by decide) hL) dL_law_488 ?_
  refine l_M (rest := [.int r]) C hPX hPM hS (k_11_leave l D cB bd C.2.2.2.2.2.2.2.2.1 n τ (xs (nI i + 1).toNatClampNeg) (xs (nI i + 2).toNatClampNeg) e2) 2 gT_X11_leave rfl rfl rfl (by decide +kernel) ⟨Nat.le_of_ble_eq_true rfl, Nat.le_of_ble_eq_true rfl⟩ rfl hl.1 rfl (Nat.le_of_ble_eq_true rfl) dL_law_489 ⟨Nat.le_of_ble_eq_true rfl, Nat.le_of_ble_eq_true rfl⟩ (fun H locs hPX hPM hS => ?_)
  exact lv_icmp_eq (tgt := 813) hx hb dL_law_492 (by decide) (fun _ => kk σ' τ' H locs ls hR2 hPX hPM hS hl) (fun c9 => absurd rfl c9)
