/-! what the constructors need: arrays of arrays; the facts beside the words -/
def va_AOA (ty : FieldType) (U : State) : Prop := (Cond.arrayOver (.array ty)).before #[] U = true
theorem va_AOA.use {ty : FieldType} {A : Array Value} {U : State} (h : va_AOA ty U) : (Cond.arrayOver (.array ty)).before A U = true := h
theorem va_AOA.moved {ty : FieldType} {u U : State} (hvm : u.vm.Alike U.vm) (h : va_AOA ty u) : va_AOA ty U := Jvm.Stand.arrayOver_alikeB hvm h
theorem vr_outer (c : ClassId) (N h0 : Nat) : ∀ i : Nat, Jvm.Free.Multi.outerC c N h0 i = arrV c N (fun j => va_rf (if j < i then some (h0 + 1 + j) else none))
  | 0 => by
    show ({ cls := c, slots := Array.replicate N .null, vm := .none } : Cell) = _
    rw [arrV_new]
    refine congrArg (arrV c N) (funext fun j => ?_)
    simp [va_rf]
  | i + 1 => by
    show (Jvm.Free.Multi.outerC c N h0 i).setSlot i (.ref (h0 + 1 + i)) = _
    rw [vr_outer c N h0 i, arrV_store]
    refine congrArg (arrV c N) (funext fun j => ?_)
    by_cases e : j = i
    · subst e
      simp [updV, va_rf]
    · by_cases h : j < i
      · simp [updV, e, h, Nat.lt_succ_of_lt h]
      · simp [updV, e, h, show ¬ j < i + 1 by omega]
section LMN
variable {p : Program} {l : Launch} {e : Env} {R : Room} {s : State} {m : MethodId} {args : Array Value} {below : List Frame} {meth : Method} {c : Code} {H : Heap} {locs : List Loc} {cells slots : Nat} {Q : State → Prop}
variable {cc : ByteArray} {pc : Nat} {ls : Array Slot} {rest : List Value} {D : va_G} {cl : List vw_C} {A : Nat → Prop} {tys : List (ClassId × FieldType)} {ws : va_W} {H0 : Heap}
theorem x_mna (hexec : p.tables.exec = Jvm.exec) (hb : c.code = cc) {own : String} {index : Nat} (hown : s.vm.findClass own = some m.cls) (hclink : (Cond.classLink own index "[[I").before args s = true) (hover : va_AOA .int s) (harr : (Cond.arrayClass .int).before args s = true)
    (hK : va_K D cl tys s) (hP : va_P D cl ws H) (hD : va_D A ws) (hS : va_S A H0 H locs) (hA : ∀ q, H0.size ≤ q → A q) (hcells : cells + (1 + 4) ≤ R.cells) (hslots : slots + (4 + 4 * 48) ≤ R.slots) (hdg : decode cc pc = .ok (.multianewarray index 2, 4))
    (kk : ∀ (q : Nat) (cA cB : ClassId) (H1 : Heap), va_K D cl (tys ++ [(cA, .array .int), (cB, .int)]) s → va_P D cl (ws ++ [(q, .inl (cA, 4, .inr (.inr (.inr (.inr (fun i => if i < 4 then some (q + 1 + i) else none)))))), (q + 1, .inl (cB, 48, .inl (fun _ => 0))), (q + 2, .inl (cB, 48, .inl (fun _ => 0))), (q + 3, .inl (cB, 48, .inl (fun _ => 0))), (q + 4, .inl (cB, 48, .inl (fun _ => 0)))]) H1 → va_D A (ws ++ [(q, .inl (cA, 4, .inr (.inr (.inr (.inr (fun i => if i < 4 then some (q + 1 + i) else none)))))), (q + 1, .inl (cB, 48, .inl (fun _ => 0))), (q + 2, .inl (cB, 48, .inl (fun _ => 0))), (q + 3, .inl (cB, 48, .inl (fun _ => 0))), (q + 4, .inl (cB, 48, .inl (fun _ => 0)))]) → va_S A H0 H1 locs →
      W p l e R s m args below meth c H1 locs (cells + 1 + 4) (slots + 4 + 4 * 48) Q (F0 m (pc + 4) ls (.ref q :: rest))) : W p l e R s m args below meth c H locs cells slots Q (F0 m pc ls (.int 48 :: .int 4 :: rest)) := by
  intro T hT Xs
  have e4 : (4 : Int32).toNatClampNeg = 4 := by decide
  have e48 : (48 : Int32).toNatClampNeg = 48 := by decide
  obtain ⟨vm₁, cA, comp, -, fA, fC, hO, hI, X', step⟩ := Xs.multianewarray2F (ty := .int) hexec hown hclink (va_AOA.use hover) harr (g := F0 m pc ls (.int 48 :: .int 4 :: rest)) rfl (by rw [hb]; exact hdg) rfl (by decide) (by decide) (by decide) (by decide) (by decide) rfl rfl (by rw [e4]; exact hcells) (by rw [e4, e48]; exact hslots)
  rw [e4, e48] at X' step
  generalize hF : Jvm.Free.Multi.fill (T.setVm vm₁) cA comp 4 48 (defaultValue .int) 4 = F at X' step
  have hTh : (T.setVm vm₁).heap = H := hT
  obtain ⟨f1, f2, -, -⟩ := Jvm.Free.Multi.fill_facts (T.setVm vm₁) cA comp 4 48 (defaultValue .int) 4
  rw [hF, hTh] at f1 f2
  have hold : ∀ x : Nat, x < H.size → F.heap[x]? = H[x]? := fun x hx => by
    have := Jvm.Free.Multi.fill_old (T.setVm vm₁) cA comp 4 48 (defaultValue .int) (a := x) (by rw [hTh]; exact hx) 4
    rw [hF, hTh] at this
    exact this
  have hrow : ∀ j : Nat, j < 4 → F.heap[H.size + 1 + j]? = some (vp_cell comp (48, .inl (fun _ => 0))) := fun j hj => by
    have := Jvm.Free.Multi.fill_inner (T.setVm vm₁) cA comp 4 48 (defaultValue .int) 4 j hj
    rw [hF, hTh] at this
    rw [this, vp_cell_i]
    show some ({ cls := comp, slots := Array.replicate 48 (.int 0), vm := .none } : Cell) = _
    rw [arrV_new]
  have hout : Jvm.Free.Multi.outerC cA 4 H.size 4 = vp_cell cA (4, .inr (.inr (.inr (.inr (fun i => if i < 4 then some (H.size + 1 + i) else none))))) := by
    rw [vp_cell_q]
    exact vr_outer cA 4 H.size 4
  rw [hout] at f2
  have hlt : ∀ (k9 : Nat) (x : Nat × va_E), ws[k9]? = some x → x.1 < H.size := fun k9 x hx => (hP k9 x hx).lt
  have hP0 : va_P D cl ws F.heap := hP.kept (fun k9 x hx => hold x.1 (hlt k9 x hx))
  generalize hnw : ([(H.size, .inl (cA, 4, .inr (.inr (.inr (.inr (fun i => if i < 4 then some (H.size + 1 + i) else none)))))), (H.size + 1, .inl (comp, 48, .inl (fun _ => 0))), (H.size + 2, .inl (comp, 48, .inl (fun _ => 0))), (H.size + 3, .inl (comp, 48, .inl (fun _ => 0))), (H.size + 4, .inl (comp, 48, .inl (fun _ => 0)))] : va_W) = nw
  have hnk : ∀ (k9 : Nat) (x : Nat × va_E), nw[k9]? = some x → k9 < 5 ∧ x.1 = H.size + k9 ∧ va_at D cl x F.heap := by
    intro k9 x hx
    rw [← hnw] at hx
    match k9, hx with
    | 0, hx => cases hx; exact ⟨by omega, rfl, f2⟩
    | 1, hx => cases hx; exact ⟨by omega, rfl, hrow 0 (by omega)⟩
    | 2, hx => cases hx; exact ⟨by omega, rfl, hrow 1 (by omega)⟩
    | 3, hx => cases hx; exact ⟨by omega, rfl, hrow 2 (by omega)⟩
    | 4, hx => cases hx; exact ⟨by omega, rfl, hrow 3 (by omega)⟩
    | k9 + 5, hx => cases hx
  have hP1 : va_P D cl (ws ++ nw) F.heap := hP0.app (fun k9 x hx => (hnk k9 x hx).2.2)
  have hD1 : va_D A (ws ++ nw) := by
    refine va_D.app hD ⟨fun i j x y hi hj hxy => ?_, fun k9 x hx => ?_⟩ (fun i j x y hi hj hxy => ?_)
    · have := (hnk i x hi).2.1
      have := (hnk j y hj).2.1
      omega
    · have := (hnk k9 x hx).2.1
      exact hA _ (by have := hS.1; omega)
    · have := hlt i x hi
      have := (hnk j y hj).2.1
      omega
  have hArA : ArrOfT s cA (.array .int) := fun N9 z9 => by
    obtain ⟨-, k9, hk9, cm9, hkk9⟩ := (hO 0 0 0).1
    exact ⟨(fun q hq => by cases hq), k9, hk9, cm9, hkk9⟩
  have hArB : ArrOfT s comp .int := fun N9 z9 => by
    obtain ⟨-, k9, hk9, cm9, hkk9⟩ := (hI 0 (.int 0)).1
    exact ⟨(fun q hq => by cases hq), k9, hk9, cm9, hkk9⟩
  have hK2 : va_K D cl (tys ++ [(cA, .array .int), (comp, .int)]) s := hK.app ⟨hK.1, fun k9 x hx => by
    match k9, hx with
    | 0, hx => cases hx; exact ⟨hArA, fA⟩
    | 1, hx => cases hx; exact ⟨hArB, fC⟩
    | k9 + 2, hx => cases hx⟩
  obtain ⟨t, a1, b1⟩ := kk H.size cA comp F.heap hK2 (by rw [hnw]; exact hP1) (by rw [hnw]; exact hD1) ⟨by rw [f1]; have := hS.1; omega, fun x h1 h2 => (hold x (Nat.lt_of_lt_of_le h1 hS.1)).trans (hS.2.1 x h1 h2), hS.2.2⟩ F rfl X'
  refine ⟨t, step t ?_, b1⟩
  have e : T.heap.size = H.size := by rw [hT]
  rw [e]
  exact a1
end LMN
def EC (U : State) : Prop := va_AO "CureTown$Spring" U ∧ va_AO "CureTown$Bath" U ∧ va_AO "CureTown$Guest" U ∧ va_AO "CureTown$Regimen" U ∧ va_AO "CureTown$GuestDay" U ∧ va_AOA .int U ∧ va_Nw (.methodLinkNest RX2 11 yX8_init "CureTown") U ∧ va_Nw (.methodLinkNest RX2 47 yX6_init "CureTown") U ∧ va_Nw (.methodLinkNest RX3 26 yX5_init "CureTown") U ∧ va_Nw (.methodLinkNest RX9 44 yX7_init "CureTown") U ∧ va_Nw (.methodLinkNest RX9 45 yX0_init "CureTown") U ∧ va_Nw (.methodLinkNest RX9 46 yX4_init "CureTown") U ∧ va_Nw (.methodLinkNest RX10 25 yX1_init "CureTown") U
theorem EC_call {a : Array Value} {U : State} {g : JFrame} {mk : MethodId} (h : EC U) : EC (U.calling g mk a) := by
  obtain ⟨h1, h2, h3, h4, h5, h6, h7, h8, h9, h10, h11, h12, h13⟩ := h
  have e : U.vm.Alike (U.calling g mk a).vm := Vm.Alike.refl U.vm
  exact ⟨va_AO.moved e h1, va_AO.moved e h2, va_AO.moved e h3, va_AO.moved e h4, va_AO.moved e h5, va_AOA.moved e h6, va_Nw.same rfl rfl h7, va_Nw.same rfl rfl h8, va_Nw.same rfl rfl h9, va_Nw.same rfl rfl h10, va_Nw.same rfl rfl h11, va_Nw.same rfl rfl h12, va_Nw.same rfl rfl h13⟩
theorem EC_warm {s U : State} (hW : s.WarmedH U.vm) (h : EC s) : EC U := by
  obtain ⟨h1, h2, h3, h4, h5, h6, h7, h8, h9, h10, h11, h12, h13⟩ := h
  have e := hW.alike
  exact ⟨va_AO.moved e h1, va_AO.moved e h2, va_AO.moved e h3, va_AO.moved e h4, va_AO.moved e h5, va_AOA.moved e h6, va_Nw.warmM hW h7, va_Nw.warmM hW h8, va_Nw.warmM hW h9, va_Nw.warmM hW h10, va_Nw.warmM hW h11, va_Nw.warmM hW h12, va_Nw.warmM hW h13⟩
theorem refs_cong {cA : ClassId} {n : Nat} {f g : Nat → Option Nat} (h : ∀ i, i < n → f i = g i) : vp_cell cA (n, .inr (.inr (.inr (.inr f)))) = vp_cell cA (n, .inr (.inr (.inr (.inr g)))) := by
  rw [vp_cell_q, vp_cell_q]
  unfold arrV
  congr 1
  apply Array.ext
  · simp
  · intro i h1 h2
    simp at h1
    simp [h i h1]
