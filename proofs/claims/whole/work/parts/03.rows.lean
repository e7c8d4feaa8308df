/-! the layer's rows: one instruction each, over a world of fixed shape -/
def EOK (N : Nat) (ad : Nat → Nat) (E : State → Prop) : Prop := (∀ (a : Array Value) (U : State) (g : JFrame) (mk : MethodId), E U → E (U.calling g mk a)) ∧ ∀ (s U : State) (H : Heap) (locs : List Loc), E s → va_S (inA N ad) s.heap H locs → s.WarmedH U.vm → U.heap = H → E U
def Cx (p : Program) (s : State) (m : MethodId) (args : Array Value) (c : Code) (cc : ByteArray) (nL : Nat) (own : String) (Ts : List Cond) (D : va_G) (d : Nat → Dsc) (N : Nat) (cA : Nat → ClassId) (ad : Nat → Nat) (E : State → Prop) : Prop := p.tables.exec = Jvm.exec ∧ c.code = cc ∧ c.maxLocals = nL ∧ s.vm.findClass own = some m.cls ∧ (∀ w ∈ Ts, w.before args s = true) ∧ va_K D vwCl (tt d N cA) s ∧ inj N ad ∧ E s ∧ EOK N ad E
def PrX (D : va_G) (d : Nat → Dsc) (N : Nat) (cA : Nat → ClassId) (ad : Nat → Nat) (E : State → Prop) (σ : St) (U : State) : Prop := va_P D vwCl (ww d N cA ad σ) U.heap ∧ va_K D vwCl (tt d N cA) U ∧ E U
def MXi (l : Launch) (D : va_G) (d : Nat → Dsc) (N : Nat) (cA : Nat → ClassId) (ad : Nat → Nat) (E : State → Prop) (y : MethodName) (ws : List Cond) (rm : Room) (As : List Value) (σ : St) (res : Int32 × St) : Prop := Met l y ws rm (va_Pc As (PrX D d N cA ad E σ)) (va_Qi (fun r u => r = res.1 ∧ u = res.2) (fun u t => va_P D vwCl (ww d N cA ad u) t.heap) (inA N ad)) 0 0 (inA N ad)
def MXl (l : Launch) (D : va_G) (d : Nat → Dsc) (N : Nat) (cA : Nat → ClassId) (ad : Nat → Nat) (E : State → Prop) (y : MethodName) (ws : List Cond) (rm : Room) (As : List Value) (σ : St) (res : Int64 × St) : Prop := Met l y ws rm (va_Pc As (PrX D d N cA ad E σ)) (va_Ql (fun r u => r = res.1 ∧ u = res.2) (fun u t => va_P D vwCl (ww d N cA ad u) t.heap) (inA N ad)) 0 0 (inA N ad)
def MXv (l : Launch) (D : va_G) (d : Nat → Dsc) (N : Nat) (cA : Nat → ClassId) (ad : Nat → Nat) (E : State → Prop) (y : MethodName) (ws : List Cond) (rm : Room) (As : List Value) (σ : St) (res : St) : Prop := Met l y ws rm (va_Pc As (PrX D d N cA ad E σ)) (va_Qv (fun u => u = res) (fun u t => va_P D vwCl (ww d N cA ad u) t.heap) (inA N ad)) 0 0 (inA N ad)
section LR
variable {p : Program} {l : Launch} {e : Env} {R : Room} {s : State} {m : MethodId} {args : Array Value} {below : List Frame} {meth : Method} {c : Code} {H : Heap} {locs : List Loc} {cells slots : Nat} {Q : State → Prop}
variable {cc : ByteArray} {pc nL : Nat} {ls : Array Slot} {rest : List Value} {D : va_G} {own : String} {Ts : List Cond} {E : State → Prop}
variable {d : Nat → Dsc} {N : Nat} {cA : Nat → ClassId} {ad : Nat → Nat} {σ : St}
theorem x_gi (X : Cx p s m args c cc nL own Ts D d N cA ad E) (hP : va_P D vwCl (ww d N cA ad σ) H) {k j ci Nf index : Nat} {ks : List Nat} {C : String} {T : u_T} (hk : k < N) (hd : d k = .inl (ci, ks)) (hc : vwCl[ci]? = some (C, T, Nf)) (hj : ks[j]? = some 0) (hf : j < Nf) (hin : ∀ w ∈ u_ws C T Nf, w ∈ Ts) (hlink : Cond.fieldLink own index (T j).1 (T j).2.1 (T j).2.2.1 ∈ Ts) (hdg : decode cc pc = .ok (.getfield index, 3))
    (kk : W p l e R s m args below meth c H locs cells slots Q (F0 m (pc + 3) ls (.int (σ.1 k j) :: rest))) : W p l e R s m args below meth c H locs cells slots Q (F0 m pc ls (.ref (ad k) :: rest)) :=
  va_get X.1 X.2.1 X.2.2.2.2.1 hin X.2.2.2.1 X.2.2.2.2.2.1 hP k (ww_obj hk hd) hc j hf (X.2.2.2.2.1 _ hlink) (fun _ h => h) (by rw [List.getElem?_mapIdx, hj]; rfl) hdg kk
theorem x_gl (X : Cx p s m args c cc nL own Ts D d N cA ad E) (hP : va_P D vwCl (ww d N cA ad σ) H) {k j ci Nf index : Nat} {ks : List Nat} {C : String} {T : u_T} (hk : k < N) (hd : d k = .inl (ci, ks)) (hc : vwCl[ci]? = some (C, T, Nf)) (hj : ks[j]? = some 1) (hf : j < Nf) (hin : ∀ w ∈ u_ws C T Nf, w ∈ Ts) (hlink : Cond.fieldLink own index (T j).1 (T j).2.1 (T j).2.2.1 ∈ Ts) (hdg : decode cc pc = .ok (.getfield index, 3))
    (kk : W p l e R s m args below meth c H locs cells slots Q (F0 m (pc + 3) ls (.long (σ.2 k j) :: rest))) : W p l e R s m args below meth c H locs cells slots Q (F0 m pc ls (.ref (ad k) :: rest)) :=
  va_get X.1 X.2.1 X.2.2.2.2.1 hin X.2.2.2.1 X.2.2.2.2.2.1 hP k (ww_obj hk hd) hc j hf (X.2.2.2.2.1 _ hlink) (fun _ h => h) (by rw [List.getElem?_mapIdx, hj]; rfl) hdg kk
theorem x_gr (X : Cx p s m args c cc nL own Ts D d N cA ad E) (hP : va_P D vwCl (ww d N cA ad σ) H) {k j ci Nf index t : Nat} {ks : List Nat} {C : String} {T : u_T} (hk : k < N) (hd : d k = .inl (ci, ks)) (hc : vwCl[ci]? = some (C, T, Nf)) (hj : ks[j]? = some (t + 3)) (hf : j < Nf) (hin : ∀ w ∈ u_ws C T Nf, w ∈ Ts) (hlink : Cond.fieldLink own index (T j).1 (T j).2.1 (T j).2.2.1 ∈ Ts) (hdg : decode cc pc = .ok (.getfield index, 3))
    (kk : W p l e R s m args below meth c H locs cells slots Q (F0 m (pc + 3) ls (.ref (ad t) :: rest))) : W p l e R s m args below meth c H locs cells slots Q (F0 m pc ls (.ref (ad k) :: rest)) :=
  va_get X.1 X.2.1 X.2.2.2.2.1 hin X.2.2.2.1 X.2.2.2.2.2.1 hP k (ww_obj hk hd) hc j hf (X.2.2.2.2.1 _ hlink) (fun _ h => h) (by rw [List.getElem?_mapIdx, hj]; rfl) hdg kk
theorem x_gc (X : Cx p s m args c cc nL own Ts D d N cA ad E) (hP : va_P D vwCl (ww d N cA ad σ) H) {k j ci Nf index : Nat} {ks : List Nat} {C : String} {T : u_T} (hk : k < N) (hd : d k = .inl (ci, ks)) (hc : vwCl[ci]? = some (C, T, Nf)) (hj : ks[j]? = some 2) (hf : j < Nf) (hin : ∀ w ∈ u_ws C T Nf, w ∈ Ts) (hlink : Cond.fieldLink own index (T j).1 (T j).2.1 (T j).2.2.1 ∈ Ts) (hdg : decode cc pc = .ok (.getfield index, 3))
    (kk : W p l e R s m args below meth c H locs cells slots Q (F0 m (pc + 3) ls (.ref (ad (44 + (σ.1 k j).toNatClampNeg)) :: rest))) : W p l e R s m args below meth c H locs cells slots Q (F0 m pc ls (.ref (ad k) :: rest)) :=
  va_get X.1 X.2.1 X.2.2.2.2.1 hin X.2.2.2.1 X.2.2.2.2.2.1 hP k (ww_obj hk hd) hc j hf (X.2.2.2.2.1 _ hlink) (fun _ h => h) (by rw [List.getElem?_mapIdx, hj]; rfl) hdg kk
theorem x_pi (X : Cx p s m args c cc nL own Ts D d N cA ad E) (hP : va_P D vwCl (ww d N cA ad σ) H) (hS : va_S (inA N ad) s.heap H locs) {k j ci Nf index : Nat} {ks : List Nat} {C : String} {T : u_T} {ty0 : Nat → FieldType} {ty : FieldType} {v : Int32} (hk : k < N) (hd : d k = .inl (ci, ks)) (hc : vwCl[ci]? = some (C, T, Nf)) (hj : ks[j]? = some 0) (hf : j < Nf) (hin : ∀ w ∈ u_ws C T Nf, w ∈ Ts) (hty : ∀ k, k < Nf → parseFieldDescriptor (T k).2.2.1 = some (ty0 k)) (hnm : ∀ a, a < Nf → ∀ b, b < Nf → a ≠ b → (T a).2.1 ≠ (T b).2.1) (hlink : Cond.fieldLink own index (T j).1 (T j).2.1 (T j).2.2.1 ∈ Ts) (hfin : (T j).2.2.2 = false) (hy : ty0 j = ty) (hn : narrow ty (.int v) = .int v) (hfit : fits ty (.int v) = true) (hdg : decode cc pc = .ok (.putfield index, 3))
    (kk : ∀ (σ1 : St) (_ : σ1 = si σ k j v) (H1 : Heap) (locs1 : List Loc), va_P D vwCl (ww d N cA ad σ1) H1 → va_S (inA N ad) s.heap H1 locs1 → W p l e R s m args below meth c H1 locs1 cells slots Q (F0 m (pc + 3) ls rest)) : W p l e R s m args below meth c H locs cells slots Q (F0 m pc ls (.int v :: .ref (ad k) :: rest)) := by
  subst hy
  refine va_put X.1 X.2.1 X.2.2.2.2.1 hin ty0 hty hnm X.2.2.2.1 X.2.2.2.2.2.1 hP (ww_D X.2.2.2.2.2.2.1) hS k (ww_obj hk hd) hc j hf (X.2.2.2.2.1 _ hlink) (fun _ h => h) hfin (hty j hf) hn hfit (by rw [List.length_mapIdx]; exact (List.getElem?_eq_some_iff.mp hj).1) hdg (fun H1 locs1 hP1 _ hS1 => kk _ rfl H1 locs1 ?_ hS1)
  rw [ww_pi hd hj fvl_pi] at hP1
  exact hP1
theorem x_pc (X : Cx p s m args c cc nL own Ts D d N cA ad E) (hP : va_P D vwCl (ww d N cA ad σ) H) (hS : va_S (inA N ad) s.heap H locs) {k j ci Nf index t : Nat} {ks : List Nat} {C : String} {T : u_T} {ty0 : Nat → FieldType} {ty : FieldType} {v : Int32} (hk : k < N) (hd : d k = .inl (ci, ks)) (hc : vwCl[ci]? = some (C, T, Nf)) (hj : ks[j]? = some 2) (hf : j < Nf) (hin : ∀ w ∈ u_ws C T Nf, w ∈ Ts) (hty : ∀ k, k < Nf → parseFieldDescriptor (T k).2.2.1 = some (ty0 k)) (hnm : ∀ a, a < Nf → ∀ b, b < Nf → a ≠ b → (T a).2.1 ≠ (T b).2.1) (hlink : Cond.fieldLink own index (T j).1 (T j).2.1 (T j).2.2.1 ∈ Ts) (hfin : (T j).2.2.2 = false) (hy : ty0 j = ty) (hn : ∀ a : Nat, narrow ty (.ref a) = .ref a) (hfit : ∀ a : Nat, fits ty (.ref a) = true) (ht : t = 44 + v.toNatClampNeg) (hdg : decode cc pc = .ok (.putfield index, 3))
    (kk : ∀ (σ1 : St) (_ : σ1 = si σ k j v) (H1 : Heap) (locs1 : List Loc), va_P D vwCl (ww d N cA ad σ1) H1 → va_S (inA N ad) s.heap H1 locs1 → W p l e R s m args below meth c H1 locs1 cells slots Q (F0 m (pc + 3) ls rest)) : W p l e R s m args below meth c H locs cells slots Q (F0 m pc ls (.ref (ad t) :: .ref (ad k) :: rest)) := by
  subst hy
  subst ht
  refine va_put X.1 X.2.1 X.2.2.2.2.1 hin ty0 hty hnm X.2.2.2.1 X.2.2.2.2.2.1 hP (ww_D X.2.2.2.2.2.2.1) hS k (ww_obj hk hd) hc j hf (X.2.2.2.2.1 _ hlink) (fun _ h => h) hfin (hty j hf) (hn _) (hfit _) (by rw [List.length_mapIdx]; exact (List.getElem?_eq_some_iff.mp hj).1) hdg (fun H1 locs1 hP1 _ hS1 => kk _ rfl H1 locs1 ?_ hS1)
  rw [ww_pi hd hj fvl_pr] at hP1
  exact hP1
theorem x_pl (X : Cx p s m args c cc nL own Ts D d N cA ad E) (hP : va_P D vwCl (ww d N cA ad σ) H) (hS : va_S (inA N ad) s.heap H locs) {k j ci Nf index : Nat} {ks : List Nat} {C : String} {T : u_T} {ty0 : Nat → FieldType} {v : Int64} (hk : k < N) (hd : d k = .inl (ci, ks)) (hc : vwCl[ci]? = some (C, T, Nf)) (hj : ks[j]? = some 1) (hf : j < Nf) (hin : ∀ w ∈ u_ws C T Nf, w ∈ Ts) (hty : ∀ k, k < Nf → parseFieldDescriptor (T k).2.2.1 = some (ty0 k)) (hnm : ∀ a, a < Nf → ∀ b, b < Nf → a ≠ b → (T a).2.1 ≠ (T b).2.1) (hlink : Cond.fieldLink own index (T j).1 (T j).2.1 (T j).2.2.1 ∈ Ts) (hfin : (T j).2.2.2 = false) (hy : ty0 j = .long) (hdg : decode cc pc = .ok (.putfield index, 3))
    (kk : ∀ (σ1 : St) (_ : σ1 = sl σ k j v) (H1 : Heap) (locs1 : List Loc), va_P D vwCl (ww d N cA ad σ1) H1 → va_S (inA N ad) s.heap H1 locs1 → W p l e R s m args below meth c H1 locs1 cells slots Q (F0 m (pc + 3) ls rest)) : W p l e R s m args below meth c H locs cells slots Q (F0 m pc ls (.long v :: .ref (ad k) :: rest)) := by
  refine va_put X.1 X.2.1 X.2.2.2.2.1 hin ty0 hty hnm X.2.2.2.1 X.2.2.2.2.2.1 hP (ww_D X.2.2.2.2.2.2.1) hS k (ww_obj hk hd) hc j hf (X.2.2.2.2.1 _ hlink) (fun _ h => h) hfin (hty j hf) (by rw [hy]; rfl) (by rw [hy]; rfl) (by rw [List.length_mapIdx]; exact (List.getElem?_eq_some_iff.mp hj).1) hdg (fun H1 locs1 hP1 _ hS1 => kk _ rfl H1 locs1 ?_ hS1)
  rw [ww_pl hd hj] at hP1
  exact hP1
theorem x_ai (X : Cx p s m args c cc nL own Ts D d N cA ad E) (hP : va_P D vwCl (ww d N cA ad σ) H) {k n b : Nat} {i : Int32} (hk : k < N) (hd : d k = .inr (.int, n, b)) (hi : inb i n = true) (hdg : decode cc pc = .ok (.iaload, 1))
    (kk : W p l e R s m args below meth c H locs cells slots Q (F0 m (pc + 1) ls (.int (σ.1 k i.toNatClampNeg) :: rest))) : W p l e R s m args below meth c H locs cells slots Q (F0 m pc ls (.int i :: .ref (ad k) :: rest)) :=
  va_iald X.1 X.2.1 X.2.2.2.2.2.1 hP k k (ww_arr hk hd) (tt_arr hk hd) (inb_vp hi) hdg kk
theorem x_ab (X : Cx p s m args c cc nL own Ts D d N cA ad E) (hP : va_P D vwCl (ww d N cA ad σ) H) {k n b : Nat} {i : Int32} (hk : k < N) (hd : d k = .inr (.byte, n, b)) (hi : inb i n = true) (hdg : decode cc pc = .ok (.baload, 1))
    (kk : W p l e R s m args below meth c H locs cells slots Q (F0 m (pc + 1) ls (.int (σ.1 k i.toNatClampNeg) :: rest))) : W p l e R s m args below meth c H locs cells slots Q (F0 m pc ls (.int i :: .ref (ad k) :: rest)) :=
  va_bald X.1 X.2.1 X.2.2.2.2.2.1 hP k k (ww_arr hk hd) (tt_arr hk hd) (inb_vp hi) hdg kk
theorem x_az (X : Cx p s m args c cc nL own Ts D d N cA ad E) (hP : va_P D vwCl (ww d N cA ad σ) H) {k n b : Nat} {i : Int32} (hk : k < N) (hd : d k = .inr (.boolean, n, b)) (hi : inb i n = true) (hdg : decode cc pc = .ok (.baload, 1))
    (kk : W p l e R s m args below meth c H locs cells slots Q (F0 m (pc + 1) ls (.int (σ.1 k i.toNatClampNeg) :: rest))) : W p l e R s m args below meth c H locs cells slots Q (F0 m pc ls (.int i :: .ref (ad k) :: rest)) :=
  va_zald X.1 X.2.1 X.2.2.2.2.2.1 hP k k (ww_arr hk hd) (tt_arr hk hd) (inb_vp hi) hdg kk
theorem x_al (X : Cx p s m args c cc nL own Ts D d N cA ad E) (hP : va_P D vwCl (ww d N cA ad σ) H) {k n b : Nat} {i : Int32} (hk : k < N) (hd : d k = .inr (.long, n, b)) (hi : inb i n = true) (hdg : decode cc pc = .ok (.laload, 1))
    (kk : W p l e R s m args below meth c H locs cells slots Q (F0 m (pc + 1) ls (.long (σ.2 k i.toNatClampNeg) :: rest))) : W p l e R s m args below meth c H locs cells slots Q (F0 m pc ls (.int i :: .ref (ad k) :: rest)) :=
  va_lald X.1 X.2.1 X.2.2.2.2.2.1 hP k k (ww_arr hk hd) (tt_arr hk hd) (inb_vp hi) hdg kk
theorem x_ar (X : Cx p s m args c cc nL own Ts D d N cA ad E) (hP : va_P D vwCl (ww d N cA ad σ) H) {k n b : Nat} {C : String} {i : Int32} (hk : k < N) (hd : d k = .inr (.object C, n, b)) (hi : inb i n = true) (hdg : decode cc pc = .ok (.aaload, 1))
    (kk : W p l e R s m args below meth c H locs cells slots Q (F0 m (pc + 1) ls (.ref (ad (b + i.toNatClampNeg)) :: rest))) : W p l e R s m args below meth c H locs cells slots Q (F0 m pc ls (.int i :: .ref (ad k) :: rest)) :=
  va_aldq X.1 X.2.1 X.2.2.2.2.2.1 hP k k (ww_arr hk hd) (tt_arr hk hd) (inb_vp hi) hdg kk
theorem x_arr (X : Cx p s m args c cc nL own Ts D d N cA ad E) (hP : va_P D vwCl (ww d N cA ad σ) H) {k n b : Nat} {ty : FieldType} {i : Int32} (hk : k < N) (hd : d k = .inr (.array ty, n, b)) (hi : inb i n = true) (hdg : decode cc pc = .ok (.aaload, 1))
    (kk : W p l e R s m args below meth c H locs cells slots Q (F0 m (pc + 1) ls (.ref (ad (b + i.toNatClampNeg)) :: rest))) : W p l e R s m args below meth c H locs cells slots Q (F0 m pc ls (.int i :: .ref (ad k) :: rest)) := by
  have hlt : i.toNatClampNeg < n := inb_lt hi
  exact W.aald (v := va_rf (some (ad (b + i.toNatClampNeg)))) (ty := .array ty) X.1 X.2.1 (hP k _ (ww_arr hk hd)) ((X.2.2.2.2.2.1.2 k _ (tt_arr hk hd)).1 n (fun j => va_rf (some (ad (b + j))))) rfl (fun q => by cases q) (by show ¬ (i < 0 ∨ (arrV _ _ _).slots.size ≤ _); rw [arrV_size]; exact inb_vp hi) (by show (arrV (cA k) n (fun j => va_rf (some (ad (b + j))))).slots[_]? = _; rw [arrV_read _ _ hlt]) rfl rfl hdg kk
theorem x_len (X : Cx p s m args c cc nL own Ts D d N cA ad E) (hP : va_P D vwCl (ww d N cA ad σ) H) {k : Nat} {q : FieldType × Nat × Nat} {v : Int32} (hk : k < N) (hd : d k = .inr q) (hv : Int32.ofNat q.2.1 = v) (hdg : decode cc pc = .ok (.arraylength, 1))
    (kk : W p l e R s m args below meth c H locs cells slots Q (F0 m (pc + 1) ls (.int v :: rest))) : W p l e R s m args below meth c H locs cells slots Q (F0 m pc ls (.ref (ad k) :: rest)) :=
  va_alen X.1 X.2.1 X.2.2.2.2.2.1 hP k k (ww_arr hk hd) (tt_arr hk hd) (by exact hv) hdg kk
theorem ww_sti {k n b : Nat} {ty : FieldType} {i : Int32} {x : Int32} (hd : d k = .inr (ty, n, b)) (ha : ∀ σ' : St, arw ad σ' k (ty, n, b) = (n, .inl (σ'.1 k))) : (ww d N cA ad σ).set k (ad k, .inl (cA k, n, .inl (upd (σ.1 k) i.toNatClampNeg x))) = ww d N cA ad (si σ k i.toNatClampNeg x) :=
  ww_ai (q := (ty, n, b)) hd (by rw [ha, si_at]) (fun k' h => si_ne h) rfl
theorem x_si (X : Cx p s m args c cc nL own Ts D d N cA ad E) (hP : va_P D vwCl (ww d N cA ad σ) H) (hS : va_S (inA N ad) s.heap H locs) {k n b : Nat} {i x : Int32} (hk : k < N) (hd : d k = .inr (.int, n, b)) (hi : inb i n = true) (hdg : decode cc pc = .ok (.iastore, 1))
    (kk : ∀ (σ1 : St) (_ : σ1 = si σ k i.toNatClampNeg x) (H1 : Heap) (locs1 : List Loc), va_P D vwCl (ww d N cA ad σ1) H1 → va_S (inA N ad) s.heap H1 locs1 → W p l e R s m args below meth c H1 locs1 cells slots Q (F0 m (pc + 1) ls rest)) : W p l e R s m args below meth c H locs cells slots Q (F0 m pc ls (.int x :: .int i :: .ref (ad k) :: rest)) := by
  refine va_iast X.1 X.2.1 X.2.2.2.2.2.1 hP (ww_D X.2.2.2.2.2.2.1) hS k k (ww_arr hk hd) (tt_arr hk hd) (inb_vp hi) hdg (fun H1 locs1 hP1 _ hS1 => kk _ rfl H1 locs1 ?_ hS1)
  rw [ww_sti hd (fun _ => rfl)] at hP1
  exact hP1
theorem x_sb (X : Cx p s m args c cc nL own Ts D d N cA ad E) (hP : va_P D vwCl (ww d N cA ad σ) H) (hS : va_S (inA N ad) s.heap H locs) {k n b : Nat} {i x : Int32} (hk : k < N) (hd : d k = .inr (.byte, n, b)) (hi : inb i n = true) (hdg : decode cc pc = .ok (.bastore, 1))
    (kk : ∀ (σ1 : St) (_ : σ1 = si σ k i.toNatClampNeg (x.toInt8.toInt32)) (H1 : Heap) (locs1 : List Loc), va_P D vwCl (ww d N cA ad σ1) H1 → va_S (inA N ad) s.heap H1 locs1 → W p l e R s m args below meth c H1 locs1 cells slots Q (F0 m (pc + 1) ls rest)) : W p l e R s m args below meth c H locs cells slots Q (F0 m pc ls (.int x :: .int i :: .ref (ad k) :: rest)) := by
  refine va_bast X.1 X.2.1 X.2.2.2.2.2.1 hP (ww_D X.2.2.2.2.2.2.1) hS k k (ww_arr hk hd) (tt_arr hk hd) (inb_vp hi) hdg (fun H1 locs1 hP1 _ hS1 => kk _ rfl H1 locs1 ?_ hS1)
  rw [vp_nar_byte] at hP1
  rw [ww_sti hd (fun _ => rfl)] at hP1
  exact hP1
theorem x_sz (X : Cx p s m args c cc nL own Ts D d N cA ad E) (hP : va_P D vwCl (ww d N cA ad σ) H) (hS : va_S (inA N ad) s.heap H locs) {k n b : Nat} {i x : Int32} (hk : k < N) (hd : d k = .inr (.boolean, n, b)) (hi : inb i n = true) (hb : isb x = true) (hdg : decode cc pc = .ok (.bastore, 1))
    (kk : ∀ (σ1 : St) (_ : σ1 = si σ k i.toNatClampNeg x) (H1 : Heap) (locs1 : List Loc), va_P D vwCl (ww d N cA ad σ1) H1 → va_S (inA N ad) s.heap H1 locs1 → W p l e R s m args below meth c H1 locs1 cells slots Q (F0 m (pc + 1) ls rest)) : W p l e R s m args below meth c H locs cells slots Q (F0 m pc ls (.int x :: .int i :: .ref (ad k) :: rest)) := by
  refine va_zast X.1 X.2.1 X.2.2.2.2.2.1 hP (ww_D X.2.2.2.2.2.2.1) hS k k (ww_arr hk hd) (tt_arr hk hd) (inb_vp hi) hdg (fun H1 locs1 hP1 _ hS1 => kk _ rfl H1 locs1 ?_ hS1)
  rw [isb_vp hb] at hP1
  rw [ww_sti hd (fun _ => rfl)] at hP1
  exact hP1
theorem x_sl (X : Cx p s m args c cc nL own Ts D d N cA ad E) (hP : va_P D vwCl (ww d N cA ad σ) H) (hS : va_S (inA N ad) s.heap H locs) {k n b : Nat} {i : Int32} {x : Int64} (hk : k < N) (hd : d k = .inr (.long, n, b)) (hi : inb i n = true) (hdg : decode cc pc = .ok (.lastore, 1))
    (kk : ∀ (σ1 : St) (_ : σ1 = sl σ k i.toNatClampNeg x) (H1 : Heap) (locs1 : List Loc), va_P D vwCl (ww d N cA ad σ1) H1 → va_S (inA N ad) s.heap H1 locs1 → W p l e R s m args below meth c H1 locs1 cells slots Q (F0 m (pc + 1) ls rest)) : W p l e R s m args below meth c H locs cells slots Q (F0 m pc ls (.long x :: .int i :: .ref (ad k) :: rest)) := by
  refine va_last X.1 X.2.1 X.2.2.2.2.2.1 hP (ww_D X.2.2.2.2.2.2.1) hS k k (ww_arr hk hd) (tt_arr hk hd) (inb_vp hi) hdg (fun H1 locs1 hP1 _ hS1 => kk _ rfl H1 locs1 ?_ hS1)
  have e1 : (ww d N cA ad σ).set k (ad k, .inl (cA k, n, .inr (.inl (vp_updL (σ.2 k) i.toNatClampNeg x)))) = ww d N cA ad (sl σ k i.toNatClampNeg x) := by
    refine ww_set ?_ (fun k' h => cel_cong rfl (sl_ne h))
    unfold cel
    rw [hd]
    show Sum.inl (cA k, n, Sum.inr (Sum.inl ((sl σ k i.toNatClampNeg x).2 k))) = _
    rw [sl_at]
  have hP2 : va_P D vwCl ((ww d N cA ad σ).set k (ad k, .inl (cA k, n, .inr (.inl (vp_updL (σ.2 k) i.toNatClampNeg x))))) H1 := hP1
  rw [e1] at hP2
  exact hP2
theorem x_blind {As : List Value} (hE : EOK N ad E) : FrameBlind (va_Pc As (PrX D d N cA ad E σ)) := fun a U g mk q => by
  obtain ⟨q0, qP, qK, qE⟩ := q
  exact ⟨q0, qP, va_K.moved (u := U) (U := U.calling g mk a) (Vm.Alike.refl U.vm) qK, hE.1 a U g mk qE⟩
theorem x_pre {As : List Value} (X : Cx p s m args c cc nL own Ts D d N cA ad E) (hP : va_P D vwCl (ww d N cA ad σ) H) (hS : va_S (inA N ad) s.heap H locs) : ∀ U : State, U.heap = H → s.WarmedH U.vm → va_Pc As (PrX D d N cA ad E σ) As.toArray U := fun U hU hW => ⟨rfl, by rw [hU]; exact hP, va_K.moved hW.alike X.2.2.2.2.2.1, X.2.2.2.2.2.2.2.2.2 s U H locs X.2.2.2.2.2.2.2.1 hS hW hU⟩
theorem x_recv (X : Cx p s m args c cc nL own Ts D d N cA ad E) (hP : va_P D vwCl (ww d N cA ad σ) H) {k ci Nf : Nat} {ks : List Nat} {C : String} {T : u_T} (hk : k < N) (hd : d k = .inl (ci, ks)) (hc : vwCl[ci]? = some (C, T, Nf)) : ∃ cell : Cell, H[ad k]? = some cell ∧ cell.vm.isStatics = false ∧ s.vm.findClass C = some cell.cls :=
  va_recv X.2.2.2.2.2.1 hP hc (ww_obj hk hd)
theorem x_fix (X : Cx p s m args c cc nL own Ts D d N cA ad E) : CallFix p m c cc nL s args Ts own := ⟨X.1, X.2.1, X.2.2.1, X.2.2.2.1, X.2.2.2.2.1⟩
section CALLS
variable {y : MethodName} {ws ws' : List Cond} {rm : Room} {index maxL k ci Nf : Nat} {bytes : ByteArray} {ret : Option FieldType} {ks : List Nat} {C : String} {T : u_T} {As st0 : List Value}
theorem x_Vi (X : Cx p s m args c cc nL own Ts D d N cA ad E) (hP : va_P D vwCl (ww d N cA ad σ) H) (hS : va_S (inA N ad) s.heap H locs) {res : Int32 × St} (hM : MXi l D d N cA ad E y ws rm (.ref (ad k) :: As) σ res) (hk : k < N) (hd : d k = .inl (ci, ks)) (hc : vwCl[ci]? = some (C, T, Nf)) (n : Nat) (hT : GoodIn Ts (wsV own index C y ws)) (hw : ws = Cond.code y bytes maxL ret :: ws') (hrc : rm.cells = 0) (hrs : rm.slots = 0)
    (hy : y.cls = C ∧ y.cls ≠ "java/lang/invoke/MethodHandle" ∧ y.cls ≠ "java/lang/invoke/VarHandle" ∧ (parseMethodDescriptor y.desc).map (fun d => d.parameters.length) = some n) (hR : rm.frames + 1 ≤ R.frames ∧ 8 + (maxL + 11) + rm.locals ≤ R.locals) (hn : As.length = n) (hsz : ls.size = nL) (hst : st0 = As.reverse ++ .ref (ad k) :: rest) (hW : (rest.map fun v => v.category).sum ≤ 8) (hdg : decode cc pc = .ok (.invokevirtual index, 3)) (hf : cells ≤ R.cells ∧ slots ≤ R.slots)
    (kk : ∀ (H1 : Heap) (locs1 : List Loc), va_P D vwCl (ww d N cA ad res.2) H1 → va_S (inA N ad) s.heap H1 locs1 → W p l e R s m args below meth c H1 locs1 cells slots Q (F0 m (pc + 3) ls (.int res.1 :: rest))) : W p l e R s m args below meth c H locs cells slots Q (F0 m pc ls st0) := by
  refine va_calli (va_runV (As := As) (rest := rest) (x_fix X) hM (cwV n X.2.2.2.2.1 hT hw hrc hrs hy hR) ⟨x_blind X.2.2.2.2.2.2.2.2, x_recv X hP hk hd hc, x_pre X hP hS⟩ rfl hn hsz hst (lv_room hW) hdg hf) hS (fun q _ h => h) (fun q h => h) (fun r u t H1 locs1 ht hvm hw hB hz1 hk1 hS1 => ?_)
  obtain ⟨rfl, rfl⟩ := hw
  rw [ht] at hB
  exact kk H1 locs1 hB hS1
theorem x_Vv (X : Cx p s m args c cc nL own Ts D d N cA ad E) (hP : va_P D vwCl (ww d N cA ad σ) H) (hS : va_S (inA N ad) s.heap H locs) {res : St} (hM : MXv l D d N cA ad E y ws rm (.ref (ad k) :: As) σ res) (hk : k < N) (hd : d k = .inl (ci, ks)) (hc : vwCl[ci]? = some (C, T, Nf)) (n : Nat) (hT : GoodIn Ts (wsV own index C y ws)) (hw : ws = Cond.code y bytes maxL ret :: ws') (hrc : rm.cells = 0) (hrs : rm.slots = 0)
    (hy : y.cls = C ∧ y.cls ≠ "java/lang/invoke/MethodHandle" ∧ y.cls ≠ "java/lang/invoke/VarHandle" ∧ (parseMethodDescriptor y.desc).map (fun d => d.parameters.length) = some n) (hR : rm.frames + 1 ≤ R.frames ∧ 8 + (maxL + 11) + rm.locals ≤ R.locals) (hn : As.length = n) (hsz : ls.size = nL) (hst : st0 = As.reverse ++ .ref (ad k) :: rest) (hW : (rest.map fun v => v.category).sum ≤ 8) (hdg : decode cc pc = .ok (.invokevirtual index, 3)) (hf : cells ≤ R.cells ∧ slots ≤ R.slots)
    (kk : ∀ (H1 : Heap) (locs1 : List Loc), va_P D vwCl (ww d N cA ad res) H1 → va_S (inA N ad) s.heap H1 locs1 → W p l e R s m args below meth c H1 locs1 cells slots Q (F0 m (pc + 3) ls rest)) : W p l e R s m args below meth c H locs cells slots Q (F0 m pc ls st0) := by
  refine va_callv (va_runV (As := As) (rest := rest) (x_fix X) hM (cwV n X.2.2.2.2.1 hT hw hrc hrs hy hR) ⟨x_blind X.2.2.2.2.2.2.2.2, x_recv X hP hk hd hc, x_pre X hP hS⟩ rfl hn hsz hst (lv_room hW) hdg hf) hS (fun q _ h => h) (fun q h => h) (fun u t H1 locs1 ht hvm hw hB hz1 hk1 hS1 => ?_)
  subst hw
  rw [ht] at hB
  exact kk H1 locs1 hB hS1
theorem x_Si (X : Cx p s m args c cc nL own Ts D d N cA ad E) (hP : va_P D vwCl (ww d N cA ad σ) H) (hS : va_S (inA N ad) s.heap H locs) {res : Int32 × St} (hM : MXi l D d N cA ad E y ws rm As σ res) (n : Nat) (hT : GoodIn Ts (va_wsS own index y ws)) (hw : ws = Cond.code y bytes maxL ret :: ws') (hrc : rm.cells = 0) (hrs : rm.slots = 0)
    (hy : y.cls ≠ "java/lang/invoke/MethodHandle" ∧ y.cls ≠ "java/lang/invoke/VarHandle" ∧ (parseMethodDescriptor y.desc).map (fun d => d.parameters.length) = some n) (hR : rm.frames + 1 ≤ R.frames ∧ 8 + (maxL + 11) + rm.locals ≤ R.locals) (hn : As.length = n) (hsz : ls.size = nL) (hst : st0 = As.reverse ++ rest) (hW : (rest.map fun v => v.category).sum ≤ 8) (hdg : decode cc pc = .ok (.invokestatic index, 3)) (hf : cells ≤ R.cells ∧ slots ≤ R.slots)
    (kk : ∀ (H1 : Heap) (locs1 : List Loc), va_P D vwCl (ww d N cA ad res.2) H1 → va_S (inA N ad) s.heap H1 locs1 → W p l e R s m args below meth c H1 locs1 cells slots Q (F0 m (pc + 3) ls (.int res.1 :: rest))) : W p l e R s m args below meth c H locs cells slots Q (F0 m pc ls st0) := by
  refine va_calli (va_runS (As := As) (rest := rest) (x_fix X) hM (va_cwS n X.2.2.2.2.1 hT hw hrc hrs hy hR) ⟨x_blind X.2.2.2.2.2.2.2.2, x_pre X hP hS⟩ rfl hn hsz hst (lv_room hW) hdg hf) hS (fun q _ h => h) (fun q h => h) (fun r u t H1 locs1 ht hvm hw hB hz1 hk1 hS1 => ?_)
  obtain ⟨rfl, rfl⟩ := hw
  rw [ht] at hB
  exact kk H1 locs1 hB hS1
theorem x_Sl (X : Cx p s m args c cc nL own Ts D d N cA ad E) (hP : va_P D vwCl (ww d N cA ad σ) H) (hS : va_S (inA N ad) s.heap H locs) {res : Int64 × St} (hM : MXl l D d N cA ad E y ws rm As σ res) (n : Nat) (hT : GoodIn Ts (va_wsS own index y ws)) (hw : ws = Cond.code y bytes maxL ret :: ws') (hrc : rm.cells = 0) (hrs : rm.slots = 0)
    (hy : y.cls ≠ "java/lang/invoke/MethodHandle" ∧ y.cls ≠ "java/lang/invoke/VarHandle" ∧ (parseMethodDescriptor y.desc).map (fun d => d.parameters.length) = some n) (hR : rm.frames + 1 ≤ R.frames ∧ 8 + (maxL + 11) + rm.locals ≤ R.locals) (hn : As.length = n) (hsz : ls.size = nL) (hst : st0 = As.reverse ++ rest) (hW : (rest.map fun v => v.category).sum ≤ 8) (hdg : decode cc pc = .ok (.invokestatic index, 3)) (hf : cells ≤ R.cells ∧ slots ≤ R.slots)
    (kk : ∀ (H1 : Heap) (locs1 : List Loc), va_P D vwCl (ww d N cA ad res.2) H1 → va_S (inA N ad) s.heap H1 locs1 → W p l e R s m args below meth c H1 locs1 cells slots Q (F0 m (pc + 3) ls (.long res.1 :: rest))) : W p l e R s m args below meth c H locs cells slots Q (F0 m pc ls st0) := by
  refine va_calll (va_runS (As := As) (rest := rest) (x_fix X) hM (va_cwS n X.2.2.2.2.1 hT hw hrc hrs hy hR) ⟨x_blind X.2.2.2.2.2.2.2.2, x_pre X hP hS⟩ rfl hn hsz hst (lv_room hW) hdg hf) hS (fun q _ h => h) (fun q h => h) (fun r u t H1 locs1 ht hvm hw hB hz1 hk1 hS1 => ?_)
  obtain ⟨rfl, rfl⟩ := hw
  rw [ht] at hB
  exact kk H1 locs1 hB hS1
theorem x_Sv (X : Cx p s m args c cc nL own Ts D d N cA ad E) (hP : va_P D vwCl (ww d N cA ad σ) H) (hS : va_S (inA N ad) s.heap H locs) {res : St} (hM : MXv l D d N cA ad E y ws rm As σ res) (n : Nat) (hT : GoodIn Ts (va_wsS own index y ws)) (hw : ws = Cond.code y bytes maxL ret :: ws') (hrc : rm.cells = 0) (hrs : rm.slots = 0)
    (hy : y.cls ≠ "java/lang/invoke/MethodHandle" ∧ y.cls ≠ "java/lang/invoke/VarHandle" ∧ (parseMethodDescriptor y.desc).map (fun d => d.parameters.length) = some n) (hR : rm.frames + 1 ≤ R.frames ∧ 8 + (maxL + 11) + rm.locals ≤ R.locals) (hn : As.length = n) (hsz : ls.size = nL) (hst : st0 = As.reverse ++ rest) (hW : (rest.map fun v => v.category).sum ≤ 8) (hdg : decode cc pc = .ok (.invokestatic index, 3)) (hf : cells ≤ R.cells ∧ slots ≤ R.slots)
    (kk : ∀ (H1 : Heap) (locs1 : List Loc), va_P D vwCl (ww d N cA ad res) H1 → va_S (inA N ad) s.heap H1 locs1 → W p l e R s m args below meth c H1 locs1 cells slots Q (F0 m (pc + 3) ls rest)) : W p l e R s m args below meth c H locs cells slots Q (F0 m pc ls st0) := by
  refine va_callv (va_runS (As := As) (rest := rest) (x_fix X) hM (va_cwS n X.2.2.2.2.1 hT hw hrc hrs hy hR) ⟨x_blind X.2.2.2.2.2.2.2.2, x_pre X hP hS⟩ rfl hn hsz hst (lv_room hW) hdg hf) hS (fun q _ h => h) (fun q h => h) (fun u t H1 locs1 ht hvm hw hB hz1 hk1 hS1 => ?_)
  subst hw
  rw [ht] at hB
  exact kk H1 locs1 hB hS1
/-- a nest mate's private static method -/
theorem x_Ni {host : String} (X : Cx p s m args c cc nL own Ts D d N cA ad E) (hP : va_P D vwCl (ww d N cA ad σ) H) (hS : va_S (inA N ad) s.heap H locs) {res : Int32 × St} (hM : MXi l D d N cA ad E y ws rm As σ res) (n : Nat) (hG : GoodIn Ts ws) (hw : ws = Cond.code y bytes maxL ret :: ws') (hrc : rm.cells = 0) (hrs : rm.slots = 0) (hl : va_Nw (.methodLinkNest own index y host) s) (hini : Cond.initialized y.cls ∈ Ts) (hstt : Cond.static y ∈ Ts)
    (hy : y.cls ≠ "java/lang/invoke/MethodHandle" ∧ y.cls ≠ "java/lang/invoke/VarHandle" ∧ (parseMethodDescriptor y.desc).map (fun d => d.parameters.length) = some n) (hR : rm.frames + 1 ≤ R.frames ∧ 8 + (maxL + 11) + rm.locals ≤ R.locals) (hn : As.length = n) (hsz : ls.size = nL) (hst : st0 = As.reverse ++ rest) (hW : (rest.map fun v => v.category).sum ≤ 8) (hdg : decode cc pc = .ok (.invokestatic index, 3)) (hf : cells ≤ R.cells ∧ slots ≤ R.slots)
    (kk : ∀ (H1 : Heap) (locs1 : List Loc), va_P D vwCl (ww d N cA ad res.2) H1 → va_S (inA N ad) s.heap H1 locs1 → W p l e R s m args below meth c H1 locs1 cells slots Q (F0 m (pc + 3) ls (.int res.1 :: rest))) : W p l e R s m args below meth c H locs cells slots Q (F0 m pc ls st0) := by
  refine va_calli (va_runSN (As := As) (rest := rest) (x_fix X) hM ⟨va_cnB n X.2.2.2.2.1 hG hw hrc hrs hl (X.2.2.2.2.1 _ hini) hy hR, X.2.2.2.2.1 _ hstt, trivial⟩ ⟨x_blind X.2.2.2.2.2.2.2.2, x_pre X hP hS⟩ rfl hn hsz hst (lv_room hW) hdg hf) hS (fun q _ h => h) (fun q h => h) (fun r u t H1 locs1 ht hvm hw hB hz1 hk1 hS1 => ?_)
  obtain ⟨rfl, rfl⟩ := hw
  rw [ht] at hB
  exact kk H1 locs1 hB hS1
end CALLS
theorem x_ri {σ0 : St} {res : Int32 × St} (X : Cx p s m args c cc nL own Ts D d N cA ad E) (hr : meth.sig.returnType = some .int) (hlocks : meth.locks = false) (hP : va_P D vwCl (ww d N cA ad σ) H) (hS : va_S (inA N ad) s.heap H locs) {v : Int32} (h : (v, σ) = res) (hdg : decode cc pc = .ok (.ireturn, 1)) : W p l e R s m args below meth c H locs 0 0 (MQ below (va_Qi (fun r u => r = res.1 ∧ u = res.2) (fun u t => va_P D vwCl (ww d N cA ad u) t.heap) (inA N ad)) args s 0 0 (inA N ad)) (F0 m pc ls [.int v]) := by
  subst h
  exact W.iret (v := v) X.1 X.2.1 hr (fun t ht hW => ⟨⟨v, σ, rfl, ⟨rfl, rfl⟩, by show va_P _ _ _ t.heap; rw [ht]; exact hP⟩, hS.F ht⟩) hS.2.2 hdg
theorem x_rz {ty : FieldType} {res : Int32 × St} (X : Cx p s m args c cc nL own Ts D d N cA ad E) (hr : meth.sig.returnType = some ty) (hlocks : meth.locks = false) (hP : va_P D vwCl (ww d N cA ad σ) H) (hS : va_S (inA N ad) s.heap H locs) {v : Int32} (hn : narrow ty (.int v) = .int v) (h : (v, σ) = res) (hdg : decode cc pc = .ok (.ireturn, 1)) : W p l e R s m args below meth c H locs 0 0 (MQ below (va_Qi (fun r u => r = res.1 ∧ u = res.2) (fun u t => va_P D vwCl (ww d N cA ad u) t.heap) (inA N ad)) args s 0 0 (inA N ad)) (F0 m pc ls [.int v]) := by
  subst h
  exact W.zret (v := v) X.1 X.2.1 hr hn (fun t ht hW => ⟨⟨v, σ, rfl, ⟨rfl, rfl⟩, by show va_P _ _ _ t.heap; rw [ht]; exact hP⟩, hS.F ht⟩) hS.2.2 hdg
theorem x_rl {res : Int64 × St} (X : Cx p s m args c cc nL own Ts D d N cA ad E) (hr : meth.sig.returnType = some .long) (hlocks : meth.locks = false) (hP : va_P D vwCl (ww d N cA ad σ) H) (hS : va_S (inA N ad) s.heap H locs) {v : Int64} (h : (v, σ) = res) (hdg : decode cc pc = .ok (.lreturn, 1)) : W p l e R s m args below meth c H locs 0 0 (MQ below (va_Ql (fun r u => r = res.1 ∧ u = res.2) (fun u t => va_P D vwCl (ww d N cA ad u) t.heap) (inA N ad)) args s 0 0 (inA N ad)) (F0 m pc ls [.long v]) := by
  subst h
  exact W.lret (v := v) X.1 X.2.1 hr (fun t ht hW => ⟨⟨v, σ, rfl, ⟨rfl, rfl⟩, by show va_P _ _ _ t.heap; rw [ht]; exact hP⟩, hS.F ht⟩) hS.2.2 hdg
theorem x_rv {res : St} (X : Cx p s m args c cc nL own Ts D d N cA ad E) (hr : meth.sig.returnType = none) (hlocks : meth.locks = false) (hP : va_P D vwCl (ww d N cA ad σ) H) (hS : va_S (inA N ad) s.heap H locs) (h : σ = res) (hdg : decode cc pc = .ok (.return_, 1)) : W p l e R s m args below meth c H locs 0 0 (MQ below (va_Qv (fun u => u = res) (fun u t => va_P D vwCl (ww d N cA ad u) t.heap) (inA N ad)) args s 0 0 (inA N ad)) (F0 m pc ls []) := by
  subst h
  exact W.vret X.1 X.2.1 hr (fun t ht hW => ⟨⟨σ, rfl, rfl, by show va_P _ _ _ t.heap; rw [ht]; exact hP⟩, hS.F ht⟩) hS.2.2 hdg
end LR
