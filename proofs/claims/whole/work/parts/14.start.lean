set_option maxRecDepth 100000 in
set_option maxHeartbeats 40000000 in
/-- the law from its entry, over a relation that the start has and every call keeps -/
theorem start_open {p : Program} {e : Env} {s : State} {m : MethodId} {below : List Frame} {meth : Method} {c : Code} (l : Launch) {b L : Nat} {xs : Nat → Int32} (hL : L ≤ 3072) (C0 : lw_At p s m meth c b L xs) {Rel : St → St → Prop} {n : Nat} (hR0 : Rel σ0X σ0M)
    (h_spring : ∀ (a1 : Int32) (a2 : Int32) (a3 : Int32) (a4 : Int32) (a5 : Int32), Sim Rel (fun σ => f_10_spring n σ a1 a2 a3 a4 a5) (fun τ => f_11_spring n τ a1 a2 a3 a4 a5))
    (h_bath : ∀ (a1 : Int32) (a2 : Int32) (a3 : Int32), (a3 = 0 ∨ a3 = 1) → Sim Rel (fun σ => f_10_bath n σ a1 a2 a3) (fun τ => f_11_bath n τ a1 a2 a3))
    (h_rate : ∀ (a1 : Int32) (a2 : Int32), Sim Rel (fun σ => f_10_rate n σ a1 a2) (fun τ => f_11_rate n τ a1 a2))
    (h_feed : ∀ (a1 : Int32) (a2 : Int32) (a3 : Int32) (a4 : Int32) (a5 : Int32), Sim Rel (fun σ => f_10_feed n σ a1 a2 a3 a4 a5) (fun τ => f_11_feed n τ a1 a2 a3 a4 a5))
    (h_end : ∀ (a1 : Int32), Sim Rel (fun σ => f_10_end n σ a1) (fun τ => f_11_end n τ a1))
    (h_load :  Sim Rel (fun σ => f_10_load n σ ) (fun τ => f_11_load n τ ))
    (h_fault : ∀ (a1 : Int32), Sim Rel (fun σ => f_10_fault n σ a1) (fun τ => f_11_fault n τ a1))
    (h_guest : ∀ (a1 : Int32) (a2 : Int32) (a3 : Int32) (a4 : Int32) (a5 : Int32), Sim Rel (fun σ => f_10_guest n σ a1 a2 a3 a4 a5) (fun τ => f_11_guest n τ a1 a2 a3 a4 a5))
    (h_leave : ∀ (a1 : Int32) (a2 : Int32), Sim Rel (fun σ => f_10_leave n σ a1 a2) (fun τ => f_11_leave n τ a1 a2))
    (h_look : ∀ (a1 : Int32), Sim Rel (fun σ => f_10_look n σ a1) (fun τ => f_11_look n τ a1))
    (h_plan : ∀ (a1 : Int32) (a2 : Int32) (a3 : Int32), Sim Rel (fun σ => f_10_plan n σ a1 a2 a3) (fun τ => f_11_plan n τ a1 a2 a3))
    (h_taken : ∀ (a1 : Int32) (a2 : Int32) (a3 : Int32), Sim Rel (fun σ => f_10_taken n σ a1 a2 a3) (fun τ => f_11_taken n τ a1 a2 a3))
    (h_best : ∀ (a1 : Int32) (a2 : Int32), Sim Rel (fun σ => f_10_best n σ a1 a2) (fun τ => f_11_best n τ a1 a2))
    (h_keep : ∀ (a1 : Int32), (a1 = 0 ∨ a1 = 1) → Sim Rel (fun σ => f_10_keep n σ a1) (fun τ => f_11_keep n τ a1))
    (h_next :  Sim Rel (fun σ => f_10_next n σ ) (fun τ => f_11_next n τ ))
    (h_water : ∀ (a1 : Int32) (a2 : Int32), Sim Rel (fun σ => f_10_water n σ a1 a2) (fun τ => f_11_water n τ a1 a2))
    (h_bottles : ∀ (a1 : Int32) (a2 : Int32), Sim Rel (fun σ => f_10_bottles n σ a1 a2) (fun τ => f_11_bottles n τ a1 a2))
    (h_sell : ∀ (a1 : Int32), Sim Rel (fun σ => f_10_sell n σ a1) (fun τ => f_11_sell n τ a1))
    (h_bill : ∀ (a1 : Int32) (a2 : Int32), Sim Rel (fun σ => f_10_bill n σ a1 a2) (fun τ => f_11_bill n τ a1 a2)) : W p l e room_1 s m #[Value.ref b] below meth c s.heap [] 0 0 (lw_Z below #[Value.ref b] s) (entryFrame m ([Value.ref b] : List Value).toArray 4) := by
  obtain ⟨hx, hb, hr, hml, hown, hts, hX, hbl, hlocks, hgv⟩ := id C0
  have hEC : EC s := env_EC hts
  obtain ⟨D, hK⟩ := env_K hts
  have hA : ∀ q : Nat, s.heap.size ≤ q → (fun q : Nat => s.heap.size ≤ q) q := fun _ h => h
  have hS : va_S (fun q : Nat => s.heap.size ≤ q) s.heap s.heap [] := va_S.rf
  have hP : va_P D vwCl [] s.heap := fun k q h => by simp at h
  have hD : va_D (fun q : Nat => s.heap.size ≤ q) [] := ⟨fun i j p q h => by simp at h, fun k q h => by simp at h⟩
  have in10 := in_wsX100
  have in11 := in_wsX110
  have hl := lv_entry ([.ref b]) (n := 4) (Nat.le_of_ble_eq_true rfl)
  rw [lg_entry_eq]
  generalize (lg_sl ([.ref b]) ++ List.replicate (4 - (lg_sl ([.ref b])).length) Slot.unset).toArray = ls at hl ⊢
  have hl : lv_has ls 4 [(0, .ref b)] := hl
  refine va_new (ci := 10) (fs := [.null, .null, .null, .int 0, .int 0, .int 0, .int 0]) (C := RX10) (T := TX10) (N := 7) hx hb hts in10 tyX10 tyX10_ok hown (hts _ (List.mem_of_getElem? (i := 70) (by decide +kernel))) (hts _ (List.mem_of_getElem? (i := 71) (by decide +kernel))) (hts _ (List.mem_of_getElem? (i := 51) (by decide +kernel))) hK hP hD hS hA rfl df_X10 (Nat.le_of_ble_eq_true rfl) (Nat.le_of_ble_eq_true rfl) dL_law_0 (fun q0 H hP hD hS => ?_)
  have hP : va_P D vwCl [(q0, .inr (10, [.null, .null, .null, .int 0, .int 0, .int 0, .int 0]))] H := hP
  have hD : va_D (fun q : Nat => s.heap.size ≤ q) [(q0, .inr (10, [.null, .null, .null, .int 0, .int 0, .int 0, .int 0]))] := hD
  refine W.widen (k := 1) (n := 7) (by omega) (by omega) ?_
  refine lv_dup hx hb dL_law_3 rfl ?_
  have hPc := hP
  have hDc := hD
  have hFc := va_free (wc := [(q0, .inr (10, [.null, .null, .null, .int 0, .int 0, .int 0, .int 0]))]) hD hS hA [0] rfl
  refine va_callv (va_runI (As := []) (rest := [.ref q0]) ⟨hx, hb, hml, hown, hts⟩ (q_10_init l D q0 H.size) (cwI 0 hts hT_X10_init rfl rfl rfl (hts _ (List.mem_of_getElem? (i := 51) (by decide +kernel))) (hts _ (List.mem_of_getElem? (i := 72) (by decide +kernel))) (hts _ (List.mem_of_getElem? (i := 73) (by decide +kernel))) rfl (by decide +kernel) ⟨Nat.le_of_ble_eq_true rfl, Nat.le_of_ble_eq_true rfl⟩) ⟨fun a U g mk q => by obtain ⟨q0, q1, qP, qK, qD, qE⟩ := q; exact ⟨q0, q1, qP, va_K.moved (u := U) (U := U.calling g mk a) (Vm.Alike.refl U.vm) qK, qD, EC_call qE⟩, fun U hU hW => ⟨rfl, by rw [hU], by rw [hU]; exact hPc, va_K.moved hW.alike hK, hDc.weaken (fun _ _ _ _ => trivial), EC_warm hW hEC⟩⟩ rfl rfl hl.1 rfl (lv_room (Nat.le_of_ble_eq_true rfl)) dL_law_4 ⟨Nat.le_of_ble_eq_true rfl, Nat.le_of_ble_eq_true rfl⟩) hS (fun q _ h => hFc q h) hFc (fun _ t H1 locs ht hvm _ hB hz1 hk1 hS => ?_)
  obtain ⟨qs, cs, hP1, hK1, hD1⟩ := hB
  rw [ht] at hP1
  have hK1 := va_K.moved hvm.symm hK1
  obtain ⟨ad, cA, had0, hjX, hPX, hKX, hadA⟩ := stX hP1 hK1 hD1
  have hadX : ∀ k, k < 120 → s.heap.size ≤ ad k := fun k hk => hFc _ (hadA k hk)
  clear hP1 hD1 hK1 hP hD hPc hDc hadA hFc hk1 hz1 ht hvm
  generalize H1 = H at hPX hS ⊢
  refine W.widen (k := 120) (n := 3245) (by omega) (by omega) ?_
  subst had0
  refine lv_astore_n (lv' := [(1, .ref (ad 0)), (0, .ref b)]) hx hb dL_law_7 rfl hl (by decide) rfl (fun ls hl => ?_)
  have hDX : va_D (fun q : Nat => s.heap.size ≤ q) (ww dX 120 cA ad σ0X) := (ww_D hjX).weaken (fun k q hq _ => by obtain ⟨hk, rfl⟩ := ww_lt hq; exact hadX k hk)
  refine va_new (ci := 11) (fs := [.int 0, .int 0, .int 0, .null, .null, .null, .null, .null, .null, .null, .null, .null, .null, .null, .null, .null, .int 0, .null, .int 0, .int 0, .int 0, .int 0, .int 0, .int 0, .int 0, .int 0, .int 0, .long 0, .int 0, .null, .null, .null, .null, .null, .null, .null, .null, .null, .null, .null, .null, .null, .null, .null, .null, .null, .null, .null, .null, .int 0, .null, .int 0, .int 0, .int 0, .null, .null, .null, .null, .null, .int 0, .int 0]) (C := RX11) (T := TX11) (N := 61) hx hb hts in11 tyX11 tyX11_ok hown (hts _ (List.mem_of_getElem? (i := 866) (by decide +kernel))) (hts _ (List.mem_of_getElem? (i := 867) (by decide +kernel))) (hts _ (List.mem_of_getElem? (i := 62) (by decide +kernel))) hK hPX hDX hS hA rfl df_X11 (Nat.le_of_ble_eq_true rfl) (Nat.le_of_ble_eq_true rfl) dL_law_8 (fun q1 H hPN hDN hS => ?_)
  have hlen : (ww dX 120 cA ad σ0X).length = 120 := by simp [ww]
  have hPX : va_P D vwCl (ww dX 120 cA ad σ0X) H := fun k q hq => hPN k q (by rw [List.getElem?_append_left (List.getElem?_eq_some_iff.mp hq).1]; exact hq)
  have hq1 : (ww dX 120 cA ad σ0X ++ [(q1, .inr (11, [.int 0, .int 0, .int 0, .null, .null, .null, .null, .null, .null, .null, .null, .null, .null, .null, .null, .null, .int 0, .null, .int 0, .int 0, .int 0, .int 0, .int 0, .int 0, .int 0, .int 0, .int 0, .long 0, .int 0, .null, .null, .null, .null, .null, .null, .null, .null, .null, .null, .null, .null, .null, .null, .null, .null, .null, .null, .null, .null, .int 0, .null, .int 0, .int 0, .int 0, .null, .null, .null, .null, .null, .int 0, .int 0]))])[120]? = some (q1, .inr (11, [.int 0, .int 0, .int 0, .null, .null, .null, .null, .null, .null, .null, .null, .null, .null, .null, .null, .null, .int 0, .null, .int 0, .int 0, .int 0, .int 0, .int 0, .int 0, .int 0, .int 0, .int 0, .long 0, .int 0, .null, .null, .null, .null, .null, .null, .null, .null, .null, .null, .null, .null, .null, .null, .null, .null, .null, .null, .null, .null, .int 0, .null, .int 0, .int 0, .int 0, .null, .null, .null, .null, .null, .int 0, .int 0])) := by
    rw [List.getElem?_append_right (by rw [hlen]; omega), hlen]; rfl
  have hPc : va_P D vwCl [(q1, .inr (11, [.int 0, .int 0, .int 0, .null, .null, .null, .null, .null, .null, .null, .null, .null, .null, .null, .null, .null, .int 0, .null, .int 0, .int 0, .int 0, .int 0, .int 0, .int 0, .int 0, .int 0, .int 0, .long 0, .int 0, .null, .null, .null, .null, .null, .null, .null, .null, .null, .null, .null, .null, .null, .null, .null, .null, .null, .null, .null, .null, .int 0, .null, .int 0, .int 0, .int 0, .null, .null, .null, .null, .null, .int 0, .int 0]))] H := fun k q hq => by
    match k, hq with
    | 0, hq => cases hq; exact hPN 120 _ hq1
    | k + 1, hq => simp at hq
  have hDc : va_D (fun q : Nat => s.heap.size ≤ q) [(q1, .inr (11, [.int 0, .int 0, .int 0, .null, .null, .null, .null, .null, .null, .null, .null, .null, .null, .null, .null, .null, .int 0, .null, .int 0, .int 0, .int 0, .int 0, .int 0, .int 0, .int 0, .int 0, .int 0, .long 0, .int 0, .null, .null, .null, .null, .null, .null, .null, .null, .null, .null, .null, .null, .null, .null, .null, .null, .null, .null, .null, .null, .int 0, .null, .int 0, .int 0, .int 0, .null, .null, .null, .null, .null, .int 0, .int 0]))] := ⟨fun i j x y h1 h2 _ => by
    have h3 : i < 1 := (List.getElem?_eq_some_iff.mp h1).1
    have h4 : j < 1 := (List.getElem?_eq_some_iff.mp h2).1
    omega, fun k q hq => by
    match k, hq with
    | 0, hq => cases hq; exact hDN.2 120 _ hq1
    | k + 1, hq => simp at hq⟩
  have hne : ∀ i, i < 120 → ad i ≠ q1 := fun i hi h => by
    have h1 : (ww dX 120 cA ad σ0X ++ [(q1, .inr (11, [.int 0, .int 0, .int 0, .null, .null, .null, .null, .null, .null, .null, .null, .null, .null, .null, .null, .null, .int 0, .null, .int 0, .int 0, .int 0, .int 0, .int 0, .int 0, .int 0, .int 0, .int 0, .long 0, .int 0, .null, .null, .null, .null, .null, .null, .null, .null, .null, .null, .null, .null, .null, .null, .null, .null, .null, .null, .null, .null, .int 0, .null, .int 0, .int 0, .int 0, .null, .null, .null, .null, .null, .int 0, .int 0]))])[i]? = some (ad i, cel dX cA ad σ0X i) := by
      rw [List.getElem?_append_left (by rw [hlen]; exact hi)]; exact ww_at hi
    have := hDN.1 i 120 _ _ h1 hq1 h
    omega
  have hlt : ∀ i, i < 120 → ad i < H.size := fun i hi => (hPX i _ (ww_at hi)).lt
  have hq1s : s.heap.size ≤ q1 := hDN.2 120 _ hq1
  refine W.widen (k := 121) (n := 3306) (by omega) (by omega) ?_
  refine lv_dup hx hb dL_law_11 rfl ?_
  have hFc : ∀ q, va_A [(q1, .inr (11, [.int 0, .int 0, .int 0, .null, .null, .null, .null, .null, .null, .null, .null, .null, .null, .null, .null, .null, .int 0, .null, .int 0, .int 0, .int 0, .int 0, .int 0, .int 0, .int 0, .int 0, .int 0, .long 0, .int 0, .null, .null, .null, .null, .null, .null, .null, .null, .null, .null, .null, .null, .null, .null, .null, .null, .null, .null, .null, .null, .int 0, .null, .int 0, .int 0, .int 0, .null, .null, .null, .null, .null, .int 0, .int 0]))] H.size q → s.heap.size ≤ q := fun q h => by
    rcases h with ⟨k, e9, h⟩ | h
    · exact hDc.2 k _ h
    · exact Nat.le_trans hS.1 h
  refine va_callv (va_runI (As := []) (rest := [.ref q1]) ⟨hx, hb, hml, hown, hts⟩ (q_11_init l D q1 H.size) (cwI 0 hts hT_X11_init rfl rfl rfl (hts _ (List.mem_of_getElem? (i := 62) (by decide +kernel))) (hts _ (List.mem_of_getElem? (i := 868) (by decide +kernel))) (hts _ (List.mem_of_getElem? (i := 869) (by decide +kernel))) rfl (by decide +kernel) ⟨Nat.le_of_ble_eq_true rfl, Nat.le_of_ble_eq_true rfl⟩) ⟨fun a U g mk q => by obtain ⟨q0, q1, qP, qK, qD, qE⟩ := q; exact ⟨q0, q1, qP, va_K.moved (u := U) (U := U.calling g mk a) (Vm.Alike.refl U.vm) qK, qD, EC_call qE⟩, fun U hU hW => ⟨rfl, by rw [hU], by rw [hU]; exact hPc, va_K.moved hW.alike hK, hDc.weaken (fun _ _ _ _ => trivial), EC_warm hW hEC⟩⟩ rfl rfl hl.1 rfl (lv_room (Nat.le_of_ble_eq_true rfl)) dL_law_12 ⟨Nat.le_of_ble_eq_true rfl, Nat.le_of_ble_eq_true rfl⟩) hS (fun q _ h => hFc q h) hFc (fun _ t H1 locs ht hvm _ hB hz1 hk1 hS => ?_)
  obtain ⟨qs, cs, hP1, hK1, hD1⟩ := hB
  rw [ht] at hP1
  have hK1 := va_K.moved hvm.symm hK1
  obtain ⟨bd, cB, hbd0, hjM, hPM, hKM, hbdA⟩ := stM hP1 hK1 hD1
  have hone : ∀ (k : Nat) (e9 : va_E) (q : Nat), ([(q1, .inr (11, [.int 0, .int 0, .int 0, .null, .null, .null, .null, .null, .null, .null, .null, .null, .null, .null, .null, .null, .int 0, .null, .int 0, .int 0, .int 0, .int 0, .int 0, .int 0, .int 0, .int 0, .int 0, .long 0, .int 0, .null, .null, .null, .null, .null, .null, .null, .null, .null, .null, .null, .null, .null, .null, .null, .null, .null, .null, .null, .null, .int 0, .null, .int 0, .int 0, .int 0, .null, .null, .null, .null, .null, .int 0, .int 0]))] : va_W)[k]? = some (q, e9) → q = q1 := fun k e9 q hq => by
    match k, hq with
    | 0, hq => cases hq; rfl
    | k + 1, hq => simp at hq
  have hbdX : ∀ k, k < 41 → s.heap.size ≤ bd k := fun k hk => hFc _ (hbdA k hk)
  have hdis : ∀ i, i < 120 → ∀ j, j < 41 → ad i ≠ bd j := fun i hi j hj h => by
    rcases hbdA j hj with ⟨k, e9, h9⟩ | h9
    · exact hne i hi (h.trans (hone k e9 _ h9))
    · have := hlt i hi
      omega
  have hPX : va_P D vwCl (ww dX 120 cA ad σ0X) H1 := hPX.kept (fun k q hq => by
    obtain ⟨hk, rfl⟩ := ww_lt hq
    refine hk1 _ (hlt k hk) (fun h => ?_)
    rcases h with ⟨k9, e9, h9⟩ | h9
    · exact hne k hk (hone k9 e9 _ h9)
    · have h8 := hlt k hk
      exact absurd h9 (Nat.not_le.mpr h8))
  obtain ⟨z, hEX⟩ := env_EX (ad := ad) hts hgv hadX
  refine W.widen (k := 161) (n := 7151) (Nat.le_of_ble_eq_true rfl) (Nat.le_of_ble_eq_true rfl) ?_
  clear hPN hDN hlen hq1 hPc hDc hone hne hlt hFc hk1 hz1 hq1s hP1 hD1 hbdA
  subst hbd0
  refine lv_astore_n (lv' := [(2, .ref (bd 0)), (1, .ref (ad 0)), (0, .ref b)]) hx hb dL_law_15 rfl hl (by decide) rfl (fun ls hl => ?_)
  refine lv_iconst (v := nI 0) hx hb dL_law_16 (by decide) ?_
  refine lv_istore_n (lv' := [(3, .int (nI 0)), (2, .ref (bd 0)), (1, .ref (ad 0)), (0, .ref b)]) hx hb dL_law_17 rfl hl (by decide) rfl (fun ls hl => ?_)
  exact law_loop (D := D) (cA := cA) (cB := cB) (ad := ad) (bd := bd) (z := z) (Rel := Rel) (n := n) ⟨hx, hb, hml, hown, hts, hKX, hKM, hjX, hjM, hEX, hadX, hbdX, hdis⟩ hX hbl hL hr hlocks h_spring h_bath h_rate h_feed h_end h_load h_fault h_guest h_leave h_look h_plan h_taken h_best h_keep h_next h_water h_bottles h_sell h_bill (L + 1) 0 (Nat.zero_le L) (by omega) σ0X σ0M H1 locs ls hR0 hPX hPM hS (lv_sub hl [3, 2, 1, 0] rfl)
