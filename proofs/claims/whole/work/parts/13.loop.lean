/-! THE CLAIM OUT OF ONE WALK OF THE LAW'S BODY. Your part is whole_start (and what it stands on); all else here is the same for every law, but numbers. -/
def R_law : String := "CureTownLaw"
def lw_P (b : Addr) (xs : List Int32) (args : Array Value) (s : State) : Prop := args = #[.ref b] ∧ s.IntsAt b xs ∧ xs.length ≤ 3072 ∧ (Jvm.Cond.and given_1 narrow_1).before args s = true
def lw_Q (_ : Array Value) (s : State) (o : Outcome) (t : State) : Prop := o = .returned (some (.int 1)) ∧ Framed s o t [] 600000 7302250
def lw_Z (below : List Frame) (a : Array Value) (s : State) : State → Prop := fun t => ∃ o, t.status = .running ∧ Ended t below o ∧ lw_Q a s o t
/-- the law's own end, with 1 on the stack, nothing written that was there before, its room as the claim has it -/
theorem lw_ret {p : Program} {l : Launch} {e : Env} {s : State} {m : MethodId} {below : List Frame} {meth : Method} {c : Code} {b : Nat} (hx : p.tables.exec = Jvm.exec) (hb : c.code = code) (hr : meth.sig.returnType = ret) (hlocks : meth.locks = false) {pc : Nat} {H : Heap} {ls : Array Slot} (hdg : decode code pc = .ok (.ireturn, 1)) : W p l e room_1 s m #[Value.ref b] below meth c H [] 600000 7302250 (lw_Z below #[Value.ref b] s) (F0 m pc ls [.int 1]) := by
  intro T hT X
  obtain ⟨fs, hret, hrun, hended, hW, hframe⟩ := X.leave (v := some (.int 1)) (hlocks := hlocks) (fun h => by rw [hr] at h; cases h)
  have hmeth' : T.vm.method? m = some meth := X.method'
  refine ⟨T.setFrames fs, ?_, .returned (some (.int 1)), hrun, hended, rfl, ⟨_, rfl⟩, hW, hframe⟩
  jvm_step X.here [X.here.top, hx, hb, hdg, hmeth', hr, ret, narrow_b1]
  (try refine ⟨rfl, ?_⟩); (try refine ⟨rfl, ?_⟩)
  first | (intro acts; rw [hret _ acts rfl rfl rfl]) | rw [hret _ _ rfl rfl rfl]
  exact Steps.refl _
/-- what holds at the law's entry: the machine, the code, the tables' words (any of lw_tbl by 'hts w (by decide +kernel)'), the script of L ints xs at the cell b, what the Statement gives of the start (any of its parts by flat_of_before) -/
def lw_At (p : Program) (s : State) (m : MethodId) (meth : Method) (c : Code) (b L : Nat) (xs : Nat → Int32) : Prop :=
  p.tables.exec = Jvm.exec ∧ c.code = code ∧ meth.sig.returnType = ret ∧ c.maxLocals = 4 ∧ s.vm.findClass R_law = some m.cls ∧ (∀ w ∈ lw_tbl, w.before #[Value.ref b] s = true) ∧ va_X b L xs s s.heap ∧ b < s.heap.size ∧ meth.locks = false ∧ (Jvm.Cond.and given_1 narrow_1).before #[Value.ref b] s = true
set_option maxRecDepth 100000 in
set_option maxHeartbeats 4000000 in
theorem law_loop {p : Program} {l : Launch} {e : Env} {s : State} {m : MethodId} {below : List Frame} {meth : Method} {c : Code} {b : Nat} {D : va_G} {cA cB : Nat → ClassId} {ad bd : Nat → Nat} {z : ZX} {Rel : St → St → Prop} {n L : Nat} {xs : Nat → Int32} (C : Lc p s m c b D cA ad z cB bd) (hX : va_X b L xs s s.heap) (hbl : b < s.heap.size) (hL : L ≤ 3072) (hr : meth.sig.returnType = ret) (hlocks : meth.locks = false)
    (h_spring : ∀ (a1 : Int32) (a2 : Int32) (a3 : Int32) (a4 : Int32) (a5 : Int32), Sim Rel (fun σ => f_10_spring n σ a1 a2 a3 a4 a5) (fun τ => f_11_spring n τ a1 a2 a3 a4 a5))
    (h_bath : ∀ (a1 : Int32) (a2 : Int32) (a3 : Int32), (a3 = 0 ∨ a3 = 1) → Sim Rel (fun σ => f_10_bath n σ a1 a2 a3) (fun τ => f_11_bath n τ a1 a2 a3))
    (h_rate : ∀ (a1 : Int32) (a2 : Int32), Sim Rel (fun σ => f_10_rate n σ a1 a2) (fun τ => f_11_rate n τ a1 a2))
    (h_feed : ∀ (a1 : Int32) (a2 : Int32) (a3 : Int32) (a4 : Int32) (a5 : Int32), Sim Rel (fun σ => f_10_feed n σ a1 a2 a3 a4 a5) (fun τ => f_11_feed n τ a1 a2 a3 a4 a5))
    (h_end : ∀ (a1 : Int32), Sim Rel (fun σ => f_10_end n σ a1) (fun τ => f_11_end n τ a1))
    (h_load :  Sim Rel (fun σ => f_10_load n σ ) (fun τ => f_11_load n τ ))
    (h_fault : ∀ (a1 : Int32), Sim Rel (fun σ => f_10_fault n σ a1) (fun τ => f_11_fault n τ a1))
    (h_guest : ∀ (a1 : Int32) (a2 : Int32) (a3 : Int32) (a4 : Int32) (a5 : Int32), Sim Rel (fun σ => f_10_guest n σ a1 a2 a3 a4 a5) (fun τ => f_11_guest n τ a1 a2 a3 a4 a5))
    (h_leave : ∀ (a1 : Int32) (a2 : Int32), Sim Rel (fun σ => f_10_leave n σ a1 a2) (fun τ => f_11_leave n τ a1 a2))
    (h_look : ∀ (a1 : Int32), Sim Rel (fun σ => f_10_look n σ a1) (fun τ => f_11_look n τ a1))
    (h_plan : ∀ (a1 : Int32) (a2 : Int32) (a3 : Int32), Sim Rel (fun σ => f_10_plan n σ a1 a2 a3) (fun τ => f_11_plan n τ a1 a2 a3))
    (h_taken : ∀ (a1 : Int32) (a2 : Int32) (a3 : Int32), Sim Rel (fun σ => f_10_taken n σ a1 a2 a3) (fun τ => f_11_taken n τ a1 a2 a3))
    (h_best : ∀ (a1 : Int32) (a2 : Int32), Sim Rel (fun σ => f_10_best n σ a1 a2) (fun τ => f_11_best n τ a1 a2))
    (h_keep : ∀ (a1 : Int32), (a1 = 0 ∨ a1 = 1) → Sim Rel (fun σ => f_10_keep n σ a1) (fun τ => f_11_keep n τ a1))
    (h_next :  Sim Rel (fun σ => f_10_next n σ ) (fun τ => f_11_next n τ ))
    (h_water : ∀ (a1 : Int32) (a2 : Int32), Sim Rel (fun σ => f_10_water n σ a1 a2) (fun τ => f_11_water n τ a1 a2))
    (h_bottles : ∀ (a1 : Int32) (a2 : Int32), Sim Rel (fun σ => f_10_bottles n σ a1 a2) (fun τ => f_11_bottles n τ a1 a2))
    (h_sell : ∀ (a1 : Int32), Sim Rel (fun σ => f_10_sell n σ a1) (fun τ => f_11_sell n τ a1))
    (h_bill : ∀ (a1 : Int32) (a2 : Int32), Sim Rel (fun σ => f_10_bill n σ a1 a2) (fun τ => f_11_bill n τ a1 a2)) :
    ∀ (k i : Nat), i ≤ L → L + 1 ≤ i + k → ∀ (σ τ : St) (H : Heap) (locs : List Loc) (ls : Array Slot), Rel σ τ → va_P D vwCl (ww dX 120 cA ad σ) H → va_P D vwCl (ww dM 41 cB bd τ) H → va_S (fun q : Nat => s.heap.size ≤ q) s.heap H locs → lv_has ls 4 [(0, .ref b), (1, .ref (ad 0)), (2, .ref (bd 0)), (3, .int (nI i))] → W p l e room_1 s m #[Value.ref b] below meth c H locs 161 7151 (lw_Z below #[Value.ref b] s) (F0 m 18 ls []) := by
  have hx := C.1
  have hb := C.2.1
  have hbA : ¬ (fun q : Nat => s.heap.size ≤ q) b := Nat.not_le.mpr hbl
  intro k
  induction k with
  | zero => intro i h1 h2; exact absurd h2 (by omega)
  | succ k ih =>
    intro i hiL hik σ τ H locs ls hRel hPX hPM hS hl
    refine lv_iload_n hx hb dL_law_18 rfl (lv_at hl 3 rfl) ?_
    refine lv_aload_n hx hb dL_law_19 rfl (lv_at hl 0 rfl) ?_
    refine va_slen hx hb hX hbl hbA hS dL_law_20 ?_
    refine lv_bipush (v := 6) hx hb dL_law_21 (by decide) ?_
    refine lv_isub hx hb dL_law_23 ?_
    refine lv_icmp_gt (tgt := 819) hx hb dL_law_24 (by decide) (fun c1 => ?_) (fun c1 => ?_)
    · refine lv_iconst (v := 1) hx hb dL_law_819 (by decide) ?_
      refine va_forget (fun q hq => hS.2.2 q hq) ?_
      refine W.widen (k := 600000) (n := 7302250) (by decide) (by decide) ?_
      exact lw_ret hx hb hr hlocks dL_law_820
    · have hi : i + 6 ≤ L := by
        rcases Nat.lt_or_ge L (i + 6) with q | q
        · refine absurd (Int32.lt_iff_toInt_lt.mpr ?_) c1
          show (nI L - nI 6).toInt < (nI i).toInt
          rw [pk_sub_toInt (by omega) (by omega), nI_toInt (by omega)]
          omega
        · exact q
      have hnext : ∀ (σ' τ' : St) (H : Heap) (locs : List Loc) (ls : Array Slot), Rel σ' τ' → va_P D vwCl (ww dX 120 cA ad σ') H → va_P D vwCl (ww dM 41 cB bd τ') H → va_S (fun q : Nat => s.heap.size ≤ q) s.heap H locs → lv_has ls 4 [(0, .ref b), (1, .ref (ad 0)), (2, .ref (bd 0)), (3, .int (nI i))] → W p l e room_1 s m #[Value.ref b] below meth c H locs 161 7151 (lw_Z below #[Value.ref b] s) (F0 m 813 ls []) := by
        intro σ' τ' H locs ls hR hPX hPM hS hl
        refine lv_iinc (v := nI (i + 6)) (lv' := [(3, .int (nI (i + 6))), (0, .ref b), (1, .ref (ad 0)), (2, .ref (bd 0))]) hx hb dL_law_813 hl (k := 3) rfl (nI_add i 6) (by decide) rfl (fun ls hl => ?_)
        refine lv_goto (tgt := 18) hx hb dL_law_816 (by decide) ?_
        exact ih (i + 6) hi (by omega) σ' τ' H locs ls hR hPX hPM hS (lv_sub hl [1, 2, 3, 0] rfl)
      refine lv_aload_n hx hb dL_law_27 rfl (lv_at hl 0 rfl) ?_
      refine lv_iload_n hx hb dL_law_28 rfl (lv_at hl 3 rfl) ?_
      refine va_sld hx hb hX hbl hbA hS (vp_in_nI (by omega) (by omega)) dL_law_29 ?_
      refine lv_bipush (v := 31) hx hb dL_law_30 (by decide) ?_
      refine lv_iand hx hb dL_law_32 ?_
      refine lv_topi (fun v ev => ?_)
      by_cases c_0 : v = 0
      · refine lv_tableIn (off := 91) (tgt := 124) hx hb dL_law_33 (by rw [c_0]; decide) (by rw [c_0]; decide) (by rw [c_0]; rfl) (by decide) ?_
        exact lc_spring C hX hbl hL hi h_spring hRel hPX hPM hS hl hnext
      by_cases c_1 : v = 1
      · refine lv_tableIn (off := 154) (tgt := 187) hx hb dL_law_33 (by rw [c_1]; decide) (by rw [c_1]; decide) (by rw [c_1]; rfl) (by decide) ?_
        exact lc_bath C hX hbl hL hi h_bath hRel hPX hPM hS hl hnext
      by_cases c_2 : v = 2
      · refine lv_tableIn (off := 213) (tgt := 246) hx hb dL_law_33 (by rw [c_2]; decide) (by rw [c_2]; decide) (by rw [c_2]; rfl) (by decide) ?_
        exact lc_rate C hX hbl hL hi h_rate hRel hPX hPM hS hl hnext
      by_cases c_3 : v = 3
      · refine lv_tableIn (off := 246) (tgt := 279) hx hb dL_law_33 (by rw [c_3]; decide) (by rw [c_3]; decide) (by rw [c_3]; rfl) (by decide) ?_
        exact lc_feed C hX hbl hL hi h_feed hRel hPX hPM hS hl hnext
      by_cases c_4 : v = 4
      · refine lv_tableIn (off := 309) (tgt := 342) hx hb dL_law_33 (by rw [c_4]; decide) (by rw [c_4]; decide) (by rw [c_4]; rfl) (by decide) ?_
        exact lc_end C hX hbl hL hi h_end hRel hPX hPM hS hl hnext
      by_cases c_5 : v = 5
      · refine lv_tableIn (off := 332) (tgt := 365) hx hb dL_law_33 (by rw [c_5]; decide) (by rw [c_5]; decide) (by rw [c_5]; rfl) (by decide) ?_
        exact lc_load C hX hbl hL hi h_load hRel hPX hPM hS hl hnext
      by_cases c_6 : v = 6
      · refine lv_tableIn (off := 345) (tgt := 378) hx hb dL_law_33 (by rw [c_6]; decide) (by rw [c_6]; decide) (by rw [c_6]; rfl) (by decide) ?_
        exact lc_fault C hX hbl hL hi h_fault hRel hPX hPM hS hl hnext
      by_cases c_7 : v = 7
      · refine lv_tableIn (off := 368) (tgt := 401) hx hb dL_law_33 (by rw [c_7]; decide) (by rw [c_7]; decide) (by rw [c_7]; rfl) (by decide) ?_
        exact lc_guest C hX hbl hL hi h_guest hRel hPX hPM hS hl hnext
      by_cases c_8 : v = 8
      · refine lv_tableIn (off := 431) (tgt := 464) hx hb dL_law_33 (by rw [c_8]; decide) (by rw [c_8]; decide) (by rw [c_8]; rfl) (by decide) ?_
        exact lc_leave C hX hbl hL hi h_leave hRel hPX hPM hS hl hnext
      by_cases c_9 : v = 9
      · refine lv_tableIn (off := 464) (tgt := 497) hx hb dL_law_33 (by rw [c_9]; decide) (by rw [c_9]; decide) (by rw [c_9]; rfl) (by decide) ?_
        exact lc_look C hX hbl hL hi h_look hRel hPX hPM hS hl hnext
      by_cases c_10 : v = 10
      · refine lv_tableIn (off := 487) (tgt := 520) hx hb dL_law_33 (by rw [c_10]; decide) (by rw [c_10]; decide) (by rw [c_10]; rfl) (by decide) ?_
        exact lc_plan C hX hbl hL hi h_plan hRel hPX hPM hS hl hnext
      by_cases c_11 : v = 11
      · refine lv_tableIn (off := 530) (tgt := 563) hx hb dL_law_33 (by rw [c_11]; decide) (by rw [c_11]; decide) (by rw [c_11]; rfl) (by decide) ?_
        exact lc_taken C hX hbl hL hi h_taken hRel hPX hPM hS hl hnext
      by_cases c_12 : v = 12
      · refine lv_tableIn (off := 573) (tgt := 606) hx hb dL_law_33 (by rw [c_12]; decide) (by rw [c_12]; decide) (by rw [c_12]; rfl) (by decide) ?_
        exact lc_best C hX hbl hL hi h_best hRel hPX hPM hS hl hnext
      by_cases c_13 : v = 13
      · refine lv_tableIn (off := 606) (tgt := 639) hx hb dL_law_33 (by rw [c_13]; decide) (by rw [c_13]; decide) (by rw [c_13]; rfl) (by decide) ?_
        exact lc_keep C hX hbl hL hi h_keep hRel hPX hPM hS hl hnext
      by_cases c_14 : v = 14
      · refine lv_tableIn (off := 645) (tgt := 678) hx hb dL_law_33 (by rw [c_14]; decide) (by rw [c_14]; decide) (by rw [c_14]; rfl) (by decide) ?_
        exact lc_next C hX hbl hL hi h_next hRel hPX hPM hS hl hnext
      by_cases c_15 : v = 15
      · refine lv_tableIn (off := 658) (tgt := 691) hx hb dL_law_33 (by rw [c_15]; decide) (by rw [c_15]; decide) (by rw [c_15]; rfl) (by decide) ?_
        exact lc_water C hX hbl hL hi h_water hRel hPX hPM hS hl hnext
      by_cases c_16 : v = 16
      · refine lv_tableIn (off := 691) (tgt := 724) hx hb dL_law_33 (by rw [c_16]; decide) (by rw [c_16]; decide) (by rw [c_16]; rfl) (by decide) ?_
        exact lc_bottles C hX hbl hL hi h_bottles hRel hPX hPM hS hl hnext
      by_cases c_17 : v = 17
      · refine lv_tableIn (off := 724) (tgt := 757) hx hb dL_law_33 (by rw [c_17]; decide) (by rw [c_17]; decide) (by rw [c_17]; rfl) (by decide) ?_
        exact lc_sell C hX hbl hL hi h_sell hRel hPX hPM hS hl hnext
      by_cases c_18 : v = 18
      · refine lv_tableIn (off := 747) (tgt := 780) hx hb dL_law_33 (by rw [c_18]; decide) (by rw [c_18]; decide) (by rw [c_18]; rfl) (by decide) ?_
        exact lc_bill C hX hbl hL hi h_bill hRel hPX hPM hS hl hnext
      refine lv_tableOut (tgt := 813) hx hb dL_law_33 (tb_out 18 (tb_c c_18 <| (tb_c c_17 <| (tb_c c_16 <| (tb_c c_15 <| (tb_c c_14 <| (tb_c c_13 <| (tb_c c_12 <| (tb_c c_11 <| (tb_c c_10 <| (tb_c c_9 <| (tb_c c_8 <| (tb_c c_7 <| (tb_c c_6 <| (tb_c c_5 <| (tb_c c_4 <| (tb_c c_3 <| (tb_c c_2 <| (tb_c c_1 <| (tb_c c_0 <| tb_0)))))))))))))))))))) (by decide) ?_
      exact hnext σ τ H locs ls hRel hPX hPM hS hl
