/-! the layer: a world whose cells never change their shape; St: what every int place and every long place holds, by the number of its cell -/
abbrev St : Type := (Nat → Nat → Int32) × (Nat → Nat → Int64)
abbrev Dsc : Type := (Nat × List Nat) ⊕ (FieldType × Nat × Nat)
def si (σ : St) (k j : Nat) (v : Int32) : St := (va_up σ.1 k (upd (σ.1 k) j v), σ.2)
def sl (σ : St) (k j : Nat) (v : Int64) : St := (σ.1, va_up σ.2 k (vp_updL (σ.2 k) j v))
def fvl (ad : Nat → Nat) (σ : St) (k j c : Nat) : Value := match c with
  | 0 => .int (σ.1 k j)
  | 1 => .long (σ.2 k j)
  | 2 => .ref (ad (44 + (σ.1 k j).toNatClampNeg))
  | c + 3 => .ref (ad c)
def arw (ad : Nat → Nat) (σ : St) (k : Nat) (q : FieldType × Nat × Nat) : vp_A := (q.2.1, match q.1 with
  | .long => .inr (.inl (σ.2 k))
  | .object _ => .inr (.inr (.inr (.inr (fun i => some (ad (q.2.2 + i))))))
  | .array _ => .inr (.inr (.inr (.inr (fun i => some (ad (q.2.2 + i))))))
  | _ => .inl (σ.1 k))
def cel (d : Nat → Dsc) (cA : Nat → ClassId) (ad : Nat → Nat) (σ : St) (k : Nat) : va_E := match d k with
  | .inl q => .inr (q.1, q.2.mapIdx (fun j c => fvl ad σ k j c))
  | .inr q => .inl (cA k, arw ad σ k q)
def ww (d : Nat → Dsc) (N : Nat) (cA : Nat → ClassId) (ad : Nat → Nat) (σ : St) : va_W := (List.range N).map (fun k => (ad k, cel d cA ad σ k))
def aty (d : Nat → Dsc) (k : Nat) : FieldType := match d k with
  | .inl _ => .int
  | .inr q => q.1
def tt (d : Nat → Dsc) (N : Nat) (cA : Nat → ClassId) : List (ClassId × FieldType) := (List.range N).map (fun k => (cA k, aty d k))
def inA (N : Nat) (ad : Nat → Nat) : Nat → Prop := fun q => ∃ k, k < N ∧ q = ad k
def inj (N : Nat) (ad : Nat → Nat) : Prop := ∀ i j, i < N → j < N → ad i = ad j → i = j
-- pure words of the functions that stand for the methods
def gd {α : Type} (b : Bool) (f : Option α) : Option α := if b = true then f else none
def nm {α β : Type} (v : β) (f : β → Option α) : Option α := f v
def inb (x : Int32) (n : Nat) : Bool := decide (0 ≤ x) && decide (x.toNatClampNeg < n)
def isb (x : Int32) : Bool := decide (x = 0) || decide (x = 1)
def nzb (x : Int32) : Bool := decide (x ≠ 0)
/-- a loop: its body goes on with a new state, or leaves with one -/
def lq {S E : Type} (body : S → Option (S ⊕ E)) : Nat → S → Option E
  | 0, _ => none
  | n + 1, s => (body s).bind (fun r => r.elim (fun s' => lq body n s') (fun e => some e))
theorem gd_some {α : Type} {b : Bool} {f : Option α} {r : α} (h : gd b f = some r) : b = true ∧ f = some r := by
  cases b with
  | true => exact ⟨rfl, h⟩
  | false => cases h
theorem nm_some {α β : Type} {e v : β} {f : β → Option α} {r : α} (hv : v = e) (h : nm e f = some r) : f v = some r := by
  subst hv; exact h
theorem bd_some {α β : Type} {o : Option α} {f : α → Option β} {r : β} (h : o.bind f = some r) : ∃ a, o = some a ∧ f a = some r := by
  cases o with
  | none => cases h
  | some a => exact ⟨a, rfl, h⟩
theorem it_t {α : Type} {c : Prop} [Decidable c] {A B : Option α} {r : α} (hc : c) (h : (if c then A else B) = some r) : A = some r := by rwa [if_pos hc] at h
theorem it_f {α : Type} {c : Prop} [Decidable c] {A B : Option α} {r : α} (hc : ¬ c) (h : (if c then A else B) = some r) : B = some r := by rwa [if_neg hc] at h
theorem inb_vp {x : Int32} {n : Nat} (h : inb x n = true) : vp_in x n := by
  simp only [inb, Bool.and_eq_true, decide_eq_true_eq] at h
  intro q
  rcases q with q | q
  · exact Int32.not_lt.mpr h.1 q
  · omega
theorem inb_lt {x : Int32} {n : Nat} (h : inb x n = true) : x.toNatClampNeg < n := by
  simp only [inb, Bool.and_eq_true, decide_eq_true_eq] at h
  exact h.2
theorem isb_or {x : Int32} (h : isb x = true) : x = 0 ∨ x = 1 := by
  simpa only [isb, Bool.or_eq_true, decide_eq_true_eq] using h
theorem isb_nar {x : Int32} (h : isb x = true) : narrow .boolean (.int x) = .int x := by
  rcases isb_or h with rfl | rfl <;> decide +kernel
theorem isb_fit {x : Int32} (h : isb x = true) : fits .boolean (.int x) = true := by
  rcases isb_or h with rfl | rfl <;> decide +kernel
theorem isb_vp {x : Int32} (h : isb x = true) : vp_nar .boolean x = x := by
  rcases isb_or h with rfl | rfl <;> decide +kernel
theorem nzb_ne {x : Int32} (h : nzb x = true) : ¬ x = 0 := by simpa only [nzb, decide_eq_true_eq] using h
theorem lq_rule {S E : Type} {body : S → Option (S ⊕ E)} {P : S → Prop} {X : E → Prop} (hb : ∀ s r, body s = some r → (∀ s', r = .inl s' → P s') → (∀ e, r = .inr e → X e) → P s) : ∀ (n : Nat) (s : S) (e : E), lq body n s = some e → X e → P s := by
  intro n
  induction n with
  | zero => intro s e h; cases h
  | succ n ih =>
    intro s e h hX
    obtain ⟨r, h1, h2⟩ := bd_some h
    cases r with
    | inl s' => exact hb s _ h1 (fun s2 e2 => by cases e2; exact ih _ _ h2 hX) (fun e2 h3 => by cases h3)
    | inr e2 => cases h2; exact hb s _ h1 (fun s2 h3 => by cases h3) (fun e3 h3 => by cases h3; exact hX)
section LY
variable {d : Nat → Dsc} {N : Nat} {cA : Nat → ClassId} {ad : Nat → Nat} {σ : St}
theorem ww_at {k : Nat} (hk : k < N) : (ww d N cA ad σ)[k]? = some (ad k, cel d cA ad σ k) := by
  rw [ww, List.getElem?_map, List.getElem?_range hk]; rfl
theorem tt_at {k : Nat} (hk : k < N) : (tt d N cA)[k]? = some (cA k, aty d k) := by
  rw [tt, List.getElem?_map, List.getElem?_range hk]; rfl
theorem ww_lt {k : Nat} {q : Nat × va_E} (h : (ww d N cA ad σ)[k]? = some q) : k < N ∧ q = (ad k, cel d cA ad σ k) := by
  have hk : k < N := by
    have := (List.getElem?_eq_some_iff.mp h).1
    simpa [ww] using this
  rw [ww_at hk] at h
  exact ⟨hk, (Option.some.inj h).symm⟩
theorem ww_D (hi : inj N ad) : va_D (inA N ad) (ww d N cA ad σ) := by
  refine ⟨fun i j p q h1 h2 h3 => ?_, fun k q h => ?_⟩
  · obtain ⟨a1, rfl⟩ := ww_lt h1
    obtain ⟨a2, rfl⟩ := ww_lt h2
    exact hi i j a1 a2 h3
  · obtain ⟨a1, rfl⟩ := ww_lt h
    exact ⟨k, a1, rfl⟩
theorem ww_obj {k ci : Nat} {ks : List Nat} (hk : k < N) (hd : d k = .inl (ci, ks)) : (ww d N cA ad σ)[k]? = some (ad k, .inr (ci, ks.mapIdx (fun j c => fvl ad σ k j c))) := by
  rw [ww_at hk, cel, hd]
theorem ww_arr {k : Nat} {q : FieldType × Nat × Nat} (hk : k < N) (hd : d k = .inr q) : (ww d N cA ad σ)[k]? = some (ad k, .inl (cA k, arw ad σ k q)) := by
  rw [ww_at hk, cel, hd]
theorem tt_arr {k : Nat} {q : FieldType × Nat × Nat} (hk : k < N) (hd : d k = .inr q) : (tt d N cA)[k]? = some (cA k, q.1) := by
  rw [tt_at hk, aty, hd]
theorem ww_set {σ' : St} {k : Nat} {e : va_E} (he : cel d cA ad σ' k = e) (ho : ∀ k', k' ≠ k → cel d cA ad σ' k' = cel d cA ad σ k') : (ww d N cA ad σ).set k (ad k, e) = ww d N cA ad σ' := by
  apply List.ext_getElem?
  intro i
  by_cases hi : i < N
  · by_cases hik : i = k
    · subst hik
      rw [List.getElem?_set_self (by simpa [ww] using hi), ww_at hi, he]
    · rw [List.getElem?_set_ne (fun q => hik q.symm), ww_at hi, ww_at hi, ho i hik]
  · rw [List.getElem?_eq_none (by simp [ww]; omega), List.getElem?_eq_none (by simp [ww]; omega)]
theorem si_ne {k j k' : Nat} {v : Int32} (h : k' ≠ k) : (si σ k j v).1 k' = σ.1 k' := by
  show va_up σ.1 k _ k' = _
  exact if_neg h
theorem si_at {k j : Nat} {v : Int32} : (si σ k j v).1 k = upd (σ.1 k) j v := if_pos rfl
theorem si_l {k j : Nat} {v : Int32} : (si σ k j v).2 = σ.2 := rfl
theorem sl_ne {k j k' : Nat} {v : Int64} (h : k' ≠ k) : (sl σ k j v).2 k' = σ.2 k' := if_neg h
theorem sl_at {k j : Nat} {v : Int64} : (sl σ k j v).2 k = vp_updL (σ.2 k) j v := if_pos rfl
theorem sl_i {k j : Nat} {v : Int64} : (sl σ k j v).1 = σ.1 := rfl
theorem cel_cong {σ' : St} {k : Nat} (h1 : σ'.1 k = σ.1 k) (h2 : σ'.2 k = σ.2 k) : cel d cA ad σ' k = cel d cA ad σ k := by
  unfold cel
  split
  · refine congrArg (fun l => Sum.inr (_, l)) ?_
    apply List.ext_getElem?
    intro i
    rw [List.getElem?_mapIdx, List.getElem?_mapIdx]
    congr 1
    funext c
    unfold fvl
    split <;> simp only [h1, h2]
  · unfold arw
    simp only [h1, h2]
theorem ww_pi {k ci j : Nat} {ks : List Nat} {v : Int32} {w : Value} {cd : Nat} (hd : d k = .inl (ci, ks)) (hj : ks[j]? = some cd) (hw : fvl ad (si σ k j v) k j cd = w) : (ww d N cA ad σ).set k (ad k, .inr (ci, (ks.mapIdx (fun j c => fvl ad σ k j c)).set j w)) = ww d N cA ad (si σ k j v) := by
  refine ww_set ?_ (fun k' h => cel_cong (si_ne h) rfl)
  unfold cel
  rw [hd]
  refine congrArg (fun l => Sum.inr (ci, l)) ?_
  apply List.ext_getElem?
  intro i
  by_cases hij : i = j
  · subst hij
    have hl : i < ks.length := (List.getElem?_eq_some_iff.mp hj).1
    rw [List.getElem?_set_self (by simpa using hl), List.getElem?_mapIdx, hj, ← hw]; rfl
  · rw [List.getElem?_set_ne (fun q => hij q.symm), List.getElem?_mapIdx, List.getElem?_mapIdx]
    congr 1
    funext c
    unfold fvl
    have e1 : (si σ k j v).1 k i = σ.1 k i := by rw [si_at]; exact if_neg hij
    simp only [e1, si_l]
theorem ww_pl {k ci j : Nat} {ks : List Nat} {v : Int64} (hd : d k = .inl (ci, ks)) (hj : ks[j]? = some 1) : (ww d N cA ad σ).set k (ad k, .inr (ci, (ks.mapIdx (fun j c => fvl ad σ k j c)).set j (.long v))) = ww d N cA ad (sl σ k j v) := by
  refine ww_set ?_ (fun k' h => cel_cong rfl (sl_ne h))
  unfold cel
  rw [hd]
  refine congrArg (fun l => Sum.inr (ci, l)) ?_
  apply List.ext_getElem?
  intro i
  by_cases hij : i = j
  · subst hij
    have hl : i < ks.length := (List.getElem?_eq_some_iff.mp hj).1
    rw [List.getElem?_set_self (by simpa using hl), List.getElem?_mapIdx, hj]
    show some (Value.long ((sl σ k i v).2 k i)) = _
    rw [sl_at, vp_updL, if_pos rfl]
  · rw [List.getElem?_set_ne (fun q => hij q.symm), List.getElem?_mapIdx, List.getElem?_mapIdx]
    congr 1
    funext c
    unfold fvl
    have e1 : (sl σ k j v).2 k i = σ.2 k i := by rw [sl_at]; exact if_neg hij
    simp only [e1, sl_i]
theorem fvl_pi {k j : Nat} {v : Int32} : fvl ad (si σ k j v) k j 0 = .int v := by
  show Value.int ((si σ k j v).1 k j) = _
  rw [si_at, upd, if_pos rfl]
theorem fvl_pr {k j : Nat} {v : Int32} : fvl ad (si σ k j v) k j 2 = .ref (ad (44 + v.toNatClampNeg)) := by
  show Value.ref (ad (44 + ((si σ k j v).1 k j).toNatClampNeg)) = _
  rw [si_at, upd, if_pos rfl]
theorem ww_ai {k : Nat} {q : FieldType × Nat × Nat} {f : Nat → Int32} {σ' : St} (hd : d k = .inr q) (ha : arw ad σ' k q = (q.2.1, .inl f)) (ho : ∀ k', k' ≠ k → σ'.1 k' = σ.1 k') (hl : σ'.2 = σ.2) : (ww d N cA ad σ).set k (ad k, .inl (cA k, q.2.1, .inl f)) = ww d N cA ad σ' := by
  refine ww_set ?_ (fun k' h => cel_cong (ho k' h) (by rw [hl]))
  unfold cel
  rw [hd]
  show Sum.inl (cA k, arw ad σ' k q) = _
  rw [ha]
end LY
