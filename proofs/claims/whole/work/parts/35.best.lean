/-! the best order on both sides -/
section BM
variable {c : Cf} {d G : Nat} {P : Pg} {th : Nat → Bool} {rk : Nat → Nat} {gs : Nat → Nat} {N : Nat}
def bsM (N : Nat) (gs : Nat → Nat) (τ : St) : Bs → Prop
  | none => τ.1 0 51 = -1
  | some (D, O, q) => τ.1 0 51 = nI D ∧ τ.1 0 52 = nI O ∧ D < 2 ^ 30 ∧ O < 2 ^ 30 ∧ ∀ j, j < N → τ.1 35 j = nI (gs (q.getD j 0))
theorem bsM_c {τ τ' : St} {b : Bs} (h1 : τ'.1 0 51 = τ.1 0 51) (h2 : τ'.1 0 52 = τ.1 0 52) (h3 : τ'.1 35 = τ.1 35) (h : bsM N gs τ b) : bsM N gs τ' b := by
  match b, h with
  | none, h => exact h1.trans h
  | some (D, O, q), h =>
    obtain ⟨q1, q2, q3, q4, q5⟩ := h
    exact ⟨h1.trans q1, h2.trans q2, q3, q4, fun j hj => by rw [h3]; exact q5 j hj⟩
theorem kpM_en {τ τ' : St} (h : kpM τ τ') (hE : enM τ c d G P th rk) : enM τ' c d G P th rk := enM_c (fun k h1 h2 => h.1 k h1 (by omega)) (h.2.1 1 (by decide) (by decide) (by decide)) hE
theorem there_M (n : Nat) (hn : 1000 ≤ n) {τ : St} (hE : enM τ c d G P th rk) (hW : enW c d G P rk) : ∃ (z : Int32) (τ' : St), lq (b_11_finds_4 n (nI d)) n (0, 0, τ) = some (nI (thC th G), z, τ') ∧ k26 τ τ' ∧ arM τ' (thL th G) := by
  have hG := hW.2.2.1
  obtain ⟨e, he, hX1, hX2, hX3⟩ := lq_for (b := b_11_finds_4 n (nI d)) (X := fun e => e.1 = nI (thC th G) ∧ k26 τ e.2.2 ∧ arM e.2.2 (thL th G)) G (fun i s => ∃ τi, s = (nI (thC th i), nI i, τi) ∧ k26 τ τi ∧ arM τi (thL th i)) (by
    rintro i s hi ⟨τi, rfl, h1, h2⟩
    left
    have hEi := k26_en h1 hE
    have hle := thC_le (th := th) (G := i)
    unfold b_11_finds_4
    simp only [nm_eq]
    rw [hEi.2.1, if_neg (nI_ge hi (by omega)), here_M n hEi hG hi, bd_eq]
    simp only
    by_cases y : th i = true
    · rw [if_pos y, if_neg (by decide), gd_t (inb_nI (show thC th i < 8 by omega) (by decide)), nI_clamp (by omega), nI_1, nI_1]
      refine ⟨_, rfl, si τi 26 (thC th i) (nI i), ?_, ⟨fun k hk => by rw [si_ne hk]; exact h1.1 k hk, h1.2⟩, ?_⟩
      · rw [show thC th (i + 1) = thC th i + 1 by rw [thC, if_pos y]]
      · rw [thL, if_pos y, ← thL_len]
        exact arM_snoc h2
    · rw [if_neg y, if_pos rfl, nI_1]
      refine ⟨_, rfl, τi, ?_, h1, ?_⟩
      · rw [show thC th (i + 1) = thC th i by rw [thC, if_neg y]; rfl]
      · rw [thL, if_neg y]; exact h2) (by
    rintro s ⟨τi, rfl, h1, h2⟩
    have hEi := k26_en h1 hE
    unfold b_11_finds_4
    simp only [nm_eq]
    rw [hEi.2.1, if_pos (nI_le (Nat.le_refl G) (by omega))]
    exact ⟨_, rfl, rfl, h1, h2⟩) (n := n) (by omega) (s := (0, 0, τ)) ⟨τ, rfl, ⟨fun _ _ => rfl, rfl⟩, fun j hj => by simp [thL] at hj⟩
  obtain ⟨e1, e2, e3⟩ := e
  simp only at hX1 hX2 hX3
  subst hX1
  exact ⟨e2, e3, he, hX2, hX3⟩
theorem rwM_len {g : Nat} {τ : St} {x : Xs} (h : rwM g τ x) : τ.1 27 g = nI (xLen x) ∧ τ.1 28 g = nI (xOv x) := by
  obtain ⟨now, str, len, ov, gl, lo, ac, T, B⟩ := x
  exact ⟨h.1, h.2.1⟩
theorem sums_M (n : Nat) (hn : 1000 ≤ n) {τ : St} {l : List Nat} {S : DS} {a1 : Int32} (hN : N ≤ 6) (hl : l.length = N) (ha : arM τ l) (hd : dyM τ l S) : ∃ z : Int32, lq (b_11_finds_65 n a1 (nI N)) n (0, 0, 0, τ) = some (nI (sN (fun j => xLen (S.1 (l.getD j 0))) N), nI (sN (fun j => xOv (S.1 (l.getD j 0))) N), z, τ) := by
  obtain ⟨e, he, hX⟩ := lq_for (b := b_11_finds_65 n a1 (nI N)) (X := fun e => e = (nI (sN (fun j => xLen (S.1 (l.getD j 0))) N), nI (sN (fun j => xOv (S.1 (l.getD j 0))) N), nI N, τ)) N (fun i s => s = (nI (sN (fun j => xLen (S.1 (l.getD j 0))) i), nI (sN (fun j => xOv (S.1 (l.getD j 0))) i), nI i, τ)) (by
    rintro i s hi rfl
    left
    have hm : l.getD i 0 ∈ l := getD_mem (by omega)
    obtain ⟨g8, hrw⟩ := hd.1 _ hm
    obtain ⟨r1, r2⟩ := rwM_len hrw
    unfold b_11_finds_65
    simp only [nm_eq]
    rw [if_neg (nI_ge hi (by omega)), gd_t (inb_nI (show i < 8 by omega) (by decide)), nI_clamp (show i < 2 ^ 31 by omega), ha i (by omega), gd_t (inb_nI g8 (by decide)), nI_clamp (show l.getD i 0 < 2 ^ 31 by omega), r1, r2, nI_add, nI_add, nI_1]
    exact ⟨_, rfl, rfl⟩) (by
    rintro s rfl
    unfold b_11_finds_65
    simp only [nm_eq]
    rw [if_pos (nI_le (Nat.le_refl N) (by omega))]
    exact ⟨_, rfl, rfl⟩) (n := n) (by omega) (s := (0, 0, 0, τ)) rfl
  exact ⟨nI N, by rw [he, hX]⟩
theorem copy_M (n : Nat) (hn : 1000 ≤ n) {τ : St} {a1 : Int32} (hN : N ≤ 6) : ∃ (z : Int32) (τ' : St), lq (b_11_finds_153 n a1 (nI N)) n (0, τ) = some (z, τ') ∧ (∀ k, k ≠ 35 → τ'.1 k = τ.1 k) ∧ τ'.2 = τ.2 ∧ ∀ j, j < N → τ'.1 35 j = τ.1 26 j := by
  obtain ⟨e, he, hX⟩ := lq_for (b := b_11_finds_153 n a1 (nI N)) (X := fun e => (∀ k, k ≠ 35 → e.2.1 k = τ.1 k) ∧ e.2.2 = τ.2 ∧ ∀ j, j < N → e.2.1 35 j = τ.1 26 j) N (fun i s => ∃ τi, s = (nI i, τi) ∧ (∀ k, k ≠ 35 → τi.1 k = τ.1 k) ∧ τi.2 = τ.2 ∧ ∀ j, j < i → τi.1 35 j = τ.1 26 j) (by
    rintro i s hi ⟨τi, rfl, h1, h2, h3⟩
    left
    unfold b_11_finds_153
    simp only [nm_eq]
    rw [if_neg (nI_ge hi (by omega)), gd_t (inb_nI (show i < 8 by omega) (by decide)), nI_clamp (by omega), nI_1]
    refine ⟨_, rfl, _, rfl, fun k hk => by rw [si_ne hk]; exact h1 k hk, h2, fun j hj => ?_⟩
    rw [si_get]
    by_cases z : j = i
    · rw [if_pos ⟨rfl, z⟩, h1 26 (by decide), z]
    · rw [if_neg (fun y => z y.2)]; exact h3 j (by omega)) (by
    rintro s ⟨τi, rfl, h1⟩
    unfold b_11_finds_153
    simp only [nm_eq]
    rw [if_pos (nI_le (Nat.le_refl N) (by omega))]
    exact ⟨_, rfl, h1⟩) (n := n) (by omega) (s := (0, τ)) ⟨τ, rfl, fun _ _ => rfl, rfl, fun j hj => absurd hj (Nat.not_lt_zero j)⟩
  exact ⟨e.1, e.2, by rw [he], hX⟩
theorem map_nodup {l : List Nat} (hl : ∀ x, x ∈ l → x < N) (hinj : ∀ i j, i < N → j < N → gs i = gs j → i = j) (h : l.Nodup) : (l.map gs).Nodup := by
  induction l with
  | nil => exact List.nodup_nil
  | cons a l ih =>
    obtain ⟨h1, h2⟩ := List.nodup_cons.mp h
    rw [List.map_cons]
    refine List.nodup_cons.mpr ⟨fun z => ?_, ih (fun x hx => hl x (List.mem_cons_of_mem _ hx)) h2⟩
    obtain ⟨b, hb, e⟩ := List.mem_map.mp z
    have := hinj b a (hl b (List.mem_cons_of_mem _ hb)) (hl a List.mem_cons_self) e
    rw [this] at hb; exact h1 hb
theorem getD_map {l : List Nat} {j : Nat} (hj : j < l.length) : (l.map gs).getD j 0 = gs (l.getD j 0) := by
  rw [List.getD_eq_getElem?_getD, List.getD_eq_getElem?_getD, List.getElem?_map, List.getElem?_eq_getElem hj]; rfl
/-- one order is looked at -/
theorem look_M (n : Nat) (hn : 1000 ≤ n) {τ : St} {l : List Nat} {b : Bs} (hE : enM τ c d G P th rk) (hW : enW c d G P rk) (hN : N ≤ 6) (hNt : N = thC th G) (hgs : ∀ i, i < N → gs i < G) (hinj : ∀ i j, i < N → j < N → gs i = gs j → i = j) (hok : okL N l = true) (ho : orM τ gs (fun k => l.getD k 0) N) (hb : bsM N gs τ b) (K : Int32 × St → Option ((Int32 × St) ⊕ (Int32 × St))) : ∃ τ', ((f_11_lays n τ (nI d)).bind fun r1019 =>
    (lq (b_11_finds_65 n (nI d) (nI N)) n (0, 0, 0, r1019)).bind fun t2029 =>
    if (t2029.2.2.2.1 0 51) < t2029.1 then
      (lq (b_11_finds_153 n (nI d) (nI N)) n (0, si (si t2029.2.2.2 0 51 t2029.1) 0 52 t2029.2.1)).bind fun t3041 =>
      (f_11_nextOrder n t3041.2 (nI N)).bind K
    else
      if t2029.1 = (t2029.2.2.2.1 0 51) then
        if (t2029.2.2.2.1 0 52) ≤ t2029.2.1 then
          (f_11_nextOrder n t2029.2.2.2 (nI N)).bind K
        else
          (lq (b_11_finds_153 n (nI d) (nI N)) n (0, si (si t2029.2.2.2 0 51 t2029.1) 0 52 t2029.2.1)).bind fun t4060 =>
          (f_11_nextOrder n t4060.2 (nI N)).bind K
      else
        (f_11_nextOrder n t2029.2.2.2 (nI N)).bind K) = (f_11_nextOrder n τ' (nI N)).bind K ∧ kpM τ τ' ∧ orM τ' gs (fun k => l.getD k 0) N ∧ bsM N gs τ' (bF c d P gs b l) := by
  obtain ⟨o1, o2, o3⟩ := okL_of hok
  have hlG : ∀ g, g ∈ l.map gs → g < G := fun g hg => by obtain ⟨j, hj, rfl⟩ := List.mem_map.mp hg; exact hgs j (o2 j hj)
  have hnd := map_nodup o2 hinj o3
  have hml : (l.map gs).length = N := by rw [List.length_map]; exact o1
  have har : arM τ (l.map gs) := fun j hj => by
    rw [hml] at hj
    rw [getD_map (by omega)]; exact ho j hj
  obtain ⟨τ1, t1, t2, t3, t4⟩ := lays_M n hn hE hW hlG (by rw [hml, hNt]) har
  have har1 : arM τ1 (l.map gs) := fun j hj => by rw [t2.1 26 (by omega) (by omega)]; exact har j hj
  obtain ⟨z, u1⟩ := sums_M n hn (a1 := nI d) hN hml har1 t3
  have e1 := sum_D c d P (l := l.map gs) (S := S0) hnd
  have e2 := sum_O c d P (l := l.map gs) (S := S0) hnd
  rw [hml] at e1 e2
  rw [e1, e2] at u1
  obtain ⟨sl1, sl2⟩ := sc_le hW (l := l.map gs) (S := S0) hlG S0_W
  rw [hml] at sl1 sl2
  have ho1 : orM τ1 gs (fun k => l.getD k 0) N := fun k hk => by rw [t2.1 26 (by omega) (by omega)]; exact ho k hk
  have hb1 : bsM N gs τ1 b := bsM_c (t2.2.1 51 (by decide)) (t2.2.1 52 (by decide)) (t2.1 35 (by omega) (by omega)) hb
  have hk1 : kpM τ τ1 := kL_kp t2
  rw [t1, bd_eq, u1, bd_eq]
  simp only
  generalize hD : scD c d P (l.map gs) S0 = D at *
  generalize hO : scO c d P (l.map gs) S0 = O at *
  -- the order is kept
  have keep : ∃ τ', ((lq (b_11_finds_153 n (nI d) (nI N)) n (0, si (si τ1 0 51 (nI D)) 0 52 (nI O))).bind fun t3041 => (f_11_nextOrder n t3041.2 (nI N)).bind K) = (f_11_nextOrder n τ' (nI N)).bind K ∧ kpM τ τ' ∧ orM τ' gs (fun k => l.getD k 0) N ∧ bsM N gs τ' (some (D, O, l)) := by
    obtain ⟨z, τ2, v1, v2, v3, v4⟩ := copy_M n hn (a1 := nI d) (τ := si (si τ1 0 51 (nI D)) 0 52 (nI O)) hN
    rw [v1, bd_eq]
    refine ⟨τ2, rfl, ⟨fun k k1 k2 => ?_, fun j j1 j2 j3 => ?_, ?_⟩, fun k hk => ?_, ?_, ?_, by omega, by omega, fun j hj => ?_⟩
    · by_cases hk : k = 35
      · omega
      · rw [v2 k hk, si_ne (by omega), si_ne (by omega)]; exact hk1.1 k k1 k2
    · rw [v2 0 (by decide), si_place j3, si_place j2]; exact hk1.2.1 j j1 j2 j3
    · rw [v3]; exact hk1.2.2
    · rw [v2 26 (by decide), si_cell (by decide), si_cell (by decide)]; exact ho1 k hk
    · rw [v2 0 (by decide), si_place (by decide), si_hit]
    · rw [v2 0 (by decide), si_hit]
    · rw [v4 j hj, si_cell (by decide), si_cell (by decide)]; exact ho1 j hj
  have skip : ∃ τ', (f_11_nextOrder n τ1 (nI N)).bind K = (f_11_nextOrder n τ' (nI N)).bind K ∧ kpM τ τ' ∧ orM τ' gs (fun k => l.getD k 0) N ∧ bsM N gs τ' b := ⟨τ1, rfl, hk1, ho1, hb1⟩
  have hbF : bF c d P gs b l = bUp D O l b := by unfold bF; rw [hD, hO]
  rw [hbF]
  match b, hb1, skip with
  | none, hb1, skip =>
    have hb1 : τ1.1 0 51 = -1 := hb1
    rw [hb1, if_pos (by rw [Int32.lt_iff_toInt_lt, nI_toInt (by omega), show (-1 : Int32).toInt = -1 by decide]; omega)]
    exact keep
  | some (D0, O0, q0), hb1, skip =>
    obtain ⟨b1, b2, b3, b4, b5⟩ := hb1
    rw [b1, b2]
    show ∃ τ', _ ∧ kpM τ τ' ∧ orM τ' gs (fun k => l.getD k 0) N ∧ bsM N gs τ' (if D0 < D ∨ (D = D0 ∧ O < O0) then some (D, O, l) else some (D0, O0, q0))
    by_cases c1 : D0 < D
    · rw [if_pos (nI_lt c1 (by omega)), if_pos (.inl c1)]
      exact keep
    · rw [if_neg (nI_nlt (by omega) (by omega))]
      by_cases c2 : D = D0
      · rw [if_pos (by rw [c2])]
        by_cases c3 : O < O0
        · rw [if_neg (nI_ge c3 (by omega)), if_pos (.inr ⟨c2, c3⟩)]
          exact keep
        · rw [if_pos (nI_le (by omega) (by omega)), if_neg (by omega)]
          exact skip
      · rw [if_neg (fun y => c2 ((nI_eq (by omega) (by omega)).mp y)), if_neg (by omega)]
        exact skip
theorem finds_M (n : Nat) (hn : 1000 ≤ n) {τ : St} (hE : enM τ c d G P th rk) (hW : enW c d G P rk) (hN : thC th G ≤ 6) : ∃ τ', f_11_finds n τ (nI d) = some τ' ∧ kpM τ τ' ∧ bsM (thC th G) (gsO th G) τ' ((comps (thC th G) (thC th G) []).foldl (bF c d P (gsO th G)) none) := by
  have hG := hW.2.2.1
  obtain ⟨z, τ1, t1, t2, t3⟩ := there_M n hn hE hW
  unfold f_11_finds
  rw [t1, bd_eq]
  simp only [nm_eq]
  generalize hNt : thC th G = N at *
  have hgsG : ∀ i, i < N → gsO th G i < G := fun i hi => gsO_lt (by omega)
  have hgs8 : ∀ i, i < N → gsO th G i < 8 := fun i hi => by have := hgsG i hi; omega
  have hinj : ∀ i j, i < N → j < N → gsO th G i = gsO th G j → i = j := fun i j hi hj => gsO_inj i j (by omega) (by omega)
  have hmo : ∀ i j, i < N → j < N → (gsO th G i ≤ gsO th G j ↔ i ≤ j) := fun i j hi hj => by
    constructor
    · intro h
      rcases Nat.lt_or_ge j i with y | y
      · have := gsO_mono (th := th) (G := G) y (by omega); omega
      · exact y
    · intro h
      rcases Nat.lt_or_ge i j with y | y
      · have := gsO_mono (th := th) (G := G) y (by omega); omega
      · rw [show i = j by omega]; exact Nat.le_refl _
  have hk1 : kpM τ (si τ1 0 51 (-1)) := by
    refine ⟨fun k k1 k2 => ?_, fun j j1 j2 j3 => ?_, t2.2⟩
    · rw [si_ne (by omega)]; exact t2.1 k (by omega)
    · rw [si_place j2, t2.1 0 (by decide)]
  have hrng : ∀ k, k < N → (List.range N).getD k 0 = k := fun k hk => by
    rw [List.getD_eq_getElem?_getD, List.getElem?_range hk]; rfl
  have ho1 : orM (si τ1 0 51 (-1)) (gsO th G) (fun k => (List.range N).getD k 0) N := fun k hk => by
    rw [si_cell (by decide), t3 k (by rw [thL_len, hNt]; exact hk)]
    show nI ((thL th G).getD k 0) = nI (gsO th G ((List.range N).getD k 0))
    rw [hrng k hk]; rfl
  have hch := chain_eq N (by omega)
  have hlen := comps_len N (by omega)
  have hall := comps_ok N (by omega)
  obtain ⟨e, he, hX⟩ := lq_ex (b := b_11_finds_47 n (nI d) (nI N)) (X := fun e => kpM τ e.2 ∧ bsM N (gsO th G) e.2 ((comps N N []).foldl (bF c d P (gsO th G)) none)) (fun k s => (∃ f l b τi, k = f ∧ s = (1, τi) ∧ kpM τ τi ∧ orM τi (gsO th G) (fun k => l.getD k 0) N ∧ bsM N (gsO th G) τi b ∧ (chain N f l).length < f ∧ (∀ q, q ∈ chain N f l → okL N q = true) ∧ (chain N f l).foldl (bF c d P (gsO th G)) b = (comps N N []).foldl (bF c d P (gsO th G)) none) ∨ (k = 0 ∧ ∃ τi, s = (0, τi) ∧ kpM τ τi ∧ bsM N (gsO th G) τi ((comps N N []).foldl (bF c d P (gsO th G)) none))) (by
    rintro k s (⟨f, l, b, τi, rfl, rfl, i1, i2, i3, i4, i5, i6⟩ | ⟨rfl, τi, rfl, i1, i2⟩)
    · left
      obtain ⟨f, rfl⟩ : ∃ f', k = f' + 1 := ⟨k - 1, by omega⟩
      have hEi := kpM_en i1 hE
      have hokl : okL N l = true := i5 l (by rw [chain]; exact List.mem_cons_self)
      obtain ⟨o1, o2, o3⟩ := okL_of hokl
      unfold b_11_finds_47
      simp only [nm_eq]
      rw [if_neg (by decide)]
      obtain ⟨τ2, v1, v2, v3, v4⟩ := look_M n hn hEi hW hN hNt.symm hgsG hinj hokl i2 i3 (fun r => some (.inl (r.1, r.2)))
      rw [v1]
      have hkp := kpM_tr i1 v2
      rcases next_M n hn hN hgs8 hmo o1 o2 v3 with ⟨w1, w2⟩ | ⟨l', τ3, w1, w2, w3, w4⟩
      · rw [w2, bd_eq]
        refine ⟨0, _, by omega, rfl, .inr ⟨rfl, τ2, rfl, hkp, ?_⟩⟩
        rw [chain, w1] at i6
        rw [← i6]; exact v4
      · rw [w2, bd_eq]
        rw [chain, w1] at i4 i5 i6
        refine ⟨f, _, by omega, rfl, .inl ⟨f, l', bF c d P (gsO th G) b l, τ3, rfl, rfl, kpM_tr hkp (k26_kp w4), w3, ?_, ?_, fun q hq => i5 q (List.mem_cons_of_mem _ hq), i6⟩⟩
        · exact bsM_c (by rw [w4.1 0 (by decide)]) (by rw [w4.1 0 (by decide)]) (w4.1 35 (by decide)) v4
        · rw [List.length_cons] at i4
          have i4 : (chain N f l').length + 1 < f + 1 := i4
          omega
    · right
      unfold b_11_finds_47
      simp only [nm_eq]
      rw [if_pos trivial]
      exact ⟨_, rfl, i1, i2⟩) n 721 (1, si τ1 0 51 (-1)) (by omega) (.inl ⟨721, List.range N, none, _, rfl, rfl, hk1, ho1, by show (si τ1 0 51 (-1)).1 0 51 = -1; rw [si_hit], by rw [hch]; exact hlen, fun q hq => by rw [hch] at hq; exact List.all_eq_true.mp hall q hq, by rw [hch]⟩)
  rw [he, bd_eq]
  exact ⟨_, rfl, hX⟩
end BM
