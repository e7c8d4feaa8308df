/-! counted loops; the relation of both states -/
theorem lq_for {S E : Type} {b : S → Option (S ⊕ E)} {X : E → Prop} (N : Nat) (I : Nat → S → Prop) (hs : ∀ i s, i < N → I i s → (∃ s', b s = some (.inl s') ∧ I (i + 1) s') ∨ ∃ e, b s = some (.inr e) ∧ X e) (he : ∀ s, I N s → ∃ e, b s = some (.inr e) ∧ X e) {n : Nat} (hn : N < n) {s : S} (h0 : I 0 s) : ∃ e, lq b n s = some e ∧ X e := by
  refine lq_ex (X := X) (fun k s => ∃ i, i ≤ N ∧ k = N - i ∧ I i s) ?_ n N s hn ⟨0, Nat.zero_le N, rfl, h0⟩
  rintro k s ⟨i, hi, rfl, h⟩
  rcases Nat.lt_or_ge i N with q | q
  · rcases hs i s q h with ⟨s', h1, h2⟩ | ⟨e, h1, h2⟩
    · exact .inl ⟨N - (i + 1), s', by omega, h1, i + 1, q, rfl, h2⟩
    · exact .inr ⟨e, h1, h2⟩
  · obtain rfl : i = N := by omega
    exact .inr (he s h)
theorem lq_for2 {S1 E1 S2 E2 : Type} {b1 : S1 → Option (S1 ⊕ E1)} {b2 : S2 → Option (S2 ⊕ E2)} {X : E1 → E2 → Prop} (N : Nat) (I : Nat → S1 → S2 → Prop) (hs : ∀ i s1 s2, i < N → I i s1 s2 → ∃ s1' s2', b1 s1 = some (.inl s1') ∧ b2 s2 = some (.inl s2') ∧ I (i + 1) s1' s2') (he : ∀ s1 s2, I N s1 s2 → ∃ e1 e2, b1 s1 = some (.inr e1) ∧ b2 s2 = some (.inr e2) ∧ X e1 e2) {n1 n2 : Nat} (hn1 : N < n1) (hn2 : N < n2) {s1 : S1} {s2 : S2} (h0 : I 0 s1 s2) : ∃ e1 e2, lq b1 n1 s1 = some e1 ∧ lq b2 n2 s2 = some e2 ∧ X e1 e2 := by
  refine lq_two (X := X) (fun k s1 s2 => ∃ i, i ≤ N ∧ k = N - i ∧ I i s1 s2) ?_ n1 n2 N s1 s2 hn1 hn2 ⟨0, Nat.zero_le N, rfl, h0⟩
  rintro k s1 s2 ⟨i, hi, rfl, h⟩
  rcases Nat.lt_or_ge i N with q | q
  · obtain ⟨s1', s2', h1, h2, h3⟩ := hs i s1 s2 q h
    exact .inl ⟨N - (i + 1), s1', s2', by omega, h1, h2, i + 1, q, rfl, h3⟩
  · obtain rfl : i = N := by omega
    exact .inr (he s1 s2 h)
/-- numbers of a list of digits, the last digit first -/
def cdB (B o : Nat) : List Nat → Nat
  | [] => 0
  | x :: t => cdB B o t * B + (o + x)
def nmR (a : Int32) (b : Int64) : Prop := ∃ w : List Nat, w.length ≤ 6 ∧ (∀ x ∈ w, 1 ≤ x ∧ x ≤ 26) ∧ a = nI (cdB 27 0 w) ∧ b = lN (cdB 256 96 w)
/-- an act that can be: what, first, second; at place i of c -/
def wfA (w a b i c : Nat) : Prop := (w = 0 ∧ a ≤ 3) ∨ (w = 1 ∧ a ≤ 2 ∧ 1 ≤ b ∧ b ≤ 16) ∨ (w = 2 ∧ 1 ≤ a ∧ a ≤ 16) ∨ (w = 3 ∧ a ≤ 47) ∨ (w = 4 ∧ 1 ≤ a ∧ a ≤ 9 ∧ i < b ∧ b ≤ c)
def actR (σ : St) (ρ : Nat) (stp : Nat → Int32) (c i : Nat) : Prop := ∃ w a b : Nat, wfA w a b i c ∧ σ.1 (52 + ρ) i = nI w ∧ stp (3 * i) = nI w ∧ σ.1 (60 + ρ) i = nI a ∧ stp (3 * i + 1) = nI a ∧ (w = 1 ∨ w = 4 → σ.1 (68 + ρ) i = nI b ∧ stp (3 * i + 2) = nI b)
def rgR (σ : St) (ρ : Nat) (nm : Int64) (cnt : Int32) (stp : Nat → Int32) : Prop := nmR (σ.1 (44 + ρ) 0) nm ∧ ∃ c : Nat, c ≤ 30 ∧ σ.1 (44 + ρ) 1 = nI c ∧ cnt = nI c ∧ ∀ i, i < c → actR σ ρ stp c i
def r0 (σ τ : St) (D G K L : Nat) : Prop := σ.1 0 3 = nI D ∧ τ.1 0 0 = nI D ∧ σ.1 0 4 = τ.1 0 53 ∧ σ.1 0 5 = τ.1 0 59 ∧ σ.1 0 6 = τ.1 0 60 ∧ σ.1 1 5 = nI G ∧ τ.1 0 1 = nI G ∧ σ.1 6 2 = nI K ∧ τ.1 0 2 = nI K ∧ σ.1 6 3 = τ.1 0 25 ∧ σ.1 6 4 = τ.1 0 26 ∧ σ.1 7 1 = nI L ∧ τ.1 0 18 = nI L
def rS1 (σ τ : St) (s : Nat) : Prop := ∃ a b c d : Nat, a ≤ 9 ∧ b ≤ c ∧ c ≤ 48 ∧ d ≤ 9 ∧ (σ.1 (22 + s) 0 = nI a ∧ τ.1 1 s = nI a) ∧ (σ.1 (22 + s) 1 = nI b ∧ τ.1 2 s = nI b) ∧ (σ.1 (22 + s) 2 = nI c ∧ τ.1 3 s = nI c) ∧ σ.1 (22 + s) 3 = nI d ∧ τ.1 4 s = nI d
def rS (σ τ : St) : Prop := ∀ s, s < 4 → rS1 σ τ s
def rC (σ τ : St) : Prop := ∀ s, s < 4 → σ.1 (22 + s) 4 = τ.1 37 s ∧ σ.1 (22 + s) 5 = τ.1 38 s ∧ σ.1 (22 + s) 6 = τ.1 39 s ∧ σ.1 (22 + s) 7 = τ.1 40 s
def rO (σ τ : St) : Prop := ∀ s d, s < 4 → d < 100 → σ.1 (26 + s) d = τ.1 36 (100 * s + d)
def rB (σ τ : St) : Prop := ∀ k, k < 6 → σ.1 (30 + k) 0 = τ.1 5 k ∧ σ.1 (30 + k) 1 = τ.1 7 k
def rV (σ τ : St) : Prop := ∀ r, r < 4 → σ.1 5 r = τ.1 6 r
def rG (σ τ : St) (G K : Nat) : Prop := (∀ g j, g < 8 → j < 9 → σ.1 (36 + g) j = τ.1 (16 + j) g) ∧ ∀ g, g < G → ∃ r q b : Nat, r < 4 ∧ q < K ∧ b ≤ 99 ∧ τ.1 16 g = nI r ∧ τ.1 17 g = nI q ∧ τ.1 20 g = nI b
def rR (σ τ : St) (K : Nat) : Prop := ∀ r, r < K → rgR σ r (τ.2 8 r) (τ.1 10 r) (fun j => τ.1 11 (90 * r + j))
def rT (σ τ : St) (L : Nat) : Prop := ∀ i, i < L → ∃ b : Nat, b < 256 ∧ τ.1 14 i = nI b ∧ σ.1 8 i = (Int32.toInt8 (nI b)).toInt32
def Rel (σ τ : St) : Prop := ∃ D G K L : Nat, D ≤ 99 ∧ G ≤ 8 ∧ K ≤ 8 ∧ L ≤ 600 ∧ r0 σ τ D G K L ∧ rS σ τ ∧ rC σ τ ∧ rO σ τ ∧ rB σ τ ∧ rV σ τ ∧ rG σ τ G K ∧ rR σ τ K ∧ rT σ τ L
section CG
variable {σ τ σ' τ' : St}
theorem rS_c (h1 : ∀ s j, s < 4 → j < 4 → σ'.1 (22 + s) j = σ.1 (22 + s) j) (h2 : ∀ k s, 1 ≤ k → k ≤ 4 → s < 4 → τ'.1 k s = τ.1 k s) (h : rS σ τ) : rS σ' τ' := fun s hs => by
  obtain ⟨a, b, c, d, q1, q2, q3, q4, q5, q6, q7, q8⟩ := h s hs
  exact ⟨a, b, c, d, q1, q2, q3, q4, by rwa [h1 s 0 hs (by omega), h2 1 s (by omega) (by omega) hs], by rwa [h1 s 1 hs (by omega), h2 2 s (by omega) (by omega) hs], by rwa [h1 s 2 hs (by omega), h2 3 s (by omega) (by omega) hs], by rwa [h1 s 3 hs (by omega), h2 4 s (by omega) (by omega) hs]⟩
theorem rC_c (h1 : ∀ s j, s < 4 → 4 ≤ j → j < 8 → σ'.1 (22 + s) j = σ.1 (22 + s) j) (h2 : ∀ k s, 37 ≤ k → k ≤ 40 → s < 4 → τ'.1 k s = τ.1 k s) (h : rC σ τ) : rC σ' τ' := fun s hs => by
  obtain ⟨q5, q6, q7, q8⟩ := h s hs
  exact ⟨by rwa [h1 s 4 hs (by omega) (by omega), h2 37 s (by omega) (by omega) hs], by rwa [h1 s 5 hs (by omega) (by omega), h2 38 s (by omega) (by omega) hs], by rwa [h1 s 6 hs (by omega) (by omega), h2 39 s (by omega) (by omega) hs], by rwa [h1 s 7 hs (by omega) (by omega), h2 40 s (by omega) (by omega) hs]⟩
theorem rO_c (h1 : ∀ k, 26 ≤ k → k < 30 → σ'.1 k = σ.1 k) (h2 : τ'.1 36 = τ.1 36) (h : rO σ τ) : rO σ' τ' := fun s d hs hd => by
  rw [h1 _ (by omega) (by omega), h2]; exact h s d hs hd
theorem rB_c (h1 : ∀ k, 30 ≤ k → k < 36 → σ'.1 k = σ.1 k) (h2 : τ'.1 5 = τ.1 5) (h3 : τ'.1 7 = τ.1 7) (h : rB σ τ) : rB σ' τ' := fun k hk => by
  rw [h1 _ (by omega) (by omega), h2, h3]; exact h k hk
theorem rV_c (h1 : σ'.1 5 = σ.1 5) (h2 : τ'.1 6 = τ.1 6) (h : rV σ τ) : rV σ' τ' := fun r hr => by
  rw [h1, h2]; exact h r hr
theorem rG_c {G K : Nat} (h1 : ∀ k, 36 ≤ k → k < 44 → σ'.1 k = σ.1 k) (h2 : ∀ k, 16 ≤ k → k < 25 → τ'.1 k = τ.1 k) (h : rG σ τ G K) : rG σ' τ' G K := by
  refine ⟨fun g j hg hj => ?_, fun g hg => ?_⟩
  · rw [h1 _ (by omega) (by omega), h2 _ (by omega) (by omega)]; exact h.1 g j hg hj
  · rw [h2 _ (by omega) (by omega), h2 _ (by omega) (by omega), h2 _ (by omega) (by omega)]; exact h.2 g hg
theorem rR_c {K : Nat} (hK : K ≤ 8) (h1 : ∀ k, 44 ≤ k → k < 76 → σ'.1 k = σ.1 k) (h2 : τ'.2 8 = τ.2 8) (h3 : τ'.1 10 = τ.1 10) (h4 : τ'.1 11 = τ.1 11) (h : rR σ τ K) : rR σ' τ' K := fun r hr => by
  have q := h r hr
  unfold rgR actR at q ⊢
  rw [h1 (44 + r) (by omega) (by omega), h1 (52 + r) (by omega) (by omega), h1 (60 + r) (by omega) (by omega), h1 (68 + r) (by omega) (by omega), h2, h3, h4]
  exact q
theorem rT_c {L : Nat} (h1 : σ'.1 8 = σ.1 8) (h2 : τ'.1 14 = τ.1 14) (h : rT σ τ L) : rT σ' τ' L := fun i hi => by
  rw [h1, h2]; exact h i hi
/-- what a call that only looks may leave behind -/
def kpX (σ σ' : St) : Prop := ∀ k, (k < 15 ∨ (22 ≤ k ∧ k < 76)) → σ'.1 k = σ.1 k
def kpM (τ τ' : St) : Prop := (∀ k, 1 ≤ k → (k < 25 ∨ 36 ≤ k) → τ'.1 k = τ.1 k) ∧ (∀ j, j ≠ 49 → j ≠ 51 → j ≠ 52 → τ'.1 0 j = τ.1 0 j) ∧ τ'.2 = τ.2
theorem kpX_rf : kpX σ σ := fun _ _ => rfl
theorem kpM_rf : kpM τ τ := ⟨fun _ _ _ => rfl, fun _ _ _ _ => rfl, rfl⟩
theorem kpX_tr {σ'' : St} (h1 : kpX σ σ') (h2 : kpX σ' σ'') : kpX σ σ'' := fun k hk => (h2 k hk).trans (h1 k hk)
theorem kpM_tr {τ'' : St} (h1 : kpM τ τ') (h2 : kpM τ' τ'') : kpM τ τ'' := ⟨fun k a b => (h2.1 k a b).trans (h1.1 k a b), fun j a b c => (h2.2.1 j a b c).trans (h1.2.1 j a b c), h2.2.2.trans h1.2.2⟩
theorem Rel_kp (h : Rel σ τ) (hX : kpX σ σ') (hM : kpM τ τ') : Rel σ' τ' := by
  obtain ⟨D, G, K, L, hD, hG, hK, hL, h0, hS, hC, hO, hB, hV, hg, hR, hT⟩ := h
  obtain ⟨m1, m2, m3⟩ := hM
  refine ⟨D, G, K, L, hD, hG, hK, hL, ?_, rS_c (fun s j hs hj => by rw [hX _ (by omega)]) (fun k s h1 h2 hs => by rw [m1 k h1 (by omega)]) hS, rC_c (fun s j hs _ hj => by rw [hX _ (by omega)]) (fun k s h1 h2 hs => by rw [m1 k (by omega) (by omega)]) hC, rO_c (fun k h1 h2 => hX k (by omega)) (m1 _ (by omega) (by omega)) hO, rB_c (fun k h1 h2 => hX k (by omega)) (m1 _ (by omega) (by omega)) (m1 _ (by omega) (by omega)) hB, rV_c (hX _ (by omega)) (m1 _ (by omega) (by omega)) hV, rG_c (fun k h1 h2 => hX k (by omega)) (fun k h1 h2 => m1 k (by omega) (by omega)) hg, rR_c hK (fun k h1 h2 => hX k (by omega)) (by rw [m3]) (m1 _ (by omega) (by omega)) (m1 _ (by omega) (by omega)) hR, rT_c (hX _ (by omega)) (m1 _ (by omega) (by omega)) hT⟩
  unfold r0 at h0 ⊢
  rw [hX 0 (by omega), hX 1 (by omega), hX 6 (by omega), hX 7 (by omega), m2 0 (by decide) (by decide) (by decide), m2 53 (by decide) (by decide) (by decide), m2 59 (by decide) (by decide) (by decide), m2 60 (by decide) (by decide) (by decide), m2 1 (by decide) (by decide) (by decide), m2 2 (by decide) (by decide) (by decide), m2 25 (by decide) (by decide) (by decide), m2 26 (by decide) (by decide) (by decide), m2 18 (by decide) (by decide) (by decide)]
  exact h0
end CG
