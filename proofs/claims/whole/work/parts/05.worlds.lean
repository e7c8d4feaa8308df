/-! the two worlds: their shapes; what the class's methods take as given beside their own cells -/
theorem fam_lt {b n N i : Nat} (h : i < n) (hn : b + n ≤ N) : b + i < N := by omega
theorem tb_0 {x : Int32} : ∀ k, k < 0 → ¬ x = nI k := fun k h => absurd h (Nat.not_lt_zero k)
theorem tb_c {x : Int32} {m : Nat} (hc : ¬ x = nI m) (h : ∀ k, k < m → ¬ x = nI k) : ∀ k, k < m + 1 → ¬ x = nI k := fun k hk => by
  rcases Nat.lt_or_ge k m with q | q
  · exact h k q
  · rw [show k = m by omega]; exact hc
theorem tb_out {x : Int32} (hi : Nat) (h : ∀ k, k < hi + 1 → ¬ x = nI k) : x.toInt < 0 ∨ (hi : Int) < x.toInt := by
  by_cases h0 : x < 0
  · exact Or.inl (by have := Int32.lt_iff_toInt_lt.mp h0; simpa using this)
  · obtain ⟨j, hj, rfl⟩ := nI_of h0
    right
    rw [nI_toInt hj]
    rcases Nat.lt_or_ge hi j with q | q
    · omega
    · exact absurd rfl (h j (by omega))
theorem el_l {R T α : Type} {k : R → Option α} {f : T → Option α} {r : R} {z : α} (h : Sum.elim k f (.inl r) = some z) : k r = some z := h
theorem el_r {R T α : Type} {k : R → Option α} {f : T → Option α} {t : T} {z : α} (h : Sum.elim k f (.inr t) = some z) : f t = some z := h
def dX0 : List Dsc := [.inl (10, [4, 14, 18, 0, 0, 0, 0]), .inl (9, [5, 6, 7, 8, 9, 0]), .inr (.object "CureTown$Spring", 4, 22), .inr (.object "CureTown$Bath", 6, 30), .inr (.object "CureTown$Guest", 8, 36), .inr (.int, 4, 0), .inl (2, [10, 12, 0, 0, 0, 0, 0, 0, 13, 2]), .inl (8, [11, 0, 0, 0, 0, 0, 0]), .inr (.byte, 600, 0), .inr (.object "CureTown$Regimen", 8, 44), .inr (.int, 5, 0), .inl (3, [15, 16, 17]), .inr (.object "CureTown$GuestDay", 8, 76), .inr (.array .int, 4, 116), .inr (.long, 6, 0), .inl (1, [19, 20, 21, 22, 23, 24, 0, 0, 0, 0, 0]), .inr (.int, 6, 0), .inr (.int, 6, 0), .inr (.int, 6, 0), .inr (.boolean, 6, 0), .inr (.int, 6, 0), .inr (.int, 6, 0)]
def dX (k : Nat) : Dsc := if k < 22 then dX0.getD k (.inl (0, []))
  else if k < 26 then .inl (7, [0, 0, 0, 0, 0, 0, 0, 0, 26 + (k - 22) + 3])
  else if k < 30 then .inr (.int, 100, 0)
  else if k < 36 then .inl (0, [0, 0])
  else if k < 44 then .inl (4, [0, 0, 0, 0, 0, 0, 0, 0, 0])
  else if k < 52 then .inl (6, [0, 0, 52 + (k - 44) + 3, 60 + (k - 44) + 3, 68 + (k - 44) + 3])
  else if k < 60 then .inr (.int, 30, 0)
  else if k < 68 then .inr (.int, 30, 0)
  else if k < 76 then .inr (.int, 30, 0)
  else if k < 84 then .inl (5, [0, 0, 0, 0, 0, 0, 84 + (k - 76) + 3, 92 + (k - 76) + 3, 100 + (k - 76) + 3, 108 + (k - 76) + 3])
  else if k < 92 then .inr (.int, 30, 0)
  else if k < 100 then .inr (.int, 30, 0)
  else if k < 108 then .inr (.int, 30, 0)
  else if k < 116 then .inr (.int, 30, 0)
  else if k < 120 then .inr (.int, 48, 0)
  else .inl (0, [])
theorem dX_0 : dX 0 = .inl (10, [4, 14, 18, 0, 0, 0, 0]) := by decide +kernel
theorem dX_1 : dX 1 = .inl (9, [5, 6, 7, 8, 9, 0]) := by decide +kernel
theorem dX_2 : dX 2 = .inr (.object "CureTown$Spring", 4, 22) := by decide +kernel
theorem dX_3 : dX 3 = .inr (.object "CureTown$Bath", 6, 30) := by decide +kernel
theorem dX_4 : dX 4 = .inr (.object "CureTown$Guest", 8, 36) := by decide +kernel
theorem dX_5 : dX 5 = .inr (.int, 4, 0) := by decide +kernel
theorem dX_6 : dX 6 = .inl (2, [10, 12, 0, 0, 0, 0, 0, 0, 13, 2]) := by decide +kernel
theorem dX_7 : dX 7 = .inl (8, [11, 0, 0, 0, 0, 0, 0]) := by decide +kernel
theorem dX_8 : dX 8 = .inr (.byte, 600, 0) := by decide +kernel
theorem dX_9 : dX 9 = .inr (.object "CureTown$Regimen", 8, 44) := by decide +kernel
theorem dX_10 : dX 10 = .inr (.int, 5, 0) := by decide +kernel
theorem dX_11 : dX 11 = .inl (3, [15, 16, 17]) := by decide +kernel
theorem dX_12 : dX 12 = .inr (.object "CureTown$GuestDay", 8, 76) := by decide +kernel
theorem dX_13 : dX 13 = .inr (.array .int, 4, 116) := by decide +kernel
theorem dX_14 : dX 14 = .inr (.long, 6, 0) := by decide +kernel
theorem dX_15 : dX 15 = .inl (1, [19, 20, 21, 22, 23, 24, 0, 0, 0, 0, 0]) := by decide +kernel
theorem dX_16 : dX 16 = .inr (.int, 6, 0) := by decide +kernel
theorem dX_17 : dX 17 = .inr (.int, 6, 0) := by decide +kernel
theorem dX_18 : dX 18 = .inr (.int, 6, 0) := by decide +kernel
theorem dX_19 : dX 19 = .inr (.boolean, 6, 0) := by decide +kernel
theorem dX_20 : dX 20 = .inr (.int, 6, 0) := by decide +kernel
theorem dX_21 : dX 21 = .inr (.int, 6, 0) := by decide +kernel
theorem dX_22 {i : Nat} (h : i < 4) : dX (22 + i) = .inl (7, [0, 0, 0, 0, 0, 0, 0, 0, 26 + i + 3]) := by
  unfold dX
  rw [if_neg (show ¬ 22 + i < 22 by omega), if_pos (show 22 + i < 26 by omega), show 22 + i - 22 = i by omega]
theorem dX_26 {i : Nat} (h : i < 4) : dX (26 + i) = .inr (.int, 100, 0) := by
  unfold dX
  rw [if_neg (show ¬ 26 + i < 22 by omega), if_neg (show ¬ 26 + i < 26 by omega), if_pos (show 26 + i < 30 by omega)]
theorem dX_30 {i : Nat} (h : i < 6) : dX (30 + i) = .inl (0, [0, 0]) := by
  unfold dX
  rw [if_neg (show ¬ 30 + i < 22 by omega), if_neg (show ¬ 30 + i < 26 by omega), if_neg (show ¬ 30 + i < 30 by omega), if_pos (show 30 + i < 36 by omega)]
theorem dX_36 {i : Nat} (h : i < 8) : dX (36 + i) = .inl (4, [0, 0, 0, 0, 0, 0, 0, 0, 0]) := by
  unfold dX
  rw [if_neg (show ¬ 36 + i < 22 by omega), if_neg (show ¬ 36 + i < 26 by omega), if_neg (show ¬ 36 + i < 30 by omega), if_neg (show ¬ 36 + i < 36 by omega), if_pos (show 36 + i < 44 by omega)]
theorem dX_44 {i : Nat} (h : i < 8) : dX (44 + i) = .inl (6, [0, 0, 52 + i + 3, 60 + i + 3, 68 + i + 3]) := by
  unfold dX
  rw [if_neg (show ¬ 44 + i < 22 by omega), if_neg (show ¬ 44 + i < 26 by omega), if_neg (show ¬ 44 + i < 30 by omega), if_neg (show ¬ 44 + i < 36 by omega), if_neg (show ¬ 44 + i < 44 by omega), if_pos (show 44 + i < 52 by omega), show 44 + i - 44 = i by omega]
theorem dX_52 {i : Nat} (h : i < 8) : dX (52 + i) = .inr (.int, 30, 0) := by
  unfold dX
  rw [if_neg (show ¬ 52 + i < 22 by omega), if_neg (show ¬ 52 + i < 26 by omega), if_neg (show ¬ 52 + i < 30 by omega), if_neg (show ¬ 52 + i < 36 by omega), if_neg (show ¬ 52 + i < 44 by omega), if_neg (show ¬ 52 + i < 52 by omega), if_pos (show 52 + i < 60 by omega)]
theorem dX_60 {i : Nat} (h : i < 8) : dX (60 + i) = .inr (.int, 30, 0) := by
  unfold dX
  rw [if_neg (show ¬ 60 + i < 22 by omega), if_neg (show ¬ 60 + i < 26 by omega), if_neg (show ¬ 60 + i < 30 by omega), if_neg (show ¬ 60 + i < 36 by omega), if_neg (show ¬ 60 + i < 44 by omega), if_neg (show ¬ 60 + i < 52 by omega), if_neg (show ¬ 60 + i < 60 by omega), if_pos (show 60 + i < 68 by omega)]
theorem dX_68 {i : Nat} (h : i < 8) : dX (68 + i) = .inr (.int, 30, 0) := by
  unfold dX
  rw [if_neg (show ¬ 68 + i < 22 by omega), if_neg (show ¬ 68 + i < 26 by omega), if_neg (show ¬ 68 + i < 30 by omega), if_neg (show ¬ 68 + i < 36 by omega), if_neg (show ¬ 68 + i < 44 by omega), if_neg (show ¬ 68 + i < 52 by omega), if_neg (show ¬ 68 + i < 60 by omega), if_neg (show ¬ 68 + i < 68 by omega), if_pos (show 68 + i < 76 by omega)]
theorem dX_76 {i : Nat} (h : i < 8) : dX (76 + i) = .inl (5, [0, 0, 0, 0, 0, 0, 84 + i + 3, 92 + i + 3, 100 + i + 3, 108 + i + 3]) := by
  unfold dX
  rw [if_neg (show ¬ 76 + i < 22 by omega), if_neg (show ¬ 76 + i < 26 by omega), if_neg (show ¬ 76 + i < 30 by omega), if_neg (show ¬ 76 + i < 36 by omega), if_neg (show ¬ 76 + i < 44 by omega), if_neg (show ¬ 76 + i < 52 by omega), if_neg (show ¬ 76 + i < 60 by omega), if_neg (show ¬ 76 + i < 68 by omega), if_neg (show ¬ 76 + i < 76 by omega), if_pos (show 76 + i < 84 by omega), show 76 + i - 76 = i by omega]
theorem dX_84 {i : Nat} (h : i < 8) : dX (84 + i) = .inr (.int, 30, 0) := by
  unfold dX
  rw [if_neg (show ¬ 84 + i < 22 by omega), if_neg (show ¬ 84 + i < 26 by omega), if_neg (show ¬ 84 + i < 30 by omega), if_neg (show ¬ 84 + i < 36 by omega), if_neg (show ¬ 84 + i < 44 by omega), if_neg (show ¬ 84 + i < 52 by omega), if_neg (show ¬ 84 + i < 60 by omega), if_neg (show ¬ 84 + i < 68 by omega), if_neg (show ¬ 84 + i < 76 by omega), if_neg (show ¬ 84 + i < 84 by omega), if_pos (show 84 + i < 92 by omega)]
theorem dX_92 {i : Nat} (h : i < 8) : dX (92 + i) = .inr (.int, 30, 0) := by
  unfold dX
  rw [if_neg (show ¬ 92 + i < 22 by omega), if_neg (show ¬ 92 + i < 26 by omega), if_neg (show ¬ 92 + i < 30 by omega), if_neg (show ¬ 92 + i < 36 by omega), if_neg (show ¬ 92 + i < 44 by omega), if_neg (show ¬ 92 + i < 52 by omega), if_neg (show ¬ 92 + i < 60 by omega), if_neg (show ¬ 92 + i < 68 by omega), if_neg (show ¬ 92 + i < 76 by omega), if_neg (show ¬ 92 + i < 84 by omega), if_neg (show ¬ 92 + i < 92 by omega), if_pos (show 92 + i < 100 by omega)]
theorem dX_100 {i : Nat} (h : i < 8) : dX (100 + i) = .inr (.int, 30, 0) := by
  unfold dX
  rw [if_neg (show ¬ 100 + i < 22 by omega), if_neg (show ¬ 100 + i < 26 by omega), if_neg (show ¬ 100 + i < 30 by omega), if_neg (show ¬ 100 + i < 36 by omega), if_neg (show ¬ 100 + i < 44 by omega), if_neg (show ¬ 100 + i < 52 by omega), if_neg (show ¬ 100 + i < 60 by omega), if_neg (show ¬ 100 + i < 68 by omega), if_neg (show ¬ 100 + i < 76 by omega), if_neg (show ¬ 100 + i < 84 by omega), if_neg (show ¬ 100 + i < 92 by omega), if_neg (show ¬ 100 + i < 100 by omega), if_pos (show 100 + i < 108 by omega)]
theorem dX_108 {i : Nat} (h : i < 8) : dX (108 + i) = .inr (.int, 30, 0) := by
  unfold dX
  rw [if_neg (show ¬ 108 + i < 22 by omega), if_neg (show ¬ 108 + i < 26 by omega), if_neg (show ¬ 108 + i < 30 by omega), if_neg (show ¬ 108 + i < 36 by omega), if_neg (show ¬ 108 + i < 44 by omega), if_neg (show ¬ 108 + i < 52 by omega), if_neg (show ¬ 108 + i < 60 by omega), if_neg (show ¬ 108 + i < 68 by omega), if_neg (show ¬ 108 + i < 76 by omega), if_neg (show ¬ 108 + i < 84 by omega), if_neg (show ¬ 108 + i < 92 by omega), if_neg (show ¬ 108 + i < 100 by omega), if_neg (show ¬ 108 + i < 108 by omega), if_pos (show 108 + i < 116 by omega)]
theorem dX_116 {i : Nat} (h : i < 4) : dX (116 + i) = .inr (.int, 48, 0) := by
  unfold dX
  rw [if_neg (show ¬ 116 + i < 22 by omega), if_neg (show ¬ 116 + i < 26 by omega), if_neg (show ¬ 116 + i < 30 by omega), if_neg (show ¬ 116 + i < 36 by omega), if_neg (show ¬ 116 + i < 44 by omega), if_neg (show ¬ 116 + i < 52 by omega), if_neg (show ¬ 116 + i < 60 by omega), if_neg (show ¬ 116 + i < 68 by omega), if_neg (show ¬ 116 + i < 76 by omega), if_neg (show ¬ 116 + i < 84 by omega), if_neg (show ¬ 116 + i < 92 by omega), if_neg (show ¬ 116 + i < 100 by omega), if_neg (show ¬ 116 + i < 108 by omega), if_neg (show ¬ 116 + i < 116 by omega), if_pos (show 116 + i < 120 by omega)]
def dM0 : List Dsc := [.inl (11, [0, 0, 0, 4, 5, 6, 7, 8, 9, 10, 11, 12, 13, 14, 15, 16, 0, 17, 0, 0, 0, 0, 0, 0, 0, 0, 0, 1, 0, 18, 19, 20, 21, 22, 23, 24, 25, 26, 27, 28, 29, 30, 31, 32, 33, 34, 35, 36, 37, 0, 38, 0, 0, 0, 39, 40, 41, 42, 43, 0, 0]), .inr (.int, 4, 0), .inr (.int, 4, 0), .inr (.int, 4, 0), .inr (.int, 4, 0), .inr (.int, 6, 0), .inr (.int, 4, 0), .inr (.boolean, 6, 0), .inr (.long, 8, 0), .inr (.long, 8, 0), .inr (.int, 8, 0), .inr (.int, 720, 0), .inr (.int, 8, 0), .inr (.int, 720, 0), .inr (.int, 600, 0), .inr (.int, 5, 0), .inr (.int, 8, 0), .inr (.int, 8, 0), .inr (.int, 8, 0), .inr (.int, 8, 0), .inr (.int, 8, 0), .inr (.int, 8, 0), .inr (.int, 8, 0), .inr (.int, 8, 0), .inr (.int, 8, 0), .inr (.int, 192, 0), .inr (.int, 8, 0), .inr (.int, 8, 0), .inr (.int, 8, 0), .inr (.int, 8, 0), .inr (.int, 8, 0), .inr (.boolean, 288, 0), .inr (.int, 240, 0), .inr (.int, 240, 0), .inr (.int, 240, 0), .inr (.int, 8, 0), .inr (.int, 400, 0), .inr (.int, 4, 0), .inr (.int, 4, 0), .inr (.int, 4, 0), .inr (.int, 4, 0)]
def dM (k : Nat) : Dsc := if k < 41 then dM0.getD k (.inl (0, []))
  else .inl (0, [])
theorem dM_0 : dM 0 = .inl (11, [0, 0, 0, 4, 5, 6, 7, 8, 9, 10, 11, 12, 13, 14, 15, 16, 0, 17, 0, 0, 0, 0, 0, 0, 0, 0, 0, 1, 0, 18, 19, 20, 21, 22, 23, 24, 25, 26, 27, 28, 29, 30, 31, 32, 33, 34, 35, 36, 37, 0, 38, 0, 0, 0, 39, 40, 41, 42, 43, 0, 0]) := by decide +kernel
theorem dM_1 : dM 1 = .inr (.int, 4, 0) := by decide +kernel
theorem dM_2 : dM 2 = .inr (.int, 4, 0) := by decide +kernel
theorem dM_3 : dM 3 = .inr (.int, 4, 0) := by decide +kernel
theorem dM_4 : dM 4 = .inr (.int, 4, 0) := by decide +kernel
theorem dM_5 : dM 5 = .inr (.int, 6, 0) := by decide +kernel
theorem dM_6 : dM 6 = .inr (.int, 4, 0) := by decide +kernel
theorem dM_7 : dM 7 = .inr (.boolean, 6, 0) := by decide +kernel
theorem dM_8 : dM 8 = .inr (.long, 8, 0) := by decide +kernel
theorem dM_9 : dM 9 = .inr (.long, 8, 0) := by decide +kernel
theorem dM_10 : dM 10 = .inr (.int, 8, 0) := by decide +kernel
theorem dM_11 : dM 11 = .inr (.int, 720, 0) := by decide +kernel
theorem dM_12 : dM 12 = .inr (.int, 8, 0) := by decide +kernel
theorem dM_13 : dM 13 = .inr (.int, 720, 0) := by decide +kernel
theorem dM_14 : dM 14 = .inr (.int, 600, 0) := by decide +kernel
theorem dM_15 : dM 15 = .inr (.int, 5, 0) := by decide +kernel
theorem dM_16 : dM 16 = .inr (.int, 8, 0) := by decide +kernel
theorem dM_17 : dM 17 = .inr (.int, 8, 0) := by decide +kernel
theorem dM_18 : dM 18 = .inr (.int, 8, 0) := by decide +kernel
theorem dM_19 : dM 19 = .inr (.int, 8, 0) := by decide +kernel
theorem dM_20 : dM 20 = .inr (.int, 8, 0) := by decide +kernel
theorem dM_21 : dM 21 = .inr (.int, 8, 0) := by decide +kernel
theorem dM_22 : dM 22 = .inr (.int, 8, 0) := by decide +kernel
theorem dM_23 : dM 23 = .inr (.int, 8, 0) := by decide +kernel
theorem dM_24 : dM 24 = .inr (.int, 8, 0) := by decide +kernel
theorem dM_25 : dM 25 = .inr (.int, 192, 0) := by decide +kernel
theorem dM_26 : dM 26 = .inr (.int, 8, 0) := by decide +kernel
theorem dM_27 : dM 27 = .inr (.int, 8, 0) := by decide +kernel
theorem dM_28 : dM 28 = .inr (.int, 8, 0) := by decide +kernel
theorem dM_29 : dM 29 = .inr (.int, 8, 0) := by decide +kernel
theorem dM_30 : dM 30 = .inr (.int, 8, 0) := by decide +kernel
theorem dM_31 : dM 31 = .inr (.boolean, 288, 0) := by decide +kernel
theorem dM_32 : dM 32 = .inr (.int, 240, 0) := by decide +kernel
theorem dM_33 : dM 33 = .inr (.int, 240, 0) := by decide +kernel
theorem dM_34 : dM 34 = .inr (.int, 240, 0) := by decide +kernel
theorem dM_35 : dM 35 = .inr (.int, 8, 0) := by decide +kernel
theorem dM_36 : dM 36 = .inr (.int, 400, 0) := by decide +kernel
theorem dM_37 : dM 37 = .inr (.int, 4, 0) := by decide +kernel
theorem dM_38 : dM 38 = .inr (.int, 4, 0) := by decide +kernel
theorem dM_39 : dM 39 = .inr (.int, 4, 0) := by decide +kernel
theorem dM_40 : dM 40 = .inr (.int, 4, 0) := by decide +kernel
def ET : State → Prop := fun _ => True
theorem ET_ok {N : Nat} {ad : Nat → Nat} : EOK N ad ET := ⟨fun _ _ _ _ _ => trivial, fun _ _ _ _ _ _ _ _ => trivial⟩
abbrev ZX : Type := Nat × Nat × (Nat → Nat) × (Nat → Nat)
def leastF : Nat → Int32 := fun j => ([0, 0, 1, 0, 1] : List Int32).getD j 0
def mostF : Nat → Int32 := fun j => ([3, 2, 16, 47, 9] : List Int32).getD j 0
def wdIx : Nat → Nat := fun j => ([58, 64, 66, 68, 70, 72] : List Nat).getD j 0
def wdTx : Nat → String := fun j => (["glass", "bath", "rest", "until", "each", "cure"] : List String).getD j ""
def wdLen : List Nat := [5, 4, 4, 5, 4, 4]
def wdByt : List (List Int32) := [[103, 108, 97, 115, 115], [98, 97, 116, 104], [114, 101, 115, 116], [117, 110, 116, 105, 108], [101, 97, 99, 104], [99, 117, 114, 101]]
def EX (ad : Nat → Nat) (z : ZX) (U : State) : Prop := va_Nw (.methodLinkNest RX9 47 yX10_isBelow "CureTown") U ∧ va_Nw (.fieldLinkNest RX2 119 "CureTown" "LEAST_FIRST" "[I" "CureTown") U ∧ va_Nw (.fieldLinkNest RX2 122 "CureTown" "MOST_FIRST" "[I" "CureTown") U ∧ va_Z "CureTown" "LEAST_FIRST" "[I" (.ref z.1) (inA 120 ad) U U.heap ∧ va_T .int z.1 5 (fun j => .int (leastF j)) (inA 120 ad) U U.heap ∧ va_Z "CureTown" "MOST_FIRST" "[I" (.ref z.2.1) (inA 120 ad) U U.heap ∧ va_T .int z.2.1 5 (fun j => .int (mostF j)) (inA 120 ad) U U.heap ∧ vk_S 6 wdLen wdByt z.2.2.1 z.2.2.2 (inA 120 ad) U U.heap ∧ (∀ i, i < 6 → vk_R RX8 (wdIx i) (wdTx i) (z.2.2.1 i) U) ∧ va_Z "java/lang/String" "COMPACT_STRINGS" "Z" (.int 1) (inA 120 ad) U U.heap ∧ va_Zq "jdk/internal/util/Preconditions" "SIOOBE_FORMATTER" "Ljava/util/function/BiFunction;" (inA 120 ad) U U.heap
theorem EX_ok (ad : Nat → Nat) (z : ZX) : EOK 120 ad (EX ad z) := by
  refine ⟨fun a U g mk h => ?_, fun s U H locs h hS hW hU => ?_⟩
  · obtain ⟨h1, h2, h3, h4, h5, h6, h7, h8, h9, h10, h11⟩ := h
    have e : U.vm.Alike (U.calling g mk a).vm := Vm.Alike.refl U.vm
    exact ⟨va_Nw.same rfl rfl h1, va_Nw.same rfl rfl h2, va_Nw.same rfl rfl h3, va_Z.moved e h4, va_T.moved e h5, va_Z.moved e h6, va_T.moved e h7, vk_S.moved e h8, fun i hi => vk_R.same rfl (h9 i hi), va_Z.moved e h10, va_Zq.moved e h11⟩
  · obtain ⟨h1, h2, h3, h4, h5, h6, h7, h8, h9, h10, h11⟩ := h
    subst hU
    have hk := hS.2.1
    exact ⟨va_Nw.warmM hW h1, va_Nw.warmF hW h2, va_Nw.warmF hW h3, va_Z.moved hW.alike (h4.kept hk), va_T.moved hW.alike (h5.kept hk), va_Z.moved hW.alike (h6.kept hk), va_T.moved hW.alike (h7.kept hk), vk_S.moved hW.alike (h8.kept hk), fun i hi => vk_R.warm hW (h9 i hi), va_Z.moved hW.alike (h10.kept hk), va_Zq.moved hW.alike (h11.kept hk)⟩
def sr (σ : St) (k : Nat) (f : Nat → Int32) : St := (va_up σ.1 k f, σ.2)
section LR2
variable {p : Program} {l : Launch} {e : Env} {R : Room} {s : State} {m : MethodId} {args : Array Value} {below : List Frame} {meth : Method} {c : Code} {H : Heap} {locs : List Loc} {cells slots : Nat} {Q : State → Prop}
variable {cc : ByteArray} {pc nL : Nat} {ls : Array Slot} {rest : List Value} {D : va_G} {own : String} {Ts : List Cond} {E : State → Prop}
variable {d : Nat → Dsc} {N : Nat} {cA : Nat → ClassId} {ad : Nat → Nat} {σ : St}
theorem x_cpy (X : Cx p s m args c cc nL own Ts D d N cA ad E) (hP : va_P D vwCl (ww d N cA ad σ) H) (hS : va_S (inA N ad) s.heap H locs) {k0 k1 n0 n1 b0 b1 mx index : Nat} {n : Int32} (hk0 : k0 < N) (hd0 : d k0 = .inr (.int, n0, b0)) (hk1 : k1 < N) (hd1 : d k1 = .inr (.int, n1, b1)) (hn : inb n (mx + 1) = true) (h0 : mx ≤ n0) (h1 : mx ≤ n1) (hl1 : Cond.methodLink own index arraycopyName ∈ Ts) (hnat : Cond.native arraycopyName ∈ Ts) (hstt : Cond.static arraycopyName ∈ Ts) (hini : Cond.initialized "java/lang/System" ∈ Ts) (hsz : ls.size = nL) (hframes : 1 ≤ R.frames) (hlocals : (rest.map fun v => v.category).sum + (nativeFrameWords "java/lang/System" "arraycopy" 5 + 11) ≤ R.locals) (hdg : decode cc pc = .ok (.invokestatic index, 3))
    (kk : ∀ (σ1 : St) (_ : σ1 = sr σ k1 (va_cpy (σ.1 k0) (σ.1 k1) 0 0 n.toNatClampNeg)) (H1 : Heap) (locs1 : List Loc), va_P D vwCl (ww d N cA ad σ1) H1 → va_S (inA N ad) s.heap H1 locs1 → W p l e R s m args below meth c H1 locs1 cells slots Q (F0 m (pc + 3) ls rest)) : W p l e R s m args below meth c H locs cells slots Q (F0 m pc ls (.int n :: .int 0 :: .ref (ad k1) :: .int 0 :: .ref (ad k0) :: rest)) := by
  have hv := inb_vp hn
  have hlt := inb_lt hn
  have e0 : (0 : Int32).toNatClampNeg = 0 := by decide
  refine va_copyi X.1 X.2.1 (X.2.2.1.trans hsz.symm) X.2.2.2.1 (X.2.2.2.2.1 _ hl1) (X.2.2.2.2.1 _ hnat) (X.2.2.2.2.1 _ hstt) (X.2.2.2.2.1 _ hini) X.2.2.2.2.2.1 hP (ww_D X.2.2.2.2.2.2.1) hS k0 k1 k0 k1 (f := σ.1 k0) (g := σ.1 k1) (ty := .int) (n0 := n0) (n1 := n1) (ww_arr hk0 hd0) (ww_arr hk1 hd1) (tt_arr hk0 hd0) (tt_arr hk1 hd1) rfl (by decide) (by decide) (fun q => hv (Or.inl q)) (by rw [e0]; omega) (by rw [e0]; omega) (fun i _ => rfl) hframes hlocals hdg (fun H1 locs1 hP1 _ hS1 => kk _ rfl H1 locs1 ?_ hS1)
  have e1 : (ww d N cA ad σ).set k1 (ad k1, .inl (cA k1, n1, .inl (va_cpy (σ.1 k0) (σ.1 k1) 0 0 n.toNatClampNeg))) = ww d N cA ad (sr σ k1 (va_cpy (σ.1 k0) (σ.1 k1) 0 0 n.toNatClampNeg)) :=
    ww_ai (q := (.int, n1, b1)) hd1 (by show (n1, Sum.inl ((sr σ k1 _).1 k1)) = _; rw [show (sr σ k1 (va_cpy (σ.1 k0) (σ.1 k1) 0 0 n.toNatClampNeg)).1 k1 = va_cpy (σ.1 k0) (σ.1 k1) 0 0 n.toNatClampNeg from if_pos rfl]) (fun k' h => if_neg h) rfl
  rw [e0] at hP1
  rw [e1] at hP1
  exact hP1
theorem x_Ki {y : MethodName} {ws ws' : List Cond} {rm : Room} {index maxL b : Nat} {bytes : ByteArray} {ret : Option FieldType} {C : String} {As st0 : List Value} (X : Cx p s m args c cc nL own Ts D d N cA ad E) (hP : va_P D vwCl (ww d N cA ad σ) H) (hS : va_S (inA N ad) s.heap H locs) {res : Int32 × St} (hM : MXi l D d N cA ad E y ws rm (.ref b :: As) σ res) (hrv : ∃ cell : Cell, H[b]? = some cell ∧ cell.vm.isStatics = false ∧ s.vm.findClass C = some cell.cls) (n : Nat) (hT : GoodIn Ts (wsV own index C y ws)) (hw : ws = Cond.code y bytes maxL ret :: ws') (hrc : rm.cells = 0) (hrs : rm.slots = 0)
    (hy : y.cls = C ∧ y.cls ≠ "java/lang/invoke/MethodHandle" ∧ y.cls ≠ "java/lang/invoke/VarHandle" ∧ (parseMethodDescriptor y.desc).map (fun d => d.parameters.length) = some n) (hR : rm.frames + 1 ≤ R.frames ∧ 8 + (maxL + 11) + rm.locals ≤ R.locals) (hn : As.length = n) (hsz : ls.size = nL) (hst : st0 = As.reverse ++ .ref b :: rest) (hW : (rest.map fun v => v.category).sum ≤ 8) (hdg : decode cc pc = .ok (.invokevirtual index, 3)) (hf : cells ≤ R.cells ∧ slots ≤ R.slots)
    (kk : ∀ (H1 : Heap) (locs1 : List Loc), va_P D vwCl (ww d N cA ad res.2) H1 → va_S (inA N ad) s.heap H1 locs1 → W p l e R s m args below meth c H1 locs1 cells slots Q (F0 m (pc + 3) ls (.int res.1 :: rest))) : W p l e R s m args below meth c H locs cells slots Q (F0 m pc ls st0) := by
  refine va_calli (va_runV (As := As) (rest := rest) (x_fix X) hM (cwV n X.2.2.2.2.1 hT hw hrc hrs hy hR) ⟨x_blind X.2.2.2.2.2.2.2.2, hrv, x_pre X hP hS⟩ rfl hn hsz hst (lv_room hW) hdg hf) hS (fun q _ h => h) (fun q h => h) (fun r u t H1 locs1 ht hvm hw hB hz1 hk1 hS1 => ?_)
  obtain ⟨rfl, rfl⟩ := hw
  rw [ht] at hB
  exact kk H1 locs1 hB hS1
end LR2
