def fsx (ad : Nat → Nat) (σ : St) (k : Nat) : Nat → List Nat → List Value
  | _, [] => []
  | j, c :: cs => fvl ad σ k j c :: fsx ad σ k (j + 1) cs
theorem fsx_eq (ad : Nat → Nat) (σ : St) (k : Nat) : ∀ (cs : List Nat) (j : Nat), cs.mapIdx (fun i c => fvl ad σ k (i + j) c) = fsx ad σ k j cs
  | [], _ => rfl
  | c :: cs, j => by
    rw [List.mapIdx_cons, fsx, ← fsx_eq ad σ k cs (j + 1)]
    refine congr (congrArg List.cons (by rw [Nat.zero_add])) ?_
    refine congrFun (congrArg List.mapIdx ?_) cs
    funext i c
    rw [show i + 1 + j = i + (j + 1) by omega]
theorem cel_o {D : va_G} {cl : List vw_C} {d : Nat → Dsc} {cA : Nat → ClassId} {ad : Nat → Nat} {σ : St} {k ci a : Nat} {ks : List Nat} {vls : List Value} {H : Heap} (hd : d k = .inl (ci, ks)) (hm : fsx ad σ k 0 ks = vls) (h : va_at D cl (a, .inr (ci, vls)) H) : va_at D cl (a, cel d cA ad σ k) H := by
  have e : cel d cA ad σ k = .inr (ci, vls) := by
    unfold cel
    rw [hd, ← hm, ← fsx_eq]
    rfl
  rw [e]
  exact h
theorem cel_o2 {D : va_G} {cl : List vw_C} {d : Nat → Dsc} {cA : Nat → ClassId} {ad : Nat → Nat} {σ : St} {k ci a : Nat} {ks : List Nat} {vls : List Value} {H : Heap} (hd : d k = .inl (ci, ks)) (h : va_at D cl (a, .inr (ci, vls)) H) (hm : fsx ad σ k 0 ks = vls) : va_at D cl (a, cel d cA ad σ k) H := cel_o hd hm h
theorem va_Pc1 {D : va_G} {cl : List vw_C} {x : Nat × va_E} {ws : va_W} {H : Heap} (h : va_P D cl (x :: ws) H) : va_at D cl x H ∧ va_P D cl ws H := ⟨h 0 x rfl, fun k q hk => h (k + 1) q (by rw [List.getElem?_cons_succ]; exact hk)⟩
theorem va_Kc1 {U : State} {x : ClassId × FieldType} {ts : List (ClassId × FieldType)} (h : ∀ (k : Nat) (q : ClassId × FieldType), (x :: ts)[k]? = some q → ArrOfT U q.1 q.2 ∧ va_RA U q.1 q.2) : (ArrOfT U x.1 x.2 ∧ va_RA U x.1 x.2) ∧ ∀ (k : Nat) (q : ClassId × FieldType), ts[k]? = some q → ArrOfT U q.1 q.2 ∧ va_RA U q.1 q.2 := ⟨h 0 x rfl, fun k q hk => h (k + 1) q (by rw [List.getElem?_cons_succ]; exact hk)⟩
def lkP (ws : va_W) (g : Nat → Nat) (o : Nat) : Prop := ∀ i, i < ws.length → (ws[i]?).map (fun q => q.1) = some (g (o + i))
theorem lk_n {g : Nat → Nat} {o : Nat} : lkP [] g o := fun i h => absurd h (Nat.not_lt_zero i)
theorem lk_c {x : Nat × va_E} {ws : va_W} {g : Nat → Nat} {o : Nat} (h : x.1 = g o) (hs : lkP ws g (o + 1)) : lkP (x :: ws) g o := fun i hi => by
  cases i with
  | zero => rw [List.getElem?_cons_zero, Option.map_some, h]; rfl
  | succ i =>
    rw [List.getElem?_cons_succ, hs i (by simpa using hi)]
    rw [show o + 1 + i = o + (i + 1) by omega]
def gX (h0 : Nat) (qs : Nat → Nat) (p : Nat) : Nat := (if p < 60 then (if p < 30 then (if p < 15 then (if p < 7 then (if p < 3 then (if p < 1 then h0 else (if p < 2 then (qs 0) else (qs 1))) else (if p < 5 then (if p < 4 then (qs 2) else (qs 3)) else (if p < 6 then (qs 4) else (qs 5)))) else (if p < 11 then (if p < 9 then (if p < 8 then (qs 6) else (qs 7)) else (if p < 10 then (qs 8) else (qs 9))) else (if p < 13 then (if p < 12 then (qs 10) else (qs 11)) else (if p < 14 then (qs 12) else (qs 13))))) else (if p < 22 then (if p < 18 then (if p < 16 then (qs 14) else (if p < 17 then (qs 15) else (qs 16))) else (if p < 20 then (if p < 19 then (qs 17) else (qs 18)) else (if p < 21 then (qs 19) else (qs 20)))) else (if p < 26 then (if p < 24 then (if p < 23 then (qs 21) else (qs 22)) else (if p < 25 then (qs 23) else (qs 24))) else (if p < 28 then (if p < 27 then (qs 25) else (qs 26)) else (if p < 29 then (qs 27) else (qs 28)))))) else (if p < 45 then (if p < 37 then (if p < 33 then (if p < 31 then (qs 29) else (if p < 32 then (qs 30) else (qs 31))) else (if p < 35 then (if p < 34 then (qs 32) else (qs 33)) else (if p < 36 then (qs 34) else (qs 35)))) else (if p < 41 then (if p < 39 then (if p < 38 then (qs 36) else (qs 37)) else (if p < 40 then (qs 38) else (qs 39))) else (if p < 43 then (if p < 42 then (qs 40) else (qs 41)) else (if p < 44 then (qs 42) else (qs 43))))) else (if p < 52 then (if p < 48 then (if p < 46 then (qs 44) else (if p < 47 then (qs 45) else (qs 46))) else (if p < 50 then (if p < 49 then (qs 47) else (qs 48)) else (if p < 51 then (qs 49) else (qs 50)))) else (if p < 56 then (if p < 54 then (if p < 53 then (qs 51) else (qs 52)) else (if p < 55 then (qs 53) else (qs 54))) else (if p < 58 then (if p < 57 then (qs 55) else (qs 56)) else (if p < 59 then (qs 57) else (qs 58))))))) else (if p < 90 then (if p < 75 then (if p < 67 then (if p < 63 then (if p < 61 then (qs 59) else (if p < 62 then (qs 60) else (qs 61))) else (if p < 65 then (if p < 64 then (qs 62) else (qs 63)) else (if p < 66 then (qs 64) else (qs 65)))) else (if p < 71 then (if p < 69 then (if p < 68 then (qs 66) else (qs 67)) else (if p < 70 then (qs 68) else (qs 69))) else (if p < 73 then (if p < 72 then (qs 70) else (qs 71)) else (if p < 74 then (qs 72) else (qs 73))))) else (if p < 82 then (if p < 78 then (if p < 76 then (qs 74) else (if p < 77 then (qs 75) else (qs 76))) else (if p < 80 then (if p < 79 then (qs 77) else (qs 78)) else (if p < 81 then (qs 79) else (qs 80)))) else (if p < 86 then (if p < 84 then (if p < 83 then (qs 81) else (qs 82)) else (if p < 85 then (qs 83) else (qs 84))) else (if p < 88 then (if p < 87 then (qs 85) else (qs 86)) else (if p < 89 then (qs 87) else (qs 88)))))) else (if p < 105 then (if p < 97 then (if p < 93 then (if p < 91 then (qs 89) else (if p < 92 then (qs 90) else (qs 91))) else (if p < 95 then (if p < 94 then (qs 92) else (qs 93)) else (if p < 96 then (qs 94) else (qs 95)))) else (if p < 101 then (if p < 99 then (if p < 98 then (qs 96) else (qs 97)) else (if p < 100 then (qs 98) else (qs 99))) else (if p < 103 then (if p < 102 then (qs 100) else (qs 101)) else (if p < 104 then (qs 102) else (qs 103))))) else (if p < 112 then (if p < 108 then (if p < 106 then (qs 104) else (if p < 107 then (qs 105) else (qs 106))) else (if p < 110 then (if p < 109 then (qs 107) else (qs 108)) else (if p < 111 then (qs 109) else (qs 110)))) else (if p < 116 then (if p < 114 then (if p < 113 then (qs 111) else (qs 112)) else (if p < 115 then (qs 113) else (qs 114))) else (if p < 118 then (if p < 117 then (qs 115) else (qs 116)) else (if p < 119 then (qs 117) else (qs 118))))))))
def plX (k : Nat) : Nat := (if k < 60 then (if k < 30 then (if k < 15 then (if k < 7 then (if k < 3 then (if k < 1 then 0 else (if k < 2 then 1 else 2)) else (if k < 5 then (if k < 4 then 3 else 4) else (if k < 6 then 5 else 6))) else (if k < 11 then (if k < 9 then (if k < 8 then 7 else 8) else (if k < 10 then 9 else 10)) else (if k < 13 then (if k < 12 then 65 else 66) else (if k < 14 then 67 else 72)))) else (if k < 22 then (if k < 18 then (if k < 16 then 113 else (if k < 17 then 114 else 115)) else (if k < 20 then (if k < 19 then 116 else 117) else (if k < 21 then 118 else 119))) else (if k < 26 then (if k < 24 then (if k < 23 then 43 else 45) else (if k < 25 then 47 else 49)) else (if k < 28 then (if k < 27 then 44 else 46) else (if k < 29 then 48 else 50))))) else (if k < 45 then (if k < 37 then (if k < 33 then (if k < 31 then 51 else (if k < 32 then 52 else 53)) else (if k < 35 then (if k < 34 then 54 else 55) else (if k < 36 then 56 else 57))) else (if k < 41 then (if k < 39 then (if k < 38 then 58 else 59) else (if k < 40 then 60 else 61)) else (if k < 43 then (if k < 42 then 62 else 63) else (if k < 44 then 64 else 11)))) else (if k < 52 then (if k < 48 then (if k < 46 then 15 else (if k < 47 then 19 else 23)) else (if k < 50 then (if k < 49 then 27 else 31) else (if k < 51 then 35 else 39))) else (if k < 56 then (if k < 54 then (if k < 53 then 12 else 16) else (if k < 55 then 20 else 24)) else (if k < 58 then (if k < 57 then 28 else 32) else (if k < 59 then 36 else 40)))))) else (if k < 90 then (if k < 75 then (if k < 67 then (if k < 63 then (if k < 61 then 13 else (if k < 62 then 17 else 21)) else (if k < 65 then (if k < 64 then 25 else 29) else (if k < 66 then 33 else 37))) else (if k < 71 then (if k < 69 then (if k < 68 then 41 else 14) else (if k < 70 then 18 else 22)) else (if k < 73 then (if k < 72 then 26 else 30) else (if k < 74 then 34 else 38)))) else (if k < 82 then (if k < 78 then (if k < 76 then 42 else (if k < 77 then 73 else 78)) else (if k < 80 then (if k < 79 then 83 else 88) else (if k < 81 then 93 else 98))) else (if k < 86 then (if k < 84 then (if k < 83 then 103 else 108) else (if k < 85 then 74 else 79)) else (if k < 88 then (if k < 87 then 84 else 89) else (if k < 89 then 94 else 99))))) else (if k < 105 then (if k < 97 then (if k < 93 then (if k < 91 then 104 else (if k < 92 then 109 else 75)) else (if k < 95 then (if k < 94 then 80 else 85) else (if k < 96 then 90 else 95))) else (if k < 101 then (if k < 99 then (if k < 98 then 100 else 105) else (if k < 100 then 110 else 76)) else (if k < 103 then (if k < 102 then 81 else 86) else (if k < 104 then 91 else 96)))) else (if k < 112 then (if k < 108 then (if k < 106 then 101 else (if k < 107 then 106 else 111)) else (if k < 110 then (if k < 109 then 77 else 82) else (if k < 111 then 87 else 92))) else (if k < 116 then (if k < 114 then (if k < 113 then 97 else 102) else (if k < 115 then 107 else 112)) else (if k < 118 then (if k < 117 then 68 else 69) else (if k < 119 then 70 else 71)))))))
def adX (h0 : Nat) (qs : Nat → Nat) (k : Nat) : Nat := gX h0 qs (plX k)
def cAX (cs : Nat → ClassId) (k : Nat) : ClassId := (if k < 60 then (if k < 30 then (if k < 15 then (if k < 7 then (if k < 3 then (if k < 1 then (cs 3) else (if k < 2 then (cs 3) else (cs 0))) else (if k < 5 then (if k < 4 then (cs 1) else (cs 2)) else (cs 3))) else (if k < 11 then (if k < 9 then (if k < 8 then (cs 3) else (cs 4)) else (if k < 10 then (cs 5) else (cs 6))) else (if k < 13 then (if k < 12 then (cs 3) else (cs 35)) else (if k < 14 then (cs 36) else (cs 38))))) else (if k < 22 then (if k < 18 then (if k < 16 then (cs 3) else (if k < 17 then (cs 71) else (cs 72))) else (if k < 20 then (if k < 19 then (cs 73) else (cs 74)) else (if k < 21 then (cs 75) else (cs 76)))) else (if k < 26 then (cs 3) else (if k < 28 then (if k < 27 then (cs 31) else (cs 32)) else (if k < 29 then (cs 33) else (cs 34)))))) else (if k < 45 then (cs 3) else (if k < 52 then (cs 3) else (if k < 56 then (if k < 54 then (if k < 53 then (cs 7) else (cs 10)) else (if k < 55 then (cs 13) else (cs 16))) else (if k < 58 then (if k < 57 then (cs 19) else (cs 22)) else (if k < 59 then (cs 25) else (cs 28))))))) else (if k < 90 then (if k < 75 then (if k < 67 then (if k < 63 then (if k < 61 then (cs 8) else (if k < 62 then (cs 11) else (cs 14))) else (if k < 65 then (if k < 64 then (cs 17) else (cs 20)) else (if k < 66 then (cs 23) else (cs 26)))) else (if k < 71 then (if k < 69 then (if k < 68 then (cs 29) else (cs 9)) else (if k < 70 then (cs 12) else (cs 15))) else (if k < 73 then (if k < 72 then (cs 18) else (cs 21)) else (if k < 74 then (cs 24) else (cs 27))))) else (if k < 82 then (if k < 78 then (if k < 76 then (cs 30) else (cs 3)) else (cs 3)) else (if k < 86 then (if k < 84 then (cs 3) else (if k < 85 then (cs 39) else (cs 43))) else (if k < 88 then (if k < 87 then (cs 47) else (cs 51)) else (if k < 89 then (cs 55) else (cs 59)))))) else (if k < 105 then (if k < 97 then (if k < 93 then (if k < 91 then (cs 63) else (if k < 92 then (cs 67) else (cs 40))) else (if k < 95 then (if k < 94 then (cs 44) else (cs 48)) else (if k < 96 then (cs 52) else (cs 56)))) else (if k < 101 then (if k < 99 then (if k < 98 then (cs 60) else (cs 64)) else (if k < 100 then (cs 68) else (cs 41))) else (if k < 103 then (if k < 102 then (cs 45) else (cs 49)) else (if k < 104 then (cs 53) else (cs 57))))) else (if k < 112 then (if k < 108 then (if k < 106 then (cs 61) else (if k < 107 then (cs 65) else (cs 69))) else (if k < 110 then (if k < 109 then (cs 42) else (cs 46)) else (if k < 111 then (cs 50) else (cs 54)))) else (if k < 116 then (if k < 114 then (if k < 113 then (cs 58) else (cs 62)) else (if k < 115 then (cs 66) else (cs 70))) else (cs 37))))))
def σ0X : St := (fun k => if k = 6 then (upd (fun _ => 0) 4 (-1)) else if k = 7 then (upd (fun _ => 0) 2 12) else if k = 15 then (upd (fun _ => 0) 7 (-1)) else if k = 22 then (upd (fun _ => 0) 2 48) else if k = 23 then (upd (fun _ => 0) 2 48) else if k = 24 then (upd (fun _ => 0) 2 48) else if k = 25 then (upd (fun _ => 0) 2 48) else (fun _ => 0), fun _ _ => 0)
set_option maxRecDepth 100000 in
set_option maxHeartbeats 40000000 in
theorem lkX {h0 : Nat} {qs : Nat → Nat} {cs : Nat → ClassId} : lkP (wc_10 h0 qs cs) (gX h0 qs) 0 := by
  refine lk_c (o := 0) rfl ?_
  refine lk_c (o := 1) rfl ?_
  refine lk_c (o := 2) rfl ?_
  refine lk_c (o := 3) rfl ?_
  refine lk_c (o := 4) rfl ?_
  refine lk_c (o := 5) rfl ?_
  refine lk_c (o := 6) rfl ?_
  refine lk_c (o := 7) rfl ?_
  refine lk_c (o := 8) rfl ?_
  refine lk_c (o := 9) rfl ?_
  refine lk_c (o := 10) rfl ?_
  refine lk_c (o := 11) rfl ?_
  refine lk_c (o := 12) rfl ?_
  refine lk_c (o := 13) rfl ?_
  refine lk_c (o := 14) rfl ?_
  refine lk_c (o := 15) rfl ?_
  refine lk_c (o := 16) rfl ?_
  refine lk_c (o := 17) rfl ?_
  refine lk_c (o := 18) rfl ?_
  refine lk_c (o := 19) rfl ?_
  refine lk_c (o := 20) rfl ?_
  refine lk_c (o := 21) rfl ?_
  refine lk_c (o := 22) rfl ?_
  refine lk_c (o := 23) rfl ?_
  refine lk_c (o := 24) rfl ?_
  refine lk_c (o := 25) rfl ?_
  refine lk_c (o := 26) rfl ?_
  refine lk_c (o := 27) rfl ?_
  refine lk_c (o := 28) rfl ?_
  refine lk_c (o := 29) rfl ?_
  refine lk_c (o := 30) rfl ?_
  refine lk_c (o := 31) rfl ?_
  refine lk_c (o := 32) rfl ?_
  refine lk_c (o := 33) rfl ?_
  refine lk_c (o := 34) rfl ?_
  refine lk_c (o := 35) rfl ?_
  refine lk_c (o := 36) rfl ?_
  refine lk_c (o := 37) rfl ?_
  refine lk_c (o := 38) rfl ?_
  refine lk_c (o := 39) rfl ?_
  refine lk_c (o := 40) rfl ?_
  refine lk_c (o := 41) rfl ?_
  refine lk_c (o := 42) rfl ?_
  refine lk_c (o := 43) rfl ?_
  refine lk_c (o := 44) rfl ?_
  refine lk_c (o := 45) rfl ?_
  refine lk_c (o := 46) rfl ?_
  refine lk_c (o := 47) rfl ?_
  refine lk_c (o := 48) rfl ?_
  refine lk_c (o := 49) rfl ?_
  refine lk_c (o := 50) rfl ?_
  refine lk_c (o := 51) rfl ?_
  refine lk_c (o := 52) rfl ?_
  refine lk_c (o := 53) rfl ?_
  refine lk_c (o := 54) rfl ?_
  refine lk_c (o := 55) rfl ?_
  refine lk_c (o := 56) rfl ?_
  refine lk_c (o := 57) rfl ?_
  refine lk_c (o := 58) rfl ?_
  refine lk_c (o := 59) rfl ?_
  refine lk_c (o := 60) rfl ?_
  refine lk_c (o := 61) rfl ?_
  refine lk_c (o := 62) rfl ?_
  refine lk_c (o := 63) rfl ?_
  refine lk_c (o := 64) rfl ?_
  refine lk_c (o := 65) rfl ?_
  refine lk_c (o := 66) rfl ?_
  refine lk_c (o := 67) rfl ?_
  refine lk_c (o := 68) rfl ?_
  refine lk_c (o := 69) rfl ?_
  refine lk_c (o := 70) rfl ?_
  refine lk_c (o := 71) rfl ?_
  refine lk_c (o := 72) rfl ?_
  refine lk_c (o := 73) rfl ?_
  refine lk_c (o := 74) rfl ?_
  refine lk_c (o := 75) rfl ?_
  refine lk_c (o := 76) rfl ?_
  refine lk_c (o := 77) rfl ?_
  refine lk_c (o := 78) rfl ?_
  refine lk_c (o := 79) rfl ?_
  refine lk_c (o := 80) rfl ?_
  refine lk_c (o := 81) rfl ?_
  refine lk_c (o := 82) rfl ?_
  refine lk_c (o := 83) rfl ?_
  refine lk_c (o := 84) rfl ?_
  refine lk_c (o := 85) rfl ?_
  refine lk_c (o := 86) rfl ?_
  refine lk_c (o := 87) rfl ?_
  refine lk_c (o := 88) rfl ?_
  refine lk_c (o := 89) rfl ?_
  refine lk_c (o := 90) rfl ?_
  refine lk_c (o := 91) rfl ?_
  refine lk_c (o := 92) rfl ?_
  refine lk_c (o := 93) rfl ?_
  refine lk_c (o := 94) rfl ?_
  refine lk_c (o := 95) rfl ?_
  refine lk_c (o := 96) rfl ?_
  refine lk_c (o := 97) rfl ?_
  refine lk_c (o := 98) rfl ?_
  refine lk_c (o := 99) rfl ?_
  refine lk_c (o := 100) rfl ?_
  refine lk_c (o := 101) rfl ?_
  refine lk_c (o := 102) rfl ?_
  refine lk_c (o := 103) rfl ?_
  refine lk_c (o := 104) rfl ?_
  refine lk_c (o := 105) rfl ?_
  refine lk_c (o := 106) rfl ?_
  refine lk_c (o := 107) rfl ?_
  refine lk_c (o := 108) rfl ?_
  refine lk_c (o := 109) rfl ?_
  refine lk_c (o := 110) rfl ?_
  refine lk_c (o := 111) rfl ?_
  refine lk_c (o := 112) rfl ?_
  refine lk_c (o := 113) rfl ?_
  refine lk_c (o := 114) rfl ?_
  refine lk_c (o := 115) rfl ?_
  refine lk_c (o := 116) rfl ?_
  refine lk_c (o := 117) rfl ?_
  refine lk_c (o := 118) rfl ?_
  refine lk_c (o := 119) rfl ?_
  exact lk_n
