set_option maxRecDepth 100000 in
set_option maxHeartbeats 40000000 in
theorem stX_P {D : va_G} {h0 : Nat} {qs : Nat → Nat} {cs : Nat → ClassId} {H : Heap} (hP : va_P D vwCl (wc_10 h0 qs cs) H) : ∀ k, k < 120 → va_at D vwCl (adX h0 qs k, cel dX (cAX cs) (adX h0 qs) σ0X k) H := by
  obtain ⟨a0, hP⟩ := va_Pc1 hP
  obtain ⟨a1, hP⟩ := va_Pc1 hP
  obtain ⟨a2, hP⟩ := va_Pc1 hP
  obtain ⟨a3, hP⟩ := va_Pc1 hP
  obtain ⟨a4, hP⟩ := va_Pc1 hP
  obtain ⟨a5, hP⟩ := va_Pc1 hP
  obtain ⟨a6, hP⟩ := va_Pc1 hP
  obtain ⟨a7, hP⟩ := va_Pc1 hP
  obtain ⟨a8, hP⟩ := va_Pc1 hP
  obtain ⟨a9, hP⟩ := va_Pc1 hP
  obtain ⟨a10, hP⟩ := va_Pc1 hP
  obtain ⟨a11, hP⟩ := va_Pc1 hP
  obtain ⟨a12, hP⟩ := va_Pc1 hP
  obtain ⟨a13, hP⟩ := va_Pc1 hP
  obtain ⟨a14, hP⟩ := va_Pc1 hP
  obtain ⟨a15, hP⟩ := va_Pc1 hP
  obtain ⟨a16, hP⟩ := va_Pc1 hP
  obtain ⟨a17, hP⟩ := va_Pc1 hP
  obtain ⟨a18, hP⟩ := va_Pc1 hP
  obtain ⟨a19, hP⟩ := va_Pc1 hP
  obtain ⟨a20, hP⟩ := va_Pc1 hP
  obtain ⟨a21, hP⟩ := va_Pc1 hP
  obtain ⟨a22, hP⟩ := va_Pc1 hP
  obtain ⟨a23, hP⟩ := va_Pc1 hP
  obtain ⟨a24, hP⟩ := va_Pc1 hP
  obtain ⟨a25, hP⟩ := va_Pc1 hP
  obtain ⟨a26, hP⟩ := va_Pc1 hP
  obtain ⟨a27, hP⟩ := va_Pc1 hP
  obtain ⟨a28, hP⟩ := va_Pc1 hP
  obtain ⟨a29, hP⟩ := va_Pc1 hP
  obtain ⟨a30, hP⟩ := va_Pc1 hP
  obtain ⟨a31, hP⟩ := va_Pc1 hP
  obtain ⟨a32, hP⟩ := va_Pc1 hP
  obtain ⟨a33, hP⟩ := va_Pc1 hP
  obtain ⟨a34, hP⟩ := va_Pc1 hP
  obtain ⟨a35, hP⟩ := va_Pc1 hP
  obtain ⟨a36, hP⟩ := va_Pc1 hP
  obtain ⟨a37, hP⟩ := va_Pc1 hP
  obtain ⟨a38, hP⟩ := va_Pc1 hP
  obtain ⟨a39, hP⟩ := va_Pc1 hP
  obtain ⟨a40, hP⟩ := va_Pc1 hP
  obtain ⟨a41, hP⟩ := va_Pc1 hP
  obtain ⟨a42, hP⟩ := va_Pc1 hP
  obtain ⟨a43, hP⟩ := va_Pc1 hP
  obtain ⟨a44, hP⟩ := va_Pc1 hP
  obtain ⟨a45, hP⟩ := va_Pc1 hP
  obtain ⟨a46, hP⟩ := va_Pc1 hP
  obtain ⟨a47, hP⟩ := va_Pc1 hP
  obtain ⟨a48, hP⟩ := va_Pc1 hP
  obtain ⟨a49, hP⟩ := va_Pc1 hP
  obtain ⟨a50, hP⟩ := va_Pc1 hP
  obtain ⟨a51, hP⟩ := va_Pc1 hP
  obtain ⟨a52, hP⟩ := va_Pc1 hP
  obtain ⟨a53, hP⟩ := va_Pc1 hP
  obtain ⟨a54, hP⟩ := va_Pc1 hP
  obtain ⟨a55, hP⟩ := va_Pc1 hP
  obtain ⟨a56, hP⟩ := va_Pc1 hP
  obtain ⟨a57, hP⟩ := va_Pc1 hP
  obtain ⟨a58, hP⟩ := va_Pc1 hP
  obtain ⟨a59, hP⟩ := va_Pc1 hP
  obtain ⟨a60, hP⟩ := va_Pc1 hP
  obtain ⟨a61, hP⟩ := va_Pc1 hP
  obtain ⟨a62, hP⟩ := va_Pc1 hP
  obtain ⟨a63, hP⟩ := va_Pc1 hP
  obtain ⟨a64, hP⟩ := va_Pc1 hP
  obtain ⟨a65, hP⟩ := va_Pc1 hP
  obtain ⟨a66, hP⟩ := va_Pc1 hP
  obtain ⟨a67, hP⟩ := va_Pc1 hP
  obtain ⟨a68, hP⟩ := va_Pc1 hP
  obtain ⟨a69, hP⟩ := va_Pc1 hP
  obtain ⟨a70, hP⟩ := va_Pc1 hP
  obtain ⟨a71, hP⟩ := va_Pc1 hP
  obtain ⟨a72, hP⟩ := va_Pc1 hP
  obtain ⟨a73, hP⟩ := va_Pc1 hP
  obtain ⟨a74, hP⟩ := va_Pc1 hP
  obtain ⟨a75, hP⟩ := va_Pc1 hP
  obtain ⟨a76, hP⟩ := va_Pc1 hP
  obtain ⟨a77, hP⟩ := va_Pc1 hP
  obtain ⟨a78, hP⟩ := va_Pc1 hP
  obtain ⟨a79, hP⟩ := va_Pc1 hP
  obtain ⟨a80, hP⟩ := va_Pc1 hP
  obtain ⟨a81, hP⟩ := va_Pc1 hP
  obtain ⟨a82, hP⟩ := va_Pc1 hP
  obtain ⟨a83, hP⟩ := va_Pc1 hP
  obtain ⟨a84, hP⟩ := va_Pc1 hP
  obtain ⟨a85, hP⟩ := va_Pc1 hP
  obtain ⟨a86, hP⟩ := va_Pc1 hP
  obtain ⟨a87, hP⟩ := va_Pc1 hP
  obtain ⟨a88, hP⟩ := va_Pc1 hP
  obtain ⟨a89, hP⟩ := va_Pc1 hP
  obtain ⟨a90, hP⟩ := va_Pc1 hP
  obtain ⟨a91, hP⟩ := va_Pc1 hP
  obtain ⟨a92, hP⟩ := va_Pc1 hP
  obtain ⟨a93, hP⟩ := va_Pc1 hP
  obtain ⟨a94, hP⟩ := va_Pc1 hP
  obtain ⟨a95, hP⟩ := va_Pc1 hP
  obtain ⟨a96, hP⟩ := va_Pc1 hP
  obtain ⟨a97, hP⟩ := va_Pc1 hP
  obtain ⟨a98, hP⟩ := va_Pc1 hP
  obtain ⟨a99, hP⟩ := va_Pc1 hP
  obtain ⟨a100, hP⟩ := va_Pc1 hP
  obtain ⟨a101, hP⟩ := va_Pc1 hP
  obtain ⟨a102, hP⟩ := va_Pc1 hP
  obtain ⟨a103, hP⟩ := va_Pc1 hP
  obtain ⟨a104, hP⟩ := va_Pc1 hP
  obtain ⟨a105, hP⟩ := va_Pc1 hP
  obtain ⟨a106, hP⟩ := va_Pc1 hP
  obtain ⟨a107, hP⟩ := va_Pc1 hP
  obtain ⟨a108, hP⟩ := va_Pc1 hP
  obtain ⟨a109, hP⟩ := va_Pc1 hP
  obtain ⟨a110, hP⟩ := va_Pc1 hP
  obtain ⟨a111, hP⟩ := va_Pc1 hP
  obtain ⟨a112, hP⟩ := va_Pc1 hP
  obtain ⟨a113, hP⟩ := va_Pc1 hP
  obtain ⟨a114, hP⟩ := va_Pc1 hP
  obtain ⟨a115, hP⟩ := va_Pc1 hP
  obtain ⟨a116, hP⟩ := va_Pc1 hP
  obtain ⟨a117, hP⟩ := va_Pc1 hP
  obtain ⟨a118, hP⟩ := va_Pc1 hP
  obtain ⟨a119, hP⟩ := va_Pc1 hP
  refine df_s (n := 119) ?_ a71
  refine df_s (n := 118) ?_ a70
  refine df_s (n := 117) ?_ a69
  refine df_s (n := 116) ?_ a68
  refine df_s (n := 115) ?_ a112
  refine df_s (n := 114) ?_ a107
  refine df_s (n := 113) ?_ a102
  refine df_s (n := 112) ?_ a97
  refine df_s (n := 111) ?_ a92
  refine df_s (n := 110) ?_ a87
  refine df_s (n := 109) ?_ a82
  refine df_s (n := 108) ?_ a77
  refine df_s (n := 107) ?_ a111
  refine df_s (n := 106) ?_ a106
  refine df_s (n := 105) ?_ a101
  refine df_s (n := 104) ?_ a96
  refine df_s (n := 103) ?_ a91
  refine df_s (n := 102) ?_ a86
  refine df_s (n := 101) ?_ a81
  refine df_s (n := 100) ?_ a76
  refine df_s (n := 99) ?_ a110
  refine df_s (n := 98) ?_ a105
  refine df_s (n := 97) ?_ a100
  refine df_s (n := 96) ?_ a95
  refine df_s (n := 95) ?_ a90
  refine df_s (n := 94) ?_ a85
  refine df_s (n := 93) ?_ a80
  refine df_s (n := 92) ?_ a75
  refine df_s (n := 91) ?_ a109
  refine df_s (n := 90) ?_ a104
  refine df_s (n := 89) ?_ a99
  refine df_s (n := 88) ?_ a94
  refine df_s (n := 87) ?_ a89
  refine df_s (n := 86) ?_ a84
  refine df_s (n := 85) ?_ a79
  refine df_s (n := 84) ?_ a74
  refine df_s (n := 83) ?_ (cel_o (ks := [0, 0, 0, 0, 0, 0, 94, 102, 110, 118]) (ci := 5) (by decide +kernel) rfl a108)
  refine df_s (n := 82) ?_ (cel_o (ks := [0, 0, 0, 0, 0, 0, 93, 101, 109, 117]) (ci := 5) (by decide +kernel) rfl a103)
  refine df_s (n := 81) ?_ (cel_o (ks := [0, 0, 0, 0, 0, 0, 92, 100, 108, 116]) (ci := 5) (by decide +kernel) rfl a98)
  refine df_s (n := 80) ?_ (cel_o (ks := [0, 0, 0, 0, 0, 0, 91, 99, 107, 115]) (ci := 5) (by decide +kernel) rfl a93)
  refine df_s (n := 79) ?_ (cel_o (ks := [0, 0, 0, 0, 0, 0, 90, 98, 106, 114]) (ci := 5) (by decide +kernel) rfl a88)
  refine df_s (n := 78) ?_ (cel_o (ks := [0, 0, 0, 0, 0, 0, 89, 97, 105, 113]) (ci := 5) (by decide +kernel) rfl a83)
  refine df_s (n := 77) ?_ (cel_o (ks := [0, 0, 0, 0, 0, 0, 88, 96, 104, 112]) (ci := 5) (by decide +kernel) rfl a78)
  refine df_s (n := 76) ?_ (cel_o (ks := [0, 0, 0, 0, 0, 0, 87, 95, 103, 111]) (ci := 5) (by decide +kernel) rfl a73)
  refine df_s (n := 75) ?_ a42
  refine df_s (n := 74) ?_ a38
  refine df_s (n := 73) ?_ a34
  refine df_s (n := 72) ?_ a30
  refine df_s (n := 71) ?_ a26
  refine df_s (n := 70) ?_ a22
  refine df_s (n := 69) ?_ a18
  refine df_s (n := 68) ?_ a14
  refine df_s (n := 67) ?_ a41
  refine df_s (n := 66) ?_ a37
  refine df_s (n := 65) ?_ a33
  refine df_s (n := 64) ?_ a29
  refine df_s (n := 63) ?_ a25
  refine df_s (n := 62) ?_ a21
  refine df_s (n := 61) ?_ a17
  refine df_s (n := 60) ?_ a13
  refine df_s (n := 59) ?_ a40
  refine df_s (n := 58) ?_ a36
  refine df_s (n := 57) ?_ a32
  refine df_s (n := 56) ?_ a28
  refine df_s (n := 55) ?_ a24
  refine df_s (n := 54) ?_ a20
  refine df_s (n := 53) ?_ a16
  refine df_s (n := 52) ?_ a12
  refine df_s (n := 51) ?_ (cel_o (ks := [0, 0, 62, 70, 78]) (ci := 6) (by decide +kernel) rfl a39)
  refine df_s (n := 50) ?_ (cel_o (ks := [0, 0, 61, 69, 77]) (ci := 6) (by decide +kernel) rfl a35)
  refine df_s (n := 49) ?_ (cel_o (ks := [0, 0, 60, 68, 76]) (ci := 6) (by decide +kernel) rfl a31)
  refine df_s (n := 48) ?_ (cel_o (ks := [0, 0, 59, 67, 75]) (ci := 6) (by decide +kernel) rfl a27)
  refine df_s (n := 47) ?_ (cel_o (ks := [0, 0, 58, 66, 74]) (ci := 6) (by decide +kernel) rfl a23)
  refine df_s (n := 46) ?_ (cel_o (ks := [0, 0, 57, 65, 73]) (ci := 6) (by decide +kernel) rfl a19)
  refine df_s (n := 45) ?_ (cel_o (ks := [0, 0, 56, 64, 72]) (ci := 6) (by decide +kernel) rfl a15)
  refine df_s (n := 44) ?_ (cel_o (ks := [0, 0, 55, 63, 71]) (ci := 6) (by decide +kernel) rfl a11)
  refine df_s (n := 43) ?_ (cel_o (ks := [0, 0, 0, 0, 0, 0, 0, 0, 0]) (ci := 4) (by decide +kernel) rfl a64)
  refine df_s (n := 42) ?_ (cel_o (ks := [0, 0, 0, 0, 0, 0, 0, 0, 0]) (ci := 4) (by decide +kernel) rfl a63)
  refine df_s (n := 41) ?_ (cel_o (ks := [0, 0, 0, 0, 0, 0, 0, 0, 0]) (ci := 4) (by decide +kernel) rfl a62)
  refine df_s (n := 40) ?_ (cel_o (ks := [0, 0, 0, 0, 0, 0, 0, 0, 0]) (ci := 4) (by decide +kernel) rfl a61)
  refine df_s (n := 39) ?_ (cel_o (ks := [0, 0, 0, 0, 0, 0, 0, 0, 0]) (ci := 4) (by decide +kernel) rfl a60)
  refine df_s (n := 38) ?_ (cel_o (ks := [0, 0, 0, 0, 0, 0, 0, 0, 0]) (ci := 4) (by decide +kernel) rfl a59)
  refine df_s (n := 37) ?_ (cel_o (ks := [0, 0, 0, 0, 0, 0, 0, 0, 0]) (ci := 4) (by decide +kernel) rfl a58)
  refine df_s (n := 36) ?_ (cel_o (ks := [0, 0, 0, 0, 0, 0, 0, 0, 0]) (ci := 4) (by decide +kernel) rfl a57)
  refine df_s (n := 35) ?_ (cel_o (ks := [0, 0]) (ci := 0) (by decide +kernel) rfl a56)
  refine df_s (n := 34) ?_ (cel_o (ks := [0, 0]) (ci := 0) (by decide +kernel) rfl a55)
  refine df_s (n := 33) ?_ (cel_o (ks := [0, 0]) (ci := 0) (by decide +kernel) rfl a54)
  refine df_s (n := 32) ?_ (cel_o (ks := [0, 0]) (ci := 0) (by decide +kernel) rfl a53)
  refine df_s (n := 31) ?_ (cel_o (ks := [0, 0]) (ci := 0) (by decide +kernel) rfl a52)
  refine df_s (n := 30) ?_ (cel_o (ks := [0, 0]) (ci := 0) (by decide +kernel) rfl a51)
  refine df_s (n := 29) ?_ a50
  refine df_s (n := 28) ?_ a48
  refine df_s (n := 27) ?_ a46
  refine df_s (n := 26) ?_ a44
  refine df_s (n := 25) ?_ (cel_o (ks := [0, 0, 0, 0, 0, 0, 0, 0, 32]) (ci := 7) (by decide +kernel) rfl a49)
  refine df_s (n := 24) ?_ (cel_o (ks := [0, 0, 0, 0, 0, 0, 0, 0, 31]) (ci := 7) (by decide +kernel) rfl a47)
  refine df_s (n := 23) ?_ (cel_o (ks := [0, 0, 0, 0, 0, 0, 0, 0, 30]) (ci := 7) (by decide +kernel) rfl a45)
  refine df_s (n := 22) ?_ (cel_o (ks := [0, 0, 0, 0, 0, 0, 0, 0, 29]) (ci := 7) (by decide +kernel) rfl a43)
  refine df_s (n := 21) ?_ a119
  refine df_s (n := 20) ?_ a118
  refine df_s (n := 19) ?_ a117
  refine df_s (n := 18) ?_ a116
  refine df_s (n := 17) ?_ a115
  refine df_s (n := 16) ?_ a114
  refine df_s (n := 15) ?_ (cel_o (ks := [19, 20, 21, 22, 23, 24, 0, 0, 0, 0, 0]) (ci := 1) (by decide +kernel) rfl a113)
  refine df_s (n := 14) ?_ a72
  refine df_s (n := 13) ?_ ((a67 : H[_]? = some (vp_cell _ _)).trans (congrArg some (refs_cong (by intro i hi; rcases (show i = 0 ∨ i = 1 ∨ i = 2 ∨ i = 3 by omega) with rfl | rfl | rfl | rfl <;> rfl))))
  refine df_s (n := 12) ?_ ((a66 : H[_]? = some (vp_cell _ _)).trans (congrArg some (refs_cong (by intro i hi; rcases (show i = 0 ∨ i = 1 ∨ i = 2 ∨ i = 3 ∨ i = 4 ∨ i = 5 ∨ i = 6 ∨ i = 7 by omega) with rfl | rfl | rfl | rfl | rfl | rfl | rfl | rfl <;> rfl))))
  refine df_s (n := 11) ?_ (cel_o (ks := [15, 16, 17]) (ci := 3) (by decide +kernel) rfl a65)
  refine df_s (n := 10) ?_ a10
  refine df_s (n := 9) ?_ ((a9 : H[_]? = some (vp_cell _ _)).trans (congrArg some (refs_cong (by intro i hi; rcases (show i = 0 ∨ i = 1 ∨ i = 2 ∨ i = 3 ∨ i = 4 ∨ i = 5 ∨ i = 6 ∨ i = 7 by omega) with rfl | rfl | rfl | rfl | rfl | rfl | rfl | rfl <;> rfl))))
  refine df_s (n := 8) ?_ a8
  refine df_s (n := 7) ?_ (cel_o (ks := [11, 0, 0, 0, 0, 0, 0]) (ci := 8) (by decide +kernel) rfl a7)
  refine df_s (n := 6) ?_ (cel_o (ks := [10, 12, 0, 0, 0, 0, 0, 0, 13, 2]) (ci := 2) (by decide +kernel) rfl a6)
  refine df_s (n := 5) ?_ a5
  refine df_s (n := 4) ?_ ((a4 : H[_]? = some (vp_cell _ _)).trans (congrArg some (refs_cong (by intro i hi; rcases (show i = 0 ∨ i = 1 ∨ i = 2 ∨ i = 3 ∨ i = 4 ∨ i = 5 ∨ i = 6 ∨ i = 7 by omega) with rfl | rfl | rfl | rfl | rfl | rfl | rfl | rfl <;> rfl))))
  refine df_s (n := 3) ?_ ((a3 : H[_]? = some (vp_cell _ _)).trans (congrArg some (refs_cong (by intro i hi; rcases (show i = 0 ∨ i = 1 ∨ i = 2 ∨ i = 3 ∨ i = 4 ∨ i = 5 by omega) with rfl | rfl | rfl | rfl | rfl | rfl <;> rfl))))
  refine df_s (n := 2) ?_ ((a2 : H[_]? = some (vp_cell _ _)).trans (congrArg some (refs_cong (by intro i hi; rcases (show i = 0 ∨ i = 1 ∨ i = 2 ∨ i = 3 by omega) with rfl | rfl | rfl | rfl <;> rfl))))
  refine df_s (n := 1) ?_ (cel_o (ks := [5, 6, 7, 8, 9, 0]) (ci := 9) (by decide +kernel) rfl a1)
  refine df_s (n := 0) ?_ (cel_o (ks := [4, 14, 18, 0, 0, 0, 0]) (ci := 10) (by decide +kernel) rfl a0)
  exact tb_df
set_option maxRecDepth 100000 in
set_option maxHeartbeats 40000000 in
theorem stX_K {D : va_G} {cs : Nat → ClassId} {U : State} (hK : va_K D vwCl (tc_10 cs) U) : ∀ k, k < 120 → ArrOfT U (cAX cs k) (aty dX k) ∧ va_RA U (cAX cs k) (aty dX k) := by
  have hT := hK.2
  obtain ⟨b0, hT⟩ := va_Kc1 hT
  obtain ⟨b1, hT⟩ := va_Kc1 hT
  obtain ⟨b2, hT⟩ := va_Kc1 hT
  obtain ⟨b3, hT⟩ := va_Kc1 hT
  obtain ⟨b4, hT⟩ := va_Kc1 hT
  obtain ⟨b5, hT⟩ := va_Kc1 hT
  obtain ⟨b6, hT⟩ := va_Kc1 hT
  obtain ⟨b7, hT⟩ := va_Kc1 hT
  obtain ⟨b8, hT⟩ := va_Kc1 hT
  obtain ⟨b9, hT⟩ := va_Kc1 hT
  obtain ⟨b10, hT⟩ := va_Kc1 hT
  obtain ⟨b11, hT⟩ := va_Kc1 hT
  obtain ⟨b12, hT⟩ := va_Kc1 hT
  obtain ⟨b13, hT⟩ := va_Kc1 hT
  obtain ⟨b14, hT⟩ := va_Kc1 hT
  obtain ⟨b15, hT⟩ := va_Kc1 hT
  obtain ⟨b16, hT⟩ := va_Kc1 hT
  obtain ⟨b17, hT⟩ := va_Kc1 hT
  obtain ⟨b18, hT⟩ := va_Kc1 hT
  obtain ⟨b19, hT⟩ := va_Kc1 hT
  obtain ⟨b20, hT⟩ := va_Kc1 hT
  obtain ⟨b21, hT⟩ := va_Kc1 hT
  obtain ⟨b22, hT⟩ := va_Kc1 hT
  obtain ⟨b23, hT⟩ := va_Kc1 hT
  obtain ⟨b24, hT⟩ := va_Kc1 hT
  obtain ⟨b25, hT⟩ := va_Kc1 hT
  obtain ⟨b26, hT⟩ := va_Kc1 hT
  obtain ⟨b27, hT⟩ := va_Kc1 hT
  obtain ⟨b28, hT⟩ := va_Kc1 hT
  obtain ⟨b29, hT⟩ := va_Kc1 hT
  obtain ⟨b30, hT⟩ := va_Kc1 hT
  obtain ⟨b31, hT⟩ := va_Kc1 hT
  obtain ⟨b32, hT⟩ := va_Kc1 hT
  obtain ⟨b33, hT⟩ := va_Kc1 hT
  obtain ⟨b34, hT⟩ := va_Kc1 hT
  obtain ⟨b35, hT⟩ := va_Kc1 hT
  obtain ⟨b36, hT⟩ := va_Kc1 hT
  obtain ⟨b37, hT⟩ := va_Kc1 hT
  obtain ⟨b38, hT⟩ := va_Kc1 hT
  obtain ⟨b39, hT⟩ := va_Kc1 hT
  obtain ⟨b40, hT⟩ := va_Kc1 hT
  obtain ⟨b41, hT⟩ := va_Kc1 hT
  obtain ⟨b42, hT⟩ := va_Kc1 hT
  obtain ⟨b43, hT⟩ := va_Kc1 hT
  obtain ⟨b44, hT⟩ := va_Kc1 hT
  obtain ⟨b45, hT⟩ := va_Kc1 hT
  obtain ⟨b46, hT⟩ := va_Kc1 hT
  obtain ⟨b47, hT⟩ := va_Kc1 hT
  obtain ⟨b48, hT⟩ := va_Kc1 hT
  obtain ⟨b49, hT⟩ := va_Kc1 hT
  obtain ⟨b50, hT⟩ := va_Kc1 hT
  obtain ⟨b51, hT⟩ := va_Kc1 hT
  obtain ⟨b52, hT⟩ := va_Kc1 hT
  obtain ⟨b53, hT⟩ := va_Kc1 hT
  obtain ⟨b54, hT⟩ := va_Kc1 hT
  obtain ⟨b55, hT⟩ := va_Kc1 hT
  obtain ⟨b56, hT⟩ := va_Kc1 hT
  obtain ⟨b57, hT⟩ := va_Kc1 hT
  obtain ⟨b58, hT⟩ := va_Kc1 hT
  obtain ⟨b59, hT⟩ := va_Kc1 hT
  obtain ⟨b60, hT⟩ := va_Kc1 hT
  obtain ⟨b61, hT⟩ := va_Kc1 hT
  obtain ⟨b62, hT⟩ := va_Kc1 hT
  obtain ⟨b63, hT⟩ := va_Kc1 hT
  obtain ⟨b64, hT⟩ := va_Kc1 hT
  obtain ⟨b65, hT⟩ := va_Kc1 hT
  obtain ⟨b66, hT⟩ := va_Kc1 hT
  obtain ⟨b67, hT⟩ := va_Kc1 hT
  obtain ⟨b68, hT⟩ := va_Kc1 hT
  obtain ⟨b69, hT⟩ := va_Kc1 hT
  obtain ⟨b70, hT⟩ := va_Kc1 hT
  obtain ⟨b71, hT⟩ := va_Kc1 hT
  obtain ⟨b72, hT⟩ := va_Kc1 hT
  obtain ⟨b73, hT⟩ := va_Kc1 hT
  obtain ⟨b74, hT⟩ := va_Kc1 hT
  obtain ⟨b75, hT⟩ := va_Kc1 hT
  obtain ⟨b76, hT⟩ := va_Kc1 hT
  refine df_s (n := 119) ?_ b37
  refine df_s (n := 118) ?_ b37
  refine df_s (n := 117) ?_ b37
  refine df_s (n := 116) ?_ b37
  refine df_s (n := 115) ?_ b70
  refine df_s (n := 114) ?_ b66
  refine df_s (n := 113) ?_ b62
  refine df_s (n := 112) ?_ b58
  refine df_s (n := 111) ?_ b54
  refine df_s (n := 110) ?_ b50
  refine df_s (n := 109) ?_ b46
  refine df_s (n := 108) ?_ b42
  refine df_s (n := 107) ?_ b69
  refine df_s (n := 106) ?_ b65
  refine df_s (n := 105) ?_ b61
  refine df_s (n := 104) ?_ b57
  refine df_s (n := 103) ?_ b53
  refine df_s (n := 102) ?_ b49
  refine df_s (n := 101) ?_ b45
  refine df_s (n := 100) ?_ b41
  refine df_s (n := 99) ?_ b68
  refine df_s (n := 98) ?_ b64
  refine df_s (n := 97) ?_ b60
  refine df_s (n := 96) ?_ b56
  refine df_s (n := 95) ?_ b52
  refine df_s (n := 94) ?_ b48
  refine df_s (n := 93) ?_ b44
  refine df_s (n := 92) ?_ b40
  refine df_s (n := 91) ?_ b67
  refine df_s (n := 90) ?_ b63
  refine df_s (n := 89) ?_ b59
  refine df_s (n := 88) ?_ b55
  refine df_s (n := 87) ?_ b51
  refine df_s (n := 86) ?_ b47
  refine df_s (n := 85) ?_ b43
  refine df_s (n := 84) ?_ b39
  refine df_s (n := 83) ?_ b3
  refine df_s (n := 82) ?_ b3
  refine df_s (n := 81) ?_ b3
  refine df_s (n := 80) ?_ b3
  refine df_s (n := 79) ?_ b3
  refine df_s (n := 78) ?_ b3
  refine df_s (n := 77) ?_ b3
  refine df_s (n := 76) ?_ b3
  refine df_s (n := 75) ?_ b30
  refine df_s (n := 74) ?_ b27
  refine df_s (n := 73) ?_ b24
  refine df_s (n := 72) ?_ b21
  refine df_s (n := 71) ?_ b18
  refine df_s (n := 70) ?_ b15
  refine df_s (n := 69) ?_ b12
  refine df_s (n := 68) ?_ b9
  refine df_s (n := 67) ?_ b29
  refine df_s (n := 66) ?_ b26
  refine df_s (n := 65) ?_ b23
  refine df_s (n := 64) ?_ b20
  refine df_s (n := 63) ?_ b17
  refine df_s (n := 62) ?_ b14
  refine df_s (n := 61) ?_ b11
  refine df_s (n := 60) ?_ b8
  refine df_s (n := 59) ?_ b28
  refine df_s (n := 58) ?_ b25
  refine df_s (n := 57) ?_ b22
  refine df_s (n := 56) ?_ b19
  refine df_s (n := 55) ?_ b16
  refine df_s (n := 54) ?_ b13
  refine df_s (n := 53) ?_ b10
  refine df_s (n := 52) ?_ b7
  refine df_s (n := 51) ?_ b3
  refine df_s (n := 50) ?_ b3
  refine df_s (n := 49) ?_ b3
  refine df_s (n := 48) ?_ b3
  refine df_s (n := 47) ?_ b3
  refine df_s (n := 46) ?_ b3
  refine df_s (n := 45) ?_ b3
  refine df_s (n := 44) ?_ b3
  refine df_s (n := 43) ?_ b3
  refine df_s (n := 42) ?_ b3
  refine df_s (n := 41) ?_ b3
  refine df_s (n := 40) ?_ b3
  refine df_s (n := 39) ?_ b3
  refine df_s (n := 38) ?_ b3
  refine df_s (n := 37) ?_ b3
  refine df_s (n := 36) ?_ b3
  refine df_s (n := 35) ?_ b3
  refine df_s (n := 34) ?_ b3
  refine df_s (n := 33) ?_ b3
  refine df_s (n := 32) ?_ b3
  refine df_s (n := 31) ?_ b3
  refine df_s (n := 30) ?_ b3
  refine df_s (n := 29) ?_ b34
  refine df_s (n := 28) ?_ b33
  refine df_s (n := 27) ?_ b32
  refine df_s (n := 26) ?_ b31
  refine df_s (n := 25) ?_ b3
  refine df_s (n := 24) ?_ b3
  refine df_s (n := 23) ?_ b3
  refine df_s (n := 22) ?_ b3
  refine df_s (n := 21) ?_ b76
  refine df_s (n := 20) ?_ b75
  refine df_s (n := 19) ?_ b74
  refine df_s (n := 18) ?_ b73
  refine df_s (n := 17) ?_ b72
  refine df_s (n := 16) ?_ b71
  refine df_s (n := 15) ?_ b3
  refine df_s (n := 14) ?_ b38
  refine df_s (n := 13) ?_ b36
  refine df_s (n := 12) ?_ b35
  refine df_s (n := 11) ?_ b3
  refine df_s (n := 10) ?_ b6
  refine df_s (n := 9) ?_ b5
  refine df_s (n := 8) ?_ b4
  refine df_s (n := 7) ?_ b3
  refine df_s (n := 6) ?_ b3
  refine df_s (n := 5) ?_ b3
  refine df_s (n := 4) ?_ b2
  refine df_s (n := 3) ?_ b1
  refine df_s (n := 2) ?_ b0
  refine df_s (n := 1) ?_ b3
  refine df_s (n := 0) ?_ b3
  exact tb_df
theorem plX_inj : ∀ i, i < 120 → ∀ j, j < 120 → plX i = plX j → i = j := by decide +kernel
theorem plX_lt : ∀ i, i < 120 → plX i < 120 := by decide +kernel
theorem stX {D : va_G} {h0 : Nat} {qs : Nat → Nat} {cs : Nat → ClassId} {H : Heap} {U : State} {A : Nat → Prop} (hP : va_P D vwCl (wc_10 h0 qs cs) H) (hK : va_K D vwCl (tc_10 cs) U) (hD : va_D A (wc_10 h0 qs cs)) : ∃ (ad : Nat → Nat) (cA : Nat → ClassId), ad 0 = h0 ∧ inj 120 ad ∧ va_P D vwCl (ww dX 120 cA ad σ0X) H ∧ va_K D vwCl (tt dX 120 cA) U ∧ ∀ k, k < 120 → A (ad k) := by
  have hlk : ∀ k, k < 120 → ∃ e, (wc_10 h0 qs cs)[plX k]? = some (adX h0 qs k, e) := fun k hk => by
    have h1 := lkX (h0 := h0) (qs := qs) (cs := cs) (plX k) (plX_lt k hk)
    rw [Nat.zero_add] at h1
    cases hq : (wc_10 h0 qs cs)[plX k]? with
    | none => rw [hq] at h1; cases h1
    | some q =>
      rw [hq] at h1
      have h2 : q.1 = gX h0 qs (plX k) := Option.some.inj h1
      exact ⟨q.2, by rw [adX, ← h2]⟩
  refine ⟨adX h0 qs, cAX cs, rfl, fun i j hi hj h => ?_, fun k q hk => ?_, ⟨hK.1, fun k q hk => ?_⟩, fun k hk => ?_⟩
  · obtain ⟨e1, h1⟩ := hlk i hi
    obtain ⟨e2, h2⟩ := hlk j hj
    exact plX_inj i hi j hj (hD.1 _ _ _ _ h1 h2 h)
  · obtain ⟨hk2, rfl⟩ := ww_lt hk
    exact stX_P hP k hk2
  · have hk2 : k < 120 := by
      have := (List.getElem?_eq_some_iff.mp hk).1
      simpa [tt] using this
    rw [tt_at hk2] at hk
    cases hk
    exact stX_K hK k hk2
  · obtain ⟨e1, h1⟩ := hlk k hk
    exact hD.2 _ _ h1
