/-! all of it -/
theorem am_ka0 (pc : Nat) (h : pc < am_sz 0) : am_pok 0 pc = true := by
  have h : pc < 35 := h
  exact am_chkP_at am_k0_0 pc (by omega) (by omega)
theorem am_ka1 (pc : Nat) (h : pc < am_sz 1) : am_pok 1 pc = true := by
  have h : pc < 20 := h
  exact am_chkP_at am_k1_0 pc (by omega) (by omega)
theorem am_ka2 (pc : Nat) (h : pc < am_sz 2) : am_pok 2 pc = true := by
  have h : pc < 11 := h
  exact am_chkP_at am_k2_0 pc (by omega) (by omega)
theorem am_ka3 (pc : Nat) (h : pc < am_sz 3) : am_pok 3 pc = true := by
  have h : pc < 48 := h
  exact am_chkP_at am_k3_0 pc (by omega) (by omega)
theorem am_ka4 (pc : Nat) (h : pc < am_sz 4) : am_pok 4 pc = true := by
  have h : pc < 43 := h
  exact am_chkP_at am_k4_0 pc (by omega) (by omega)
theorem am_ka5 (pc : Nat) (h : pc < am_sz 5) : am_pok 5 pc = true := by
  have h : pc < 52 := h
  exact am_chkP_at am_k5_0 pc (by omega) (by omega)
theorem am_ka6 (pc : Nat) (h : pc < am_sz 6) : am_pok 6 pc = true := by
  have h : pc < 56 := h
  exact am_chkP_at am_k6_0 pc (by omega) (by omega)
theorem am_ka7 (pc : Nat) (h : pc < am_sz 7) : am_pok 7 pc = true := by
  have h : pc < 40 := h
  exact am_chkP_at am_k7_0 pc (by omega) (by omega)
theorem am_ka8 (pc : Nat) (h : pc < am_sz 8) : am_pok 8 pc = true := by
  have h : pc < 64 := h
  exact am_chkP_at am_k8_0 pc (by omega) (by omega)
theorem am_ka9 (pc : Nat) (h : pc < am_sz 9) : am_pok 9 pc = true := by
  have h : pc < 47 := h
  exact am_chkP_at am_k9_0 pc (by omega) (by omega)
theorem am_ka10 (pc : Nat) (h : pc < am_sz 10) : am_pok 10 pc = true := by
  have h : pc < 63 := h
  exact am_chkP_at am_k10_0 pc (by omega) (by omega)
theorem am_ka11 (pc : Nat) (h : pc < am_sz 11) : am_pok 11 pc = true := by
  have h : pc < 23 := h
  exact am_chkP_at am_k11_0 pc (by omega) (by omega)
theorem am_ka12 (pc : Nat) (h : pc < am_sz 12) : am_pok 12 pc = true := by
  have h : pc < 24 := h
  exact am_chkP_at am_k12_0 pc (by omega) (by omega)
theorem am_ka13 (pc : Nat) (h : pc < am_sz 13) : am_pok 13 pc = true := by
  have h : pc < 123 := h
  exact am_chkP_at am_k13_0 pc (by omega) (by omega)
theorem am_ka14 (pc : Nat) (h : pc < am_sz 14) : am_pok 14 pc = true := by
  have h : pc < 57 := h
  exact am_chkP_at am_k14_0 pc (by omega) (by omega)
theorem am_ka15 (pc : Nat) (h : pc < am_sz 15) : am_pok 15 pc = true := by
  have h : pc < 70 := h
  exact am_chkP_at am_k15_0 pc (by omega) (by omega)
theorem am_ka16 (pc : Nat) (h : pc < am_sz 16) : am_pok 16 pc = true := by
  have h : pc < 115 := h
  exact am_chkP_at am_k16_0 pc (by omega) (by omega)
theorem am_ka17 (pc : Nat) (h : pc < am_sz 17) : am_pok 17 pc = true := by
  have h : pc < 45 := h
  exact am_chkP_at am_k17_0 pc (by omega) (by omega)
theorem am_ka18 (pc : Nat) (h : pc < am_sz 18) : am_pok 18 pc = true := by
  have h : pc < 48 := h
  exact am_chkP_at am_k18_0 pc (by omega) (by omega)
theorem am_ka19 (pc : Nat) (h : pc < am_sz 19) : am_pok 19 pc = true := by
  have h : pc < 39 := h
  exact am_chkP_at am_k19_0 pc (by omega) (by omega)
theorem am_ka20 (pc : Nat) (h : pc < am_sz 20) : am_pok 20 pc = true := by
  have h : pc < 60 := h
  exact am_chkP_at am_k20_0 pc (by omega) (by omega)
theorem am_ka21 (pc : Nat) (h : pc < am_sz 21) : am_pok 21 pc = true := by
  have h : pc < 78 := h
  exact am_chkP_at am_k21_0 pc (by omega) (by omega)
theorem am_ka22 (pc : Nat) (h : pc < am_sz 22) : am_pok 22 pc = true := by
  have h : pc < 73 := h
  exact am_chkP_at am_k22_0 pc (by omega) (by omega)
theorem am_ka23 (pc : Nat) (h : pc < am_sz 23) : am_pok 23 pc = true := by
  have h : pc < 15 := h
  exact am_chkP_at am_k23_0 pc (by omega) (by omega)
theorem am_ka24 (pc : Nat) (h : pc < am_sz 24) : am_pok 24 pc = true := by
  have h : pc < 64 := h
  exact am_chkP_at am_k24_0 pc (by omega) (by omega)
theorem am_ka25 (pc : Nat) (h : pc < am_sz 25) : am_pok 25 pc = true := by
  have h : pc < 84 := h
  exact am_chkP_at am_k25_0 pc (by omega) (by omega)
theorem am_ka26 (pc : Nat) (h : pc < am_sz 26) : am_pok 26 pc = true := by
  have h : pc < 16 := h
  exact am_chkP_at am_k26_0 pc (by omega) (by omega)
theorem am_ka27 (pc : Nat) (h : pc < am_sz 27) : am_pok 27 pc = true := by
  have h : pc < 20 := h
  exact am_chkP_at am_k27_0 pc (by omega) (by omega)
theorem am_ka28 (pc : Nat) (h : pc < am_sz 28) : am_pok 28 pc = true := by
  have h : pc < 6 := h
  exact am_chkP_at am_k28_0 pc (by omega) (by omega)
theorem am_ka29 (pc : Nat) (h : pc < am_sz 29) : am_pok 29 pc = true := by
  have h : pc < 103 := h
  exact am_chkP_at am_k29_0 pc (by omega) (by omega)
theorem am_ka30 (pc : Nat) (h : pc < am_sz 30) : am_pok 30 pc = true := by
  have h : pc < 7 := h
  exact am_chkP_at am_k30_0 pc (by omega) (by omega)
theorem am_ka31 (pc : Nat) (h : pc < am_sz 31) : am_pok 31 pc = true := by
  have h : pc < 7 := h
  exact am_chkP_at am_k31_0 pc (by omega) (by omega)
theorem am_ka32 (pc : Nat) (h : pc < am_sz 32) : am_pok 32 pc = true := by
  have h : pc < 7 := h
  exact am_chkP_at am_k32_0 pc (by omega) (by omega)
theorem am_ka33 (pc : Nat) (h : pc < am_sz 33) : am_pok 33 pc = true := by
  have h : pc < 9 := h
  exact am_chkP_at am_k33_0 pc (by omega) (by omega)
theorem am_ka34 (pc : Nat) (h : pc < am_sz 34) : am_pok 34 pc = true := by
  have h : pc < 25 := h
  exact am_chkP_at am_k34_0 pc (by omega) (by omega)
theorem am_ka35 (pc : Nat) (h : pc < am_sz 35) : am_pok 35 pc = true := by
  have h : pc < 15 := h
  exact am_chkP_at am_k35_0 pc (by omega) (by omega)
theorem am_ka36 (pc : Nat) (h : pc < am_sz 36) : am_pok 36 pc = true := by
  have h : pc < 30 := h
  exact am_chkP_at am_k36_0 pc (by omega) (by omega)
theorem am_ka37 (pc : Nat) (h : pc < am_sz 37) : am_pok 37 pc = true := by
  have h : pc < 12 := h
  exact am_chkP_at am_k37_0 pc (by omega) (by omega)
theorem am_ka38 (pc : Nat) (h : pc < am_sz 38) : am_pok 38 pc = true := by
  have h : pc < 16 := h
  exact am_chkP_at am_k38_0 pc (by omega) (by omega)
theorem am_ka39 (pc : Nat) (h : pc < am_sz 39) : am_pok 39 pc = true := by
  have h : pc < 44 := h
  exact am_chkP_at am_k39_0 pc (by omega) (by omega)
theorem am_ka40 (pc : Nat) (h : pc < am_sz 40) : am_pok 40 pc = true := by
  have h : pc < 36 := h
  exact am_chkP_at am_k40_0 pc (by omega) (by omega)
theorem am_ka41 (pc : Nat) (h : pc < am_sz 41) : am_pok 41 pc = true := by
  have h : pc < 13 := h
  exact am_chkP_at am_k41_0 pc (by omega) (by omega)
theorem am_ka42 (pc : Nat) (h : pc < am_sz 42) : am_pok 42 pc = true := by
  have h : pc < 33 := h
  exact am_chkP_at am_k42_0 pc (by omega) (by omega)
theorem am_ka43 (pc : Nat) (h : pc < am_sz 43) : am_pok 43 pc = true := by
  have h : pc < 52 := h
  exact am_chkP_at am_k43_0 pc (by omega) (by omega)
theorem am_ka44 (pc : Nat) (h : pc < am_sz 44) : am_pok 44 pc = true := by
  have h : pc < 26 := h
  exact am_chkP_at am_k44_0 pc (by omega) (by omega)
theorem am_ka45 (pc : Nat) (h : pc < am_sz 45) : am_pok 45 pc = true := by
  have h : pc < 38 := h
  exact am_chkP_at am_k45_0 pc (by omega) (by omega)
theorem am_ka46 (pc : Nat) (h : pc < am_sz 46) : am_pok 46 pc = true := by
  have h : pc < 140 := h
  exact am_chkP_at am_k46_0 pc (by omega) (by omega)
theorem am_ka47 (pc : Nat) (h : pc < am_sz 47) : am_pok 47 pc = true := by
  have h : pc < 38 := h
  exact am_chkP_at am_k47_0 pc (by omega) (by omega)
theorem am_ka48 (pc : Nat) (h : pc < am_sz 48) : am_pok 48 pc = true := by
  have h : pc < 38 := h
  exact am_chkP_at am_k48_0 pc (by omega) (by omega)
theorem am_ka49 (pc : Nat) (h : pc < am_sz 49) : am_pok 49 pc = true := by
  have h : pc < 37 := h
  exact am_chkP_at am_k49_0 pc (by omega) (by omega)
theorem am_ka50 (pc : Nat) (h : pc < am_sz 50) : am_pok 50 pc = true := by
  have h : pc < 19 := h
  exact am_chkP_at am_k50_0 pc (by omega) (by omega)
theorem am_ka51 (pc : Nat) (h : pc < am_sz 51) : am_pok 51 pc = true := by
  have h : pc < 49 := h
  exact am_chkP_at am_k51_0 pc (by omega) (by omega)
theorem am_ka52 (pc : Nat) (h : pc < am_sz 52) : am_pok 52 pc = true := by
  have h : pc < 35 := h
  exact am_chkP_at am_k52_0 pc (by omega) (by omega)
theorem am_ka53 (pc : Nat) (h : pc < am_sz 53) : am_pok 53 pc = true := by
  have h : pc < 49 := h
  exact am_chkP_at am_k53_0 pc (by omega) (by omega)
theorem am_ka54 (pc : Nat) (h : pc < am_sz 54) : am_pok 54 pc = true := by
  have h : pc < 35 := h
  exact am_chkP_at am_k54_0 pc (by omega) (by omega)
theorem am_ka55 (pc : Nat) (h : pc < am_sz 55) : am_pok 55 pc = true := by
  have h : pc < 254 := h
  rcases Nat.lt_or_ge pc 110 with h0 | h0
  · exact am_chkP_at am_k55_0 pc (by omega) (by omega)
  rcases Nat.lt_or_ge pc 220 with h1 | h1
  · exact am_chkP_at am_k55_1 pc (by omega) (by omega)
  exact am_chkP_at am_k55_2 pc (by omega) (by omega)
theorem am_ka56 (pc : Nat) (h : pc < am_sz 56) : am_pok 56 pc = true := by
  have h : pc < 36 := h
  exact am_chkP_at am_k56_0 pc (by omega) (by omega)
theorem am_ka57 (pc : Nat) (h : pc < am_sz 57) : am_pok 57 pc = true := by
  have h : pc < 22 := h
  exact am_chkP_at am_k57_0 pc (by omega) (by omega)
theorem am_ka58 (pc : Nat) (h : pc < am_sz 58) : am_pok 58 pc = true := by
  have h : pc < 26 := h
  exact am_chkP_at am_k58_0 pc (by omega) (by omega)
theorem am_ka59 (pc : Nat) (h : pc < am_sz 59) : am_pok 59 pc = true := by
  have h : pc < 73 := h
  exact am_chkP_at am_k59_0 pc (by omega) (by omega)
theorem am_ka60 (pc : Nat) (h : pc < am_sz 60) : am_pok 60 pc = true := by
  have h : pc < 16 := h
  exact am_chkP_at am_k60_0 pc (by omega) (by omega)
theorem am_ka61 (pc : Nat) (h : pc < am_sz 61) : am_pok 61 pc = true := by
  have h : pc < 72 := h
  exact am_chkP_at am_k61_0 pc (by omega) (by omega)
theorem am_ka62 (pc : Nat) (h : pc < am_sz 62) : am_pok 62 pc = true := by
  have h : pc < 37 := h
  exact am_chkP_at am_k62_0 pc (by omega) (by omega)
theorem am_ka63 (pc : Nat) (h : pc < am_sz 63) : am_pok 63 pc = true := by
  have h : pc < 40 := h
  exact am_chkP_at am_k63_0 pc (by omega) (by omega)
theorem am_ka64 (pc : Nat) (h : pc < am_sz 64) : am_pok 64 pc = true := by
  have h : pc < 87 := h
  exact am_chkP_at am_k64_0 pc (by omega) (by omega)
theorem am_ka65 (pc : Nat) (h : pc < am_sz 65) : am_pok 65 pc = true := by
  have h : pc < 33 := h
  exact am_chkP_at am_k65_0 pc (by omega) (by omega)
theorem am_ka66 (pc : Nat) (h : pc < am_sz 66) : am_pok 66 pc = true := by
  have h : pc < 69 := h
  exact am_chkP_at am_k66_0 pc (by omega) (by omega)
theorem am_ka67 (pc : Nat) (h : pc < am_sz 67) : am_pok 67 pc = true := by
  have h : pc < 36 := h
  exact am_chkP_at am_k67_0 pc (by omega) (by omega)
theorem am_ka68 (pc : Nat) (h : pc < am_sz 68) : am_pok 68 pc = true := by
  have h : pc < 26 := h
  exact am_chkP_at am_k68_0 pc (by omega) (by omega)
theorem am_ka69 (pc : Nat) (h : pc < am_sz 69) : am_pok 69 pc = true := by
  have h : pc < 14 := h
  exact am_chkP_at am_k69_0 pc (by omega) (by omega)
theorem am_ka70 (pc : Nat) (h : pc < am_sz 70) : am_pok 70 pc = true := by
  have h : pc < 22 := h
  exact am_chkP_at am_k70_0 pc (by omega) (by omega)
theorem am_ka71 (pc : Nat) (h : pc < am_sz 71) : am_pok 71 pc = true := by
  have h : pc < 54 := h
  exact am_chkP_at am_k71_0 pc (by omega) (by omega)
theorem am_ka72 (pc : Nat) (h : pc < am_sz 72) : am_pok 72 pc = true := by
  have h : pc < 71 := h
  exact am_chkP_at am_k72_0 pc (by omega) (by omega)
theorem am_ka73 (pc : Nat) (h : pc < am_sz 73) : am_pok 73 pc = true := by
  have h : pc < 150 := h
  exact am_chkP_at am_k73_0 pc (by omega) (by omega)
theorem am_ka74 (pc : Nat) (h : pc < am_sz 74) : am_pok 74 pc = true := by
  have h : pc < 118 := h
  exact am_chkP_at am_k74_0 pc (by omega) (by omega)
theorem am_ka75 (pc : Nat) (h : pc < am_sz 75) : am_pok 75 pc = true := by
  have h : pc < 101 := h
  exact am_chkP_at am_k75_0 pc (by omega) (by omega)
theorem am_ka76 (pc : Nat) (h : pc < am_sz 76) : am_pok 76 pc = true := by
  have h : pc < 21 := h
  exact am_chkP_at am_k76_0 pc (by omega) (by omega)
theorem am_ka77 (pc : Nat) (h : pc < am_sz 77) : am_pok 77 pc = true := by
  have h : pc < 18 := h
  exact am_chkP_at am_k77_0 pc (by omega) (by omega)
theorem am_ka78 (pc : Nat) (h : pc < am_sz 78) : am_pok 78 pc = true := by
  have h : pc < 17 := h
  exact am_chkP_at am_k78_0 pc (by omega) (by omega)
theorem am_ka79 (pc : Nat) (h : pc < am_sz 79) : am_pok 79 pc = true := by
  have h : pc < 37 := h
  exact am_chkP_at am_k79_0 pc (by omega) (by omega)
theorem am_ka80 (pc : Nat) (h : pc < am_sz 80) : am_pok 80 pc = true := by
  have h : pc < 113 := h
  exact am_chkP_at am_k80_0 pc (by omega) (by omega)
theorem am_ka81 (pc : Nat) (h : pc < am_sz 81) : am_pok 81 pc = true := by
  have h : pc < 121 := h
  exact am_chkP_at am_k81_0 pc (by omega) (by omega)
theorem am_ka82 (pc : Nat) (h : pc < am_sz 82) : am_pok 82 pc = true := by
  have h : pc < 35 := h
  exact am_chkP_at am_k82_0 pc (by omega) (by omega)
theorem am_ka83 (pc : Nat) (h : pc < am_sz 83) : am_pok 83 pc = true := by
  have h : pc < 28 := h
  exact am_chkP_at am_k83_0 pc (by omega) (by omega)
theorem am_ka84 (pc : Nat) (h : pc < am_sz 84) : am_pok 84 pc = true := by
  have h : pc < 95 := h
  exact am_chkP_at am_k84_0 pc (by omega) (by omega)
theorem am_ka85 (pc : Nat) (h : pc < am_sz 85) : am_pok 85 pc = true := by
  have h : pc < 10 := h
  exact am_chkP_at am_k85_0 pc (by omega) (by omega)
theorem am_ka86 (pc : Nat) (h : pc < am_sz 86) : am_pok 86 pc = true := by
  have h : pc < 45 := h
  exact am_chkP_at am_k86_0 pc (by omega) (by omega)
theorem am_ka87 (pc : Nat) (h : pc < am_sz 87) : am_pok 87 pc = true := by
  have h : pc < 85 := h
  exact am_chkP_at am_k87_0 pc (by omega) (by omega)
theorem am_ka88 (pc : Nat) (h : pc < am_sz 88) : am_pok 88 pc = true := by
  have h : pc < 61 := h
  exact am_chkP_at am_k88_0 pc (by omega) (by omega)
theorem am_ka89 (pc : Nat) (h : pc < am_sz 89) : am_pok 89 pc = true := by
  have h : pc < 20 := h
  exact am_chkP_at am_k89_0 pc (by omega) (by omega)
theorem am_ka90 (pc : Nat) (h : pc < am_sz 90) : am_pok 90 pc = true := by
  have h : pc < 46 := h
  exact am_chkP_at am_k90_0 pc (by omega) (by omega)
theorem am_ka91 (pc : Nat) (h : pc < am_sz 91) : am_pok 91 pc = true := by
  have h : pc < 25 := h
  exact am_chkP_at am_k91_0 pc (by omega) (by omega)
theorem am_ka92 (pc : Nat) (h : pc < am_sz 92) : am_pok 92 pc = true := by
  have h : pc < 25 := h
  exact am_chkP_at am_k92_0 pc (by omega) (by omega)
theorem am_ka93 (pc : Nat) (h : pc < am_sz 93) : am_pok 93 pc = true := by
  have h : pc < 30 := h
  exact am_chkP_at am_k93_0 pc (by omega) (by omega)
theorem am_ka94 (pc : Nat) (h : pc < am_sz 94) : am_pok 94 pc = true := by
  have h : pc < 21 := h
  exact am_chkP_at am_k94_0 pc (by omega) (by omega)
theorem am_ka95 (pc : Nat) (h : pc < am_sz 95) : am_pok 95 pc = true := by
  have h : pc < 52 := h
  exact am_chkP_at am_k95_0 pc (by omega) (by omega)
theorem am_ka96 (pc : Nat) (h : pc < am_sz 96) : am_pok 96 pc = true := by
  have h : pc < 92 := h
  exact am_chkP_at am_k96_0 pc (by omega) (by omega)
theorem am_ka97 (pc : Nat) (h : pc < am_sz 97) : am_pok 97 pc = true := by
  have h : pc < 23 := h
  exact am_chkP_at am_k97_0 pc (by omega) (by omega)
theorem am_ka98 (pc : Nat) (h : pc < am_sz 98) : am_pok 98 pc = true := by
  have h : pc < 56 := h
  exact am_chkP_at am_k98_0 pc (by omega) (by omega)
theorem am_ka99 (pc : Nat) (h : pc < am_sz 99) : am_pok 99 pc = true := by
  have h : pc < 23 := h
  exact am_chkP_at am_k99_0 pc (by omega) (by omega)
theorem am_ka100 (pc : Nat) (h : pc < am_sz 100) : am_pok 100 pc = true := by
  have h : pc < 23 := h
  exact am_chkP_at am_k100_0 pc (by omega) (by omega)
theorem am_ka101 (pc : Nat) (h : pc < am_sz 101) : am_pok 101 pc = true := by
  have h : pc < 93 := h
  exact am_chkP_at am_k101_0 pc (by omega) (by omega)
theorem am_ka102 (pc : Nat) (h : pc < am_sz 102) : am_pok 102 pc = true := by
  have h : pc < 22 := h
  exact am_chkP_at am_k102_0 pc (by omega) (by omega)
theorem am_ka103 (pc : Nat) (h : pc < am_sz 103) : am_pok 103 pc = true := by
  have h : pc < 36 := h
  exact am_chkP_at am_k103_0 pc (by omega) (by omega)
theorem am_ka104 (pc : Nat) (h : pc < am_sz 104) : am_pok 104 pc = true := by
  have h : pc < 131 := h
  exact am_chkP_at am_k104_0 pc (by omega) (by omega)
theorem am_ka105 (pc : Nat) (h : pc < am_sz 105) : am_pok 105 pc = true := by
  have h : pc < 15 := h
  exact am_chkP_at am_k105_0 pc (by omega) (by omega)
theorem am_ka106 (pc : Nat) (h : pc < am_sz 106) : am_pok 106 pc = true := by
  have h : pc < 16 := h
  exact am_chkP_at am_k106_0 pc (by omega) (by omega)
theorem am_ka107 (pc : Nat) (h : pc < am_sz 107) : am_pok 107 pc = true := by
  have h : pc < 122 := h
  exact am_chkP_at am_k107_0 pc (by omega) (by omega)
theorem am_ka108 (pc : Nat) (h : pc < am_sz 108) : am_pok 108 pc = true := by
  have h : pc < 29 := h
  exact am_chkP_at am_k108_0 pc (by omega) (by omega)
theorem am_ka109 (pc : Nat) (h : pc < am_sz 109) : am_pok 109 pc = true := by
  have h : pc < 30 := h
  exact am_chkP_at am_k109_0 pc (by omega) (by omega)
theorem am_ka110 (pc : Nat) (h : pc < am_sz 110) : am_pok 110 pc = true := by
  have h : pc < 354 := h
  rcases Nat.lt_or_ge pc 110 with h0 | h0
  · exact am_chkP_at am_k110_0 pc (by omega) (by omega)
  rcases Nat.lt_or_ge pc 220 with h1 | h1
  · exact am_chkP_at am_k110_1 pc (by omega) (by omega)
  rcases Nat.lt_or_ge pc 330 with h2 | h2
  · exact am_chkP_at am_k110_2 pc (by omega) (by omega)
  exact am_chkP_at am_k110_3 pc (by omega) (by omega)
theorem am_ka111 (pc : Nat) (h : pc < am_sz 111) : am_pok 111 pc = true := by
  have h : pc < 5 := h
  exact am_chkP_at am_k111_0 pc (by omega) (by omega)
theorem am_ka112 (pc : Nat) (h : pc < am_sz 112) : am_pok 112 pc = true := by
  have h : pc < 18 := h
  exact am_chkP_at am_k112_0 pc (by omega) (by omega)
theorem am_ka113 (pc : Nat) (h : pc < am_sz 113) : am_pok 113 pc = true := by
  have h : pc < 24 := h
  exact am_chkP_at am_k113_0 pc (by omega) (by omega)
theorem am_ka114 (pc : Nat) (h : pc < am_sz 114) : am_pok 114 pc = true := by
  have h : pc < 34 := h
  exact am_chkP_at am_k114_0 pc (by omega) (by omega)
theorem am_ka115 (pc : Nat) (h : pc < am_sz 115) : am_pok 115 pc = true := by
  have h : pc < 18 := h
  exact am_chkP_at am_k115_0 pc (by omega) (by omega)
theorem am_ka116 (pc : Nat) (h : pc < am_sz 116) : am_pok 116 pc = true := by
  have h : pc < 27 := h
  exact am_chkP_at am_k116_0 pc (by omega) (by omega)
theorem am_ka117 (pc : Nat) (h : pc < am_sz 117) : am_pok 117 pc = true := by
  have h : pc < 21 := h
  exact am_chkP_at am_k117_0 pc (by omega) (by omega)
theorem am_ka118 (pc : Nat) (h : pc < am_sz 118) : am_pok 118 pc = true := by
  have h : pc < 26 := h
  exact am_chkP_at am_k118_0 pc (by omega) (by omega)
theorem am_ka119 (pc : Nat) (h : pc < am_sz 119) : am_pok 119 pc = true := by
  have h : pc < 253 := h
  rcases Nat.lt_or_ge pc 110 with h0 | h0
  · exact am_chkP_at am_k119_0 pc (by omega) (by omega)
  rcases Nat.lt_or_ge pc 220 with h1 | h1
  · exact am_chkP_at am_k119_1 pc (by omega) (by omega)
  exact am_chkP_at am_k119_2 pc (by omega) (by omega)
theorem am_ka120 (pc : Nat) (h : pc < am_sz 120) : am_pok 120 pc = true := by
  have h : pc < 20 := h
  exact am_chkP_at am_k120_0 pc (by omega) (by omega)
theorem am_ka121 (pc : Nat) (h : pc < am_sz 121) : am_pok 121 pc = true := by
  have h : pc < 14 := h
  exact am_chkP_at am_k121_0 pc (by omega) (by omega)
theorem am_ka122 (pc : Nat) (h : pc < am_sz 122) : am_pok 122 pc = true := by
  have h : pc < 20 := h
  exact am_chkP_at am_k122_0 pc (by omega) (by omega)
theorem am_ka123 (pc : Nat) (h : pc < am_sz 123) : am_pok 123 pc = true := by
  have h : pc < 11 := h
  exact am_chkP_at am_k123_0 pc (by omega) (by omega)
theorem am_ka124 (pc : Nat) (h : pc < am_sz 124) : am_pok 124 pc = true := by
  have h : pc < 88 := h
  exact am_chkP_at am_k124_0 pc (by omega) (by omega)
theorem am_ka125 (pc : Nat) (h : pc < am_sz 125) : am_pok 125 pc = true := by
  have h : pc < 15 := h
  exact am_chkP_at am_k125_0 pc (by omega) (by omega)
theorem am_ka126 (pc : Nat) (h : pc < am_sz 126) : am_pok 126 pc = true := by
  have h : pc < 43 := h
  exact am_chkP_at am_k126_0 pc (by omega) (by omega)
theorem am_ka127 (pc : Nat) (h : pc < am_sz 127) : am_pok 127 pc = true := by
  have h : pc < 47 := h
  exact am_chkP_at am_k127_0 pc (by omega) (by omega)
theorem am_ka128 (pc : Nat) (h : pc < am_sz 128) : am_pok 128 pc = true := by
  have h : pc < 229 := h
  rcases Nat.lt_or_ge pc 110 with h0 | h0
  · exact am_chkP_at am_k128_0 pc (by omega) (by omega)
  rcases Nat.lt_or_ge pc 220 with h1 | h1
  · exact am_chkP_at am_k128_1 pc (by omega) (by omega)
  exact am_chkP_at am_k128_2 pc (by omega) (by omega)
theorem am_ka129 (pc : Nat) (h : pc < am_sz 129) : am_pok 129 pc = true := by
  have h : pc < 47 := h
  exact am_chkP_at am_k129_0 pc (by omega) (by omega)
theorem am_ka130 (pc : Nat) (h : pc < am_sz 130) : am_pok 130 pc = true := by
  have h : pc < 41 := h
  exact am_chkP_at am_k130_0 pc (by omega) (by omega)
theorem am_ka131 (pc : Nat) (h : pc < am_sz 131) : am_pok 131 pc = true := by
  have h : pc < 27 := h
  exact am_chkP_at am_k131_0 pc (by omega) (by omega)
theorem am_ka132 (pc : Nat) (h : pc < am_sz 132) : am_pok 132 pc = true := by
  have h : pc < 71 := h
  exact am_chkP_at am_k132_0 pc (by omega) (by omega)
theorem am_ka133 (pc : Nat) (h : pc < am_sz 133) : am_pok 133 pc = true := by
  have h : pc < 78 := h
  exact am_chkP_at am_k133_0 pc (by omega) (by omega)
theorem am_ka134 (pc : Nat) (h : pc < am_sz 134) : am_pok 134 pc = true := by
  have h : pc < 180 := h
  exact am_chkP_at am_k134_0 pc (by omega) (by omega)
theorem am_ka135 (pc : Nat) (h : pc < am_sz 135) : am_pok 135 pc = true := by
  have h : pc < 55 := h
  exact am_chkP_at am_k135_0 pc (by omega) (by omega)
theorem am_ka136 (pc : Nat) (h : pc < am_sz 136) : am_pok 136 pc = true := by
  have h : pc < 41 := h
  exact am_chkP_at am_k136_0 pc (by omega) (by omega)
theorem am_ka137 (pc : Nat) (h : pc < am_sz 137) : am_pok 137 pc = true := by
  have h : pc < 152 := h
  exact am_chkP_at am_k137_0 pc (by omega) (by omega)
theorem am_ka138 (pc : Nat) (h : pc < am_sz 138) : am_pok 138 pc = true := by
  have h : pc < 22 := h
  exact am_chkP_at am_k138_0 pc (by omega) (by omega)
theorem am_ka139 (pc : Nat) (h : pc < am_sz 139) : am_pok 139 pc = true := by
  have h : pc < 47 := h
  exact am_chkP_at am_k139_0 pc (by omega) (by omega)
theorem am_ka140 (pc : Nat) (h : pc < am_sz 140) : am_pok 140 pc = true := by
  have h : pc < 170 := h
  exact am_chkP_at am_k140_0 pc (by omega) (by omega)
theorem am_ka141 (pc : Nat) (h : pc < am_sz 141) : am_pok 141 pc = true := by
  have h : pc < 41 := h
  exact am_chkP_at am_k141_0 pc (by omega) (by omega)
theorem am_ka142 (pc : Nat) (h : pc < am_sz 142) : am_pok 142 pc = true := by
  have h : pc < 193 := h
  exact am_chkP_at am_k142_0 pc (by omega) (by omega)
theorem am_ka143 (pc : Nat) (h : pc < am_sz 143) : am_pok 143 pc = true := by
  have h : pc < 68 := h
  exact am_chkP_at am_k143_0 pc (by omega) (by omega)
theorem am_ka144 (pc : Nat) (h : pc < am_sz 144) : am_pok 144 pc = true := by
  have h : pc < 51 := h
  exact am_chkP_at am_k144_0 pc (by omega) (by omega)
theorem am_ka145 (pc : Nat) (h : pc < am_sz 145) : am_pok 145 pc = true := by
  have h : pc < 85 := h
  exact am_chkP_at am_k145_0 pc (by omega) (by omega)
theorem am_ka146 (pc : Nat) (h : pc < am_sz 146) : am_pok 146 pc = true := by
  have h : pc < 48 := h
  exact am_chkP_at am_k146_0 pc (by omega) (by omega)
theorem am_ka147 (pc : Nat) (h : pc < am_sz 147) : am_pok 147 pc = true := by
  have h : pc < 41 := h
  exact am_chkP_at am_k147_0 pc (by omega) (by omega)
theorem am_ka148 (pc : Nat) (h : pc < am_sz 148) : am_pok 148 pc = true := by
  have h : pc < 218 := h
  exact am_chkP_at am_k148_0 pc (by omega) (by omega)
theorem am_ka149 (pc : Nat) (h : pc < am_sz 149) : am_pok 149 pc = true := by
  have h : pc < 49 := h
  exact am_chkP_at am_k149_0 pc (by omega) (by omega)
theorem am_ka150 (pc : Nat) (h : pc < am_sz 150) : am_pok 150 pc = true := by
  have h : pc < 55 := h
  exact am_chkP_at am_k150_0 pc (by omega) (by omega)
theorem am_ka151 (pc : Nat) (h : pc < am_sz 151) : am_pok 151 pc = true := by
  have h : pc < 15 := h
  exact am_chkP_at am_k151_0 pc (by omega) (by omega)
theorem am_ka152 (pc : Nat) (h : pc < am_sz 152) : am_pok 152 pc = true := by
  have h : pc < 309 := h
  rcases Nat.lt_or_ge pc 110 with h0 | h0
  · exact am_chkP_at am_k152_0 pc (by omega) (by omega)
  rcases Nat.lt_or_ge pc 220 with h1 | h1
  · exact am_chkP_at am_k152_1 pc (by omega) (by omega)
  exact am_chkP_at am_k152_2 pc (by omega) (by omega)
theorem am_ka153 (pc : Nat) (h : pc < am_sz 153) : am_pok 153 pc = true := by
  have h : pc < 39 := h
  exact am_chkP_at am_k153_0 pc (by omega) (by omega)
theorem am_ka154 (pc : Nat) (h : pc < am_sz 154) : am_pok 154 pc = true := by
  have h : pc < 62 := h
  exact am_chkP_at am_k154_0 pc (by omega) (by omega)
theorem am_ka155 (pc : Nat) (h : pc < am_sz 155) : am_pok 155 pc = true := by
  have h : pc < 83 := h
  exact am_chkP_at am_k155_0 pc (by omega) (by omega)
theorem am_ka156 (pc : Nat) (h : pc < am_sz 156) : am_pok 156 pc = true := by
  have h : pc < 156 := h
  exact am_chkP_at am_k156_0 pc (by omega) (by omega)
theorem am_ka157 (pc : Nat) (h : pc < am_sz 157) : am_pok 157 pc = true := by
  have h : pc < 57 := h
  exact am_chkP_at am_k157_0 pc (by omega) (by omega)
theorem am_ka158 (pc : Nat) (h : pc < am_sz 158) : am_pok 158 pc = true := by
  have h : pc < 29 := h
  exact am_chkP_at am_k158_0 pc (by omega) (by omega)
theorem am_ka159 (pc : Nat) (h : pc < am_sz 159) : am_pok 159 pc = true := by
  have h : pc < 52 := h
  exact am_chkP_at am_k159_0 pc (by omega) (by omega)
theorem am_ka160 (pc : Nat) (h : pc < am_sz 160) : am_pok 160 pc = true := by
  have h : pc < 15 := h
  exact am_chkP_at am_k160_0 pc (by omega) (by omega)
theorem am_ka161 (pc : Nat) (h : pc < am_sz 161) : am_pok 161 pc = true := by
  have h : pc < 35 := h
  exact am_chkP_at am_k161_0 pc (by omega) (by omega)
theorem am_ka162 (pc : Nat) (h : pc < am_sz 162) : am_pok 162 pc = true := by
  have h : pc < 53 := h
  exact am_chkP_at am_k162_0 pc (by omega) (by omega)
theorem am_ka163 (pc : Nat) (h : pc < am_sz 163) : am_pok 163 pc = true := by
  have h : pc < 119 := h
  exact am_chkP_at am_k163_0 pc (by omega) (by omega)
theorem am_ka164 (pc : Nat) (h : pc < am_sz 164) : am_pok 164 pc = true := by
  have h : pc < 213 := h
  exact am_chkP_at am_k164_0 pc (by omega) (by omega)
theorem am_ka165 (pc : Nat) (h : pc < am_sz 165) : am_pok 165 pc = true := by
  have h : pc < 69 := h
  exact am_chkP_at am_k165_0 pc (by omega) (by omega)
theorem am_ka166 (pc : Nat) (h : pc < am_sz 166) : am_pok 166 pc = true := by
  have h : pc < 76 := h
  exact am_chkP_at am_k166_0 pc (by omega) (by omega)
theorem am_ka167 (pc : Nat) (h : pc < am_sz 167) : am_pok 167 pc = true := by
  have h : pc < 52 := h
  exact am_chkP_at am_k167_0 pc (by omega) (by omega)
theorem am_ka168 (pc : Nat) (h : pc < am_sz 168) : am_pok 168 pc = true := by
  have h : pc < 48 := h
  exact am_chkP_at am_k168_0 pc (by omega) (by omega)
theorem am_ka169 (pc : Nat) (h : pc < am_sz 169) : am_pok 169 pc = true := by
  have h : pc < 55 := h
  exact am_chkP_at am_k169_0 pc (by omega) (by omega)
theorem am_ka170 (pc : Nat) (h : pc < am_sz 170) : am_pok 170 pc = true := by
  have h : pc < 158 := h
  exact am_chkP_at am_k170_0 pc (by omega) (by omega)
theorem am_ka171 (pc : Nat) (h : pc < am_sz 171) : am_pok 171 pc = true := by
  have h : pc < 25 := h
  exact am_chkP_at am_k171_0 pc (by omega) (by omega)
theorem am_ka172 (pc : Nat) (h : pc < am_sz 172) : am_pok 172 pc = true := by
  have h : pc < 64 := h
  exact am_chkP_at am_k172_0 pc (by omega) (by omega)
theorem am_ka173 (pc : Nat) (h : pc < am_sz 173) : am_pok 173 pc = true := by
  have h : pc < 103 := h
  exact am_chkP_at am_k173_0 pc (by omega) (by omega)
theorem am_ka174 (pc : Nat) (h : pc < am_sz 174) : am_pok 174 pc = true := by
  have h : pc < 91 := h
  exact am_chkP_at am_k174_0 pc (by omega) (by omega)
theorem am_ka175 (pc : Nat) (h : pc < am_sz 175) : am_pok 175 pc = true := by
  have h : pc < 90 := h
  exact am_chkP_at am_k175_0 pc (by omega) (by omega)
theorem am_ka176 (pc : Nat) (h : pc < am_sz 176) : am_pok 176 pc = true := by
  have h : pc < 24 := h
  exact am_chkP_at am_k176_0 pc (by omega) (by omega)
theorem am_ka177 (pc : Nat) (h : pc < am_sz 177) : am_pok 177 pc = true := by
  have h : pc < 123 := h
  exact am_chkP_at am_k177_0 pc (by omega) (by omega)
theorem am_ka178 (pc : Nat) (h : pc < am_sz 178) : am_pok 178 pc = true := by
  have h : pc < 123 := h
  exact am_chkP_at am_k178_0 pc (by omega) (by omega)
theorem am_ka179 (pc : Nat) (h : pc < am_sz 179) : am_pok 179 pc = true := by
  have h : pc < 14 := h
  exact am_chkP_at am_k179_0 pc (by omega) (by omega)
theorem am_ka180 (pc : Nat) (h : pc < am_sz 180) : am_pok 180 pc = true := by
  have h : pc < 19 := h
  exact am_chkP_at am_k180_0 pc (by omega) (by omega)
theorem am_ka181 (pc : Nat) (h : pc < am_sz 181) : am_pok 181 pc = true := by
  have h : pc < 940 := h
  rcases Nat.lt_or_ge pc 110 with h0 | h0
  · exact am_chkP_at am_k181_0 pc (by omega) (by omega)
  rcases Nat.lt_or_ge pc 220 with h1 | h1
  · exact am_chkP_at am_k181_1 pc (by omega) (by omega)
  rcases Nat.lt_or_ge pc 330 with h2 | h2
  · exact am_chkP_at am_k181_2 pc (by omega) (by omega)
  rcases Nat.lt_or_ge pc 440 with h3 | h3
  · exact am_chkP_at am_k181_3 pc (by omega) (by omega)
  rcases Nat.lt_or_ge pc 550 with h4 | h4
  · exact am_chkP_at am_k181_4 pc (by omega) (by omega)
  rcases Nat.lt_or_ge pc 660 with h5 | h5
  · exact am_chkP_at am_k181_5 pc (by omega) (by omega)
  rcases Nat.lt_or_ge pc 770 with h6 | h6
  · exact am_chkP_at am_k181_6 pc (by omega) (by omega)
  rcases Nat.lt_or_ge pc 880 with h7 | h7
  · exact am_chkP_at am_k181_7 pc (by omega) (by omega)
  exact am_chkP_at am_k181_8 pc (by omega) (by omega)
theorem am_ka (y : Nat) (h : y < 182) : ∀ pc, pc < am_sz y → am_pok y pc = true := by
  rcases Nat.lt_or_ge y 91 with h91 | h91
  · rcases Nat.lt_or_ge y 45 with h45 | h45
    · rcases Nat.lt_or_ge y 22 with h22 | h22
      · rcases Nat.lt_or_ge y 11 with h11 | h11
        · rcases Nat.lt_or_ge y 5 with h5 | h5
          · rcases Nat.lt_or_ge y 2 with h2 | h2
            · rcases Nat.lt_or_ge y 1 with h1 | h1
              · obtain rfl : y = 0 := by omega
                exact am_ka0
              · obtain rfl : y = 1 := by omega
                exact am_ka1
            · rcases Nat.lt_or_ge y 3 with h3 | h3
              · obtain rfl : y = 2 := by omega
                exact am_ka2
              · rcases Nat.lt_or_ge y 4 with h4 | h4
                · obtain rfl : y = 3 := by omega
                  exact am_ka3
                · obtain rfl : y = 4 := by omega
                  exact am_ka4
          · rcases Nat.lt_or_ge y 8 with h8 | h8
            · rcases Nat.lt_or_ge y 6 with h6 | h6
              · obtain rfl : y = 5 := by omega
                exact am_ka5
              · rcases Nat.lt_or_ge y 7 with h7 | h7
                · obtain rfl : y = 6 := by omega
                  exact am_ka6
                · obtain rfl : y = 7 := by omega
                  exact am_ka7
            · rcases Nat.lt_or_ge y 9 with h9 | h9
              · obtain rfl : y = 8 := by omega
                exact am_ka8
              · rcases Nat.lt_or_ge y 10 with h10 | h10
                · obtain rfl : y = 9 := by omega
                  exact am_ka9
                · obtain rfl : y = 10 := by omega
                  exact am_ka10
        · rcases Nat.lt_or_ge y 16 with h16 | h16
          · rcases Nat.lt_or_ge y 13 with h13 | h13
            · rcases Nat.lt_or_ge y 12 with h12 | h12
              · obtain rfl : y = 11 := by omega
                exact am_ka11
              · obtain rfl : y = 12 := by omega
                exact am_ka12
            · rcases Nat.lt_or_ge y 14 with h14 | h14
              · obtain rfl : y = 13 := by omega
                exact am_ka13
              · rcases Nat.lt_or_ge y 15 with h15 | h15
                · obtain rfl : y = 14 := by omega
                  exact am_ka14
                · obtain rfl : y = 15 := by omega
                  exact am_ka15
          · rcases Nat.lt_or_ge y 19 with h19 | h19
            · rcases Nat.lt_or_ge y 17 with h17 | h17
              · obtain rfl : y = 16 := by omega
                exact am_ka16
              · rcases Nat.lt_or_ge y 18 with h18 | h18
                · obtain rfl : y = 17 := by omega
                  exact am_ka17
                · obtain rfl : y = 18 := by omega
                  exact am_ka18
            · rcases Nat.lt_or_ge y 20 with h20 | h20
              · obtain rfl : y = 19 := by omega
                exact am_ka19
              · rcases Nat.lt_or_ge y 21 with h21 | h21
                · obtain rfl : y = 20 := by omega
                  exact am_ka20
                · obtain rfl : y = 21 := by omega
                  exact am_ka21
      · rcases Nat.lt_or_ge y 33 with h33 | h33
        · rcases Nat.lt_or_ge y 27 with h27 | h27
          · rcases Nat.lt_or_ge y 24 with h24 | h24
            · rcases Nat.lt_or_ge y 23 with h23 | h23
              · obtain rfl : y = 22 := by omega
                exact am_ka22
              · obtain rfl : y = 23 := by omega
                exact am_ka23
            · rcases Nat.lt_or_ge y 25 with h25 | h25
              · obtain rfl : y = 24 := by omega
                exact am_ka24
              · rcases Nat.lt_or_ge y 26 with h26 | h26
                · obtain rfl : y = 25 := by omega
                  exact am_ka25
                · obtain rfl : y = 26 := by omega
                  exact am_ka26
          · rcases Nat.lt_or_ge y 30 with h30 | h30
            · rcases Nat.lt_or_ge y 28 with h28 | h28
              · obtain rfl : y = 27 := by omega
                exact am_ka27
              · rcases Nat.lt_or_ge y 29 with h29 | h29
                · obtain rfl : y = 28 := by omega
                  exact am_ka28
                · obtain rfl : y = 29 := by omega
                  exact am_ka29
            · rcases Nat.lt_or_ge y 31 with h31 | h31
              · obtain rfl : y = 30 := by omega
                exact am_ka30
              · rcases Nat.lt_or_ge y 32 with h32 | h32
                · obtain rfl : y = 31 := by omega
                  exact am_ka31
                · obtain rfl : y = 32 := by omega
                  exact am_ka32
        · rcases Nat.lt_or_ge y 39 with h39 | h39
          · rcases Nat.lt_or_ge y 36 with h36 | h36
            · rcases Nat.lt_or_ge y 34 with h34 | h34
              · obtain rfl : y = 33 := by omega
                exact am_ka33
              · rcases Nat.lt_or_ge y 35 with h35 | h35
                · obtain rfl : y = 34 := by omega
                  exact am_ka34
                · obtain rfl : y = 35 := by omega
                  exact am_ka35
            · rcases Nat.lt_or_ge y 37 with h37 | h37
              · obtain rfl : y = 36 := by omega
                exact am_ka36
              · rcases Nat.lt_or_ge y 38 with h38 | h38
                · obtain rfl : y = 37 := by omega
                  exact am_ka37
                · obtain rfl : y = 38 := by omega
                  exact am_ka38
          · rcases Nat.lt_or_ge y 42 with h42 | h42
            · rcases Nat.lt_or_ge y 40 with h40 | h40
              · obtain rfl : y = 39 := by omega
                exact am_ka39
              · rcases Nat.lt_or_ge y 41 with h41 | h41
                · obtain rfl : y = 40 := by omega
                  exact am_ka40
                · obtain rfl : y = 41 := by omega
                  exact am_ka41
            · rcases Nat.lt_or_ge y 43 with h43 | h43
              · obtain rfl : y = 42 := by omega
                exact am_ka42
              · rcases Nat.lt_or_ge y 44 with h44 | h44
                · obtain rfl : y = 43 := by omega
                  exact am_ka43
                · obtain rfl : y = 44 := by omega
                  exact am_ka44
    · rcases Nat.lt_or_ge y 68 with h68 | h68
      · rcases Nat.lt_or_ge y 56 with h56 | h56
        · rcases Nat.lt_or_ge y 50 with h50 | h50
          · rcases Nat.lt_or_ge y 47 with h47 | h47
            · rcases Nat.lt_or_ge y 46 with h46 | h46
              · obtain rfl : y = 45 := by omega
                exact am_ka45
              · obtain rfl : y = 46 := by omega
                exact am_ka46
            · rcases Nat.lt_or_ge y 48 with h48 | h48
              · obtain rfl : y = 47 := by omega
                exact am_ka47
              · rcases Nat.lt_or_ge y 49 with h49 | h49
                · obtain rfl : y = 48 := by omega
                  exact am_ka48
                · obtain rfl : y = 49 := by omega
                  exact am_ka49
          · rcases Nat.lt_or_ge y 53 with h53 | h53
            · rcases Nat.lt_or_ge y 51 with h51 | h51
              · obtain rfl : y = 50 := by omega
                exact am_ka50
              · rcases Nat.lt_or_ge y 52 with h52 | h52
                · obtain rfl : y = 51 := by omega
                  exact am_ka51
                · obtain rfl : y = 52 := by omega
                  exact am_ka52
            · rcases Nat.lt_or_ge y 54 with h54 | h54
              · obtain rfl : y = 53 := by omega
                exact am_ka53
              · rcases Nat.lt_or_ge y 55 with h55 | h55
                · obtain rfl : y = 54 := by omega
                  exact am_ka54
                · obtain rfl : y = 55 := by omega
                  exact am_ka55
        · rcases Nat.lt_or_ge y 62 with h62 | h62
          · rcases Nat.lt_or_ge y 59 with h59 | h59
            · rcases Nat.lt_or_ge y 57 with h57 | h57
              · obtain rfl : y = 56 := by omega
                exact am_ka56
              · rcases Nat.lt_or_ge y 58 with h58 | h58
                · obtain rfl : y = 57 := by omega
                  exact am_ka57
                · obtain rfl : y = 58 := by omega
                  exact am_ka58
            · rcases Nat.lt_or_ge y 60 with h60 | h60
              · obtain rfl : y = 59 := by omega
                exact am_ka59
              · rcases Nat.lt_or_ge y 61 with h61 | h61
                · obtain rfl : y = 60 := by omega
                  exact am_ka60
                · obtain rfl : y = 61 := by omega
                  exact am_ka61
          · rcases Nat.lt_or_ge y 65 with h65 | h65
            · rcases Nat.lt_or_ge y 63 with h63 | h63
              · obtain rfl : y = 62 := by omega
                exact am_ka62
              · rcases Nat.lt_or_ge y 64 with h64 | h64
                · obtain rfl : y = 63 := by omega
                  exact am_ka63
                · obtain rfl : y = 64 := by omega
                  exact am_ka64
            · rcases Nat.lt_or_ge y 66 with h66 | h66
              · obtain rfl : y = 65 := by omega
                exact am_ka65
              · rcases Nat.lt_or_ge y 67 with h67 | h67
                · obtain rfl : y = 66 := by omega
                  exact am_ka66
                · obtain rfl : y = 67 := by omega
                  exact am_ka67
      · rcases Nat.lt_or_ge y 79 with h79 | h79
        · rcases Nat.lt_or_ge y 73 with h73 | h73
          · rcases Nat.lt_or_ge y 70 with h70 | h70
            · rcases Nat.lt_or_ge y 69 with h69 | h69
              · obtain rfl : y = 68 := by omega
                exact am_ka68
              · obtain rfl : y = 69 := by omega
                exact am_ka69
            · rcases Nat.lt_or_ge y 71 with h71 | h71
              · obtain rfl : y = 70 := by omega
                exact am_ka70
              · rcases Nat.lt_or_ge y 72 with h72 | h72
                · obtain rfl : y = 71 := by omega
                  exact am_ka71
                · obtain rfl : y = 72 := by omega
                  exact am_ka72
          · rcases Nat.lt_or_ge y 76 with h76 | h76
            · rcases Nat.lt_or_ge y 74 with h74 | h74
              · obtain rfl : y = 73 := by omega
                exact am_ka73
              · rcases Nat.lt_or_ge y 75 with h75 | h75
                · obtain rfl : y = 74 := by omega
                  exact am_ka74
                · obtain rfl : y = 75 := by omega
                  exact am_ka75
            · rcases Nat.lt_or_ge y 77 with h77 | h77
              · obtain rfl : y = 76 := by omega
                exact am_ka76
              · rcases Nat.lt_or_ge y 78 with h78 | h78
                · obtain rfl : y = 77 := by omega
                  exact am_ka77
                · obtain rfl : y = 78 := by omega
                  exact am_ka78
        · rcases Nat.lt_or_ge y 85 with h85 | h85
          · rcases Nat.lt_or_ge y 82 with h82 | h82
            · rcases Nat.lt_or_ge y 80 with h80 | h80
              · obtain rfl : y = 79 := by omega
                exact am_ka79
              · rcases Nat.lt_or_ge y 81 with h81 | h81
                · obtain rfl : y = 80 := by omega
                  exact am_ka80
                · obtain rfl : y = 81 := by omega
                  exact am_ka81
            · rcases Nat.lt_or_ge y 83 with h83 | h83
              · obtain rfl : y = 82 := by omega
                exact am_ka82
              · rcases Nat.lt_or_ge y 84 with h84 | h84
                · obtain rfl : y = 83 := by omega
                  exact am_ka83
                · obtain rfl : y = 84 := by omega
                  exact am_ka84
          · rcases Nat.lt_or_ge y 88 with h88 | h88
            · rcases Nat.lt_or_ge y 86 with h86 | h86
              · obtain rfl : y = 85 := by omega
                exact am_ka85
              · rcases Nat.lt_or_ge y 87 with h87 | h87
                · obtain rfl : y = 86 := by omega
                  exact am_ka86
                · obtain rfl : y = 87 := by omega
                  exact am_ka87
            · rcases Nat.lt_or_ge y 89 with h89 | h89
              · obtain rfl : y = 88 := by omega
                exact am_ka88
              · rcases Nat.lt_or_ge y 90 with h90 | h90
                · obtain rfl : y = 89 := by omega
                  exact am_ka89
                · obtain rfl : y = 90 := by omega
                  exact am_ka90
  · rcases Nat.lt_or_ge y 136 with h136 | h136
    · rcases Nat.lt_or_ge y 113 with h113 | h113
      · rcases Nat.lt_or_ge y 102 with h102 | h102
        · rcases Nat.lt_or_ge y 96 with h96 | h96
          · rcases Nat.lt_or_ge y 93 with h93 | h93
            · rcases Nat.lt_or_ge y 92 with h92 | h92
              · obtain rfl : y = 91 := by omega
                exact am_ka91
              · obtain rfl : y = 92 := by omega
                exact am_ka92
            · rcases Nat.lt_or_ge y 94 with h94 | h94
              · obtain rfl : y = 93 := by omega
                exact am_ka93
              · rcases Nat.lt_or_ge y 95 with h95 | h95
                · obtain rfl : y = 94 := by omega
                  exact am_ka94
                · obtain rfl : y = 95 := by omega
                  exact am_ka95
          · rcases Nat.lt_or_ge y 99 with h99 | h99
            · rcases Nat.lt_or_ge y 97 with h97 | h97
              · obtain rfl : y = 96 := by omega
                exact am_ka96
              · rcases Nat.lt_or_ge y 98 with h98 | h98
                · obtain rfl : y = 97 := by omega
                  exact am_ka97
                · obtain rfl : y = 98 := by omega
                  exact am_ka98
            · rcases Nat.lt_or_ge y 100 with h100 | h100
              · obtain rfl : y = 99 := by omega
                exact am_ka99
              · rcases Nat.lt_or_ge y 101 with h101 | h101
                · obtain rfl : y = 100 := by omega
                  exact am_ka100
                · obtain rfl : y = 101 := by omega
                  exact am_ka101
        · rcases Nat.lt_or_ge y 107 with h107 | h107
          · rcases Nat.lt_or_ge y 104 with h104 | h104
            · rcases Nat.lt_or_ge y 103 with h103 | h103
              · obtain rfl : y = 102 := by omega
                exact am_ka102
              · obtain rfl : y = 103 := by omega
                exact am_ka103
            · rcases Nat.lt_or_ge y 105 with h105 | h105
              · obtain rfl : y = 104 := by omega
                exact am_ka104
              · rcases Nat.lt_or_ge y 106 with h106 | h106
                · obtain rfl : y = 105 := by omega
                  exact am_ka105
                · obtain rfl : y = 106 := by omega
                  exact am_ka106
          · rcases Nat.lt_or_ge y 110 with h110 | h110
            · rcases Nat.lt_or_ge y 108 with h108 | h108
              · obtain rfl : y = 107 := by omega
                exact am_ka107
              · rcases Nat.lt_or_ge y 109 with h109 | h109
                · obtain rfl : y = 108 := by omega
                  exact am_ka108
                · obtain rfl : y = 109 := by omega
                  exact am_ka109
            · rcases Nat.lt_or_ge y 111 with h111 | h111
              · obtain rfl : y = 110 := by omega
                exact am_ka110
              · rcases Nat.lt_or_ge y 112 with h112 | h112
                · obtain rfl : y = 111 := by omega
                  exact am_ka111
                · obtain rfl : y = 112 := by omega
                  exact am_ka112
      · rcases Nat.lt_or_ge y 124 with h124 | h124
        · rcases Nat.lt_or_ge y 118 with h118 | h118
          · rcases Nat.lt_or_ge y 115 with h115 | h115
            · rcases Nat.lt_or_ge y 114 with h114 | h114
              · obtain rfl : y = 113 := by omega
                exact am_ka113
              · obtain rfl : y = 114 := by omega
                exact am_ka114
            · rcases Nat.lt_or_ge y 116 with h116 | h116
              · obtain rfl : y = 115 := by omega
                exact am_ka115
              · rcases Nat.lt_or_ge y 117 with h117 | h117
                · obtain rfl : y = 116 := by omega
                  exact am_ka116
                · obtain rfl : y = 117 := by omega
                  exact am_ka117
          · rcases Nat.lt_or_ge y 121 with h121 | h121
            · rcases Nat.lt_or_ge y 119 with h119 | h119
              · obtain rfl : y = 118 := by omega
                exact am_ka118
              · rcases Nat.lt_or_ge y 120 with h120 | h120
                · obtain rfl : y = 119 := by omega
                  exact am_ka119
                · obtain rfl : y = 120 := by omega
                  exact am_ka120
            · rcases Nat.lt_or_ge y 122 with h122 | h122
              · obtain rfl : y = 121 := by omega
                exact am_ka121
              · rcases Nat.lt_or_ge y 123 with h123 | h123
                · obtain rfl : y = 122 := by omega
                  exact am_ka122
                · obtain rfl : y = 123 := by omega
                  exact am_ka123
        · rcases Nat.lt_or_ge y 130 with h130 | h130
          · rcases Nat.lt_or_ge y 127 with h127 | h127
            · rcases Nat.lt_or_ge y 125 with h125 | h125
              · obtain rfl : y = 124 := by omega
                exact am_ka124
              · rcases Nat.lt_or_ge y 126 with h126 | h126
                · obtain rfl : y = 125 := by omega
                  exact am_ka125
                · obtain rfl : y = 126 := by omega
                  exact am_ka126
            · rcases Nat.lt_or_ge y 128 with h128 | h128
              · obtain rfl : y = 127 := by omega
                exact am_ka127
              · rcases Nat.lt_or_ge y 129 with h129 | h129
                · obtain rfl : y = 128 := by omega
                  exact am_ka128
                · obtain rfl : y = 129 := by omega
                  exact am_ka129
          · rcases Nat.lt_or_ge y 133 with h133 | h133
            · rcases Nat.lt_or_ge y 131 with h131 | h131
              · obtain rfl : y = 130 := by omega
                exact am_ka130
              · rcases Nat.lt_or_ge y 132 with h132 | h132
                · obtain rfl : y = 131 := by omega
                  exact am_ka131
                · obtain rfl : y = 132 := by omega
                  exact am_ka132
            · rcases Nat.lt_or_ge y 134 with h134 | h134
              · obtain rfl : y = 133 := by omega
                exact am_ka133
              · rcases Nat.lt_or_ge y 135 with h135 | h135
                · obtain rfl : y = 134 := by omega
                  exact am_ka134
                · obtain rfl : y = 135 := by omega
                  exact am_ka135
    · rcases Nat.lt_or_ge y 159 with h159 | h159
      · rcases Nat.lt_or_ge y 147 with h147 | h147
        · rcases Nat.lt_or_ge y 141 with h141 | h141
          · rcases Nat.lt_or_ge y 138 with h138 | h138
            · rcases Nat.lt_or_ge y 137 with h137 | h137
              · obtain rfl : y = 136 := by omega
                exact am_ka136
              · obtain rfl : y = 137 := by omega
                exact am_ka137
            · rcases Nat.lt_or_ge y 139 with h139 | h139
              · obtain rfl : y = 138 := by omega
                exact am_ka138
              · rcases Nat.lt_or_ge y 140 with h140 | h140
                · obtain rfl : y = 139 := by omega
                  exact am_ka139
                · obtain rfl : y = 140 := by omega
                  exact am_ka140
          · rcases Nat.lt_or_ge y 144 with h144 | h144
            · rcases Nat.lt_or_ge y 142 with h142 | h142
              · obtain rfl : y = 141 := by omega
                exact am_ka141
              · rcases Nat.lt_or_ge y 143 with h143 | h143
                · obtain rfl : y = 142 := by omega
                  exact am_ka142
                · obtain rfl : y = 143 := by omega
                  exact am_ka143
            · rcases Nat.lt_or_ge y 145 with h145 | h145
              · obtain rfl : y = 144 := by omega
                exact am_ka144
              · rcases Nat.lt_or_ge y 146 with h146 | h146
                · obtain rfl : y = 145 := by omega
                  exact am_ka145
                · obtain rfl : y = 146 := by omega
                  exact am_ka146
        · rcases Nat.lt_or_ge y 153 with h153 | h153
          · rcases Nat.lt_or_ge y 150 with h150 | h150
            · rcases Nat.lt_or_ge y 148 with h148 | h148
              · obtain rfl : y = 147 := by omega
                exact am_ka147
              · rcases Nat.lt_or_ge y 149 with h149 | h149
                · obtain rfl : y = 148 := by omega
                  exact am_ka148
                · obtain rfl : y = 149 := by omega
                  exact am_ka149
            · rcases Nat.lt_or_ge y 151 with h151 | h151
              · obtain rfl : y = 150 := by omega
                exact am_ka150
              · rcases Nat.lt_or_ge y 152 with h152 | h152
                · obtain rfl : y = 151 := by omega
                  exact am_ka151
                · obtain rfl : y = 152 := by omega
                  exact am_ka152
          · rcases Nat.lt_or_ge y 156 with h156 | h156
            · rcases Nat.lt_or_ge y 154 with h154 | h154
              · obtain rfl : y = 153 := by omega
                exact am_ka153
              · rcases Nat.lt_or_ge y 155 with h155 | h155
                · obtain rfl : y = 154 := by omega
                  exact am_ka154
                · obtain rfl : y = 155 := by omega
                  exact am_ka155
            · rcases Nat.lt_or_ge y 157 with h157 | h157
              · obtain rfl : y = 156 := by omega
                exact am_ka156
              · rcases Nat.lt_or_ge y 158 with h158 | h158
                · obtain rfl : y = 157 := by omega
                  exact am_ka157
                · obtain rfl : y = 158 := by omega
                  exact am_ka158
      · rcases Nat.lt_or_ge y 170 with h170 | h170
        · rcases Nat.lt_or_ge y 164 with h164 | h164
          · rcases Nat.lt_or_ge y 161 with h161 | h161
            · rcases Nat.lt_or_ge y 160 with h160 | h160
              · obtain rfl : y = 159 := by omega
                exact am_ka159
              · obtain rfl : y = 160 := by omega
                exact am_ka160
            · rcases Nat.lt_or_ge y 162 with h162 | h162
              · obtain rfl : y = 161 := by omega
                exact am_ka161
              · rcases Nat.lt_or_ge y 163 with h163 | h163
                · obtain rfl : y = 162 := by omega
                  exact am_ka162
                · obtain rfl : y = 163 := by omega
                  exact am_ka163
          · rcases Nat.lt_or_ge y 167 with h167 | h167
            · rcases Nat.lt_or_ge y 165 with h165 | h165
              · obtain rfl : y = 164 := by omega
                exact am_ka164
              · rcases Nat.lt_or_ge y 166 with h166 | h166
                · obtain rfl : y = 165 := by omega
                  exact am_ka165
                · obtain rfl : y = 166 := by omega
                  exact am_ka166
            · rcases Nat.lt_or_ge y 168 with h168 | h168
              · obtain rfl : y = 167 := by omega
                exact am_ka167
              · rcases Nat.lt_or_ge y 169 with h169 | h169
                · obtain rfl : y = 168 := by omega
                  exact am_ka168
                · obtain rfl : y = 169 := by omega
                  exact am_ka169
        · rcases Nat.lt_or_ge y 176 with h176 | h176
          · rcases Nat.lt_or_ge y 173 with h173 | h173
            · rcases Nat.lt_or_ge y 171 with h171 | h171
              · obtain rfl : y = 170 := by omega
                exact am_ka170
              · rcases Nat.lt_or_ge y 172 with h172 | h172
                · obtain rfl : y = 171 := by omega
                  exact am_ka171
                · obtain rfl : y = 172 := by omega
                  exact am_ka172
            · rcases Nat.lt_or_ge y 174 with h174 | h174
              · obtain rfl : y = 173 := by omega
                exact am_ka173
              · rcases Nat.lt_or_ge y 175 with h175 | h175
                · obtain rfl : y = 174 := by omega
                  exact am_ka174
                · obtain rfl : y = 175 := by omega
                  exact am_ka175
          · rcases Nat.lt_or_ge y 179 with h179 | h179
            · rcases Nat.lt_or_ge y 177 with h177 | h177
              · obtain rfl : y = 176 := by omega
                exact am_ka176
              · rcases Nat.lt_or_ge y 178 with h178 | h178
                · obtain rfl : y = 177 := by omega
                  exact am_ka177
                · obtain rfl : y = 178 := by omega
                  exact am_ka178
            · rcases Nat.lt_or_ge y 180 with h180 | h180
              · obtain rfl : y = 179 := by omega
                exact am_ka179
              · rcases Nat.lt_or_ge y 181 with h181 | h181
                · obtain rfl : y = 180 := by omega
                  exact am_ka180
                · obtain rfl : y = 181 := by omega
                  exact am_ka181
theorem am_prog_ok {y pc : Nat} {o : am_O} {t : Option (List Nat)} (h : am_prog y pc = some (o, t)) : y < 182 ∧ am_okO y pc o = true := by
  obtain ⟨hy, hp⟩ := am_prog_lt h
  have := am_ka y hy pc hp
  unfold am_pok at this
  rw [h] at this
  exact ⟨hy, this⟩
