/-! the program is the bytecode's: run by the kernel, in pieces (by program) -/
set_option maxRecDepth 100000 in
theorem am_k0_0 : am_chkP 0 0 35 = true := by decide +kernel
set_option maxRecDepth 100000 in
theorem am_k1_0 : am_chkP 1 0 20 = true := by decide +kernel
set_option maxRecDepth 100000 in
theorem am_k2_0 : am_chkP 2 0 11 = true := by decide +kernel
set_option maxRecDepth 100000 in
theorem am_k3_0 : am_chkP 3 0 48 = true := by decide +kernel
set_option maxRecDepth 100000 in
theorem am_k4_0 : am_chkP 4 0 43 = true := by decide +kernel
set_option maxRecDepth 100000 in
theorem am_k5_0 : am_chkP 5 0 52 = true := by decide +kernel
set_option maxRecDepth 100000 in
theorem am_k6_0 : am_chkP 6 0 56 = true := by decide +kernel
set_option maxRecDepth 100000 in
theorem am_k7_0 : am_chkP 7 0 40 = true := by decide +kernel
set_option maxRecDepth 100000 in
theorem am_k8_0 : am_chkP 8 0 64 = true := by decide +kernel
set_option maxRecDepth 100000 in
theorem am_k9_0 : am_chkP 9 0 47 = true := by decide +kernel
set_option maxRecDepth 100000 in
theorem am_k10_0 : am_chkP 10 0 63 = true := by decide +kernel
set_option maxRecDepth 100000 in
theorem am_k11_0 : am_chkP 11 0 23 = true := by decide +kernel
set_option maxRecDepth 100000 in
theorem am_k12_0 : am_chkP 12 0 24 = true := by decide +kernel
set_option maxRecDepth 100000 in
theorem am_k13_0 : am_chkP 13 0 123 = true := by decide +kernel
set_option maxRecDepth 100000 in
theorem am_k14_0 : am_chkP 14 0 57 = true := by decide +kernel
set_option maxRecDepth 100000 in
theorem am_k15_0 : am_chkP 15 0 70 = true := by decide +kernel
set_option maxRecDepth 100000 in
theorem am_k16_0 : am_chkP 16 0 115 = true := by decide +kernel
set_option maxRecDepth 100000 in
theorem am_k17_0 : am_chkP 17 0 45 = true := by decide +kernel
set_option maxRecDepth 100000 in
theorem am_k18_0 : am_chkP 18 0 48 = true := by decide +kernel
set_option maxRecDepth 100000 in
theorem am_k19_0 : am_chkP 19 0 39 = true := by decide +kernel
set_option maxRecDepth 100000 in
theorem am_k20_0 : am_chkP 20 0 60 = true := by decide +kernel
set_option maxRecDepth 100000 in
theorem am_k21_0 : am_chkP 21 0 78 = true := by decide +kernel
set_option maxRecDepth 100000 in
theorem am_k22_0 : am_chkP 22 0 73 = true := by decide +kernel
set_option maxRecDepth 100000 in
theorem am_k23_0 : am_chkP 23 0 15 = true := by decide +kernel
set_option maxRecDepth 100000 in
theorem am_k24_0 : am_chkP 24 0 64 = true := by decide +kernel
set_option maxRecDepth 100000 in
theorem am_k25_0 : am_chkP 25 0 84 = true := by decide +kernel
set_option maxRecDepth 100000 in
theorem am_k26_0 : am_chkP 26 0 16 = true := by decide +kernel
set_option maxRecDepth 100000 in
theorem am_k27_0 : am_chkP 27 0 20 = true := by decide +kernel
set_option maxRecDepth 100000 in
theorem am_k28_0 : am_chkP 28 0 6 = true := by decide +kernel
set_option maxRecDepth 100000 in
theorem am_k29_0 : am_chkP 29 0 103 = true := by decide +kernel
set_option maxRecDepth 100000 in
theorem am_k30_0 : am_chkP 30 0 7 = true := by decide +kernel
set_option maxRecDepth 100000 in
theorem am_k31_0 : am_chkP 31 0 7 = true := by decide +kernel
set_option maxRecDepth 100000 in
theorem am_k32_0 : am_chkP 32 0 7 = true := by decide +kernel
set_option maxRecDepth 100000 in
theorem am_k33_0 : am_chkP 33 0 9 = true := by decide +kernel
set_option maxRecDepth 100000 in
theorem am_k34_0 : am_chkP 34 0 25 = true := by decide +kernel
set_option maxRecDepth 100000 in
theorem am_k35_0 : am_chkP 35 0 15 = true := by decide +kernel
set_option maxRecDepth 100000 in
theorem am_k36_0 : am_chkP 36 0 30 = true := by decide +kernel
set_option maxRecDepth 100000 in
theorem am_k37_0 : am_chkP 37 0 12 = true := by decide +kernel
set_option maxRecDepth 100000 in
theorem am_k38_0 : am_chkP 38 0 16 = true := by decide +kernel
set_option maxRecDepth 100000 in
theorem am_k39_0 : am_chkP 39 0 44 = true := by decide +kernel
set_option maxRecDepth 100000 in
theorem am_k40_0 : am_chkP 40 0 36 = true := by decide +kernel
set_option maxRecDepth 100000 in
theorem am_k41_0 : am_chkP 41 0 13 = true := by decide +kernel
set_option maxRecDepth 100000 in
theorem am_k42_0 : am_chkP 42 0 33 = true := by decide +kernel
set_option maxRecDepth 100000 in
theorem am_k43_0 : am_chkP 43 0 52 = true := by decide +kernel
set_option maxRecDepth 100000 in
theorem am_k44_0 : am_chkP 44 0 26 = true := by decide +kernel
set_option maxRecDepth 100000 in
theorem am_k45_0 : am_chkP 45 0 38 = true := by decide +kernel
set_option maxRecDepth 100000 in
theorem am_k46_0 : am_chkP 46 0 140 = true := by decide +kernel
set_option maxRecDepth 100000 in
theorem am_k47_0 : am_chkP 47 0 38 = true := by decide +kernel
set_option maxRecDepth 100000 in
theorem am_k48_0 : am_chkP 48 0 38 = true := by decide +kernel
set_option maxRecDepth 100000 in
theorem am_k49_0 : am_chkP 49 0 37 = true := by decide +kernel
set_option maxRecDepth 100000 in
theorem am_k50_0 : am_chkP 50 0 19 = true := by decide +kernel
set_option maxRecDepth 100000 in
theorem am_k51_0 : am_chkP 51 0 49 = true := by decide +kernel
set_option maxRecDepth 100000 in
theorem am_k52_0 : am_chkP 52 0 35 = true := by decide +kernel
set_option maxRecDepth 100000 in
theorem am_k53_0 : am_chkP 53 0 49 = true := by decide +kernel
set_option maxRecDepth 100000 in
theorem am_k54_0 : am_chkP 54 0 35 = true := by decide +kernel
set_option maxRecDepth 100000 in
theorem am_k55_0 : am_chkP 55 0 110 = true := by decide +kernel
set_option maxRecDepth 100000 in
theorem am_k55_1 : am_chkP 55 110 110 = true := by decide +kernel
set_option maxRecDepth 100000 in
theorem am_k55_2 : am_chkP 55 220 34 = true := by decide +kernel
set_option maxRecDepth 100000 in
theorem am_k56_0 : am_chkP 56 0 36 = true := by decide +kernel
set_option maxRecDepth 100000 in
theorem am_k57_0 : am_chkP 57 0 22 = true := by decide +kernel
set_option maxRecDepth 100000 in
theorem am_k58_0 : am_chkP 58 0 26 = true := by decide +kernel
set_option maxRecDepth 100000 in
theorem am_k59_0 : am_chkP 59 0 73 = true := by decide +kernel
set_option maxRecDepth 100000 in
theorem am_k60_0 : am_chkP 60 0 16 = true := by decide +kernel
set_option maxRecDepth 100000 in
theorem am_k61_0 : am_chkP 61 0 72 = true := by decide +kernel
set_option maxRecDepth 100000 in
theorem am_k62_0 : am_chkP 62 0 37 = true := by decide +kernel
set_option maxRecDepth 100000 in
theorem am_k63_0 : am_chkP 63 0 40 = true := by decide +kernel
set_option maxRecDepth 100000 in
theorem am_k64_0 : am_chkP 64 0 87 = true := by decide +kernel
set_option maxRecDepth 100000 in
theorem am_k65_0 : am_chkP 65 0 33 = true := by decide +kernel
set_option maxRecDepth 100000 in
theorem am_k66_0 : am_chkP 66 0 69 = true := by decide +kernel
set_option maxRecDepth 100000 in
theorem am_k67_0 : am_chkP 67 0 36 = true := by decide +kernel
set_option maxRecDepth 100000 in
theorem am_k68_0 : am_chkP 68 0 26 = true := by decide +kernel
set_option maxRecDepth 100000 in
theorem am_k69_0 : am_chkP 69 0 14 = true := by decide +kernel
set_option maxRecDepth 100000 in
theorem am_k70_0 : am_chkP 70 0 22 = true := by decide +kernel
set_option maxRecDepth 100000 in
theorem am_k71_0 : am_chkP 71 0 54 = true := by decide +kernel
set_option maxRecDepth 100000 in
theorem am_k72_0 : am_chkP 72 0 71 = true := by decide +kernel
set_option maxRecDepth 100000 in
theorem am_k73_0 : am_chkP 73 0 150 = true := by decide +kernel
set_option maxRecDepth 100000 in
theorem am_k74_0 : am_chkP 74 0 118 = true := by decide +kernel
set_option maxRecDepth 100000 in
theorem am_k75_0 : am_chkP 75 0 101 = true := by decide +kernel
set_option maxRecDepth 100000 in
theorem am_k76_0 : am_chkP 76 0 21 = true := by decide +kernel
set_option maxRecDepth 100000 in
theorem am_k77_0 : am_chkP 77 0 18 = true := by decide +kernel
set_option maxRecDepth 100000 in
theorem am_k78_0 : am_chkP 78 0 17 = true := by decide +kernel
set_option maxRecDepth 100000 in
theorem am_k79_0 : am_chkP 79 0 37 = true := by decide +kernel
set_option maxRecDepth 100000 in
theorem am_k80_0 : am_chkP 80 0 113 = true := by decide +kernel
set_option maxRecDepth 100000 in
theorem am_k81_0 : am_chkP 81 0 121 = true := by decide +kernel
