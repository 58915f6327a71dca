/-! the program is the bytecode's: run by the kernel, in pieces (by program) -/
set_option maxRecDepth 100000 in
theorem am_k82_0 : am_chkP 82 0 35 = true := by decide +kernel
set_option maxRecDepth 100000 in
theorem am_k83_0 : am_chkP 83 0 28 = true := by decide +kernel
set_option maxRecDepth 100000 in
theorem am_k84_0 : am_chkP 84 0 95 = true := by decide +kernel
set_option maxRecDepth 100000 in
theorem am_k85_0 : am_chkP 85 0 10 = true := by decide +kernel
set_option maxRecDepth 100000 in
theorem am_k86_0 : am_chkP 86 0 45 = true := by decide +kernel
set_option maxRecDepth 100000 in
theorem am_k87_0 : am_chkP 87 0 85 = true := by decide +kernel
set_option maxRecDepth 100000 in
theorem am_k88_0 : am_chkP 88 0 61 = true := by decide +kernel
set_option maxRecDepth 100000 in
theorem am_k89_0 : am_chkP 89 0 20 = true := by decide +kernel
set_option maxRecDepth 100000 in
theorem am_k90_0 : am_chkP 90 0 46 = true := by decide +kernel
set_option maxRecDepth 100000 in
theorem am_k91_0 : am_chkP 91 0 25 = true := by decide +kernel
set_option maxRecDepth 100000 in
theorem am_k92_0 : am_chkP 92 0 25 = true := by decide +kernel
set_option maxRecDepth 100000 in
theorem am_k93_0 : am_chkP 93 0 30 = true := by decide +kernel
set_option maxRecDepth 100000 in
theorem am_k94_0 : am_chkP 94 0 21 = true := by decide +kernel
set_option maxRecDepth 100000 in
theorem am_k95_0 : am_chkP 95 0 52 = true := by decide +kernel
set_option maxRecDepth 100000 in
theorem am_k96_0 : am_chkP 96 0 92 = true := by decide +kernel
set_option maxRecDepth 100000 in
theorem am_k97_0 : am_chkP 97 0 23 = true := by decide +kernel
set_option maxRecDepth 100000 in
theorem am_k98_0 : am_chkP 98 0 56 = true := by decide +kernel
set_option maxRecDepth 100000 in
theorem am_k99_0 : am_chkP 99 0 23 = true := by decide +kernel
set_option maxRecDepth 100000 in
theorem am_k100_0 : am_chkP 100 0 23 = true := by decide +kernel
set_option maxRecDepth 100000 in
theorem am_k101_0 : am_chkP 101 0 93 = true := by decide +kernel
set_option maxRecDepth 100000 in
theorem am_k102_0 : am_chkP 102 0 22 = true := by decide +kernel
set_option maxRecDepth 100000 in
theorem am_k103_0 : am_chkP 103 0 36 = true := by decide +kernel
set_option maxRecDepth 100000 in
theorem am_k104_0 : am_chkP 104 0 131 = true := by decide +kernel
set_option maxRecDepth 100000 in
theorem am_k105_0 : am_chkP 105 0 15 = true := by decide +kernel
set_option maxRecDepth 100000 in
theorem am_k106_0 : am_chkP 106 0 16 = true := by decide +kernel
set_option maxRecDepth 100000 in
theorem am_k107_0 : am_chkP 107 0 122 = true := by decide +kernel
set_option maxRecDepth 100000 in
theorem am_k108_0 : am_chkP 108 0 29 = true := by decide +kernel
set_option maxRecDepth 100000 in
theorem am_k109_0 : am_chkP 109 0 30 = true := by decide +kernel
set_option maxRecDepth 100000 in
theorem am_k110_0 : am_chkP 110 0 110 = true := by decide +kernel
set_option maxRecDepth 100000 in
theorem am_k110_1 : am_chkP 110 110 110 = true := by decide +kernel
set_option maxRecDepth 100000 in
theorem am_k110_2 : am_chkP 110 220 110 = true := by decide +kernel
set_option maxRecDepth 100000 in
theorem am_k110_3 : am_chkP 110 330 24 = true := by decide +kernel
set_option maxRecDepth 100000 in
theorem am_k111_0 : am_chkP 111 0 5 = true := by decide +kernel
set_option maxRecDepth 100000 in
theorem am_k112_0 : am_chkP 112 0 18 = true := by decide +kernel
set_option maxRecDepth 100000 in
theorem am_k113_0 : am_chkP 113 0 24 = true := by decide +kernel
set_option maxRecDepth 100000 in
theorem am_k114_0 : am_chkP 114 0 34 = true := by decide +kernel
set_option maxRecDepth 100000 in
theorem am_k115_0 : am_chkP 115 0 18 = true := by decide +kernel
set_option maxRecDepth 100000 in
theorem am_k116_0 : am_chkP 116 0 27 = true := by decide +kernel
set_option maxRecDepth 100000 in
theorem am_k117_0 : am_chkP 117 0 21 = true := by decide +kernel
set_option maxRecDepth 100000 in
theorem am_k118_0 : am_chkP 118 0 26 = true := by decide +kernel
set_option maxRecDepth 100000 in
theorem am_k119_0 : am_chkP 119 0 110 = true := by decide +kernel
set_option maxRecDepth 100000 in
theorem am_k119_1 : am_chkP 119 110 110 = true := by decide +kernel
set_option maxRecDepth 100000 in
theorem am_k119_2 : am_chkP 119 220 33 = true := by decide +kernel
set_option maxRecDepth 100000 in
theorem am_k120_0 : am_chkP 120 0 20 = true := by decide +kernel
set_option maxRecDepth 100000 in
theorem am_k121_0 : am_chkP 121 0 14 = true := by decide +kernel
set_option maxRecDepth 100000 in
theorem am_k122_0 : am_chkP 122 0 20 = true := by decide +kernel
set_option maxRecDepth 100000 in
theorem am_k123_0 : am_chkP 123 0 11 = true := by decide +kernel
set_option maxRecDepth 100000 in
theorem am_k124_0 : am_chkP 124 0 88 = true := by decide +kernel
set_option maxRecDepth 100000 in
theorem am_k125_0 : am_chkP 125 0 15 = true := by decide +kernel
set_option maxRecDepth 100000 in
theorem am_k126_0 : am_chkP 126 0 43 = true := by decide +kernel
set_option maxRecDepth 100000 in
theorem am_k127_0 : am_chkP 127 0 47 = true := by decide +kernel
set_option maxRecDepth 100000 in
theorem am_k128_0 : am_chkP 128 0 110 = true := by decide +kernel
set_option maxRecDepth 100000 in
theorem am_k128_1 : am_chkP 128 110 110 = true := by decide +kernel
set_option maxRecDepth 100000 in
theorem am_k128_2 : am_chkP 128 220 9 = true := by decide +kernel
set_option maxRecDepth 100000 in
theorem am_k129_0 : am_chkP 129 0 47 = true := by decide +kernel
set_option maxRecDepth 100000 in
theorem am_k130_0 : am_chkP 130 0 41 = true := by decide +kernel
set_option maxRecDepth 100000 in
theorem am_k131_0 : am_chkP 131 0 27 = true := by decide +kernel
set_option maxRecDepth 100000 in
theorem am_k132_0 : am_chkP 132 0 71 = true := by decide +kernel
set_option maxRecDepth 100000 in
theorem am_k133_0 : am_chkP 133 0 78 = true := by decide +kernel
set_option maxRecDepth 100000 in
theorem am_k134_0 : am_chkP 134 0 180 = true := by decide +kernel
set_option maxRecDepth 100000 in
theorem am_k135_0 : am_chkP 135 0 55 = true := by decide +kernel
set_option maxRecDepth 100000 in
theorem am_k136_0 : am_chkP 136 0 41 = true := by decide +kernel
set_option maxRecDepth 100000 in
theorem am_k137_0 : am_chkP 137 0 152 = true := by decide +kernel
set_option maxRecDepth 100000 in
theorem am_k138_0 : am_chkP 138 0 22 = true := by decide +kernel
set_option maxRecDepth 100000 in
theorem am_k139_0 : am_chkP 139 0 47 = true := by decide +kernel
set_option maxRecDepth 100000 in
theorem am_k140_0 : am_chkP 140 0 170 = true := by decide +kernel
