/-! the program is the bytecode's: run by the kernel, in pieces (by program) -/
set_option maxRecDepth 100000 in
theorem am_k181_1 : am_chkP 181 110 110 = true := by decide +kernel
set_option maxRecDepth 100000 in
theorem am_k181_2 : am_chkP 181 220 110 = true := by decide +kernel
set_option maxRecDepth 100000 in
theorem am_k181_3 : am_chkP 181 330 110 = true := by decide +kernel
set_option maxRecDepth 100000 in
theorem am_k181_4 : am_chkP 181 440 110 = true := by decide +kernel
set_option maxRecDepth 100000 in
theorem am_k181_5 : am_chkP 181 550 110 = true := by decide +kernel
set_option maxRecDepth 100000 in
theorem am_k181_6 : am_chkP 181 660 110 = true := by decide +kernel
set_option maxRecDepth 100000 in
theorem am_k181_7 : am_chkP 181 770 110 = true := by decide +kernel
set_option maxRecDepth 100000 in
theorem am_k181_8 : am_chkP 181 880 60 = true := by decide +kernel
