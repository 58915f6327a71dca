/-! the program is the bytecode's: run by the kernel, in pieces (by program) -/
set_option maxRecDepth 100000 in
theorem am_k141_0 : am_chkP 141 0 41 = true := by decide +kernel
set_option maxRecDepth 100000 in
theorem am_k142_0 : am_chkP 142 0 193 = true := by decide +kernel
set_option maxRecDepth 100000 in
theorem am_k143_0 : am_chkP 143 0 68 = true := by decide +kernel
set_option maxRecDepth 100000 in
theorem am_k144_0 : am_chkP 144 0 51 = true := by decide +kernel
set_option maxRecDepth 100000 in
theorem am_k145_0 : am_chkP 145 0 85 = true := by decide +kernel
set_option maxRecDepth 100000 in
theorem am_k146_0 : am_chkP 146 0 48 = true := by decide +kernel
set_option maxRecDepth 100000 in
theorem am_k147_0 : am_chkP 147 0 41 = true := by decide +kernel
set_option maxRecDepth 100000 in
theorem am_k148_0 : am_chkP 148 0 218 = true := by decide +kernel
set_option maxRecDepth 100000 in
theorem am_k149_0 : am_chkP 149 0 49 = true := by decide +kernel
set_option maxRecDepth 100000 in
theorem am_k150_0 : am_chkP 150 0 55 = true := by decide +kernel
set_option maxRecDepth 100000 in
theorem am_k151_0 : am_chkP 151 0 15 = true := by decide +kernel
set_option maxRecDepth 100000 in
theorem am_k152_0 : am_chkP 152 0 110 = true := by decide +kernel
set_option maxRecDepth 100000 in
theorem am_k152_1 : am_chkP 152 110 110 = true := by decide +kernel
set_option maxRecDepth 100000 in
theorem am_k152_2 : am_chkP 152 220 89 = true := by decide +kernel
set_option maxRecDepth 100000 in
theorem am_k153_0 : am_chkP 153 0 39 = true := by decide +kernel
set_option maxRecDepth 100000 in
theorem am_k154_0 : am_chkP 154 0 62 = true := by decide +kernel
set_option maxRecDepth 100000 in
theorem am_k155_0 : am_chkP 155 0 83 = true := by decide +kernel
set_option maxRecDepth 100000 in
theorem am_k156_0 : am_chkP 156 0 156 = true := by decide +kernel
set_option maxRecDepth 100000 in
theorem am_k157_0 : am_chkP 157 0 57 = true := by decide +kernel
set_option maxRecDepth 100000 in
theorem am_k158_0 : am_chkP 158 0 29 = true := by decide +kernel
set_option maxRecDepth 100000 in
theorem am_k159_0 : am_chkP 159 0 52 = true := by decide +kernel
set_option maxRecDepth 100000 in
theorem am_k160_0 : am_chkP 160 0 15 = true := by decide +kernel
set_option maxRecDepth 100000 in
theorem am_k161_0 : am_chkP 161 0 35 = true := by decide +kernel
set_option maxRecDepth 100000 in
theorem am_k162_0 : am_chkP 162 0 53 = true := by decide +kernel
set_option maxRecDepth 100000 in
theorem am_k163_0 : am_chkP 163 0 119 = true := by decide +kernel
set_option maxRecDepth 100000 in
theorem am_k164_0 : am_chkP 164 0 213 = true := by decide +kernel
set_option maxRecDepth 100000 in
theorem am_k165_0 : am_chkP 165 0 69 = true := by decide +kernel
set_option maxRecDepth 100000 in
theorem am_k166_0 : am_chkP 166 0 76 = true := by decide +kernel
set_option maxRecDepth 100000 in
theorem am_k167_0 : am_chkP 167 0 52 = true := by decide +kernel
set_option maxRecDepth 100000 in
theorem am_k168_0 : am_chkP 168 0 48 = true := by decide +kernel
set_option maxRecDepth 100000 in
theorem am_k169_0 : am_chkP 169 0 55 = true := by decide +kernel
set_option maxRecDepth 100000 in
theorem am_k170_0 : am_chkP 170 0 158 = true := by decide +kernel
set_option maxRecDepth 100000 in
theorem am_k171_0 : am_chkP 171 0 25 = true := by decide +kernel
set_option maxRecDepth 100000 in
theorem am_k172_0 : am_chkP 172 0 64 = true := by decide +kernel
set_option maxRecDepth 100000 in
theorem am_k173_0 : am_chkP 173 0 103 = true := by decide +kernel
set_option maxRecDepth 100000 in
theorem am_k174_0 : am_chkP 174 0 91 = true := by decide +kernel
set_option maxRecDepth 100000 in
theorem am_k175_0 : am_chkP 175 0 90 = true := by decide +kernel
set_option maxRecDepth 100000 in
theorem am_k176_0 : am_chkP 176 0 24 = true := by decide +kernel
set_option maxRecDepth 100000 in
theorem am_k177_0 : am_chkP 177 0 123 = true := by decide +kernel
set_option maxRecDepth 100000 in
theorem am_k178_0 : am_chkP 178 0 123 = true := by decide +kernel
set_option maxRecDepth 100000 in
theorem am_k179_0 : am_chkP 179 0 14 = true := by decide +kernel
set_option maxRecDepth 100000 in
theorem am_k180_0 : am_chkP 180 0 19 = true := by decide +kernel
set_option maxRecDepth 100000 in
theorem am_k181_0 : am_chkP 181 0 110 = true := by decide +kernel
