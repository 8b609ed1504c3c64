set_option maxRecDepth 16384 in
theorem odd_w4_0 : tables_1_4.all odd_chk = true := by decide +kernel
theorem odd_w4 : tables_1_4.all odd_chk = true := odd_w4_0
