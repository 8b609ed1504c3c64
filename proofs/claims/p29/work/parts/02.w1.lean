set_option maxRecDepth 16384 in
theorem odd_w1_0 : tables_1_1.all odd_chk = true := by decide +kernel
theorem odd_w1 : tables_1_1.all odd_chk = true := odd_w1_0
