set_option maxRecDepth 16384 in
theorem odd_w2_0 : tables_1_2.all odd_chk = true := by decide +kernel
theorem odd_w2 : tables_1_2.all odd_chk = true := odd_w2_0
