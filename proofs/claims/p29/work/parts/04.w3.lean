set_option maxRecDepth 16384 in
theorem odd_w3_0 : tables_1_3.all odd_chk = true := by decide +kernel
theorem odd_w3 : tables_1_3.all odd_chk = true := odd_w3_0
