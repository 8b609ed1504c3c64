set_option maxRecDepth 16384 in
theorem odd_w3_0 : (tables_1_3.take 120).all odd_chk = true := by decide +kernel
set_option maxRecDepth 16384 in
theorem odd_w3_1 : (tables_1_3.drop 120).all odd_chk = true := by decide +kernel
theorem odd_w3 : tables_1_3.all odd_chk = true := odd_split odd_chk 120 tables_1_3 odd_w3_0 (odd_w3_1)
