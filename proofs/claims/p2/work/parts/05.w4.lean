set_option maxRecDepth 16384 in
theorem odd_w4_0 : (tables_1_4.take 40).all odd_chk = true := by decide +kernel
set_option maxRecDepth 16384 in
theorem odd_w4_1 : ((tables_1_4.drop 40).take 40).all odd_chk = true := by decide +kernel
set_option maxRecDepth 16384 in
theorem odd_w4_2 : (((tables_1_4.drop 40).drop 40).take 40).all odd_chk = true := by decide +kernel
set_option maxRecDepth 16384 in
theorem odd_w4_3 : ((((tables_1_4.drop 40).drop 40).drop 40).take 40).all odd_chk = true := by decide +kernel
set_option maxRecDepth 16384 in
theorem odd_w4_4 : (((((tables_1_4.drop 40).drop 40).drop 40).drop 40).take 40).all odd_chk = true := by decide +kernel
set_option maxRecDepth 16384 in
theorem odd_w4_5 : (((((tables_1_4.drop 40).drop 40).drop 40).drop 40).drop 40).all odd_chk = true := by decide +kernel
theorem odd_w4 : tables_1_4.all odd_chk = true := odd_split odd_chk 40 (tables_1_4) odd_w4_0 (odd_split odd_chk 40 (tables_1_4.drop 40) odd_w4_1 (odd_split odd_chk 40 ((tables_1_4.drop 40).drop 40) odd_w4_2 (odd_split odd_chk 40 (((tables_1_4.drop 40).drop 40).drop 40) odd_w4_3 (odd_split odd_chk 40 ((((tables_1_4.drop 40).drop 40).drop 40).drop 40) odd_w4_4 (odd_w4_5)))))
