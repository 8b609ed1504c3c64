set_option maxRecDepth 16384 in
theorem odd_w1_0 : (tables_1_1.take 40).all odd_chk = true := by decide +kernel
set_option maxRecDepth 16384 in
theorem odd_w1_1 : ((tables_1_1.drop 40).take 40).all odd_chk = true := by decide +kernel
set_option maxRecDepth 16384 in
theorem odd_w1_2 : (((tables_1_1.drop 40).drop 40).take 40).all odd_chk = true := by decide +kernel
set_option maxRecDepth 16384 in
theorem odd_w1_3 : ((((tables_1_1.drop 40).drop 40).drop 40).take 40).all odd_chk = true := by decide +kernel
set_option maxRecDepth 16384 in
theorem odd_w1_4 : (((((tables_1_1.drop 40).drop 40).drop 40).drop 40).take 40).all odd_chk = true := by decide +kernel
set_option maxRecDepth 16384 in
theorem odd_w1_5 : (((((tables_1_1.drop 40).drop 40).drop 40).drop 40).drop 40).all odd_chk = true := by decide +kernel
theorem odd_w1 : tables_1_1.all odd_chk = true := odd_split odd_chk 40 tables_1_1 odd_w1_0 (odd_split odd_chk 40 (tables_1_1.drop 40) odd_w1_1 (odd_split odd_chk 40 ((tables_1_1.drop 40).drop 40) odd_w1_2 (odd_split odd_chk 40 (((tables_1_1.drop 40).drop 40).drop 40) odd_w1_3 (odd_split odd_chk 40 ((((tables_1_1.drop 40).drop 40).drop 40).drop 40) odd_w1_4 (odd_w1_5)))))
