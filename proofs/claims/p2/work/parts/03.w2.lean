set_option maxRecDepth 16384 in
theorem odd_w2_0 : (tables_1_2.take 40).all odd_chk = true := by decide +kernel
set_option maxRecDepth 16384 in
theorem odd_w2_1 : ((tables_1_2.drop 40).take 40).all odd_chk = true := by decide +kernel
set_option maxRecDepth 16384 in
theorem odd_w2_2 : (((tables_1_2.drop 40).drop 40).take 40).all odd_chk = true := by decide +kernel
set_option maxRecDepth 16384 in
theorem odd_w2_3 : ((((tables_1_2.drop 40).drop 40).drop 40).take 40).all odd_chk = true := by decide +kernel
set_option maxRecDepth 16384 in
theorem odd_w2_4 : (((((tables_1_2.drop 40).drop 40).drop 40).drop 40).take 40).all odd_chk = true := by decide +kernel
set_option maxRecDepth 16384 in
theorem odd_w2_5 : (((((tables_1_2.drop 40).drop 40).drop 40).drop 40).drop 40).all odd_chk = true := by decide +kernel
theorem odd_w2 : tables_1_2.all odd_chk = true := odd_split odd_chk 40 (tables_1_2) odd_w2_0 (odd_split odd_chk 40 (tables_1_2.drop 40) odd_w2_1 (odd_split odd_chk 40 ((tables_1_2.drop 40).drop 40) odd_w2_2 (odd_split odd_chk 40 (((tables_1_2.drop 40).drop 40).drop 40) odd_w2_3 (odd_split odd_chk 40 ((((tables_1_2.drop 40).drop 40).drop 40).drop 40) odd_w2_4 (odd_w2_5)))))
