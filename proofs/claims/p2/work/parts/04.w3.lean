set_option maxRecDepth 16384 in
theorem odd_w3_0 : (tables_1_3.take 40).all odd_chk = true := by decide +kernel
set_option maxRecDepth 16384 in
theorem odd_w3_1 : ((tables_1_3.drop 40).take 40).all odd_chk = true := by decide +kernel
set_option maxRecDepth 16384 in
theorem odd_w3_2 : (((tables_1_3.drop 40).drop 40).take 40).all odd_chk = true := by decide +kernel
set_option maxRecDepth 16384 in
theorem odd_w3_3 : ((((tables_1_3.drop 40).drop 40).drop 40).take 40).all odd_chk = true := by decide +kernel
set_option maxRecDepth 16384 in
theorem odd_w3_4 : (((((tables_1_3.drop 40).drop 40).drop 40).drop 40).take 40).all odd_chk = true := by decide +kernel
set_option maxRecDepth 16384 in
theorem odd_w3_5 : (((((tables_1_3.drop 40).drop 40).drop 40).drop 40).drop 40).all odd_chk = true := by decide +kernel
theorem odd_w3 : tables_1_3.all odd_chk = true := odd_split odd_chk 40 (tables_1_3) odd_w3_0 (odd_split odd_chk 40 (tables_1_3.drop 40) odd_w3_1 (odd_split odd_chk 40 ((tables_1_3.drop 40).drop 40) odd_w3_2 (odd_split odd_chk 40 (((tables_1_3.drop 40).drop 40).drop 40) odd_w3_3 (odd_split odd_chk 40 ((((tables_1_3.drop 40).drop 40).drop 40).drop 40) odd_w3_4 (odd_w3_5)))))
