set_option maxRecDepth 20000 in
theorem gL_law_X2_init : GoodIn lw_tbl (wsX2_init) := goodIn_p _ [26, 29, 34, 48] rfl (by decide +kernel)
set_option maxRecDepth 20000 in
theorem gL_law_X3_init : GoodIn lw_tbl (wsX3_init) := goodIn_p _ [281, 29] rfl (by decide +kernel)
set_option maxRecDepth 20000 in
theorem gL_law_X2_put : GoodIn lw_tbl (wsV RL 21 RX2 yX2_put wsX2_put) := goodIn_p _ [86, 90, 94] rfl (by decide +kernel)
set_option maxRecDepth 20000 in
theorem gL_law_X3_put : GoodIn lw_tbl (wsV RL 25 RX3 yX3_put wsX3_put) := goodIn_p _ [321] rfl (by decide +kernel)
set_option maxRecDepth 20000 in
theorem gL_law_X2_clear : GoodIn lw_tbl (wsV RL 26 RX2 yX2_clear wsX2_clear) := goodIn_p _ [98, 102] rfl (by decide +kernel)
set_option maxRecDepth 20000 in
theorem gL_law_X3_clear : GoodIn lw_tbl (wsV RL 30 RX3 yX3_clear wsX3_clear) := goodIn_p _ [325] rfl (by decide +kernel)
set_option maxRecDepth 20000 in
theorem gL_law_X2_make : GoodIn lw_tbl (wsV RL 31 RX2 yX2_make wsX2_make) := goodIn_p _ [106, 102, 90, 110, 114, 94, 119, 151, 123, 127, 131, 134, 139, 143, 147, 155, 159, 163, 167, 171, 175] rfl (by decide +kernel)
set_option maxRecDepth 20000 in
theorem gL_law_X3_make : GoodIn lw_tbl (wsV RL 34 RX3 yX3_make wsX3_make) := goodIn_p _ [329, 333, 337, 341, 345] rfl (by decide +kernel)
set_option maxRecDepth 20000 in
theorem gL_law_X2_piece : GoodIn lw_tbl (wsV RL 35 RX2 yX2_piece wsX2_piece) := goodIn_p _ [179, 163, 143, 167, 175] rfl (by decide +kernel)
set_option maxRecDepth 20000 in
theorem gL_law_X3_piece : GoodIn lw_tbl (wsV RL 39 RX3 yX3_piece wsX3_piece) := goodIn_p _ [349, 353, 345, 357] rfl (by decide +kernel)
set_option maxRecDepth 20000 in
theorem gL_law_X2_size : GoodIn lw_tbl (wsV RL 40 RX2 yX2_size wsX2_size) := goodIn_p _ [183, 90] rfl (by decide +kernel)
set_option maxRecDepth 20000 in
theorem gL_law_X3_size : GoodIn lw_tbl (wsV RL 43 RX3 yX3_size wsX3_size) := goodIn_p _ [361] rfl (by decide +kernel)
set_option maxRecDepth 20000 in
theorem gL_law_X2_way : GoodIn lw_tbl (wsV RL 44 RX2 yX2_way wsX2_way) := goodIn_p _ [187, 114] rfl (by decide +kernel)
set_option maxRecDepth 20000 in
theorem gL_law_X3_way : GoodIn lw_tbl (wsV RL 48 RX3 yX3_way wsX3_way) := goodIn_p _ [365] rfl (by decide +kernel)
set_option maxRecDepth 20000 in
theorem gL_law_X3_go : GoodIn lw_tbl (wsV RL 54 RX3 yX3_go wsX3_go) := goodIn_p _ [369, 353, 345, 357] rfl (by decide +kernel)
set_option maxRecDepth 20000 in
theorem gL_law_X3_thrown : GoodIn lw_tbl (wsV RL 55 RX3 yX3_thrown wsX3_thrown) := goodIn_p _ [317] rfl (by decide +kernel)
set_option maxRecDepth 20000 in
theorem gL_law_X2_result : GoodIn lw_tbl (wsV RL 58 RX2 yX2_result wsX2_result) := goodIn_p _ [191, 114] rfl (by decide +kernel)
set_option maxRecDepth 20000 in
theorem gL_law_X3_result : GoodIn lw_tbl (wsV RL 61 RX3 yX3_result wsX3_result) := goodIn_p _ [373] rfl (by decide +kernel)
set_option maxRecDepth 20000 in
theorem gL_law_X2_count : GoodIn lw_tbl (wsV RL 62 RX2 yX2_count wsX2_count) := goodIn_p _ [195, 90] rfl (by decide +kernel)
set_option maxRecDepth 20000 in
theorem gL_law_X3_count : GoodIn lw_tbl (wsV RL 65 RX3 yX3_count wsX3_count) := goodIn_p _ [377] rfl (by decide +kernel)
