/-! WHAT EACH CALLEE WANTS: good words -/
set_option maxRecDepth 20000 in
theorem gk_X6_init : GoodIn lw_tbl wsX6_init := goodIn_sub gw_wsX6_init (by decide +kernel)
set_option maxRecDepth 20000 in
theorem gk_X7_init : GoodIn lw_tbl wsX7_init := goodIn_sub gw_wsX7_init (by decide +kernel)
set_option maxRecDepth 20000 in
theorem gk_L_street : GoodIn lw_tbl (va_wsS RL 83 yL_street wsL_street) := goodIn_app (goodIn_sub (lw_in [355, 356, 47] (by decide +kernel)) (by decide +kernel)) (goodIn_sub gw_wsL_street (by decide +kernel))
set_option maxRecDepth 20000 in
theorem gk_X7_street : GoodIn lw_tbl (wsV RL 88 RX7 yX7_street wsX7_street) := goodIn_app (goodIn_sub (lw_in [960, 961, 962, 54] (by decide +kernel)) (by decide +kernel)) (goodIn_sub gw_wsX7_street (by decide +kernel))
set_option maxRecDepth 20000 in
theorem gk_X7_thrown : GoodIn lw_tbl (wsV RL 89 RX7 yX7_thrown wsX7_thrown) := goodIn_app (goodIn_sub (lw_in [956, 957, 958, 54] (by decide +kernel)) (by decide +kernel)) (goodIn_sub gw_wsX7_thrown (by decide +kernel))
set_option maxRecDepth 20000 in
theorem gk_L_slow : GoodIn lw_tbl (va_wsS RL 92 yL_slow wsL_slow) := goodIn_app (goodIn_sub (lw_in [477, 478, 47] (by decide +kernel)) (by decide +kernel)) (goodIn_sub gw_wsL_slow (by decide +kernel))
set_option maxRecDepth 20000 in
theorem gk_X7_slow : GoodIn lw_tbl (wsV RL 95 RX7 yX7_slow wsX7_slow) := goodIn_app (goodIn_sub (lw_in [974, 975, 976, 54] (by decide +kernel)) (by decide +kernel)) (goodIn_sub gw_wsX7_slow (by decide +kernel))
set_option maxRecDepth 20000 in
theorem gk_L_way : GoodIn lw_tbl (va_wsS RL 96 yL_way wsL_way) := goodIn_app (goodIn_sub (lw_in [489, 490, 47] (by decide +kernel)) (by decide +kernel)) (goodIn_sub gw_wsL_way (by decide +kernel))
set_option maxRecDepth 20000 in
theorem gk_X7_way : GoodIn lw_tbl (wsV RL 98 RX7 yX7_way wsX7_way) := goodIn_app (goodIn_sub (lw_in [978, 979, 980, 54] (by decide +kernel)) (by decide +kernel)) (goodIn_sub gw_wsX7_way (by decide +kernel))
set_option maxRecDepth 20000 in
theorem gk_L_driver : GoodIn lw_tbl (va_wsS RL 99 yL_driver wsL_driver) := goodIn_app (goodIn_sub (lw_in [496, 497, 47] (by decide +kernel)) (by decide +kernel)) (goodIn_sub gw_wsL_driver (by decide +kernel))
set_option maxRecDepth 20000 in
theorem gk_X7_driver : GoodIn lw_tbl (wsV RL 102 RX7 yX7_driver wsX7_driver) := goodIn_app (goodIn_sub (lw_in [986, 987, 988, 54] (by decide +kernel)) (by decide +kernel)) (goodIn_sub gw_wsX7_driver (by decide +kernel))
set_option maxRecDepth 20000 in
theorem gk_L_rest : GoodIn lw_tbl (va_wsS RL 103 yL_rest wsL_rest) := goodIn_app (goodIn_sub (lw_in [559, 560, 47] (by decide +kernel)) (by decide +kernel)) (goodIn_sub gw_wsL_rest (by decide +kernel))
set_option maxRecDepth 20000 in
theorem gk_X7_rest : GoodIn lw_tbl (wsV RL 106 RX7 yX7_rest wsX7_rest) := goodIn_app (goodIn_sub (lw_in [998, 999, 1000, 54] (by decide +kernel)) (by decide +kernel)) (goodIn_sub gw_wsX7_rest (by decide +kernel))
set_option maxRecDepth 20000 in
theorem gk_L_wander : GoodIn lw_tbl (va_wsS RL 107 yL_wander wsL_wander) := goodIn_app (goodIn_sub (lw_in [572, 573, 47] (by decide +kernel)) (by decide +kernel)) (goodIn_sub gw_wsL_wander (by decide +kernel))
set_option maxRecDepth 20000 in
theorem gk_X7_wander : GoodIn lw_tbl (wsV RL 109 RX7 yX7_wander wsX7_wander) := goodIn_app (goodIn_sub (lw_in [1006, 1007, 1008, 54] (by decide +kernel)) (by decide +kernel)) (goodIn_sub gw_wsX7_wander (by decide +kernel))
set_option maxRecDepth 20000 in
theorem gk_L_cap : GoodIn lw_tbl (va_wsS RL 110 yL_cap wsL_cap) := goodIn_app (goodIn_sub (lw_in [580, 581, 47] (by decide +kernel)) (by decide +kernel)) (goodIn_sub gw_wsL_cap (by decide +kernel))
set_option maxRecDepth 20000 in
theorem gk_X7_cap : GoodIn lw_tbl (wsV RL 112 RX7 yX7_cap wsX7_cap) := goodIn_app (goodIn_sub (lw_in [1022, 1023, 1024, 54] (by decide +kernel)) (by decide +kernel)) (goodIn_sub gw_wsX7_cap (by decide +kernel))
set_option maxRecDepth 20000 in
theorem gk_L_height : GoodIn lw_tbl (va_wsS RL 113 yL_height wsL_height) := goodIn_app (goodIn_sub (lw_in [587, 588, 47] (by decide +kernel)) (by decide +kernel)) (goodIn_sub gw_wsL_height (by decide +kernel))
set_option maxRecDepth 20000 in
theorem gk_X7_height : GoodIn lw_tbl (wsV RL 115 RX7 yX7_height wsX7_height) := goodIn_app (goodIn_sub (lw_in [1026, 1027, 1028, 54] (by decide +kernel)) (by decide +kernel)) (goodIn_sub gw_wsX7_height (by decide +kernel))
set_option maxRecDepth 20000 in
theorem gk_L_request : GoodIn lw_tbl (va_wsS RL 116 yL_request wsL_request) := goodIn_app (goodIn_sub (lw_in [606, 607, 47] (by decide +kernel)) (by decide +kernel)) (goodIn_sub gw_wsL_request (by decide +kernel))
set_option maxRecDepth 20000 in
theorem gk_X7_request : GoodIn lw_tbl (wsV RL 119 RX7 yX7_request wsX7_request) := goodIn_app (goodIn_sub (lw_in [1034, 1035, 1036, 54] (by decide +kernel)) (by decide +kernel)) (goodIn_sub gw_wsX7_request (by decide +kernel))
set_option maxRecDepth 20000 in
theorem gk_L_cancel : GoodIn lw_tbl (va_wsS RL 120 yL_cancel wsL_cancel) := goodIn_app (goodIn_sub (lw_in [670, 671, 47] (by decide +kernel)) (by decide +kernel)) (goodIn_sub gw_wsL_cancel (by decide +kernel))
set_option maxRecDepth 20000 in
theorem gk_X7_cancel : GoodIn lw_tbl (wsV RL 122 RX7 yX7_cancel wsX7_cancel) := goodIn_app (goodIn_sub (lw_in [1038, 1039, 1040, 54] (by decide +kernel)) (by decide +kernel)) (goodIn_sub gw_wsX7_cancel (by decide +kernel))
set_option maxRecDepth 20000 in
theorem gk_L_rate : GoodIn lw_tbl (va_wsS RL 123 yL_rate wsL_rate) := goodIn_app (goodIn_sub (lw_in [688, 689, 47] (by decide +kernel)) (by decide +kernel)) (goodIn_sub gw_wsL_rate (by decide +kernel))
set_option maxRecDepth 20000 in
theorem gk_X7_rate : GoodIn lw_tbl (wsV RL 125 RX7 yX7_rate wsX7_rate) := goodIn_app (goodIn_sub (lw_in [1046, 1047, 1048, 54] (by decide +kernel)) (by decide +kernel)) (goodIn_sub gw_wsX7_rate (by decide +kernel))
set_option maxRecDepth 20000 in
theorem gk_X6_airport : GoodIn lw_tbl (wsV RL 126 RX6 yX6_airport wsX6_airport) := goodIn_app (goodIn_sub (lw_in [235, 236, 237, 48] (by decide +kernel)) (by decide +kernel)) (goodIn_sub gw_wsX6_airport (by decide +kernel))
set_option maxRecDepth 20000 in
theorem gk_X7_airport : GoodIn lw_tbl (wsV RL 129 RX7 yX7_airport wsX7_airport) := goodIn_app (goodIn_sub (lw_in [1054, 1055, 1056, 54] (by decide +kernel)) (by decide +kernel)) (goodIn_sub gw_wsX7_airport (by decide +kernel))
set_option maxRecDepth 20000 in
theorem gk_L_best : GoodIn lw_tbl (va_wsS RL 130 yL_best wsL_best) := goodIn_app (goodIn_sub (lw_in [701, 702, 47] (by decide +kernel)) (by decide +kernel)) (goodIn_sub gw_wsL_best (by decide +kernel))
set_option maxRecDepth 20000 in
theorem gk_X7_best : GoodIn lw_tbl (wsV RL 133 RX7 yX7_best wsX7_best) := goodIn_app (goodIn_sub (lw_in [1062, 1063, 1064, 54] (by decide +kernel)) (by decide +kernel)) (goodIn_sub gw_wsX7_best (by decide +kernel))
set_option maxRecDepth 20000 in
theorem gk_L_bestAnew : GoodIn lw_tbl (va_wsS RL 134 yL_bestAnew wsL_bestAnew) := goodIn_app (goodIn_sub (lw_in [746, 747, 47] (by decide +kernel)) (by decide +kernel)) (goodIn_sub gw_wsL_bestAnew (by decide +kernel))
set_option maxRecDepth 20000 in
theorem gk_X7_bestAnew : GoodIn lw_tbl (wsV RL 136 RX7 yX7_bestAnew wsX7_bestAnew) := goodIn_app (goodIn_sub (lw_in [1075, 1076, 1077, 54] (by decide +kernel)) (by decide +kernel)) (goodIn_sub gw_wsX7_bestAnew (by decide +kernel))
set_option maxRecDepth 20000 in
theorem gk_L_match : GoodIn lw_tbl (va_wsS RL 137 yL_match wsL_match) := goodIn_app (goodIn_sub (lw_in [761, 762, 47] (by decide +kernel)) (by decide +kernel)) (goodIn_sub gw_wsL_match (by decide +kernel))
set_option maxRecDepth 20000 in
theorem gk_X7_match : GoodIn lw_tbl (wsV RL 139 RX7 yX7_match wsX7_match) := goodIn_app (goodIn_sub (lw_in [1080, 1081, 1082, 54] (by decide +kernel)) (by decide +kernel)) (goodIn_sub gw_wsX7_match (by decide +kernel))
set_option maxRecDepth 20000 in
theorem gk_X6_share : GoodIn lw_tbl (wsV RL 140 RX6 yX6_share wsX6_share) := goodIn_app (goodIn_sub (lw_in [307, 308, 309, 48] (by decide +kernel)) (by decide +kernel)) (goodIn_sub gw_wsX6_share (by decide +kernel))
set_option maxRecDepth 20000 in
theorem gk_X7_share : GoodIn lw_tbl (wsV RL 143 RX7 yX7_share wsX7_share) := goodIn_app (goodIn_sub (lw_in [1084, 1085, 1086, 54] (by decide +kernel)) (by decide +kernel)) (goodIn_sub gw_wsX7_share (by decide +kernel))
set_option maxRecDepth 20000 in
theorem gk_L_requestIs : GoodIn lw_tbl (va_wsS RL 144 yL_requestIs wsL_requestIs) := goodIn_app (goodIn_sub (lw_in [772, 773, 47] (by decide +kernel)) (by decide +kernel)) (goodIn_sub gw_wsL_requestIs (by decide +kernel))
set_option maxRecDepth 20000 in
theorem gk_X7_requestIs : GoodIn lw_tbl (wsV RL 146 RX7 yX7_requestIs wsX7_requestIs) := goodIn_app (goodIn_sub (lw_in [1120, 1121, 1122, 54] (by decide +kernel)) (by decide +kernel)) (goodIn_sub gw_wsX7_requestIs (by decide +kernel))
set_option maxRecDepth 20000 in
theorem gk_L_driverIs : GoodIn lw_tbl (va_wsS RL 147 yL_driverIs wsL_driverIs) := goodIn_app (goodIn_sub (lw_in [783, 784, 47] (by decide +kernel)) (by decide +kernel)) (goodIn_sub gw_wsL_driverIs (by decide +kernel))
set_option maxRecDepth 20000 in
theorem gk_X7_driverIs : GoodIn lw_tbl (wsV RL 149 RX7 yX7_driverIs wsX7_driverIs) := goodIn_app (goodIn_sub (lw_in [1124, 1125, 1126, 54] (by decide +kernel)) (by decide +kernel)) (goodIn_sub gw_wsX7_driverIs (by decide +kernel))
set_option maxRecDepth 20000 in
theorem gk_L_stop : GoodIn lw_tbl (va_wsS RL 150 yL_stop wsL_stop) := goodIn_app (goodIn_sub (lw_in [790, 791, 47] (by decide +kernel)) (by decide +kernel)) (goodIn_sub gw_wsL_stop (by decide +kernel))
set_option maxRecDepth 20000 in
theorem gk_X7_stop : GoodIn lw_tbl (wsV RL 153 RX7 yX7_stop wsX7_stop) := goodIn_app (goodIn_sub (lw_in [1128, 1129, 1130, 54] (by decide +kernel)) (by decide +kernel)) (goodIn_sub gw_wsX7_stop (by decide +kernel))
set_option maxRecDepth 20000 in
theorem gk_L_pay : GoodIn lw_tbl (va_wsS RL 154 yL_pay wsL_pay) := goodIn_app (goodIn_sub (lw_in [798, 799, 47] (by decide +kernel)) (by decide +kernel)) (goodIn_sub gw_wsL_pay (by decide +kernel))
set_option maxRecDepth 20000 in
theorem gk_X7_pay : GoodIn lw_tbl (wsV RL 156 RX7 yX7_pay wsX7_pay) := goodIn_app (goodIn_sub (lw_in [1132, 1133, 1134, 54] (by decide +kernel)) (by decide +kernel)) (goodIn_sub gw_wsX7_pay (by decide +kernel))
set_option maxRecDepth 20000 in
theorem gk_L_pass : GoodIn lw_tbl (va_wsS RL 157 yL_pass wsL_pass) := goodIn_app (goodIn_sub (lw_in [805, 806, 47] (by decide +kernel)) (by decide +kernel)) (goodIn_sub gw_wsL_pass (by decide +kernel))
set_option maxRecDepth 20000 in
theorem gk_X7_pass : GoodIn lw_tbl (wsV RL 159 RX7 yX7_pass wsX7_pass) := goodIn_app (goodIn_sub (lw_in [1108, 1109, 1110, 54] (by decide +kernel)) (by decide +kernel)) (goodIn_sub gw_wsX7_pass (by decide +kernel))
