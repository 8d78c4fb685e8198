set_option maxRecDepth 100000 in
theorem lk_wsX4_counter : GoodIn lw_tbl wsX4_counter := goodIn_cc (goodIn_r [_] [387] (by decide +kernel) (by decide +kernel)) (goodIn_app (goodIn_app (goodIn_r _ [179, 219, 221, 0, 34, 222, 76, 75] (by decide +kernel) (by decide +kernel)) lb_wsX10) lb_wsX40)
set_option maxRecDepth 100000 in
theorem lk_wsX5_init_r1 : GoodIn lw_tbl wsX5_init_r1 := goodIn_r _ [489, 53, 54, 74, 501, 502, 503, 504, 608, 505, 506, 507, 508, 509, 510, 512, 513, 514, 515, 516, 517, 518, 519, 520] (by decide +kernel) (by decide +kernel)
set_option maxRecDepth 100000 in
theorem lk_wsX5_init_r2 : GoodIn lw_tbl wsX5_init_r2 := goodIn_r _ [522, 524, 528, 529, 530, 531, 532, 533, 534, 490, 492, 20, 36, 493, 494, 496, 21, 497, 498] (by decide +kernel) (by decide +kernel)
set_option maxRecDepth 100000 in
theorem lk_wsX5_init : GoodIn lw_tbl wsX5_init := goodIn_cc (goodIn_r [_] [488] (by decide +kernel) (by decide +kernel)) (goodIn_app (goodIn_app (goodIn_app lk_wsX5_init_r1 lk_wsX5_init_r2) lb_wsX50) lw_at0)
set_option maxRecDepth 100000 in
theorem lk_wsX5_controller : GoodIn lw_tbl wsX5_controller := goodIn_cc (goodIn_r [_] [616] (by decide +kernel) (by decide +kernel)) (goodIn_app (goodIn_app (goodIn_r _ [499, 500, 501, 507] (by decide +kernel) (by decide +kernel)) lb_wsX50) lw_at0)
set_option maxRecDepth 100000 in
theorem lk_wsX5_octet : GoodIn lw_tbl wsX5_octet := goodIn_cc (goodIn_r [_] [620] (by decide +kernel) (by decide +kernel)) (goodIn_app (goodIn_app (goodIn_r _ [499, 521, 522] (by decide +kernel) (by decide +kernel)) lb_wsX50) lw_at0)
set_option maxRecDepth 100000 in
theorem lk_wsX5_package0_r1 : GoodIn lw_tbl wsX5_package0_r1 := goodIn_r _ [521, 511, 522, 501, 503, 504, 518, 512, 513, 514, 515, 520, 625, 627, 22, 36, 628, 499, 500, 629, 631, 23, 632, 633] (by decide +kernel) (by decide +kernel)
set_option maxRecDepth 100000 in
theorem lk_wsX5_package0_r2 : GoodIn lw_tbl wsX5_package0_r2 := goodIn_r _ [635, 24, 636, 532, 528, 533, 534, 529, 524, 523, 637, 639, 25, 640, 641, 642, 643, 644, 646, 26, 647] (by decide +kernel) (by decide +kernel)
set_option maxRecDepth 100000 in
theorem lk_wsX5_package0 : GoodIn lw_tbl wsX5_package0 := goodIn_cc (goodIn_r [_] [624] (by decide +kernel) (by decide +kernel)) (goodIn_app (goodIn_app (goodIn_app lk_wsX5_package0_r1 lk_wsX5_package0_r2) lb_wsX50) lw_at0)
set_option maxRecDepth 100000 in
theorem lk_wsX5_digest : GoodIn lw_tbl wsX5_digest := goodIn_cc (goodIn_r [_] [651] (by decide +kernel) (by decide +kernel)) (goodIn_app (goodIn_app (goodIn_r _ [523, 499, 524] (by decide +kernel) (by decide +kernel)) lb_wsX50) lw_at0)
set_option maxRecDepth 100000 in
theorem lk_wsX5_thrown : GoodIn lw_tbl wsX5_thrown := goodIn_cc (goodIn_r [_] [612] (by decide +kernel) (by decide +kernel)) (goodIn_app (goodIn_r _ [499] (by decide +kernel) (by decide +kernel)) lb_wsX50)
set_option maxRecDepth 100000 in
theorem lk_wsX5_needs : GoodIn lw_tbl wsX5_needs := goodIn_cc (goodIn_r [_] [655] (by decide +kernel) (by decide +kernel)) (goodIn_app (goodIn_app (goodIn_r _ [499, 511, 519, 518, 656, 658, 27, 36, 659, 504, 512] (by decide +kernel) (by decide +kernel)) lb_wsX50) lw_at0)
set_option maxRecDepth 100000 in
theorem lk_wsX5_block : GoodIn lw_tbl wsX5_block := goodIn_cc (goodIn_r [_] [663] (by decide +kernel) (by decide +kernel)) (goodIn_app (goodIn_app (goodIn_r _ [507, 508, 625, 627, 22, 36, 628, 499, 500] (by decide +kernel) (by decide +kernel)) lb_wsX50) lw_at0)
set_option maxRecDepth 100000 in
theorem lk_wsX5_condition : GoodIn lw_tbl wsX5_condition := goodIn_cc (goodIn_r [_] [667] (by decide +kernel) (by decide +kernel)) (goodIn_app (goodIn_r _ [499, 525, 526, 668, 670, 28, 36, 671] (by decide +kernel) (by decide +kernel)) lb_wsX50)
set_option maxRecDepth 100000 in
theorem lk_wsX5_step_r1 : GoodIn lw_tbl wsX5_step_r1 := goodIn_r _ [504, 519, 518, 625, 627, 22, 36, 628, 499, 500, 676, 678, 29, 679, 505, 506, 629, 631, 23, 632, 515, 668, 670, 28] (by decide +kernel) (by decide +kernel)
set_option maxRecDepth 100000 in
theorem lk_wsX5_step_r2 : GoodIn lw_tbl wsX5_step_r2 := goodIn_r _ [671, 525, 526, 680, 682, 30, 683, 502, 507, 516, 514, 510, 520, 508, 509, 513, 517, 684, 686, 31, 687, 503, 527, 511] (by decide +kernel) (by decide +kernel)
set_option maxRecDepth 100000 in
theorem lk_wsX5_step_r3 : GoodIn lw_tbl wsX5_step_r3 := goodIn_r _ [512, 688, 690, 32, 691] (by decide +kernel) (by decide +kernel)
set_option maxRecDepth 100000 in
theorem lk_wsX5_step : GoodIn lw_tbl wsX5_step := goodIn_cc (goodIn_r [_] [675] (by decide +kernel) (by decide +kernel)) (goodIn_app (goodIn_app (goodIn_app lk_wsX5_step_r1 (goodIn_app lk_wsX5_step_r2 lk_wsX5_step_r3)) lb_wsX50) lw_at0)
set_option maxRecDepth 100000 in
theorem lk_wsX5_cut : GoodIn lw_tbl wsX5_cut := goodIn_cc (goodIn_r [_] [695] (by decide +kernel) (by decide +kernel)) (goodIn_app (goodIn_app (goodIn_r _ [499, 500, 505, 516, 504, 629, 631, 23, 36, 632, 515] (by decide +kernel) (by decide +kernel)) lb_wsX50) lw_at0)
set_option maxRecDepth 100000 in
theorem lk_wsX5_boot_r1 : GoodIn lw_tbl wsX5_boot_r1 := goodIn_r _ [505, 519, 518, 504, 509, 502, 625, 627, 22, 36, 628, 499, 500, 629, 631, 23, 632, 515, 684, 686, 31, 687, 503, 527] (by decide +kernel) (by decide +kernel)
set_option maxRecDepth 100000 in
theorem lk_wsX5_boot_r2 : GoodIn lw_tbl wsX5_boot_r2 := goodIn_r _ [511, 512, 688, 690, 32, 691, 676, 678, 29, 679, 506] (by decide +kernel) (by decide +kernel)
set_option maxRecDepth 100000 in
theorem lk_wsX5_boot : GoodIn lw_tbl wsX5_boot := goodIn_cc (goodIn_r [_] [699] (by decide +kernel) (by decide +kernel)) (goodIn_app (goodIn_app (goodIn_app lk_wsX5_boot_r1 lk_wsX5_boot_r2) lb_wsX50) lw_at0)
set_option maxRecDepth 100000 in
theorem lk_wsX5_bank : GoodIn lw_tbl wsX5_bank := goodIn_cc (goodIn_r [_] [703] (by decide +kernel) (by decide +kernel)) (goodIn_app (goodIn_app (goodIn_r _ [704, 499, 510, 625, 627, 22, 36, 628, 500] (by decide +kernel) (by decide +kernel)) lb_wsX50) lw_at0)
set_option maxRecDepth 100000 in
theorem lk_wsX5_joint : GoodIn lw_tbl wsX5_joint := goodIn_cc (goodIn_r [_] [708] (by decide +kernel) (by decide +kernel)) (goodIn_app (goodIn_app (goodIn_r _ [499, 527, 511, 518, 502, 512, 517] (by decide +kernel) (by decide +kernel)) lb_wsX50) lw_at0)
set_option maxRecDepth 100000 in
theorem lk_wsX5_rollback : GoodIn lw_tbl wsX5_rollback := goodIn_cc (goodIn_r [_] [712] (by decide +kernel) (by decide +kernel)) (goodIn_app (goodIn_app (goodIn_r _ [499, 527, 511, 518, 512, 504, 502, 503, 509, 676, 678, 29, 36, 679, 505, 506] (by decide +kernel) (by decide +kernel)) lb_wsX50) lw_at0)
set_option maxRecDepth 100000 in
theorem lk_wsX5_silent : GoodIn lw_tbl wsX5_silent := goodIn_cc (goodIn_r [_] [716] (by decide +kernel) (by decide +kernel)) (goodIn_app (goodIn_app (goodIn_r _ [506, 625, 627, 22, 36, 628, 499, 500] (by decide +kernel) (by decide +kernel)) lb_wsX50) lw_at0)
set_option maxRecDepth 100000 in
theorem lk_wsX5_counter : GoodIn lw_tbl wsX5_counter := goodIn_cc (goodIn_r [_] [720] (by decide +kernel) (by decide +kernel)) (goodIn_app (goodIn_app (goodIn_r _ [503, 625, 627, 22, 36, 628, 499, 500] (by decide +kernel) (by decide +kernel)) lb_wsX50) lw_at0)
set_option maxRecDepth 100000 in
theorem lk_wsL_digest : GoodIn lw_tbl wsL_digest := goodIn_cc (goodIn_r [_] [390] (by decide +kernel) (by decide +kernel)) (goodIn_app (goodIn_app (goodIn_app (goodIn_app (goodIn_r _ [391, 464, 465, 466, 34, 467, 77, 468, 392, 44, 82, 471, 472, 473, 35, 474, 65] (by decide +kernel) (by decide +kernel)) lb_wsX40) lb_wsJx000600) lb_wsX20) lw_at0)
set_option maxRecDepth 100000 in
theorem lk_wsL_bank : GoodIn lw_tbl wsL_bank := goodIn_cc (goodIn_r [_] [477] (by decide +kernel) (by decide +kernel)) (goodIn_app (goodIn_app (goodIn_app (goodIn_app (goodIn_app (goodIn_r _ [391, 478, 479, 480, 34, 481, 482, 468, 392, 44, 174, 118, 219, 221, 0, 222, 76, 75] (by decide +kernel) (by decide +kernel)) lb_wsJx000600) lb_wsX10) lb_wsX00) lb_wsX40) lw_at0)
set_option maxRecDepth 100000 in
theorem lc_X4_block : GoodIn lw_tbl (wsV RL 53 RX4 yX4_block wsX4_block) := goodIn_app (goodIn_r _ [285, 286, 287, 34] (by decide +kernel) (by decide +kernel)) lk_wsX4_block
set_option maxRecDepth 100000 in
theorem lc_X4_boot : GoodIn lw_tbl (wsV RL 71 RX4 yX4_boot wsX4_boot) := goodIn_app (goodIn_r _ [352, 353, 354, 34] (by decide +kernel) (by decide +kernel)) lk_wsX4_boot
set_option maxRecDepth 100000 in
theorem lc_X4_condition : GoodIn lw_tbl (wsV RL 58 RX4 yX4_condition wsX4_condition) := goodIn_app (goodIn_r _ [289, 290, 291, 34] (by decide +kernel) (by decide +kernel)) lk_wsX4_condition
set_option maxRecDepth 100000 in
theorem lc_X4_controller : GoodIn lw_tbl (wsV RL 23 RX4 yX4_controller wsX4_controller) := goodIn_app (goodIn_r _ [100, 101, 102, 34] (by decide +kernel) (by decide +kernel)) lk_wsX4_controller
set_option maxRecDepth 100000 in
theorem lc_X4_counter : GoodIn lw_tbl (wsV RL 93 RX4 yX4_counter wsX4_counter) := goodIn_app (goodIn_r _ [384, 385, 386, 34] (by decide +kernel) (by decide +kernel)) lk_wsX4_counter
set_option maxRecDepth 100000 in
theorem lc_X4_cut : GoodIn lw_tbl (wsV RL 67 RX4 yX4_cut wsX4_cut) := goodIn_app (goodIn_r _ [344, 345, 346, 34] (by decide +kernel) (by decide +kernel)) lk_wsX4_cut
set_option maxRecDepth 100000 in
theorem lc_X4_joint : GoodIn lw_tbl (wsV RL 81 RX4 yX4_joint wsX4_joint) := goodIn_app (goodIn_r _ [360, 361, 362, 34] (by decide +kernel) (by decide +kernel)) lk_wsX4_joint
set_option maxRecDepth 100000 in
theorem lc_X4_needs : GoodIn lw_tbl (wsV RL 48 RX4 yX4_needs wsX4_needs) := goodIn_app (goodIn_r _ [265, 266, 267, 34] (by decide +kernel) (by decide +kernel)) lk_wsX4_needs
set_option maxRecDepth 100000 in
theorem lc_X4_octet : GoodIn lw_tbl (wsV RL 28 RX4 yX4_octet wsX4_octet) := goodIn_app (goodIn_r _ [211, 212, 213, 34] (by decide +kernel) (by decide +kernel)) lk_wsX4_octet
set_option maxRecDepth 100000 in
theorem lc_X4_package0 : GoodIn lw_tbl (wsV RL 33 RX4 yX4_package0 wsX4_package0) := goodIn_app (goodIn_r _ [215, 216, 217, 34] (by decide +kernel) (by decide +kernel)) lk_wsX4_package0
set_option maxRecDepth 100000 in
theorem lc_X4_rollback : GoodIn lw_tbl (wsV RL 85 RX4 yX4_rollback wsX4_rollback) := goodIn_app (goodIn_r _ [372, 373, 374, 34] (by decide +kernel) (by decide +kernel)) lk_wsX4_rollback
set_option maxRecDepth 100000 in
theorem lc_X4_silent : GoodIn lw_tbl (wsV RL 89 RX4 yX4_silent wsX4_silent) := goodIn_app (goodIn_r _ [380, 381, 382, 34] (by decide +kernel) (by decide +kernel)) lk_wsX4_silent
set_option maxRecDepth 100000 in
theorem lc_X4_step : GoodIn lw_tbl (wsV RL 63 RX4 yX4_step wsX4_step) := goodIn_app (goodIn_r _ [297, 298, 299, 34] (by decide +kernel) (by decide +kernel)) lk_wsX4_step
set_option maxRecDepth 100000 in
theorem lc_X5_bank : GoodIn lw_tbl (wsV RL 80 RX5 yX5_bank wsX5_bank) := goodIn_app (goodIn_r _ [700, 701, 702, 36] (by decide +kernel) (by decide +kernel)) lk_wsX5_bank
set_option maxRecDepth 100000 in
theorem lc_X5_block : GoodIn lw_tbl (wsV RL 57 RX5 yX5_block wsX5_block) := goodIn_app (goodIn_r _ [660, 661, 662, 36] (by decide +kernel) (by decide +kernel)) lk_wsX5_block
set_option maxRecDepth 100000 in
theorem lc_X5_boot : GoodIn lw_tbl (wsV RL 74 RX5 yX5_boot wsX5_boot) := goodIn_app (goodIn_r _ [696, 697, 698, 36] (by decide +kernel) (by decide +kernel)) lk_wsX5_boot
set_option maxRecDepth 100000 in
theorem lc_X5_condition : GoodIn lw_tbl (wsV RL 62 RX5 yX5_condition wsX5_condition) := goodIn_app (goodIn_r _ [664, 665, 666, 36] (by decide +kernel) (by decide +kernel)) lk_wsX5_condition
set_option maxRecDepth 100000 in
theorem lc_X5_controller : GoodIn lw_tbl (wsV RL 27 RX5 yX5_controller wsX5_controller) := goodIn_app (goodIn_r _ [613, 614, 615, 36] (by decide +kernel) (by decide +kernel)) lk_wsX5_controller
set_option maxRecDepth 100000 in
theorem lc_X5_counter : GoodIn lw_tbl (wsV RL 96 RX5 yX5_counter wsX5_counter) := goodIn_app (goodIn_r _ [717, 718, 719, 36] (by decide +kernel) (by decide +kernel)) lk_wsX5_counter
set_option maxRecDepth 100000 in
theorem lc_X5_cut : GoodIn lw_tbl (wsV RL 70 RX5 yX5_cut wsX5_cut) := goodIn_app (goodIn_r _ [692, 693, 694, 36] (by decide +kernel) (by decide +kernel)) lk_wsX5_cut
set_option maxRecDepth 100000 in
theorem lc_X5_digest : GoodIn lw_tbl (wsV RL 43 RX5 yX5_digest wsX5_digest) := goodIn_app (goodIn_r _ [648, 649, 650, 36] (by decide +kernel) (by decide +kernel)) lk_wsX5_digest
set_option maxRecDepth 100000 in
theorem lc_X5_joint : GoodIn lw_tbl (wsV RL 84 RX5 yX5_joint wsX5_joint) := goodIn_app (goodIn_r _ [705, 706, 707, 36] (by decide +kernel) (by decide +kernel)) lk_wsX5_joint
set_option maxRecDepth 100000 in
theorem lc_X5_needs : GoodIn lw_tbl (wsV RL 52 RX5 yX5_needs wsX5_needs) := goodIn_app (goodIn_r _ [652, 653, 654, 36] (by decide +kernel) (by decide +kernel)) lk_wsX5_needs
set_option maxRecDepth 100000 in
theorem lc_X5_octet : GoodIn lw_tbl (wsV RL 32 RX5 yX5_octet wsX5_octet) := goodIn_app (goodIn_r _ [617, 618, 619, 36] (by decide +kernel) (by decide +kernel)) lk_wsX5_octet
set_option maxRecDepth 100000 in
theorem lc_X5_package0 : GoodIn lw_tbl (wsV RL 37 RX5 yX5_package0 wsX5_package0) := goodIn_app (goodIn_r _ [621, 622, 623, 36] (by decide +kernel) (by decide +kernel)) lk_wsX5_package0
set_option maxRecDepth 100000 in
theorem lc_X5_rollback : GoodIn lw_tbl (wsV RL 88 RX5 yX5_rollback wsX5_rollback) := goodIn_app (goodIn_r _ [709, 710, 711, 36] (by decide +kernel) (by decide +kernel)) lk_wsX5_rollback
set_option maxRecDepth 100000 in
theorem lc_X5_silent : GoodIn lw_tbl (wsV RL 92 RX5 yX5_silent wsX5_silent) := goodIn_app (goodIn_r _ [713, 714, 715, 36] (by decide +kernel) (by decide +kernel)) lk_wsX5_silent
set_option maxRecDepth 100000 in
theorem lc_X5_step : GoodIn lw_tbl (wsV RL 66 RX5 yX5_step wsX5_step) := goodIn_app (goodIn_r _ [672, 673, 674, 36] (by decide +kernel) (by decide +kernel)) lk_wsX5_step
set_option maxRecDepth 100000 in
theorem lc_X5_thrown : GoodIn lw_tbl (wsV RL 44 RX5 yX5_thrown wsX5_thrown) := goodIn_app (goodIn_r _ [609, 610, 611, 36] (by decide +kernel) (by decide +kernel)) lk_wsX5_thrown
set_option maxRecDepth 100000 in
theorem lk_twT : GoodIn lw_tbl tw_T := goodIn_of _ (by decide +kernel)
set_option maxRecDepth 100000 in
theorem lc_L_digest : GoodIn lw_tbl (va_wsS RL 38 yL_digest (tw_W wsL_digest)) := goodIn_app (goodIn_of _ (by decide +kernel)) (goodIn_app lk_wsL_digest lk_twT)
set_option maxRecDepth 100000 in
theorem lc_L_bank : GoodIn lw_tbl (va_wsS RL 77 yL_bank (tw_W wsL_bank)) := goodIn_app (goodIn_of _ (by decide +kernel)) (goodIn_app lk_wsL_bank lk_twT)
