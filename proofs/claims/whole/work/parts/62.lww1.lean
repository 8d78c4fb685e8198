theorem goodIn_cc {big ws : List Cond} {w0 : Cond} (h0 : GoodIn big [w0]) (h : GoodIn big ws) : GoodIn big (w0 :: ws) := fun w hw => (List.mem_cons.mp hw).elim (fun e => h0 w (by rw [e]; exact List.mem_singleton.mpr rfl)) (h w)
set_option maxRecDepth 100000 in
theorem lw_at0 : GoodIn lw_tbl ((vx_atM "java/lang/ArrayIndexOutOfBoundsException" ["java/lang/IndexOutOfBoundsException", "java/lang/RuntimeException", "java/lang/Exception"]).filter goodWord) := goodIn_of _ (by decide +kernel)
set_option maxRecDepth 100000 in
theorem lb_wsJx000600 : GoodIn lw_tbl wsJx000600 := goodIn_of _ (by decide +kernel)
set_option maxRecDepth 100000 in
theorem lb_wsX00 : GoodIn lw_tbl wsX00 := goodIn_of _ (by decide +kernel)
set_option maxRecDepth 100000 in
theorem lb_wsX10 : GoodIn lw_tbl wsX10 := goodIn_of _ (by decide +kernel)
set_option maxRecDepth 100000 in
theorem lb_wsX20 : GoodIn lw_tbl wsX20 := goodIn_of _ (by decide +kernel)
set_option maxRecDepth 100000 in
theorem lb_wsX30 : GoodIn lw_tbl wsX30 := goodIn_of _ (by decide +kernel)
set_option maxRecDepth 100000 in
theorem lb_wsX40 : GoodIn lw_tbl wsX40 := goodIn_of _ (by decide +kernel)
set_option maxRecDepth 100000 in
theorem lb_wsX50 : GoodIn lw_tbl wsX50 := goodIn_of _ (by decide +kernel)
set_option maxRecDepth 100000 in
theorem lk_wsX4_init : GoodIn lw_tbl wsX4_init := goodIn_cc (goodIn_r [_] [51] (by decide +kernel) (by decide +kernel)) (goodIn_app (goodIn_app (goodIn_r _ [52, 53, 54, 55, 75, 73, 78, 80, 81, 57, 58, 35, 82, 59, 60, 61, 62, 63, 74, 64, 65] (by decide +kernel) (by decide +kernel)) lb_wsX40) lb_wsX20)
set_option maxRecDepth 100000 in
theorem lk_wsX4_controller_r1 : GoodIn lw_tbl wsX4_controller_r1 := goodIn_r _ [76, 75, 55, 104, 37, 105, 106, 107, 108, 53, 54, 171, 109, 173, 111, 38, 130, 131, 39, 175, 112, 113, 114, 115] (by decide +kernel) (by decide +kernel)
set_option maxRecDepth 100000 in
theorem lk_wsX4_controller_r2 : GoodIn lw_tbl wsX4_controller_r2 := goodIn_r _ [73, 116, 132, 133, 134, 135, 136] (by decide +kernel) (by decide +kernel)
set_option maxRecDepth 100000 in
theorem lk_wsX4_controller : GoodIn lw_tbl wsX4_controller := goodIn_cc (goodIn_r [_] [103] (by decide +kernel) (by decide +kernel)) (goodIn_app (goodIn_app (goodIn_app (goodIn_app (goodIn_app lk_wsX4_controller_r1 lk_wsX4_controller_r2) lb_wsX40) lb_wsX10) lb_wsX00) lb_wsX30)
set_option maxRecDepth 100000 in
theorem lk_wsX4_octet : GoodIn lw_tbl wsX4_octet := goodIn_cc (goodIn_r [_] [214] (by decide +kernel) (by decide +kernel)) (goodIn_app (goodIn_app (goodIn_r _ [79, 78] (by decide +kernel) (by decide +kernel)) lb_wsX40) lw_at0)
set_option maxRecDepth 100000 in
theorem lk_wsX4_package0_r1 : GoodIn lw_tbl wsX4_package0_r1 := goodIn_r _ [77, 176, 78, 79, 82, 219, 221, 0, 34, 222, 76, 75, 223, 225, 1, 226, 147, 172, 179, 227, 228, 229, 39, 230] (by decide +kernel) (by decide +kernel)
set_option maxRecDepth 100000 in
theorem lk_wsX4_package0_r2 : GoodIn lw_tbl wsX4_package0_r2 := goodIn_r _ [136, 138, 140, 143, 145, 148, 150, 152, 231, 232, 233, 35, 234, 65, 240, 235, 237, 2, 238, 63, 239, 242, 244, 3] (by decide +kernel) (by decide +kernel)
set_option maxRecDepth 100000 in
theorem lk_wsX4_package0_r3 : GoodIn lw_tbl wsX4_package0_r3 := goodIn_r _ [245, 64, 246, 248, 4, 249, 250, 251, 252, 253, 254, 255, 256, 258, 5, 259, 263, 260, 261, 262] (by decide +kernel) (by decide +kernel)
set_option maxRecDepth 100000 in
theorem lk_wsX4_package0 : GoodIn lw_tbl wsX4_package0 := goodIn_cc (goodIn_r [_] [218] (by decide +kernel) (by decide +kernel)) (goodIn_app (goodIn_app (goodIn_app (goodIn_app (goodIn_app (goodIn_app lk_wsX4_package0_r1 (goodIn_app lk_wsX4_package0_r2 lk_wsX4_package0_r3)) lb_wsX40) lb_wsX10) lb_wsX30) lb_wsX20) lw_at0)
set_option maxRecDepth 100000 in
theorem lk_wsX4_needs_r1 : GoodIn lw_tbl wsX4_needs_r1 := goodIn_r _ [153, 151, 269, 271, 6, 34, 272, 77, 273, 275, 7, 276, 76, 75, 176, 147, 142, 277, 279, 8, 280, 281, 282, 283] (by decide +kernel) (by decide +kernel)
set_option maxRecDepth 100000 in
theorem lk_wsX4_needs_r2 : GoodIn lw_tbl wsX4_needs_r2 := goodIn_r _ [39, 284, 145, 150] (by decide +kernel) (by decide +kernel)
set_option maxRecDepth 100000 in
theorem lk_wsX4_needs : GoodIn lw_tbl wsX4_needs := goodIn_cc (goodIn_r [_] [268] (by decide +kernel) (by decide +kernel)) (goodIn_app (goodIn_app (goodIn_app (goodIn_app lk_wsX4_needs_r1 lk_wsX4_needs_r2) lb_wsX30) lb_wsX40) lb_wsX10)
set_option maxRecDepth 100000 in
theorem lk_wsX4_block : GoodIn lw_tbl wsX4_block := goodIn_cc (goodIn_r [_] [288] (by decide +kernel) (by decide +kernel)) (goodIn_app (goodIn_app (goodIn_r _ [185, 187, 219, 221, 0, 34, 222, 76, 75] (by decide +kernel) (by decide +kernel)) lb_wsX10) lb_wsX40)
set_option maxRecDepth 100000 in
theorem lk_wsX4_condition : GoodIn lw_tbl wsX4_condition := goodIn_cc (goodIn_r [_] [292] (by decide +kernel) (by decide +kernel)) (goodIn_app (goodIn_r _ [80, 81, 293, 295, 9, 34, 296] (by decide +kernel) (by decide +kernel)) lb_wsX40)
set_option maxRecDepth 100000 in
theorem lk_wsX4_step_r1 : GoodIn lw_tbl wsX4_step_r1 := goodIn_r _ [176, 147, 219, 221, 0, 34, 222, 76, 75, 301, 302, 303, 37, 304, 180, 182, 305, 307, 10, 308, 153, 151, 309, 311] (by decide +kernel) (by decide +kernel)
set_option maxRecDepth 100000 in
theorem lk_wsX4_step_r2 : GoodIn lw_tbl wsX4_step_r2 := goodIn_r _ [11, 312, 313, 314, 315, 316, 177, 173, 119, 178, 317, 319, 12, 320, 281, 282, 283, 39, 284, 145, 150, 321, 323, 13] (by decide +kernel) (by decide +kernel)
set_option maxRecDepth 100000 in
theorem lk_wsX4_step_r3 : GoodIn lw_tbl wsX4_step_r3 := goodIn_r _ [324, 142, 189, 293, 295, 9, 296, 80, 81, 325, 327, 14, 328, 329, 331, 15, 332, 333, 334, 335, 336, 175, 149, 139] (by decide +kernel) (by decide +kernel)
set_option maxRecDepth 100000 in
theorem lk_wsX4_step_r4 : GoodIn lw_tbl wsX4_step_r4 := goodIn_r _ [337, 338, 46, 339, 186, 184, 117, 137, 340, 342, 16, 343, 144, 141, 121, 146] (by decide +kernel) (by decide +kernel)
set_option maxRecDepth 100000 in
theorem lk_wsX4_step : GoodIn lw_tbl wsX4_step := goodIn_cc (goodIn_r [_] [300] (by decide +kernel) (by decide +kernel)) (goodIn_app (goodIn_app (goodIn_app (goodIn_app (goodIn_app (goodIn_app lk_wsX4_step_r1 (goodIn_app lk_wsX4_step_r2 (goodIn_app lk_wsX4_step_r3 lk_wsX4_step_r4))) lb_wsX10) lb_wsX30) lb_wsX40) lb_wsX00) lw_at0)
set_option maxRecDepth 100000 in
theorem lk_wsX4_cut : GoodIn lw_tbl wsX4_cut := goodIn_cc (goodIn_r [_] [347] (by decide +kernel) (by decide +kernel)) (goodIn_app (goodIn_app (goodIn_app (goodIn_r _ [76, 75, 181, 176, 348, 349, 350, 39, 351, 145, 148] (by decide +kernel) (by decide +kernel)) lb_wsX40) lb_wsX10) lb_wsX30)
set_option maxRecDepth 100000 in
theorem lk_wsX4_boot_r1 : GoodIn lw_tbl wsX4_boot_r1 := goodIn_r _ [181, 176, 147, 153, 120, 219, 221, 0, 34, 222, 76, 75, 309, 311, 11, 312, 151, 313, 314, 315, 37, 316, 177, 173] (by decide +kernel) (by decide +kernel)
set_option maxRecDepth 100000 in
theorem lk_wsX4_boot_r2 : GoodIn lw_tbl wsX4_boot_r2 := goodIn_r _ [119, 178, 317, 319, 12, 320, 281, 282, 283, 39, 284, 145, 150, 321, 323, 13, 324, 142, 189, 356, 357, 358, 359] (by decide +kernel) (by decide +kernel)
set_option maxRecDepth 100000 in
theorem lk_wsX4_boot : GoodIn lw_tbl wsX4_boot := goodIn_cc (goodIn_r [_] [355] (by decide +kernel) (by decide +kernel)) (goodIn_app (goodIn_app (goodIn_app (goodIn_app (goodIn_app lk_wsX4_boot_r1 lk_wsX4_boot_r2) lb_wsX10) lb_wsX30) lb_wsX00) lb_wsX40)
set_option maxRecDepth 100000 in
theorem lk_wsX4_joint : GoodIn lw_tbl wsX4_joint := goodIn_cc (goodIn_r [_] [363] (by decide +kernel) (by decide +kernel)) (goodIn_app (goodIn_app (goodIn_app (goodIn_r _ [76, 75, 122, 189, 364, 366, 17, 34, 367, 368, 369, 370, 37, 371, 188, 356, 357, 358, 359, 173, 177] (by decide +kernel) (by decide +kernel)) lb_wsX40) lb_wsX00) lb_wsX10)
set_option maxRecDepth 100000 in
theorem lk_wsX4_rollback_r1 : GoodIn lw_tbl wsX4_rollback_r1 := goodIn_r _ [76, 75, 189, 364, 366, 17, 34, 367, 368, 369, 370, 37, 371, 188, 376, 378, 18, 379, 176, 147, 301, 302, 303, 304] (by decide +kernel) (by decide +kernel)
set_option maxRecDepth 100000 in
theorem lk_wsX4_rollback_r2 : GoodIn lw_tbl wsX4_rollback_r2 := goodIn_r _ [180, 182, 313, 314, 315, 316, 177, 173, 119, 178] (by decide +kernel) (by decide +kernel)
set_option maxRecDepth 100000 in
theorem lk_wsX4_rollback : GoodIn lw_tbl wsX4_rollback := goodIn_cc (goodIn_r [_] [375] (by decide +kernel) (by decide +kernel)) (goodIn_app (goodIn_app (goodIn_app (goodIn_app (goodIn_app lk_wsX4_rollback_r1 lk_wsX4_rollback_r2) lb_wsX40) lb_wsX10) lb_wsX30) lb_wsX00)
set_option maxRecDepth 100000 in
theorem lk_wsX4_silent : GoodIn lw_tbl wsX4_silent := goodIn_cc (goodIn_r [_] [383] (by decide +kernel) (by decide +kernel)) (goodIn_app (goodIn_app (goodIn_r _ [183, 219, 221, 0, 34, 222, 76, 75] (by decide +kernel) (by decide +kernel)) lb_wsX10) lb_wsX40)
