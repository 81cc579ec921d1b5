/-! the table of the code holds: decided by program (34) -/
set_option maxRecDepth 100000 in
theorem mr_76_0 : mc76_0.all (mm_ckB lw_tbl mmEx mmSx mmK mmP mq76) = true := by decide +kernel
set_option maxRecDepth 100000 in
theorem mr_76_1 : mc76_1.all (mm_ckB lw_tbl mmEx mmSx mmK mmP mq76) = true := by decide +kernel
set_option maxRecDepth 100000 in
theorem mr_77_0 : mc77_0.all (mm_ckB lw_tbl mmEx mmSx mmK mmP mq77) = true := by decide +kernel
set_option maxRecDepth 100000 in
theorem mr_78_0 : mc78_0.all (mm_ckB lw_tbl mmEx mmSx mmK mmP mq78) = true := by decide +kernel
set_option maxRecDepth 100000 in
theorem mr_79_0 : mc79_0.all (mm_ckB lw_tbl mmEx mmSx mmK mmP mq79) = true := by decide +kernel
set_option maxRecDepth 100000 in
theorem mr_79_1 : mc79_1.all (mm_ckB lw_tbl mmEx mmSx mmK mmP mq79) = true := by decide +kernel
