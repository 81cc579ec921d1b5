/-! the table of the code holds: decided by program (15) -/
set_option maxRecDepth 100000 in
theorem mr_15_0 : mc15_0.all (mm_ckB lw_tbl mmEx mmSx mmK mmP mq15) = true := by decide +kernel
set_option maxRecDepth 100000 in
theorem mr_15_1 : mc15_1.all (mm_ckB lw_tbl mmEx mmSx mmK mmP mq15) = true := by decide +kernel
set_option maxRecDepth 100000 in
theorem mr_16_0 : mc16_0.all (mm_ckB lw_tbl mmEx mmSx mmK mmP mq16) = true := by decide +kernel
set_option maxRecDepth 100000 in
theorem mr_17_0 : mc17_0.all (mm_ckB lw_tbl mmEx mmSx mmK mmP mq17) = true := by decide +kernel
set_option maxRecDepth 100000 in
theorem mr_18_0 : mc18_0.all (mm_ckB lw_tbl mmEx mmSx mmK mmP mq18) = true := by decide +kernel
set_option maxRecDepth 100000 in
theorem mr_19_0 : mc19_0.all (mm_ckB lw_tbl mmEx mmSx mmK mmP mq19) = true := by decide +kernel
set_option maxRecDepth 100000 in
theorem mr_20_0 : mc20_0.all (mm_ckB lw_tbl mmEx mmSx mmK mmP mq20) = true := by decide +kernel
