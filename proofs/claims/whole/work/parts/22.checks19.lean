/-! the table of the code holds: decided by program (19) -/
set_option maxRecDepth 100000 in
theorem mr_40_0 : mc40_0.all (mm_ckB lw_tbl mmEx mmSx mmK mmP mq40) = true := by decide +kernel
set_option maxRecDepth 100000 in
theorem mr_40_1 : mc40_1.all (mm_ckB lw_tbl mmEx mmSx mmK mmP mq40) = true := by decide +kernel
set_option maxRecDepth 100000 in
theorem mr_41_0 : mc41_0.all (mm_ckB lw_tbl mmEx mmSx mmK mmP mq41) = true := by decide +kernel
set_option maxRecDepth 100000 in
theorem mr_41_1 : mc41_1.all (mm_ckB lw_tbl mmEx mmSx mmK mmP mq41) = true := by decide +kernel
set_option maxRecDepth 100000 in
theorem mr_42_0 : mc42_0.all (mm_ckB lw_tbl mmEx mmSx mmK mmP mq42) = true := by decide +kernel
set_option maxRecDepth 100000 in
theorem mr_43_0 : mc43_0.all (mm_ckB lw_tbl mmEx mmSx mmK mmP mq43) = true := by decide +kernel
set_option maxRecDepth 100000 in
theorem mr_44_0 : mc44_0.all (mm_ckB lw_tbl mmEx mmSx mmK mmP mq44) = true := by decide +kernel
