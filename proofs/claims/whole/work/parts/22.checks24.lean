/-! the table of the code holds: decided by program (24) -/
set_option maxRecDepth 100000 in
theorem mr_56_1 : mc56_1.all (mm_ckB lw_tbl mmEx mmSx mmK mmP mq56) = true := by decide +kernel
set_option maxRecDepth 100000 in
theorem mr_56_2 : mc56_2.all (mm_ckB lw_tbl mmEx mmSx mmK mmP mq56) = true := by decide +kernel
set_option maxRecDepth 100000 in
theorem mr_57_0 : mc57_0.all (mm_ckB lw_tbl mmEx mmSx mmK mmP mq57) = true := by decide +kernel
set_option maxRecDepth 100000 in
theorem mr_57_1 : mc57_1.all (mm_ckB lw_tbl mmEx mmSx mmK mmP mq57) = true := by decide +kernel
set_option maxRecDepth 100000 in
theorem mr_57_2 : mc57_2.all (mm_ckB lw_tbl mmEx mmSx mmK mmP mq57) = true := by decide +kernel
set_option maxRecDepth 100000 in
theorem mr_58_0 : mc58_0.all (mm_ckB lw_tbl mmEx mmSx mmK mmP mq58) = true := by decide +kernel
