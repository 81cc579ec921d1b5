/-! the table of the code holds: decided by program (33) -/
set_option maxRecDepth 100000 in
theorem mr_74_0 : mc74_0.all (mm_ckB lw_tbl mmEx mmSx mmK mmP mq74) = true := by decide +kernel
set_option maxRecDepth 100000 in
theorem mr_74_1 : mc74_1.all (mm_ckB lw_tbl mmEx mmSx mmK mmP mq74) = true := by decide +kernel
set_option maxRecDepth 100000 in
theorem mr_75_0 : mc75_0.all (mm_ckB lw_tbl mmEx mmSx mmK mmP mq75) = true := by decide +kernel
set_option maxRecDepth 100000 in
theorem mr_75_1 : mc75_1.all (mm_ckB lw_tbl mmEx mmSx mmK mmP mq75) = true := by decide +kernel
