/-! the table of the code holds: decided by program (20) -/
set_option maxRecDepth 100000 in
theorem mr_45_0 : mc45_0.all (mm_ckB lw_tbl mmEx mmSx mmK mmP mq45) = true := by decide +kernel
set_option maxRecDepth 100000 in
theorem mr_45_1 : mc45_1.all (mm_ckB lw_tbl mmEx mmSx mmK mmP mq45) = true := by decide +kernel
