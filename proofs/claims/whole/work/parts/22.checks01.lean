/-! the table of the code holds: decided by program (1) -/
set_option maxRecDepth 100000 in
theorem mr_0_1 : mc0_1.all (mm_ckB lw_tbl mmEx mmSx mmK mmP mq0) = true := by decide +kernel
