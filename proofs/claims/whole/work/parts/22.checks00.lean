/-! the table of the code holds: decided by program (0) -/
set_option maxRecDepth 100000 in
theorem mr_0_0 : mc0_0.all (mm_ckB lw_tbl mmEx mmSx mmK mmP mq0) = true := by decide +kernel
