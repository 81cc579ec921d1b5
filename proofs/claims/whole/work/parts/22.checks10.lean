/-! the table of the code holds: decided by program (10) -/
set_option maxRecDepth 100000 in
theorem mr_0_10 : mc0_10.all (mm_ckB lw_tbl mmEx mmSx mmK mmP mq0) = true := by decide +kernel
