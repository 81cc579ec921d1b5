/-! the table of the code holds: decided by program (31) -/
set_option maxRecDepth 100000 in
theorem mr_68_4 : mc68_4.all (mm_ckB lw_tbl mmEx mmSx mmK mmP mq68) = true := by decide +kernel
set_option maxRecDepth 100000 in
theorem mr_68_5 : mc68_5.all (mm_ckB lw_tbl mmEx mmSx mmK mmP mq68) = true := by decide +kernel
