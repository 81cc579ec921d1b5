/-! the table of the code holds: decided by program (29) -/
set_option maxRecDepth 100000 in
theorem mr_68_2 : mc68_2.all (mm_ckB lw_tbl mmEx mmSx mmK mmP mq68) = true := by decide +kernel
