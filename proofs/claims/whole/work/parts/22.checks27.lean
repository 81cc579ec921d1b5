/-! the table of the code holds: decided by program (27) -/
set_option maxRecDepth 100000 in
theorem mr_68_0 : mc68_0.all (mm_ckB lw_tbl mmEx mmSx mmK mmP mq68) = true := by decide +kernel
