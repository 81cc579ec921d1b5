/-! the table of the code holds: decided by program (30) -/
set_option maxRecDepth 100000 in
theorem mr_68_3 : mc68_3.all (mm_ckB lw_tbl mmEx mmSx mmK mmP mq68) = true := by decide +kernel
