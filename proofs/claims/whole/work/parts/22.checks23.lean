/-! the table of the code holds: decided by program (23) -/
set_option maxRecDepth 100000 in
theorem mr_53_0 : mc53_0.all (mm_ckB lw_tbl mmEx mmSx mmK mmP mq53) = true := by decide +kernel
set_option maxRecDepth 100000 in
theorem mr_53_1 : mc53_1.all (mm_ckB lw_tbl mmEx mmSx mmK mmP mq53) = true := by decide +kernel
set_option maxRecDepth 100000 in
theorem mr_54_0 : mc54_0.all (mm_ckB lw_tbl mmEx mmSx mmK mmP mq54) = true := by decide +kernel
set_option maxRecDepth 100000 in
theorem mr_55_0 : mc55_0.all (mm_ckB lw_tbl mmEx mmSx mmK mmP mq55) = true := by decide +kernel
set_option maxRecDepth 100000 in
theorem mr_56_0 : mc56_0.all (mm_ckB lw_tbl mmEx mmSx mmK mmP mq56) = true := by decide +kernel
