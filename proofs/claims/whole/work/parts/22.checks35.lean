/-! the table of the code holds: decided by program (35) -/
set_option maxRecDepth 100000 in
theorem mr_80_0 : mc80_0.all (mm_ckB lw_tbl mmEx mmSx mmK mmP mq80) = true := by decide +kernel
set_option maxRecDepth 100000 in
theorem mr_81_0 : mc81_0.all (mm_ckB lw_tbl mmEx mmSx mmK mmP mq81) = true := by decide +kernel
set_option maxRecDepth 100000 in
theorem mr_81_1 : mc81_1.all (mm_ckB lw_tbl mmEx mmSx mmK mmP mq81) = true := by decide +kernel
set_option maxRecDepth 100000 in
theorem mr_82_0 : mc82_0.all (mm_ckB lw_tbl mmEx mmSx mmK mmP mq82) = true := by decide +kernel
