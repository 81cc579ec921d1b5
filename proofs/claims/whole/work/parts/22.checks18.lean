/-! the table of the code holds: decided by program (18) -/
set_option maxRecDepth 100000 in
theorem mr_36_0 : mc36_0.all (mm_ckB lw_tbl mmEx mmSx mmK mmP mq36) = true := by decide +kernel
set_option maxRecDepth 100000 in
theorem mr_36_1 : mc36_1.all (mm_ckB lw_tbl mmEx mmSx mmK mmP mq36) = true := by decide +kernel
set_option maxRecDepth 100000 in
theorem mr_37_0 : mc37_0.all (mm_ckB lw_tbl mmEx mmSx mmK mmP mq37) = true := by decide +kernel
set_option maxRecDepth 100000 in
theorem mr_38_0 : mc38_0.all (mm_ckB lw_tbl mmEx mmSx mmK mmP mq38) = true := by decide +kernel
set_option maxRecDepth 100000 in
theorem mr_39_0 : mc39_0.all (mm_ckB lw_tbl mmEx mmSx mmK mmP mq39) = true := by decide +kernel
set_option maxRecDepth 100000 in
theorem mr_39_1 : mc39_1.all (mm_ckB lw_tbl mmEx mmSx mmK mmP mq39) = true := by decide +kernel
