/-! the table of the code holds: decided by program (21) -/
set_option maxRecDepth 100000 in
theorem mr_45_2 : mc45_2.all (mm_ckB lw_tbl mmEx mmSx mmK mmP mq45) = true := by decide +kernel
set_option maxRecDepth 100000 in
theorem mr_45_3 : mc45_3.all (mm_ckB lw_tbl mmEx mmSx mmK mmP mq45) = true := by decide +kernel
set_option maxRecDepth 100000 in
theorem mr_46_0 : mc46_0.all (mm_ckB lw_tbl mmEx mmSx mmK mmP mq46) = true := by decide +kernel
set_option maxRecDepth 100000 in
theorem mr_47_0 : mc47_0.all (mm_ckB lw_tbl mmEx mmSx mmK mmP mq47) = true := by decide +kernel
