/-! the table of the code holds: decided by program (25) -/
set_option maxRecDepth 100000 in
theorem mr_59_0 : mc59_0.all (mm_ckB lw_tbl mmEx mmSx mmK mmP mq59) = true := by decide +kernel
set_option maxRecDepth 100000 in
theorem mr_60_0 : mc60_0.all (mm_ckB lw_tbl mmEx mmSx mmK mmP mq60) = true := by decide +kernel
set_option maxRecDepth 100000 in
theorem mr_61_0 : mc61_0.all (mm_ckB lw_tbl mmEx mmSx mmK mmP mq61) = true := by decide +kernel
set_option maxRecDepth 100000 in
theorem mr_62_0 : mc62_0.all (mm_ckB lw_tbl mmEx mmSx mmK mmP mq62) = true := by decide +kernel
set_option maxRecDepth 100000 in
theorem mr_63_0 : mc63_0.all (mm_ckB lw_tbl mmEx mmSx mmK mmP mq63) = true := by decide +kernel
set_option maxRecDepth 100000 in
theorem mr_63_1 : mc63_1.all (mm_ckB lw_tbl mmEx mmSx mmK mmP mq63) = true := by decide +kernel
