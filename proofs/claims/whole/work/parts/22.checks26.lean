/-! the table of the code holds: decided by program (26) -/
set_option maxRecDepth 100000 in
theorem mr_63_2 : mc63_2.all (mm_ckB lw_tbl mmEx mmSx mmK mmP mq63) = true := by decide +kernel
set_option maxRecDepth 100000 in
theorem mr_64_0 : mc64_0.all (mm_ckB lw_tbl mmEx mmSx mmK mmP mq64) = true := by decide +kernel
set_option maxRecDepth 100000 in
theorem mr_65_0 : mc65_0.all (mm_ckB lw_tbl mmEx mmSx mmK mmP mq65) = true := by decide +kernel
set_option maxRecDepth 100000 in
theorem mr_66_0 : mc66_0.all (mm_ckB lw_tbl mmEx mmSx mmK mmP mq66) = true := by decide +kernel
set_option maxRecDepth 100000 in
theorem mr_66_1 : mc66_1.all (mm_ckB lw_tbl mmEx mmSx mmK mmP mq66) = true := by decide +kernel
set_option maxRecDepth 100000 in
theorem mr_67_0 : mc67_0.all (mm_ckB lw_tbl mmEx mmSx mmK mmP mq67) = true := by decide +kernel
set_option maxRecDepth 100000 in
theorem mr_67_1 : mc67_1.all (mm_ckB lw_tbl mmEx mmSx mmK mmP mq67) = true := by decide +kernel
