/-! the table of the code holds: decided by program (17) -/
set_option maxRecDepth 100000 in
theorem mr_28_0 : mc28_0.all (mm_ckB lw_tbl mmEx mmSx mmK mmP mq28) = true := by decide +kernel
set_option maxRecDepth 100000 in
theorem mr_28_1 : mc28_1.all (mm_ckB lw_tbl mmEx mmSx mmK mmP mq28) = true := by decide +kernel
set_option maxRecDepth 100000 in
theorem mr_29_0 : mc29_0.all (mm_ckB lw_tbl mmEx mmSx mmK mmP mq29) = true := by decide +kernel
set_option maxRecDepth 100000 in
theorem mr_30_0 : mc30_0.all (mm_ckB lw_tbl mmEx mmSx mmK mmP mq30) = true := by decide +kernel
set_option maxRecDepth 100000 in
theorem mr_31_0 : mc31_0.all (mm_ckB lw_tbl mmEx mmSx mmK mmP mq31) = true := by decide +kernel
set_option maxRecDepth 100000 in
theorem mr_32_0 : mc32_0.all (mm_ckB lw_tbl mmEx mmSx mmK mmP mq32) = true := by decide +kernel
set_option maxRecDepth 100000 in
theorem mr_33_0 : mc33_0.all (mm_ckB lw_tbl mmEx mmSx mmK mmP mq33) = true := by decide +kernel
set_option maxRecDepth 100000 in
theorem mr_34_0 : mc34_0.all (mm_ckB lw_tbl mmEx mmSx mmK mmP mq34) = true := by decide +kernel
set_option maxRecDepth 100000 in
theorem mr_35_0 : mc35_0.all (mm_ckB lw_tbl mmEx mmSx mmK mmP mq35) = true := by decide +kernel
