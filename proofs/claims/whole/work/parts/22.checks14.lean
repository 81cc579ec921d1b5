/-! the table of the code holds: decided by program (14) -/
set_option maxRecDepth 100000 in
theorem mr_9_0 : mc9_0.all (mm_ckB lw_tbl mmEx mmSx mmK mmP mq9) = true := by decide +kernel
set_option maxRecDepth 100000 in
theorem mr_9_1 : mc9_1.all (mm_ckB lw_tbl mmEx mmSx mmK mmP mq9) = true := by decide +kernel
set_option maxRecDepth 100000 in
theorem mr_10_0 : mc10_0.all (mm_ckB lw_tbl mmEx mmSx mmK mmP mq10) = true := by decide +kernel
set_option maxRecDepth 100000 in
theorem mr_11_0 : mc11_0.all (mm_ckB lw_tbl mmEx mmSx mmK mmP mq11) = true := by decide +kernel
set_option maxRecDepth 100000 in
theorem mr_12_0 : mc12_0.all (mm_ckB lw_tbl mmEx mmSx mmK mmP mq12) = true := by decide +kernel
set_option maxRecDepth 100000 in
theorem mr_13_0 : mc13_0.all (mm_ckB lw_tbl mmEx mmSx mmK mmP mq13) = true := by decide +kernel
set_option maxRecDepth 100000 in
theorem mr_14_0 : mc14_0.all (mm_ckB lw_tbl mmEx mmSx mmK mmP mq14) = true := by decide +kernel
