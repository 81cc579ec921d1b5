/-! the table of the code holds: decided by program (13) -/
set_option maxRecDepth 100000 in
theorem mr_0_13 : mc0_13.all (mm_ckB lw_tbl mmEx mmSx mmK mmP mq0) = true := by decide +kernel
set_option maxRecDepth 100000 in
theorem mr_1_0 : mc1_0.all (mm_ckB lw_tbl mmEx mmSx mmK mmP mq1) = true := by decide +kernel
set_option maxRecDepth 100000 in
theorem mr_2_0 : mc2_0.all (mm_ckB lw_tbl mmEx mmSx mmK mmP mq2) = true := by decide +kernel
set_option maxRecDepth 100000 in
theorem mr_3_0 : mc3_0.all (mm_ckB lw_tbl mmEx mmSx mmK mmP mq3) = true := by decide +kernel
set_option maxRecDepth 100000 in
theorem mr_4_0 : mc4_0.all (mm_ckB lw_tbl mmEx mmSx mmK mmP mq4) = true := by decide +kernel
set_option maxRecDepth 100000 in
theorem mr_5_0 : mc5_0.all (mm_ckB lw_tbl mmEx mmSx mmK mmP mq5) = true := by decide +kernel
set_option maxRecDepth 100000 in
theorem mr_6_0 : mc6_0.all (mm_ckB lw_tbl mmEx mmSx mmK mmP mq6) = true := by decide +kernel
set_option maxRecDepth 100000 in
theorem mr_7_0 : mc7_0.all (mm_ckB lw_tbl mmEx mmSx mmK mmP mq7) = true := by decide +kernel
set_option maxRecDepth 100000 in
theorem mr_8_0 : mc8_0.all (mm_ckB lw_tbl mmEx mmSx mmK mmP mq8) = true := by decide +kernel
