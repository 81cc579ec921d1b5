/-! the table of the code holds: decided by program (37) -/
set_option maxRecDepth 100000 in
theorem mr_85_0 : mc85_0.all (mm_ckB lw_tbl mmEx mmSx mmK mmP mq85) = true := by decide +kernel
set_option maxRecDepth 100000 in
theorem mr_86_0 : mc86_0.all (mm_ckB lw_tbl mmEx mmSx mmK mmP mq86) = true := by decide +kernel
set_option maxRecDepth 100000 in
theorem mr_87_0 : mc87_0.all (mm_ckB lw_tbl mmEx mmSx mmK mmP mq87) = true := by decide +kernel
set_option maxRecDepth 100000 in
theorem mr_88_0 : mc88_0.all (mm_ckB lw_tbl mmEx mmSx mmK mmP mq88) = true := by decide +kernel
set_option maxRecDepth 100000 in
theorem mr_89_0 : mc89_0.all (mm_ckB lw_tbl mmEx mmSx mmK mmP mq89) = true := by decide +kernel
set_option maxRecDepth 100000 in
theorem mr_90_0 : mc90_0.all (mm_ckB lw_tbl mmEx mmSx mmK mmP mq90) = true := by decide +kernel
set_option maxRecDepth 100000 in
theorem mr_91_0 : mc91_0.all (mm_ckB lw_tbl mmEx mmSx mmK mmP mq91) = true := by decide +kernel
set_option maxRecDepth 100000 in
theorem mr_92_0 : mc92_0.all (mm_ckB lw_tbl mmEx mmSx mmK mmP mq92) = true := by decide +kernel
set_option maxRecDepth 100000 in
theorem mr_93_0 : mc93_0.all (mm_ckB lw_tbl mmEx mmSx mmK mmP mq93) = true := by decide +kernel
set_option maxRecDepth 100000 in
theorem mr_94_0 : mc94_0.all (mm_ckB lw_tbl mmEx mmSx mmK mmP mq94) = true := by decide +kernel
set_option maxRecDepth 100000 in
theorem mr_95_0 : mc95_0.all (mm_ckB lw_tbl mmEx mmSx mmK mmP mq95) = true := by decide +kernel
