/-! the table of the code holds: decided by program (36) -/
set_option maxRecDepth 100000 in
theorem mr_82_1 : mc82_1.all (mm_ckB lw_tbl mmEx mmSx mmK mmP mq82) = true := by decide +kernel
set_option maxRecDepth 100000 in
theorem mr_82_2 : mc82_2.all (mm_ckB lw_tbl mmEx mmSx mmK mmP mq82) = true := by decide +kernel
set_option maxRecDepth 100000 in
theorem mr_83_0 : mc83_0.all (mm_ckB lw_tbl mmEx mmSx mmK mmP mq83) = true := by decide +kernel
set_option maxRecDepth 100000 in
theorem mr_84_0 : mc84_0.all (mm_ckB lw_tbl mmEx mmSx mmK mmP mq84) = true := by decide +kernel
