/-! the table of the code holds: decided by program (22) -/
set_option maxRecDepth 100000 in
theorem mr_48_0 : mc48_0.all (mm_ckB lw_tbl mmEx mmSx mmK mmP mq48) = true := by decide +kernel
set_option maxRecDepth 100000 in
theorem mr_48_1 : mc48_1.all (mm_ckB lw_tbl mmEx mmSx mmK mmP mq48) = true := by decide +kernel
set_option maxRecDepth 100000 in
theorem mr_49_0 : mc49_0.all (mm_ckB lw_tbl mmEx mmSx mmK mmP mq49) = true := by decide +kernel
set_option maxRecDepth 100000 in
theorem mr_49_1 : mc49_1.all (mm_ckB lw_tbl mmEx mmSx mmK mmP mq49) = true := by decide +kernel
set_option maxRecDepth 100000 in
theorem mr_50_0 : mc50_0.all (mm_ckB lw_tbl mmEx mmSx mmK mmP mq50) = true := by decide +kernel
set_option maxRecDepth 100000 in
theorem mr_51_0 : mc51_0.all (mm_ckB lw_tbl mmEx mmSx mmK mmP mq51) = true := by decide +kernel
set_option maxRecDepth 100000 in
theorem mr_52_0 : mc52_0.all (mm_ckB lw_tbl mmEx mmSx mmK mmP mq52) = true := by decide +kernel
