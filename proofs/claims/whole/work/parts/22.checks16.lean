/-! the table of the code holds: decided by program (16) -/
set_option maxRecDepth 100000 in
theorem mr_21_0 : mc21_0.all (mm_ckB lw_tbl mmEx mmSx mmK mmP mq21) = true := by decide +kernel
set_option maxRecDepth 100000 in
theorem mr_21_1 : mc21_1.all (mm_ckB lw_tbl mmEx mmSx mmK mmP mq21) = true := by decide +kernel
set_option maxRecDepth 100000 in
theorem mr_22_0 : mc22_0.all (mm_ckB lw_tbl mmEx mmSx mmK mmP mq22) = true := by decide +kernel
set_option maxRecDepth 100000 in
theorem mr_23_0 : mc23_0.all (mm_ckB lw_tbl mmEx mmSx mmK mmP mq23) = true := by decide +kernel
set_option maxRecDepth 100000 in
theorem mr_24_0 : mc24_0.all (mm_ckB lw_tbl mmEx mmSx mmK mmP mq24) = true := by decide +kernel
set_option maxRecDepth 100000 in
theorem mr_25_0 : mc25_0.all (mm_ckB lw_tbl mmEx mmSx mmK mmP mq25) = true := by decide +kernel
set_option maxRecDepth 100000 in
theorem mr_26_0 : mc26_0.all (mm_ckB lw_tbl mmEx mmSx mmK mmP mq26) = true := by decide +kernel
set_option maxRecDepth 100000 in
theorem mr_27_0 : mc27_0.all (mm_ckB lw_tbl mmEx mmSx mmK mmP mq27) = true := by decide +kernel
