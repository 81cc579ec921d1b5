/-! the table of the code holds: decided by program (32) -/
set_option maxRecDepth 100000 in
theorem mr_69_0 : mc69_0.all (mm_ckB lw_tbl mmEx mmSx mmK mmP mq69) = true := by decide +kernel
set_option maxRecDepth 100000 in
theorem mr_69_1 : mc69_1.all (mm_ckB lw_tbl mmEx mmSx mmK mmP mq69) = true := by decide +kernel
set_option maxRecDepth 100000 in
theorem mr_70_0 : mc70_0.all (mm_ckB lw_tbl mmEx mmSx mmK mmP mq70) = true := by decide +kernel
set_option maxRecDepth 100000 in
theorem mr_71_0 : mc71_0.all (mm_ckB lw_tbl mmEx mmSx mmK mmP mq71) = true := by decide +kernel
set_option maxRecDepth 100000 in
theorem mr_72_0 : mc72_0.all (mm_ckB lw_tbl mmEx mmSx mmK mmP mq72) = true := by decide +kernel
set_option maxRecDepth 100000 in
theorem mr_73_0 : mc73_0.all (mm_ckB lw_tbl mmEx mmSx mmK mmP mq73) = true := by decide +kernel
