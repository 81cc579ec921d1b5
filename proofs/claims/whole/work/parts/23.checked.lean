/-! all of it -/
set_option maxRecDepth 100000 in
theorem mk_K : mmK.all (mm_ckK (lw_tbl.filter goodWord)) = true := by decide +kernel
set_option maxRecDepth 100000 in
theorem mk_arr : ∀ ty ∈ ([.int, .boolean, .long] : List FieldType), Cond.arrayClass ty ∈ lw_tbl.filter goodWord := by decide +kernel
set_option maxRecDepth 100000 in
theorem mk_cast : ∀ i, i < mmEx.length → Cond.castable (mmEx.getD i "") (mmEx.getD i "") ∈ lw_tbl.filter mx_isC := by decide +kernel
theorem mm_ckM_of {Tb : List Cond} {Ex : List String} {Sx : List (String × Nat × String)} {K : mK} {P : List mM} {q : mM} {r : Bool} (hr : mm_ckM Tb Ex Sx K P q = (q.2.2.1.all (mm_ckB Tb Ex Sx K P q) && r)) (h1 : q.2.2.1.all (mm_ckB Tb Ex Sx K P q) = true) (h2 : r = true) : mm_ckM Tb Ex Sx K P q = true := by
  rw [hr, h1, h2]
  rfl
theorem mm_all2 {a b : List mB} {f : mB → Bool} (h : a.all f = true) (h2 : b.all f = true) : (a ++ b).all f = true := by
  rw [List.all_append, h, h2]
  rfl
set_option maxRecDepth 100000 in
theorem mk_0 : mm_ckM lw_tbl mmEx mmSx mmK mmP mq0 = true := mm_ckM_of (q := mq0) rfl (mm_all2 mr_0_0 (mm_all2 mr_0_1 (mm_all2 mr_0_2 (mm_all2 mr_0_3 (mm_all2 mr_0_4 (mm_all2 mr_0_5 (mm_all2 mr_0_6 (mm_all2 mr_0_7 (mm_all2 mr_0_8 (mm_all2 mr_0_9 (mm_all2 mr_0_10 (mm_all2 mr_0_11 (mm_all2 mr_0_12 mr_0_13))))))))))))) (by decide +kernel)
set_option maxRecDepth 100000 in
theorem mk_1 : mm_ckM lw_tbl mmEx mmSx mmK mmP mq1 = true := mm_ckM_of (q := mq1) rfl mr_1_0 (by decide +kernel)
set_option maxRecDepth 100000 in
theorem mk_2 : mm_ckM lw_tbl mmEx mmSx mmK mmP mq2 = true := mm_ckM_of (q := mq2) rfl mr_2_0 (by decide +kernel)
set_option maxRecDepth 100000 in
theorem mk_3 : mm_ckM lw_tbl mmEx mmSx mmK mmP mq3 = true := mm_ckM_of (q := mq3) rfl mr_3_0 (by decide +kernel)
set_option maxRecDepth 100000 in
theorem mk_4 : mm_ckM lw_tbl mmEx mmSx mmK mmP mq4 = true := mm_ckM_of (q := mq4) rfl mr_4_0 (by decide +kernel)
set_option maxRecDepth 100000 in
theorem mk_5 : mm_ckM lw_tbl mmEx mmSx mmK mmP mq5 = true := mm_ckM_of (q := mq5) rfl mr_5_0 (by decide +kernel)
set_option maxRecDepth 100000 in
theorem mk_6 : mm_ckM lw_tbl mmEx mmSx mmK mmP mq6 = true := mm_ckM_of (q := mq6) rfl mr_6_0 (by decide +kernel)
set_option maxRecDepth 100000 in
theorem mk_7 : mm_ckM lw_tbl mmEx mmSx mmK mmP mq7 = true := mm_ckM_of (q := mq7) rfl mr_7_0 (by decide +kernel)
set_option maxRecDepth 100000 in
theorem mk_8 : mm_ckM lw_tbl mmEx mmSx mmK mmP mq8 = true := mm_ckM_of (q := mq8) rfl mr_8_0 (by decide +kernel)
set_option maxRecDepth 100000 in
theorem mk_9 : mm_ckM lw_tbl mmEx mmSx mmK mmP mq9 = true := mm_ckM_of (q := mq9) rfl (mm_all2 mr_9_0 mr_9_1) (by decide +kernel)
set_option maxRecDepth 100000 in
theorem mk_10 : mm_ckM lw_tbl mmEx mmSx mmK mmP mq10 = true := mm_ckM_of (q := mq10) rfl mr_10_0 (by decide +kernel)
set_option maxRecDepth 100000 in
theorem mk_11 : mm_ckM lw_tbl mmEx mmSx mmK mmP mq11 = true := mm_ckM_of (q := mq11) rfl mr_11_0 (by decide +kernel)
set_option maxRecDepth 100000 in
theorem mk_12 : mm_ckM lw_tbl mmEx mmSx mmK mmP mq12 = true := mm_ckM_of (q := mq12) rfl mr_12_0 (by decide +kernel)
set_option maxRecDepth 100000 in
theorem mk_13 : mm_ckM lw_tbl mmEx mmSx mmK mmP mq13 = true := mm_ckM_of (q := mq13) rfl mr_13_0 (by decide +kernel)
set_option maxRecDepth 100000 in
theorem mk_14 : mm_ckM lw_tbl mmEx mmSx mmK mmP mq14 = true := mm_ckM_of (q := mq14) rfl mr_14_0 (by decide +kernel)
set_option maxRecDepth 100000 in
theorem mk_15 : mm_ckM lw_tbl mmEx mmSx mmK mmP mq15 = true := mm_ckM_of (q := mq15) rfl (mm_all2 mr_15_0 mr_15_1) (by decide +kernel)
set_option maxRecDepth 100000 in
theorem mk_16 : mm_ckM lw_tbl mmEx mmSx mmK mmP mq16 = true := mm_ckM_of (q := mq16) rfl mr_16_0 (by decide +kernel)
set_option maxRecDepth 100000 in
theorem mk_17 : mm_ckM lw_tbl mmEx mmSx mmK mmP mq17 = true := mm_ckM_of (q := mq17) rfl mr_17_0 (by decide +kernel)
set_option maxRecDepth 100000 in
theorem mk_18 : mm_ckM lw_tbl mmEx mmSx mmK mmP mq18 = true := mm_ckM_of (q := mq18) rfl mr_18_0 (by decide +kernel)
set_option maxRecDepth 100000 in
theorem mk_19 : mm_ckM lw_tbl mmEx mmSx mmK mmP mq19 = true := mm_ckM_of (q := mq19) rfl mr_19_0 (by decide +kernel)
set_option maxRecDepth 100000 in
theorem mk_20 : mm_ckM lw_tbl mmEx mmSx mmK mmP mq20 = true := mm_ckM_of (q := mq20) rfl mr_20_0 (by decide +kernel)
set_option maxRecDepth 100000 in
theorem mk_21 : mm_ckM lw_tbl mmEx mmSx mmK mmP mq21 = true := mm_ckM_of (q := mq21) rfl (mm_all2 mr_21_0 mr_21_1) (by decide +kernel)
set_option maxRecDepth 100000 in
theorem mk_22 : mm_ckM lw_tbl mmEx mmSx mmK mmP mq22 = true := mm_ckM_of (q := mq22) rfl mr_22_0 (by decide +kernel)
set_option maxRecDepth 100000 in
theorem mk_23 : mm_ckM lw_tbl mmEx mmSx mmK mmP mq23 = true := mm_ckM_of (q := mq23) rfl mr_23_0 (by decide +kernel)
set_option maxRecDepth 100000 in
theorem mk_24 : mm_ckM lw_tbl mmEx mmSx mmK mmP mq24 = true := mm_ckM_of (q := mq24) rfl mr_24_0 (by decide +kernel)
set_option maxRecDepth 100000 in
theorem mk_25 : mm_ckM lw_tbl mmEx mmSx mmK mmP mq25 = true := mm_ckM_of (q := mq25) rfl mr_25_0 (by decide +kernel)
set_option maxRecDepth 100000 in
theorem mk_26 : mm_ckM lw_tbl mmEx mmSx mmK mmP mq26 = true := mm_ckM_of (q := mq26) rfl mr_26_0 (by decide +kernel)
set_option maxRecDepth 100000 in
theorem mk_27 : mm_ckM lw_tbl mmEx mmSx mmK mmP mq27 = true := mm_ckM_of (q := mq27) rfl mr_27_0 (by decide +kernel)
set_option maxRecDepth 100000 in
theorem mk_28 : mm_ckM lw_tbl mmEx mmSx mmK mmP mq28 = true := mm_ckM_of (q := mq28) rfl (mm_all2 mr_28_0 mr_28_1) (by decide +kernel)
set_option maxRecDepth 100000 in
theorem mk_29 : mm_ckM lw_tbl mmEx mmSx mmK mmP mq29 = true := mm_ckM_of (q := mq29) rfl mr_29_0 (by decide +kernel)
set_option maxRecDepth 100000 in
theorem mk_30 : mm_ckM lw_tbl mmEx mmSx mmK mmP mq30 = true := mm_ckM_of (q := mq30) rfl mr_30_0 (by decide +kernel)
set_option maxRecDepth 100000 in
theorem mk_31 : mm_ckM lw_tbl mmEx mmSx mmK mmP mq31 = true := mm_ckM_of (q := mq31) rfl mr_31_0 (by decide +kernel)
set_option maxRecDepth 100000 in
theorem mk_32 : mm_ckM lw_tbl mmEx mmSx mmK mmP mq32 = true := mm_ckM_of (q := mq32) rfl mr_32_0 (by decide +kernel)
set_option maxRecDepth 100000 in
theorem mk_33 : mm_ckM lw_tbl mmEx mmSx mmK mmP mq33 = true := mm_ckM_of (q := mq33) rfl mr_33_0 (by decide +kernel)
set_option maxRecDepth 100000 in
theorem mk_34 : mm_ckM lw_tbl mmEx mmSx mmK mmP mq34 = true := mm_ckM_of (q := mq34) rfl mr_34_0 (by decide +kernel)
set_option maxRecDepth 100000 in
theorem mk_35 : mm_ckM lw_tbl mmEx mmSx mmK mmP mq35 = true := mm_ckM_of (q := mq35) rfl mr_35_0 (by decide +kernel)
set_option maxRecDepth 100000 in
theorem mk_36 : mm_ckM lw_tbl mmEx mmSx mmK mmP mq36 = true := mm_ckM_of (q := mq36) rfl (mm_all2 mr_36_0 mr_36_1) (by decide +kernel)
set_option maxRecDepth 100000 in
theorem mk_37 : mm_ckM lw_tbl mmEx mmSx mmK mmP mq37 = true := mm_ckM_of (q := mq37) rfl mr_37_0 (by decide +kernel)
set_option maxRecDepth 100000 in
theorem mk_38 : mm_ckM lw_tbl mmEx mmSx mmK mmP mq38 = true := mm_ckM_of (q := mq38) rfl mr_38_0 (by decide +kernel)
set_option maxRecDepth 100000 in
theorem mk_39 : mm_ckM lw_tbl mmEx mmSx mmK mmP mq39 = true := mm_ckM_of (q := mq39) rfl (mm_all2 mr_39_0 mr_39_1) (by decide +kernel)
set_option maxRecDepth 100000 in
theorem mk_40 : mm_ckM lw_tbl mmEx mmSx mmK mmP mq40 = true := mm_ckM_of (q := mq40) rfl (mm_all2 mr_40_0 mr_40_1) (by decide +kernel)
set_option maxRecDepth 100000 in
theorem mk_41 : mm_ckM lw_tbl mmEx mmSx mmK mmP mq41 = true := mm_ckM_of (q := mq41) rfl (mm_all2 mr_41_0 mr_41_1) (by decide +kernel)
set_option maxRecDepth 100000 in
theorem mk_42 : mm_ckM lw_tbl mmEx mmSx mmK mmP mq42 = true := mm_ckM_of (q := mq42) rfl mr_42_0 (by decide +kernel)
set_option maxRecDepth 100000 in
theorem mk_43 : mm_ckM lw_tbl mmEx mmSx mmK mmP mq43 = true := mm_ckM_of (q := mq43) rfl mr_43_0 (by decide +kernel)
set_option maxRecDepth 100000 in
theorem mk_44 : mm_ckM lw_tbl mmEx mmSx mmK mmP mq44 = true := mm_ckM_of (q := mq44) rfl mr_44_0 (by decide +kernel)
set_option maxRecDepth 100000 in
theorem mk_45 : mm_ckM lw_tbl mmEx mmSx mmK mmP mq45 = true := mm_ckM_of (q := mq45) rfl (mm_all2 mr_45_0 (mm_all2 mr_45_1 (mm_all2 mr_45_2 mr_45_3))) (by decide +kernel)
set_option maxRecDepth 100000 in
theorem mk_46 : mm_ckM lw_tbl mmEx mmSx mmK mmP mq46 = true := mm_ckM_of (q := mq46) rfl mr_46_0 (by decide +kernel)
set_option maxRecDepth 100000 in
theorem mk_47 : mm_ckM lw_tbl mmEx mmSx mmK mmP mq47 = true := mm_ckM_of (q := mq47) rfl mr_47_0 (by decide +kernel)
set_option maxRecDepth 100000 in
theorem mk_48 : mm_ckM lw_tbl mmEx mmSx mmK mmP mq48 = true := mm_ckM_of (q := mq48) rfl (mm_all2 mr_48_0 mr_48_1) (by decide +kernel)
set_option maxRecDepth 100000 in
theorem mk_49 : mm_ckM lw_tbl mmEx mmSx mmK mmP mq49 = true := mm_ckM_of (q := mq49) rfl (mm_all2 mr_49_0 mr_49_1) (by decide +kernel)
set_option maxRecDepth 100000 in
theorem mk_50 : mm_ckM lw_tbl mmEx mmSx mmK mmP mq50 = true := mm_ckM_of (q := mq50) rfl mr_50_0 (by decide +kernel)
set_option maxRecDepth 100000 in
theorem mk_51 : mm_ckM lw_tbl mmEx mmSx mmK mmP mq51 = true := mm_ckM_of (q := mq51) rfl mr_51_0 (by decide +kernel)
set_option maxRecDepth 100000 in
theorem mk_52 : mm_ckM lw_tbl mmEx mmSx mmK mmP mq52 = true := mm_ckM_of (q := mq52) rfl mr_52_0 (by decide +kernel)
set_option maxRecDepth 100000 in
theorem mk_53 : mm_ckM lw_tbl mmEx mmSx mmK mmP mq53 = true := mm_ckM_of (q := mq53) rfl (mm_all2 mr_53_0 mr_53_1) (by decide +kernel)
set_option maxRecDepth 100000 in
theorem mk_54 : mm_ckM lw_tbl mmEx mmSx mmK mmP mq54 = true := mm_ckM_of (q := mq54) rfl mr_54_0 (by decide +kernel)
set_option maxRecDepth 100000 in
theorem mk_55 : mm_ckM lw_tbl mmEx mmSx mmK mmP mq55 = true := mm_ckM_of (q := mq55) rfl mr_55_0 (by decide +kernel)
set_option maxRecDepth 100000 in
theorem mk_56 : mm_ckM lw_tbl mmEx mmSx mmK mmP mq56 = true := mm_ckM_of (q := mq56) rfl (mm_all2 mr_56_0 (mm_all2 mr_56_1 mr_56_2)) (by decide +kernel)
set_option maxRecDepth 100000 in
theorem mk_57 : mm_ckM lw_tbl mmEx mmSx mmK mmP mq57 = true := mm_ckM_of (q := mq57) rfl (mm_all2 mr_57_0 (mm_all2 mr_57_1 mr_57_2)) (by decide +kernel)
set_option maxRecDepth 100000 in
theorem mk_58 : mm_ckM lw_tbl mmEx mmSx mmK mmP mq58 = true := mm_ckM_of (q := mq58) rfl mr_58_0 (by decide +kernel)
set_option maxRecDepth 100000 in
theorem mk_59 : mm_ckM lw_tbl mmEx mmSx mmK mmP mq59 = true := mm_ckM_of (q := mq59) rfl mr_59_0 (by decide +kernel)
set_option maxRecDepth 100000 in
theorem mk_60 : mm_ckM lw_tbl mmEx mmSx mmK mmP mq60 = true := mm_ckM_of (q := mq60) rfl mr_60_0 (by decide +kernel)
set_option maxRecDepth 100000 in
theorem mk_61 : mm_ckM lw_tbl mmEx mmSx mmK mmP mq61 = true := mm_ckM_of (q := mq61) rfl mr_61_0 (by decide +kernel)
set_option maxRecDepth 100000 in
theorem mk_62 : mm_ckM lw_tbl mmEx mmSx mmK mmP mq62 = true := mm_ckM_of (q := mq62) rfl mr_62_0 (by decide +kernel)
set_option maxRecDepth 100000 in
theorem mk_63 : mm_ckM lw_tbl mmEx mmSx mmK mmP mq63 = true := mm_ckM_of (q := mq63) rfl (mm_all2 mr_63_0 (mm_all2 mr_63_1 mr_63_2)) (by decide +kernel)
set_option maxRecDepth 100000 in
theorem mk_64 : mm_ckM lw_tbl mmEx mmSx mmK mmP mq64 = true := mm_ckM_of (q := mq64) rfl mr_64_0 (by decide +kernel)
set_option maxRecDepth 100000 in
theorem mk_65 : mm_ckM lw_tbl mmEx mmSx mmK mmP mq65 = true := mm_ckM_of (q := mq65) rfl mr_65_0 (by decide +kernel)
set_option maxRecDepth 100000 in
theorem mk_66 : mm_ckM lw_tbl mmEx mmSx mmK mmP mq66 = true := mm_ckM_of (q := mq66) rfl (mm_all2 mr_66_0 mr_66_1) (by decide +kernel)
set_option maxRecDepth 100000 in
theorem mk_67 : mm_ckM lw_tbl mmEx mmSx mmK mmP mq67 = true := mm_ckM_of (q := mq67) rfl (mm_all2 mr_67_0 mr_67_1) (by decide +kernel)
set_option maxRecDepth 100000 in
theorem mk_68 : mm_ckM lw_tbl mmEx mmSx mmK mmP mq68 = true := mm_ckM_of (q := mq68) rfl (mm_all2 mr_68_0 (mm_all2 mr_68_1 (mm_all2 mr_68_2 (mm_all2 mr_68_3 (mm_all2 mr_68_4 mr_68_5))))) (by decide +kernel)
set_option maxRecDepth 100000 in
theorem mk_69 : mm_ckM lw_tbl mmEx mmSx mmK mmP mq69 = true := mm_ckM_of (q := mq69) rfl (mm_all2 mr_69_0 mr_69_1) (by decide +kernel)
set_option maxRecDepth 100000 in
theorem mk_70 : mm_ckM lw_tbl mmEx mmSx mmK mmP mq70 = true := mm_ckM_of (q := mq70) rfl mr_70_0 (by decide +kernel)
set_option maxRecDepth 100000 in
theorem mk_71 : mm_ckM lw_tbl mmEx mmSx mmK mmP mq71 = true := mm_ckM_of (q := mq71) rfl mr_71_0 (by decide +kernel)
set_option maxRecDepth 100000 in
theorem mk_72 : mm_ckM lw_tbl mmEx mmSx mmK mmP mq72 = true := mm_ckM_of (q := mq72) rfl mr_72_0 (by decide +kernel)
set_option maxRecDepth 100000 in
theorem mk_73 : mm_ckM lw_tbl mmEx mmSx mmK mmP mq73 = true := mm_ckM_of (q := mq73) rfl mr_73_0 (by decide +kernel)
set_option maxRecDepth 100000 in
theorem mk_74 : mm_ckM lw_tbl mmEx mmSx mmK mmP mq74 = true := mm_ckM_of (q := mq74) rfl (mm_all2 mr_74_0 mr_74_1) (by decide +kernel)
set_option maxRecDepth 100000 in
theorem mk_75 : mm_ckM lw_tbl mmEx mmSx mmK mmP mq75 = true := mm_ckM_of (q := mq75) rfl (mm_all2 mr_75_0 mr_75_1) (by decide +kernel)
set_option maxRecDepth 100000 in
theorem mk_76 : mm_ckM lw_tbl mmEx mmSx mmK mmP mq76 = true := mm_ckM_of (q := mq76) rfl (mm_all2 mr_76_0 mr_76_1) (by decide +kernel)
set_option maxRecDepth 100000 in
theorem mk_77 : mm_ckM lw_tbl mmEx mmSx mmK mmP mq77 = true := mm_ckM_of (q := mq77) rfl mr_77_0 (by decide +kernel)
set_option maxRecDepth 100000 in
theorem mk_78 : mm_ckM lw_tbl mmEx mmSx mmK mmP mq78 = true := mm_ckM_of (q := mq78) rfl mr_78_0 (by decide +kernel)
set_option maxRecDepth 100000 in
theorem mk_79 : mm_ckM lw_tbl mmEx mmSx mmK mmP mq79 = true := mm_ckM_of (q := mq79) rfl (mm_all2 mr_79_0 mr_79_1) (by decide +kernel)
set_option maxRecDepth 100000 in
theorem mk_80 : mm_ckM lw_tbl mmEx mmSx mmK mmP mq80 = true := mm_ckM_of (q := mq80) rfl mr_80_0 (by decide +kernel)
set_option maxRecDepth 100000 in
theorem mk_81 : mm_ckM lw_tbl mmEx mmSx mmK mmP mq81 = true := mm_ckM_of (q := mq81) rfl (mm_all2 mr_81_0 mr_81_1) (by decide +kernel)
set_option maxRecDepth 100000 in
theorem mk_82 : mm_ckM lw_tbl mmEx mmSx mmK mmP mq82 = true := mm_ckM_of (q := mq82) rfl (mm_all2 mr_82_0 (mm_all2 mr_82_1 mr_82_2)) (by decide +kernel)
set_option maxRecDepth 100000 in
theorem mk_83 : mm_ckM lw_tbl mmEx mmSx mmK mmP mq83 = true := mm_ckM_of (q := mq83) rfl mr_83_0 (by decide +kernel)
set_option maxRecDepth 100000 in
theorem mk_84 : mm_ckM lw_tbl mmEx mmSx mmK mmP mq84 = true := mm_ckM_of (q := mq84) rfl mr_84_0 (by decide +kernel)
set_option maxRecDepth 100000 in
theorem mk_85 : mm_ckM lw_tbl mmEx mmSx mmK mmP mq85 = true := mm_ckM_of (q := mq85) rfl mr_85_0 (by decide +kernel)
set_option maxRecDepth 100000 in
theorem mk_86 : mm_ckM lw_tbl mmEx mmSx mmK mmP mq86 = true := mm_ckM_of (q := mq86) rfl mr_86_0 (by decide +kernel)
set_option maxRecDepth 100000 in
theorem mk_87 : mm_ckM lw_tbl mmEx mmSx mmK mmP mq87 = true := mm_ckM_of (q := mq87) rfl mr_87_0 (by decide +kernel)
set_option maxRecDepth 100000 in
theorem mk_88 : mm_ckM lw_tbl mmEx mmSx mmK mmP mq88 = true := mm_ckM_of (q := mq88) rfl mr_88_0 (by decide +kernel)
set_option maxRecDepth 100000 in
theorem mk_89 : mm_ckM lw_tbl mmEx mmSx mmK mmP mq89 = true := mm_ckM_of (q := mq89) rfl mr_89_0 (by decide +kernel)
set_option maxRecDepth 100000 in
theorem mk_90 : mm_ckM lw_tbl mmEx mmSx mmK mmP mq90 = true := mm_ckM_of (q := mq90) rfl mr_90_0 (by decide +kernel)
set_option maxRecDepth 100000 in
theorem mk_91 : mm_ckM lw_tbl mmEx mmSx mmK mmP mq91 = true := mm_ckM_of (q := mq91) rfl mr_91_0 (by decide +kernel)
set_option maxRecDepth 100000 in
theorem mk_92 : mm_ckM lw_tbl mmEx mmSx mmK mmP mq92 = true := mm_ckM_of (q := mq92) rfl mr_92_0 (by decide +kernel)
set_option maxRecDepth 100000 in
theorem mk_93 : mm_ckM lw_tbl mmEx mmSx mmK mmP mq93 = true := mm_ckM_of (q := mq93) rfl mr_93_0 (by decide +kernel)
set_option maxRecDepth 100000 in
theorem mk_94 : mm_ckM lw_tbl mmEx mmSx mmK mmP mq94 = true := mm_ckM_of (q := mq94) rfl mr_94_0 (by decide +kernel)
set_option maxRecDepth 100000 in
theorem mk_95 : mm_ckM lw_tbl mmEx mmSx mmK mmP mq95 = true := mm_ckM_of (q := mq95) rfl mr_95_0 (by decide +kernel)
theorem mk_P : ∀ q ∈ mmP, mm_ckM lw_tbl mmEx mmSx mmK mmP q = true :=
  List.forall_mem_cons.mpr ⟨mk_0, List.forall_mem_cons.mpr ⟨mk_1, List.forall_mem_cons.mpr ⟨mk_2, List.forall_mem_cons.mpr ⟨mk_3, List.forall_mem_cons.mpr ⟨mk_4, List.forall_mem_cons.mpr ⟨mk_5, List.forall_mem_cons.mpr ⟨mk_6, List.forall_mem_cons.mpr ⟨mk_7, List.forall_mem_cons.mpr ⟨mk_8, List.forall_mem_cons.mpr ⟨mk_9, List.forall_mem_cons.mpr ⟨mk_10, List.forall_mem_cons.mpr ⟨mk_11, List.forall_mem_cons.mpr ⟨mk_12, List.forall_mem_cons.mpr ⟨mk_13, List.forall_mem_cons.mpr ⟨mk_14, List.forall_mem_cons.mpr ⟨mk_15, List.forall_mem_cons.mpr ⟨mk_16, List.forall_mem_cons.mpr ⟨mk_17, List.forall_mem_cons.mpr ⟨mk_18, List.forall_mem_cons.mpr ⟨mk_19, List.forall_mem_cons.mpr ⟨mk_20, List.forall_mem_cons.mpr ⟨mk_21, List.forall_mem_cons.mpr ⟨mk_22, List.forall_mem_cons.mpr ⟨mk_23, List.forall_mem_cons.mpr ⟨mk_24, List.forall_mem_cons.mpr ⟨mk_25, List.forall_mem_cons.mpr ⟨mk_26, List.forall_mem_cons.mpr ⟨mk_27, List.forall_mem_cons.mpr ⟨mk_28, List.forall_mem_cons.mpr ⟨mk_29, List.forall_mem_cons.mpr ⟨mk_30, List.forall_mem_cons.mpr ⟨mk_31, List.forall_mem_cons.mpr ⟨mk_32, List.forall_mem_cons.mpr ⟨mk_33, List.forall_mem_cons.mpr ⟨mk_34, List.forall_mem_cons.mpr ⟨mk_35, List.forall_mem_cons.mpr ⟨mk_36, List.forall_mem_cons.mpr ⟨mk_37, List.forall_mem_cons.mpr ⟨mk_38, List.forall_mem_cons.mpr ⟨mk_39, List.forall_mem_cons.mpr ⟨mk_40, List.forall_mem_cons.mpr ⟨mk_41, List.forall_mem_cons.mpr ⟨mk_42, List.forall_mem_cons.mpr ⟨mk_43, List.forall_mem_cons.mpr ⟨mk_44, List.forall_mem_cons.mpr ⟨mk_45, List.forall_mem_cons.mpr ⟨mk_46, List.forall_mem_cons.mpr ⟨mk_47, List.forall_mem_cons.mpr ⟨mk_48, List.forall_mem_cons.mpr ⟨mk_49, List.forall_mem_cons.mpr ⟨mk_50, List.forall_mem_cons.mpr ⟨mk_51, List.forall_mem_cons.mpr ⟨mk_52, List.forall_mem_cons.mpr ⟨mk_53, List.forall_mem_cons.mpr ⟨mk_54, List.forall_mem_cons.mpr ⟨mk_55, List.forall_mem_cons.mpr ⟨mk_56, List.forall_mem_cons.mpr ⟨mk_57, List.forall_mem_cons.mpr ⟨mk_58, List.forall_mem_cons.mpr ⟨mk_59, List.forall_mem_cons.mpr ⟨mk_60, List.forall_mem_cons.mpr ⟨mk_61, List.forall_mem_cons.mpr ⟨mk_62, List.forall_mem_cons.mpr ⟨mk_63, List.forall_mem_cons.mpr ⟨mk_64, List.forall_mem_cons.mpr ⟨mk_65, List.forall_mem_cons.mpr ⟨mk_66, List.forall_mem_cons.mpr ⟨mk_67, List.forall_mem_cons.mpr ⟨mk_68, List.forall_mem_cons.mpr ⟨mk_69, List.forall_mem_cons.mpr ⟨mk_70, List.forall_mem_cons.mpr ⟨mk_71, List.forall_mem_cons.mpr ⟨mk_72, List.forall_mem_cons.mpr ⟨mk_73, List.forall_mem_cons.mpr ⟨mk_74, List.forall_mem_cons.mpr ⟨mk_75, List.forall_mem_cons.mpr ⟨mk_76, List.forall_mem_cons.mpr ⟨mk_77, List.forall_mem_cons.mpr ⟨mk_78, List.forall_mem_cons.mpr ⟨mk_79, List.forall_mem_cons.mpr ⟨mk_80, List.forall_mem_cons.mpr ⟨mk_81, List.forall_mem_cons.mpr ⟨mk_82, List.forall_mem_cons.mpr ⟨mk_83, List.forall_mem_cons.mpr ⟨mk_84, List.forall_mem_cons.mpr ⟨mk_85, List.forall_mem_cons.mpr ⟨mk_86, List.forall_mem_cons.mpr ⟨mk_87, List.forall_mem_cons.mpr ⟨mk_88, List.forall_mem_cons.mpr ⟨mk_89, List.forall_mem_cons.mpr ⟨mk_90, List.forall_mem_cons.mpr ⟨mk_91, List.forall_mem_cons.mpr ⟨mk_92, List.forall_mem_cons.mpr ⟨mk_93, List.forall_mem_cons.mpr ⟨mk_94, List.forall_mem_cons.mpr ⟨mk_95, fun _ h => absurd h List.not_mem_nil⟩⟩⟩⟩⟩⟩⟩⟩⟩⟩⟩⟩⟩⟩⟩⟩⟩⟩⟩⟩⟩⟩⟩⟩⟩⟩⟩⟩⟩⟩⟩⟩⟩⟩⟩⟩⟩⟩⟩⟩⟩⟩⟩⟩⟩⟩⟩⟩⟩⟩⟩⟩⟩⟩⟩⟩⟩⟩⟩⟩⟩⟩⟩⟩⟩⟩⟩⟩⟩⟩⟩⟩⟩⟩⟩⟩⟩⟩⟩⟩⟩⟩⟩⟩⟩⟩⟩⟩⟩⟩⟩⟩⟩⟩⟩⟩
