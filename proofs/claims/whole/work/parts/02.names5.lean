theorem dX6_rightNow_12 : decode cX6_rightNow 12 = .ok (.iload_n 1, 1) := by decide +kernel
theorem dX6_rightNow_13 : decode cX6_rightNow 13 = .ok (.aload_n 0, 1) := by decide +kernel
theorem dX6_rightNow_14 : decode cX6_rightNow 14 = .ok (.getfield 25, 3) := by decide +kernel
theorem dX6_rightNow_17 : decode cX6_rightNow 17 = .ok (.iload_n 2, 1) := by decide +kernel
theorem dX6_rightNow_18 : decode cX6_rightNow 18 = .ok (.iaload, 1) := by decide +kernel
theorem dX6_rightNow_19 : decode cX6_rightNow 19 = .ok (.iconst 2, 1) := by decide +kernel
theorem dX6_rightNow_20 : decode cX6_rightNow 20 = .ok (.if_icmp .ne 16, 3) := by decide +kernel
theorem dX6_rightNow_23 : decode cX6_rightNow 23 = .ok (.aload_n 0, 1) := by decide +kernel
theorem dX6_rightNow_24 : decode cX6_rightNow 24 = .ok (.getfield 16, 3) := by decide +kernel
theorem dX6_rightNow_27 : decode cX6_rightNow 27 = .ok (.iconst 3, 1) := by decide +kernel
theorem dX6_rightNow_28 : decode cX6_rightNow 28 = .ok (.iload_n 2, 1) := by decide +kernel
theorem dX6_rightNow_29 : decode cX6_rightNow 29 = .ok (.imul, 1) := by decide +kernel
theorem dX6_rightNow_30 : decode cX6_rightNow 30 = .ok (.iconst 1, 1) := by decide +kernel
theorem dX6_rightNow_31 : decode cX6_rightNow 31 = .ok (.iadd, 1) := by decide +kernel
theorem dX6_rightNow_32 : decode cX6_rightNow 32 = .ok (.iaload, 1) := by decide +kernel
theorem dX6_rightNow_33 : decode cX6_rightNow 33 = .ok (.goto 4, 3) := by decide +kernel
theorem dX6_rightNow_36 : decode cX6_rightNow 36 = .ok (.iconst 0, 1) := by decide +kernel
theorem dX6_rightNow_37 : decode cX6_rightNow 37 = .ok (.iadd, 1) := by decide +kernel
theorem dX6_rightNow_38 : decode cX6_rightNow 38 = .ok (.istore_n 1, 1) := by decide +kernel
theorem dX6_rightNow_39 : decode cX6_rightNow 39 = .ok (.iinc 2 1, 3) := by decide +kernel
theorem dX6_rightNow_42 : decode cX6_rightNow 42 = .ok (.goto (-38), 3) := by decide +kernel
theorem dX6_rightNow_45 : decode cX6_rightNow 45 = .ok (.iload_n 1, 1) := by decide +kernel
theorem dX6_rightNow_46 : decode cX6_rightNow 46 = .ok (.ireturn, 1) := by decide +kernel
theorem dX6_layNow_0 : decode cX6_layNow 0 = .ok (.iconst 0, 1) := by decide +kernel
theorem dX6_layNow_1 : decode cX6_layNow 1 = .ok (.istore_n 1, 1) := by decide +kernel
theorem dX6_layNow_2 : decode cX6_layNow 2 = .ok (.iload_n 1, 1) := by decide +kernel
theorem dX6_layNow_3 : decode cX6_layNow 3 = .ok (.bipush 8, 2) := by decide +kernel
theorem dX6_layNow_5 : decode cX6_layNow 5 = .ok (.if_icmp .ge 33, 3) := by decide +kernel
theorem dX6_layNow_8 : decode cX6_layNow 8 = .ok (.aload_n 0, 1) := by decide +kernel
theorem dX6_layNow_9 : decode cX6_layNow 9 = .ok (.getfield 19, 3) := by decide +kernel
theorem dX6_layNow_12 : decode cX6_layNow 12 = .ok (.iload_n 1, 1) := by decide +kernel
theorem dX6_layNow_13 : decode cX6_layNow 13 = .ok (.aload_n 0, 1) := by decide +kernel
theorem dX6_layNow_14 : decode cX6_layNow 14 = .ok (.getfield 25, 3) := by decide +kernel
theorem dX6_layNow_17 : decode cX6_layNow 17 = .ok (.iload_n 1, 1) := by decide +kernel
theorem dX6_layNow_18 : decode cX6_layNow 18 = .ok (.iaload, 1) := by decide +kernel
theorem dX6_layNow_19 : decode cX6_layNow 19 = .ok (.iastore, 1) := by decide +kernel
theorem dX6_layNow_20 : decode cX6_layNow 20 = .ok (.aload_n 0, 1) := by decide +kernel
theorem dX6_layNow_21 : decode cX6_layNow 21 = .ok (.getfield 22, 3) := by decide +kernel
theorem dX6_layNow_24 : decode cX6_layNow 24 = .ok (.iload_n 1, 1) := by decide +kernel
theorem dX6_layNow_25 : decode cX6_layNow 25 = .ok (.aload_n 0, 1) := by decide +kernel
theorem dX6_layNow_26 : decode cX6_layNow 26 = .ok (.getfield 28, 3) := by decide +kernel
theorem dX6_layNow_29 : decode cX6_layNow 29 = .ok (.iload_n 1, 1) := by decide +kernel
theorem dX6_layNow_30 : decode cX6_layNow 30 = .ok (.iaload, 1) := by decide +kernel
theorem dX6_layNow_31 : decode cX6_layNow 31 = .ok (.iastore, 1) := by decide +kernel
theorem dX6_layNow_32 : decode cX6_layNow 32 = .ok (.iinc 1 1, 3) := by decide +kernel
theorem dX6_layNow_35 : decode cX6_layNow 35 = .ok (.goto (-33), 3) := by decide +kernel
theorem dX6_layNow_38 : decode cX6_layNow 38 = .ok (.return_, 1) := by decide +kernel
set_option maxRecDepth 20000 in
theorem ggX6_clap_X6_isRow : GoodIn wsX6_clap wsX6_isRow := goodIn_r _ [7, 8, 9, 10, 6, 11, 38, 39, 40, 41, 42, 43, 44, 45, 46, 47, 48, 49, 50, 51, 52, 53, 54, 55, 56, 57, 58, 59, 60, 61, 62, 63, 64, 65, 66, 67, 68, 69, 70] (by decide +kernel) (by decide +kernel)
set_option maxRecDepth 20000 in
theorem gX6_clap_X6_isRow : GoodIn wsX6_clap (wsV RX6 116 RX6 yX6_isRow wsX6_isRow) := goodIn_app (goodIn_of _ (by decide +kernel)) ggX6_clap_X6_isRow
set_option maxRecDepth 20000 in
theorem ggX6_clap_X6_in : GoodIn wsX6_clap wsX6_in := goodIn_r _ [11] (by decide +kernel) (by decide +kernel)
set_option maxRecDepth 20000 in
theorem gX6_clap_X6_in : GoodIn wsX6_clap (va_wsS RX6 52 yX6_in wsX6_in) := goodIn_app (goodIn_of _ (by decide +kernel)) ggX6_clap_X6_in
set_option maxRecDepth 20000 in
theorem ggX6_clap_X6_byLag : GoodIn wsX6_clap wsX6_byLag := goodIn_r _ [15, 16, 17, 18, 6, 19, 20, 38, 39, 40, 41, 42, 43, 44, 45, 46, 47, 48, 49, 50, 51, 52, 53, 54, 55, 56, 57, 58, 59, 60, 61, 62, 63, 64, 65, 66, 67, 68, 69, 70] (by decide +kernel) (by decide +kernel)
set_option maxRecDepth 20000 in
theorem gX6_clap_X6_byLag : GoodIn wsX6_clap (wsV RX6 108 RX6 yX6_byLag wsX6_byLag) := goodIn_app (goodIn_of _ (by decide +kernel)) ggX6_clap_X6_byLag
set_option maxRecDepth 20000 in
theorem ggX6_clap_X6_asItIs : GoodIn wsX6_clap wsX6_asItIs := goodIn_r _ [24, 25, 2, 26, 27, 28, 29, 38, 39, 40, 41, 42, 43, 44, 45, 46, 47, 48, 49, 50, 51, 52, 53, 54, 55, 56, 57, 58, 59, 60, 61, 62, 63, 64, 65, 66, 67, 68, 69, 70] (by decide +kernel) (by decide +kernel)
set_option maxRecDepth 20000 in
theorem gX6_clap_X6_asItIs : GoodIn wsX6_clap (wsV RX6 139 RX6 yX6_asItIs wsX6_asItIs) := goodIn_app (goodIn_of _ (by decide +kernel)) ggX6_clap_X6_asItIs
set_option maxRecDepth 20000 in
theorem ggX6_clap_X6_makes : GoodIn wsX6_clap wsX6_makes := goodIn_r _ [33, 25, 26, 38, 39, 40, 41, 42, 43, 44, 45, 46, 47, 48, 49, 50, 51, 52, 53, 54, 55, 56, 57, 58, 59, 60, 61, 62, 63, 64, 65, 66, 67, 68, 69, 70] (by decide +kernel) (by decide +kernel)
set_option maxRecDepth 20000 in
theorem gX6_clap_X6_makes : GoodIn wsX6_clap (wsV RX6 142 RX6 yX6_makes wsX6_makes) := goodIn_app (goodIn_of _ (by decide +kernel)) ggX6_clap_X6_makes
set_option maxRecDepth 20000 in
theorem ggX6_clap_X6_layNow : GoodIn wsX6_clap wsX6_layNow := goodIn_r _ [37, 2, 25, 27, 26, 38, 39, 40, 41, 42, 43, 44, 45, 46, 47, 48, 49, 50, 51, 52, 53, 54, 55, 56, 57, 58, 59, 60, 61, 62, 63, 64, 65, 66, 67, 68, 69, 70] (by decide +kernel) (by decide +kernel)
set_option maxRecDepth 20000 in
theorem gX6_clap_X6_layNow : GoodIn wsX6_clap (wsV RX6 146 RX6 yX6_layNow wsX6_layNow) := goodIn_app (goodIn_of _ (by decide +kernel)) ggX6_clap_X6_layNow
theorem dX6_clap_0 : decode cX6_clap 0 = .ok (.aload_n 0, 1) := by decide +kernel
theorem dX6_clap_1 : decode cX6_clap 1 = .ok (.iload_n 1, 1) := by decide +kernel
theorem dX6_clap_2 : decode cX6_clap 2 = .ok (.invokevirtual 116, 3) := by decide +kernel
theorem dX6_clap_5 : decode cX6_clap 5 = .ok (.ifCond .ne 6, 3) := by decide +kernel
theorem dX6_clap_8 : decode cX6_clap 8 = .ok (.bipush (-101), 2) := by decide +kernel
theorem dX6_clap_10 : decode cX6_clap 10 = .ok (.ireturn, 1) := by decide +kernel
theorem dX6_clap_11 : decode cX6_clap 11 = .ok (.iload_n 2, 1) := by decide +kernel
theorem dX6_clap_12 : decode cX6_clap 12 = .ok (.i2l, 1) := by decide +kernel
theorem dX6_clap_13 : decode cX6_clap 13 = .ok (.lconst 0, 1) := by decide +kernel
theorem dX6_clap_14 : decode cX6_clap 14 = .ok (.ldc2_w 74, 3) := by decide +kernel
theorem dX6_clap_17 : decode cX6_clap 17 = .ok (.invokestatic 52, 3) := by decide +kernel
theorem dX6_clap_20 : decode cX6_clap 20 = .ok (.ifCond .ne 6, 3) := by decide +kernel
theorem dX6_clap_23 : decode cX6_clap 23 = .ok (.bipush (-102), 2) := by decide +kernel
theorem dX6_clap_25 : decode cX6_clap 25 = .ok (.ireturn, 1) := by decide +kernel
theorem dX6_clap_26 : decode cX6_clap 26 = .ok (.aload_n 0, 1) := by decide +kernel
theorem dX6_clap_27 : decode cX6_clap 27 = .ok (.iload_n 1, 1) := by decide +kernel
theorem dX6_clap_28 : decode cX6_clap 28 = .ok (.aload_n 0, 1) := by decide +kernel
theorem dX6_clap_29 : decode cX6_clap 29 = .ok (.getfield 19, 3) := by decide +kernel
theorem dX6_clap_32 : decode cX6_clap 32 = .ok (.iload_n 1, 1) := by decide +kernel
theorem dX6_clap_33 : decode cX6_clap 33 = .ok (.iaload, 1) := by decide +kernel
theorem dX6_clap_34 : decode cX6_clap 34 = .ok (.invokevirtual 108, 3) := by decide +kernel
theorem dX6_clap_37 : decode cX6_clap 37 = .ok (.istore_n 3, 1) := by decide +kernel
theorem dX6_clap_38 : decode cX6_clap 38 = .ok (.aload_n 0, 1) := by decide +kernel
theorem dX6_clap_39 : decode cX6_clap 39 = .ok (.invokevirtual 139, 3) := by decide +kernel
theorem dX6_clap_42 : decode cX6_clap 42 = .ok (.aload_n 0, 1) := by decide +kernel
theorem dX6_clap_43 : decode cX6_clap 43 = .ok (.iload_n 1, 1) := by decide +kernel
theorem dX6_clap_44 : decode cX6_clap 44 = .ok (.aload_n 0, 1) := by decide +kernel
theorem dX6_clap_45 : decode cX6_clap 45 = .ok (.iload_n 1, 1) := by decide +kernel
theorem dX6_clap_46 : decode cX6_clap 46 = .ok (.iload_n 2, 1) := by decide +kernel
theorem dX6_clap_47 : decode cX6_clap 47 = .ok (.invokevirtual 108, 3) := by decide +kernel
theorem dX6_clap_50 : decode cX6_clap 50 = .ok (.invokevirtual 142, 3) := by decide +kernel
theorem dX6_clap_53 : decode cX6_clap 53 = .ok (.aload_n 0, 1) := by decide +kernel
theorem dX6_clap_54 : decode cX6_clap 54 = .ok (.invokevirtual 146, 3) := by decide +kernel
theorem dX6_clap_57 : decode cX6_clap 57 = .ok (.iload_n 3, 1) := by decide +kernel
theorem dX6_clap_58 : decode cX6_clap 58 = .ok (.ireturn, 1) := by decide +kernel
set_option maxRecDepth 20000 in
theorem ggX6_arm_X6_in : GoodIn wsX6_arm wsX6_in := goodIn_r _ [6] (by decide +kernel) (by decide +kernel)
set_option maxRecDepth 20000 in
theorem gX6_arm_X6_in : GoodIn wsX6_arm (va_wsS RX6 52 yX6_in wsX6_in) := goodIn_app (goodIn_of _ (by decide +kernel)) ggX6_arm_X6_in
set_option maxRecDepth 20000 in
theorem ggX6_arm_X6_lacks : GoodIn wsX6_arm wsX6_lacks := goodIn_r _ [10, 11, 12, 13, 14, 15, 16, 17, 18, 19, 20, 21, 22, 23, 24, 25, 26, 27, 28, 29, 30, 31, 32, 33, 34, 35, 36, 37, 38, 39, 40, 41, 42, 43, 44] (by decide +kernel) (by decide +kernel)
set_option maxRecDepth 20000 in
theorem gX6_arm_X6_lacks : GoodIn wsX6_arm (wsV RX6 151 RX6 yX6_lacks wsX6_lacks) := goodIn_app (goodIn_of _ (by decide +kernel)) ggX6_arm_X6_lacks
theorem dX6_arm_0 : decode cX6_arm 0 = .ok (.iload_n 1, 1) := by decide +kernel
theorem dX6_arm_1 : decode cX6_arm 1 = .ok (.i2l, 1) := by decide +kernel
theorem dX6_arm_2 : decode cX6_arm 2 = .ok (.lconst 0, 1) := by decide +kernel
theorem dX6_arm_3 : decode cX6_arm 3 = .ok (.ldc2_w 149, 3) := by decide +kernel
theorem dX6_arm_6 : decode cX6_arm 6 = .ok (.invokestatic 52, 3) := by decide +kernel
theorem dX6_arm_9 : decode cX6_arm 9 = .ok (.ifCond .ne 6, 3) := by decide +kernel
theorem dX6_arm_12 : decode cX6_arm 12 = .ok (.bipush (-102), 2) := by decide +kernel
theorem dX6_arm_14 : decode cX6_arm 14 = .ok (.ireturn, 1) := by decide +kernel
theorem dX6_arm_15 : decode cX6_arm 15 = .ok (.aload_n 0, 1) := by decide +kernel
theorem dX6_arm_16 : decode cX6_arm 16 = .ok (.invokevirtual 151, 3) := by decide +kernel
theorem dX6_arm_19 : decode cX6_arm 19 = .ok (.ifCond .eq 6, 3) := by decide +kernel
theorem dX6_arm_22 : decode cX6_arm 22 = .ok (.bipush (-103), 2) := by decide +kernel
theorem dX6_arm_24 : decode cX6_arm 24 = .ok (.ireturn, 1) := by decide +kernel
theorem dX6_arm_25 : decode cX6_arm 25 = .ok (.aload_n 0, 1) := by decide +kernel
theorem dX6_arm_26 : decode cX6_arm 26 = .ok (.getfield 90, 3) := by decide +kernel
theorem dX6_arm_29 : decode cX6_arm 29 = .ok (.istore_n 2, 1) := by decide +kernel
theorem dX6_arm_30 : decode cX6_arm 30 = .ok (.aload_n 0, 1) := by decide +kernel
theorem dX6_arm_31 : decode cX6_arm 31 = .ok (.iload_n 1, 1) := by decide +kernel
theorem dX6_arm_32 : decode cX6_arm 32 = .ok (.putfield 90, 3) := by decide +kernel
theorem dX6_arm_35 : decode cX6_arm 35 = .ok (.iload_n 2, 1) := by decide +kernel
theorem dX6_arm_36 : decode cX6_arm 36 = .ok (.ireturn, 1) := by decide +kernel
set_option maxRecDepth 20000 in
theorem ggX6_bar_X6_lacks : GoodIn wsX6_bar wsX6_lacks := goodIn_r _ [6, 7, 55, 56, 57, 58, 59, 60, 61, 62, 63, 64, 65, 66, 67, 68, 69, 70, 71, 72, 73, 74, 75, 76, 77, 78, 79, 80, 81, 82, 83, 84, 85, 86, 87] (by decide +kernel) (by decide +kernel)
set_option maxRecDepth 20000 in
theorem gX6_bar_X6_lacks : GoodIn wsX6_bar (wsV RX6 151 RX6 yX6_lacks wsX6_lacks) := goodIn_app (goodIn_of _ (by decide +kernel)) ggX6_bar_X6_lacks
set_option maxRecDepth 20000 in
theorem ggX6_bar_X6_asItIs : GoodIn wsX6_bar wsX6_asItIs := goodIn_r _ [11, 12, 13, 14, 15, 16, 17, 55, 56, 57, 58, 59, 60, 61, 62, 63, 64, 65, 66, 67, 68, 69, 70, 71, 72, 73, 74, 75, 76, 77, 78, 79, 80, 81, 82, 83, 84, 85, 86, 87] (by decide +kernel) (by decide +kernel)
set_option maxRecDepth 20000 in
theorem gX6_bar_X6_asItIs : GoodIn wsX6_bar (wsV RX6 139 RX6 yX6_asItIs wsX6_asItIs) := goodIn_app (goodIn_of _ (by decide +kernel)) ggX6_bar_X6_asItIs
set_option maxRecDepth 20000 in
theorem ggX6_bar_X6_pass : GoodIn wsX6_bar wsX6_pass := goodIn_r _ [21, 22, 12, 7, 14, 23, 24, 25, 5, 26, 27, 17, 28, 29, 30, 31, 32, 33, 34, 35, 36, 37, 38, 39, 40, 41, 42, 43, 44, 45, 46, 55, 56, 57, 58, 59, 60, 61, 62, 63, 64, 65, 66, 67, 68, 69, 70, 71, 72, 73, 74, 75, 76, 77, 78, 79, 80, 81, 82, 83, 84, 85, 86, 87] (by decide +kernel) (by decide +kernel)
set_option maxRecDepth 20000 in
theorem gX6_bar_X6_pass : GoodIn wsX6_bar (wsV RX6 136 RX6 yX6_pass wsX6_pass) := goodIn_app (goodIn_of _ (by decide +kernel)) ggX6_bar_X6_pass
set_option maxRecDepth 20000 in
theorem ggX6_bar_X6_layNow : GoodIn wsX6_bar wsX6_layNow := goodIn_r _ [50, 13, 12, 15, 14, 55, 56, 57, 58, 59, 60, 61, 62, 63, 64, 65, 66, 67, 68, 69, 70, 71, 72, 73, 74, 75, 76, 77, 78, 79, 80, 81, 82, 83, 84, 85, 86, 87] (by decide +kernel) (by decide +kernel)
set_option maxRecDepth 20000 in
theorem gX6_bar_X6_layNow : GoodIn wsX6_bar (wsV RX6 146 RX6 yX6_layNow wsX6_layNow) := goodIn_app (goodIn_of _ (by decide +kernel)) ggX6_bar_X6_layNow
set_option maxRecDepth 20000 in
theorem ggX6_bar_X6_rightNow : GoodIn wsX6_bar wsX6_rightNow := goodIn_r _ [54, 7, 12, 27, 55, 56, 57, 58, 59, 60, 61, 62, 63, 64, 65, 66, 67, 68, 69, 70, 71, 72, 73, 74, 75, 76, 77, 78, 79, 80, 81, 82, 83, 84, 85, 86, 87] (by decide +kernel) (by decide +kernel)
set_option maxRecDepth 20000 in
theorem gX6_bar_X6_rightNow : GoodIn wsX6_bar (wsV RX6 155 RX6 yX6_rightNow wsX6_rightNow) := goodIn_app (goodIn_of _ (by decide +kernel)) ggX6_bar_X6_rightNow
theorem dX6_bar_0 : decode cX6_bar 0 = .ok (.aload_n 0, 1) := by decide +kernel
theorem dX6_bar_1 : decode cX6_bar 1 = .ok (.invokevirtual 151, 3) := by decide +kernel
theorem dX6_bar_4 : decode cX6_bar 4 = .ok (.ifCond .eq 6, 3) := by decide +kernel
theorem dX6_bar_7 : decode cX6_bar 7 = .ok (.bipush (-103), 2) := by decide +kernel
theorem dX6_bar_9 : decode cX6_bar 9 = .ok (.ireturn, 1) := by decide +kernel
theorem dX6_bar_10 : decode cX6_bar 10 = .ok (.aload_n 0, 1) := by decide +kernel
theorem dX6_bar_11 : decode cX6_bar 11 = .ok (.invokevirtual 139, 3) := by decide +kernel
theorem dX6_bar_14 : decode cX6_bar 14 = .ok (.aload_n 0, 1) := by decide +kernel
theorem dX6_bar_15 : decode cX6_bar 15 = .ok (.invokevirtual 136, 3) := by decide +kernel
theorem dX6_bar_18 : decode cX6_bar 18 = .ok (.aload_n 0, 1) := by decide +kernel
theorem dX6_bar_19 : decode cX6_bar 19 = .ok (.invokevirtual 146, 3) := by decide +kernel
theorem dX6_bar_22 : decode cX6_bar 22 = .ok (.aload_n 0, 1) := by decide +kernel
theorem dX6_bar_23 : decode cX6_bar 23 = .ok (.dup, 1) := by decide +kernel
theorem dX6_bar_24 : decode cX6_bar 24 = .ok (.getfield 93, 3) := by decide +kernel
theorem dX6_bar_27 : decode cX6_bar 27 = .ok (.iconst 1, 1) := by decide +kernel
theorem dX6_bar_28 : decode cX6_bar 28 = .ok (.iadd, 1) := by decide +kernel
theorem dX6_bar_29 : decode cX6_bar 29 = .ok (.putfield 93, 3) := by decide +kernel
theorem dX6_bar_32 : decode cX6_bar 32 = .ok (.aload_n 0, 1) := by decide +kernel
theorem dX6_bar_33 : decode cX6_bar 33 = .ok (.invokevirtual 155, 3) := by decide +kernel
theorem dX6_bar_36 : decode cX6_bar 36 = .ok (.ireturn, 1) := by decide +kernel
set_option maxRecDepth 20000 in
theorem ggX6_skip_X6_lacks : GoodIn wsX6_skip wsX6_lacks := goodIn_r _ [6, 7, 31, 32, 33, 34, 35, 36, 37, 38, 39, 40, 41, 42, 43, 44, 45, 46, 47, 48, 49, 50, 51, 52, 53, 54, 55, 56, 57, 58, 59, 60, 61, 62, 63] (by decide +kernel) (by decide +kernel)
set_option maxRecDepth 20000 in
theorem gX6_skip_X6_lacks : GoodIn wsX6_skip (wsV RX6 151 RX6 yX6_lacks wsX6_lacks) := goodIn_app (goodIn_of _ (by decide +kernel)) ggX6_skip_X6_lacks
set_option maxRecDepth 20000 in
theorem ggX6_skip_X6_asItIs : GoodIn wsX6_skip wsX6_asItIs := goodIn_r _ [11, 12, 13, 14, 15, 16, 17, 31, 32, 33, 34, 35, 36, 37, 38, 39, 40, 41, 42, 43, 44, 45, 46, 47, 48, 49, 50, 51, 52, 53, 54, 55, 56, 57, 58, 59, 60, 61, 62, 63] (by decide +kernel) (by decide +kernel)
set_option maxRecDepth 20000 in
theorem gX6_skip_X6_asItIs : GoodIn wsX6_skip (wsV RX6 139 RX6 yX6_asItIs wsX6_asItIs) := goodIn_app (goodIn_of _ (by decide +kernel)) ggX6_skip_X6_asItIs
set_option maxRecDepth 20000 in
theorem ggX6_skip_X6_leaveOut : GoodIn wsX6_skip wsX6_leaveOut := goodIn_r _ [21, 7, 22, 12, 31, 32, 33, 34, 35, 36, 37, 38, 39, 40, 41, 42, 43, 44, 45, 46, 47, 48, 49, 50, 51, 52, 53, 54, 55, 56, 57, 58, 59, 60, 61, 62, 63] (by decide +kernel) (by decide +kernel)
set_option maxRecDepth 20000 in
theorem gX6_skip_X6_leaveOut : GoodIn wsX6_skip (wsV RX6 158 RX6 yX6_leaveOut wsX6_leaveOut) := goodIn_app (goodIn_of _ (by decide +kernel)) ggX6_skip_X6_leaveOut
set_option maxRecDepth 20000 in
theorem ggX6_skip_X6_layNow : GoodIn wsX6_skip wsX6_layNow := goodIn_r _ [26, 13, 12, 15, 14, 31, 32, 33, 34, 35, 36, 37, 38, 39, 40, 41, 42, 43, 44, 45, 46, 47, 48, 49, 50, 51, 52, 53, 54, 55, 56, 57, 58, 59, 60, 61, 62, 63] (by decide +kernel) (by decide +kernel)
set_option maxRecDepth 20000 in
theorem gX6_skip_X6_layNow : GoodIn wsX6_skip (wsV RX6 146 RX6 yX6_layNow wsX6_layNow) := goodIn_app (goodIn_of _ (by decide +kernel)) ggX6_skip_X6_layNow
set_option maxRecDepth 20000 in
theorem ggX6_skip_X6_rightNow : GoodIn wsX6_skip wsX6_rightNow := goodIn_r _ [30, 7, 12, 22, 31, 32, 33, 34, 35, 36, 37, 38, 39, 40, 41, 42, 43, 44, 45, 46, 47, 48, 49, 50, 51, 52, 53, 54, 55, 56, 57, 58, 59, 60, 61, 62, 63] (by decide +kernel) (by decide +kernel)
set_option maxRecDepth 20000 in
theorem gX6_skip_X6_rightNow : GoodIn wsX6_skip (wsV RX6 155 RX6 yX6_rightNow wsX6_rightNow) := goodIn_app (goodIn_of _ (by decide +kernel)) ggX6_skip_X6_rightNow
theorem dX6_skip_0 : decode cX6_skip 0 = .ok (.aload_n 0, 1) := by decide +kernel
theorem dX6_skip_1 : decode cX6_skip 1 = .ok (.invokevirtual 151, 3) := by decide +kernel
theorem dX6_skip_4 : decode cX6_skip 4 = .ok (.ifCond .eq 6, 3) := by decide +kernel
theorem dX6_skip_7 : decode cX6_skip 7 = .ok (.bipush (-103), 2) := by decide +kernel
theorem dX6_skip_9 : decode cX6_skip 9 = .ok (.ireturn, 1) := by decide +kernel
theorem dX6_skip_10 : decode cX6_skip 10 = .ok (.aload_n 0, 1) := by decide +kernel
theorem dX6_skip_11 : decode cX6_skip 11 = .ok (.invokevirtual 139, 3) := by decide +kernel
theorem dX6_skip_14 : decode cX6_skip 14 = .ok (.aload_n 0, 1) := by decide +kernel
theorem dX6_skip_15 : decode cX6_skip 15 = .ok (.invokevirtual 158, 3) := by decide +kernel
theorem dX6_skip_18 : decode cX6_skip 18 = .ok (.aload_n 0, 1) := by decide +kernel
theorem dX6_skip_19 : decode cX6_skip 19 = .ok (.invokevirtual 146, 3) := by decide +kernel
theorem dX6_skip_22 : decode cX6_skip 22 = .ok (.aload_n 0, 1) := by decide +kernel
theorem dX6_skip_23 : decode cX6_skip 23 = .ok (.dup, 1) := by decide +kernel
theorem dX6_skip_24 : decode cX6_skip 24 = .ok (.getfield 96, 3) := by decide +kernel
theorem dX6_skip_27 : decode cX6_skip 27 = .ok (.iconst 1, 1) := by decide +kernel
theorem dX6_skip_28 : decode cX6_skip 28 = .ok (.iadd, 1) := by decide +kernel
theorem dX6_skip_29 : decode cX6_skip 29 = .ok (.putfield 96, 3) := by decide +kernel
theorem dX6_skip_32 : decode cX6_skip 32 = .ok (.aload_n 0, 1) := by decide +kernel
theorem dX6_skip_33 : decode cX6_skip 33 = .ok (.invokevirtual 155, 3) := by decide +kernel
theorem dX6_skip_36 : decode cX6_skip 36 = .ok (.ireturn, 1) := by decide +kernel
set_option maxRecDepth 20000 in
theorem ggX6_loudOf_X6_isRow : GoodIn wsX6_loudOf wsX6_isRow := goodIn_r _ [7, 8, 9, 10, 6, 11, 12, 13, 14, 15, 16, 17, 18, 19, 20, 21, 22, 23, 24, 25, 26, 27, 28, 29, 30, 31, 32, 33, 34, 35, 36, 37, 38, 39, 40, 41, 42, 43, 44] (by decide +kernel) (by decide +kernel)
set_option maxRecDepth 20000 in
theorem gX6_loudOf_X6_isRow : GoodIn wsX6_loudOf (wsV RX6 116 RX6 yX6_isRow wsX6_isRow) := goodIn_app (goodIn_of _ (by decide +kernel)) ggX6_loudOf_X6_isRow
theorem dX6_loudOf_0 : decode cX6_loudOf 0 = .ok (.iload_n 2, 1) := by decide +kernel
theorem dX6_loudOf_1 : decode cX6_loudOf 1 = .ok (.iconst 2, 1) := by decide +kernel
theorem dX6_loudOf_2 : decode cX6_loudOf 2 = .ok (.irem, 1) := by decide +kernel
theorem dX6_loudOf_3 : decode cX6_loudOf 3 = .ok (.istore_n 3, 1) := by decide +kernel
theorem dX6_loudOf_4 : decode cX6_loudOf 4 = .ok (.iconst 0, 1) := by decide +kernel
theorem dX6_loudOf_5 : decode cX6_loudOf 5 = .ok (.istore 4, 2) := by decide +kernel
theorem dX6_loudOf_7 : decode cX6_loudOf 7 = .ok (.iload_n 1, 1) := by decide +kernel
theorem dX6_loudOf_8 : decode cX6_loudOf 8 = .ok (.iconst 2, 1) := by decide +kernel
theorem dX6_loudOf_9 : decode cX6_loudOf 9 = .ok (.isub, 1) := by decide +kernel
theorem dX6_loudOf_10 : decode cX6_loudOf 10 = .ok (.istore 5, 2) := by decide +kernel
theorem dX6_loudOf_12 : decode cX6_loudOf 12 = .ok (.iload 5, 2) := by decide +kernel
theorem dX6_loudOf_14 : decode cX6_loudOf 14 = .ok (.iload_n 1, 1) := by decide +kernel
theorem dX6_loudOf_15 : decode cX6_loudOf 15 = .ok (.iconst 2, 1) := by decide +kernel
theorem dX6_loudOf_16 : decode cX6_loudOf 16 = .ok (.iadd, 1) := by decide +kernel
theorem dX6_loudOf_17 : decode cX6_loudOf 17 = .ok (.if_icmp .gt 80, 3) := by decide +kernel
theorem dX6_loudOf_20 : decode cX6_loudOf 20 = .ok (.aload_n 0, 1) := by decide +kernel
theorem dX6_loudOf_21 : decode cX6_loudOf 21 = .ok (.iload 5, 2) := by decide +kernel
theorem dX6_loudOf_23 : decode cX6_loudOf 23 = .ok (.invokevirtual 116, 3) := by decide +kernel
theorem dX6_loudOf_26 : decode cX6_loudOf 26 = .ok (.ifCond .eq 32, 3) := by decide +kernel
theorem dX6_loudOf_29 : decode cX6_loudOf 29 = .ok (.aload_n 0, 1) := by decide +kernel
theorem dX6_loudOf_30 : decode cX6_loudOf 30 = .ok (.getfield 19, 3) := by decide +kernel
theorem dX6_loudOf_33 : decode cX6_loudOf 33 = .ok (.iload 5, 2) := by decide +kernel
theorem dX6_loudOf_35 : decode cX6_loudOf 35 = .ok (.iaload, 1) := by decide +kernel
theorem dX6_loudOf_36 : decode cX6_loudOf 36 = .ok (.iload_n 3, 1) := by decide +kernel
theorem dX6_loudOf_37 : decode cX6_loudOf 37 = .ok (.ishr, 1) := by decide +kernel
theorem dX6_loudOf_38 : decode cX6_loudOf 38 = .ok (.iconst 1, 1) := by decide +kernel
theorem dX6_loudOf_39 : decode cX6_loudOf 39 = .ok (.iand, 1) := by decide +kernel
theorem dX6_loudOf_40 : decode cX6_loudOf 40 = .ok (.iconst 1, 1) := by decide +kernel
theorem dX6_loudOf_41 : decode cX6_loudOf 41 = .ok (.if_icmp .ne 17, 3) := by decide +kernel
theorem dX6_loudOf_44 : decode cX6_loudOf 44 = .ok (.aload_n 0, 1) := by decide +kernel
theorem dX6_loudOf_45 : decode cX6_loudOf 45 = .ok (.getfield 16, 3) := by decide +kernel
theorem dX6_loudOf_48 : decode cX6_loudOf 48 = .ok (.iconst 3, 1) := by decide +kernel
theorem dX6_loudOf_49 : decode cX6_loudOf 49 = .ok (.iload 5, 2) := by decide +kernel
theorem dX6_loudOf_51 : decode cX6_loudOf 51 = .ok (.imul, 1) := by decide +kernel
theorem dX6_loudOf_52 : decode cX6_loudOf 52 = .ok (.iconst 1, 1) := by decide +kernel
theorem dX6_loudOf_53 : decode cX6_loudOf 53 = .ok (.iadd, 1) := by decide +kernel
theorem dX6_loudOf_54 : decode cX6_loudOf 54 = .ok (.iaload, 1) := by decide +kernel
theorem dX6_loudOf_55 : decode cX6_loudOf 55 = .ok (.goto 4, 3) := by decide +kernel
theorem dX6_loudOf_58 : decode cX6_loudOf 58 = .ok (.iconst 0, 1) := by decide +kernel
theorem dX6_loudOf_59 : decode cX6_loudOf 59 = .ok (.istore 6, 2) := by decide +kernel
theorem dX6_loudOf_61 : decode cX6_loudOf 61 = .ok (.iload 4, 2) := by decide +kernel
theorem dX6_loudOf_63 : decode cX6_loudOf 63 = .ok (.iload 5, 2) := by decide +kernel
theorem dX6_loudOf_65 : decode cX6_loudOf 65 = .ok (.iload_n 1, 1) := by decide +kernel
theorem dX6_loudOf_66 : decode cX6_loudOf 66 = .ok (.iconst 2, 1) := by decide +kernel
theorem dX6_loudOf_67 : decode cX6_loudOf 67 = .ok (.isub, 1) := by decide +kernel
theorem dX6_loudOf_68 : decode cX6_loudOf 68 = .ok (.if_icmp .eq 11, 3) := by decide +kernel
theorem dX6_loudOf_71 : decode cX6_loudOf 71 = .ok (.iload 5, 2) := by decide +kernel
theorem dX6_loudOf_73 : decode cX6_loudOf 73 = .ok (.iload_n 1, 1) := by decide +kernel
theorem dX6_loudOf_74 : decode cX6_loudOf 74 = .ok (.iconst 2, 1) := by decide +kernel
theorem dX6_loudOf_75 : decode cX6_loudOf 75 = .ok (.iadd, 1) := by decide +kernel
theorem dX6_loudOf_76 : decode cX6_loudOf 76 = .ok (.if_icmp .ne 10, 3) := by decide +kernel
theorem dX6_loudOf_79 : decode cX6_loudOf 79 = .ok (.iload 6, 2) := by decide +kernel
theorem dX6_loudOf_81 : decode cX6_loudOf 81 = .ok (.iconst 2, 1) := by decide +kernel
theorem dX6_loudOf_82 : decode cX6_loudOf 82 = .ok (.idiv, 1) := by decide +kernel
theorem dX6_loudOf_83 : decode cX6_loudOf 83 = .ok (.goto 5, 3) := by decide +kernel
theorem dX6_loudOf_86 : decode cX6_loudOf 86 = .ok (.iload 6, 2) := by decide +kernel
theorem dX6_loudOf_88 : decode cX6_loudOf 88 = .ok (.iadd, 1) := by decide +kernel
theorem dX6_loudOf_89 : decode cX6_loudOf 89 = .ok (.istore 4, 2) := by decide +kernel
theorem dX6_loudOf_91 : decode cX6_loudOf 91 = .ok (.iinc 5 1, 3) := by decide +kernel
theorem dX6_loudOf_94 : decode cX6_loudOf 94 = .ok (.goto (-82), 3) := by decide +kernel
theorem dX6_loudOf_97 : decode cX6_loudOf 97 = .ok (.iload 4, 2) := by decide +kernel
theorem dX6_loudOf_99 : decode cX6_loudOf 99 = .ok (.ireturn, 1) := by decide +kernel
set_option maxRecDepth 20000 in
theorem ggX6_loud_X6_isRow : GoodIn wsX6_loud wsX6_isRow := goodIn_r _ [6, 7, 8, 9, 5, 10, 17, 18, 19, 20, 21, 22, 23, 24, 25, 26, 27, 28, 29, 30, 31, 32, 33, 34, 35, 36, 37, 38, 39, 40, 41, 42, 43, 44, 45, 46, 47, 48, 49] (by decide +kernel) (by decide +kernel)
set_option maxRecDepth 20000 in
theorem gX6_loud_X6_isRow : GoodIn wsX6_loud (wsV RX6 116 RX6 yX6_isRow wsX6_isRow) := goodIn_app (goodIn_of _ (by decide +kernel)) ggX6_loud_X6_isRow
set_option maxRecDepth 20000 in
theorem ggX6_loud_X6_in : GoodIn wsX6_loud wsX6_in := goodIn_r _ [10] (by decide +kernel) (by decide +kernel)
set_option maxRecDepth 20000 in
theorem gX6_loud_X6_in : GoodIn wsX6_loud (va_wsS RX6 52 yX6_in wsX6_in) := goodIn_app (goodIn_of _ (by decide +kernel)) ggX6_loud_X6_in
set_option maxRecDepth 20000 in
theorem ggX6_loud_X6_loudOf : GoodIn wsX6_loud wsX6_loudOf := goodIn_r _ [14, 15, 16, 2, 3, 4, 5, 6, 7, 8, 9, 10, 17, 18, 19, 20, 21, 22, 23, 24, 25, 26, 27, 28, 29, 30, 31, 32, 33, 34, 35, 36, 37, 38, 39, 40, 41, 42, 43, 44, 45, 46, 47, 48, 49] (by decide +kernel) (by decide +kernel)
set_option maxRecDepth 20000 in
theorem gX6_loud_X6_loudOf : GoodIn wsX6_loud (wsV RX6 161 RX6 yX6_loudOf wsX6_loudOf) := goodIn_app (goodIn_of _ (by decide +kernel)) ggX6_loud_X6_loudOf
theorem dX6_loud_0 : decode cX6_loud 0 = .ok (.aload_n 0, 1) := by decide +kernel
theorem dX6_loud_1 : decode cX6_loud 1 = .ok (.iload_n 1, 1) := by decide +kernel
theorem dX6_loud_2 : decode cX6_loud 2 = .ok (.invokevirtual 116, 3) := by decide +kernel
theorem dX6_loud_5 : decode cX6_loud 5 = .ok (.ifCond .ne 6, 3) := by decide +kernel
theorem dX6_loud_8 : decode cX6_loud 8 = .ok (.bipush (-101), 2) := by decide +kernel
theorem dX6_loud_10 : decode cX6_loud 10 = .ok (.ireturn, 1) := by decide +kernel
theorem dX6_loud_11 : decode cX6_loud 11 = .ok (.iload_n 2, 1) := by decide +kernel
theorem dX6_loud_12 : decode cX6_loud 12 = .ok (.i2l, 1) := by decide +kernel
theorem dX6_loud_13 : decode cX6_loud 13 = .ok (.lconst 0, 1) := by decide +kernel
theorem dX6_loud_14 : decode cX6_loud 14 = .ok (.ldc2_w 74, 3) := by decide +kernel
theorem dX6_loud_17 : decode cX6_loud 17 = .ok (.invokestatic 52, 3) := by decide +kernel
theorem dX6_loud_20 : decode cX6_loud 20 = .ok (.ifCond .eq 12, 3) := by decide +kernel
theorem dX6_loud_23 : decode cX6_loud 23 = .ok (.aload_n 0, 1) := by decide +kernel
theorem dX6_loud_24 : decode cX6_loud 24 = .ok (.iload_n 1, 1) := by decide +kernel
theorem dX6_loud_25 : decode cX6_loud 25 = .ok (.iload_n 2, 1) := by decide +kernel
theorem dX6_loud_26 : decode cX6_loud 26 = .ok (.invokevirtual 161, 3) := by decide +kernel
theorem dX6_loud_29 : decode cX6_loud 29 = .ok (.goto 5, 3) := by decide +kernel
theorem dX6_loud_32 : decode cX6_loud 32 = .ok (.bipush (-102), 2) := by decide +kernel
theorem dX6_loud_34 : decode cX6_loud 34 = .ok (.ireturn, 1) := by decide +kernel
set_option maxRecDepth 20000 in
theorem ggX6_restOf_X6_asItIs : GoodIn wsX6_restOf wsX6_asItIs := goodIn_r _ [8, 2, 9, 10, 11, 12, 13, 42, 43, 44, 45, 46, 47, 48, 49, 50, 51, 52, 53, 54, 55, 56, 57, 58, 59, 60, 61, 62, 63, 64, 65, 66, 67, 68, 69, 70, 71, 72, 73, 74] (by decide +kernel) (by decide +kernel)
set_option maxRecDepth 20000 in
theorem gX6_restOf_X6_asItIs : GoodIn wsX6_restOf (wsV RX6 139 RX6 yX6_asItIs wsX6_asItIs) := goodIn_app (goodIn_of _ (by decide +kernel)) ggX6_restOf_X6_asItIs
set_option maxRecDepth 20000 in
theorem ggX6_restOf_X6_pass : GoodIn wsX6_restOf wsX6_pass := goodIn_r _ [17, 3, 2, 1, 10, 18, 19, 20, 7, 21, 22, 13, 23, 24, 25, 26, 27, 28, 29, 30, 31, 32, 33, 34, 35, 36, 37, 38, 39, 40, 41, 42, 43, 44, 45, 46, 47, 48, 49, 50, 51, 52, 53, 54, 55, 56, 57, 58, 59, 60, 61, 62, 63, 64, 65, 66, 67, 68, 69, 70, 71, 72, 73, 74] (by decide +kernel) (by decide +kernel)
set_option maxRecDepth 20000 in
theorem gX6_restOf_X6_pass : GoodIn wsX6_restOf (wsV RX6 136 RX6 yX6_pass wsX6_pass) := goodIn_app (goodIn_of _ (by decide +kernel)) ggX6_restOf_X6_pass
theorem dX6_restOf_0 : decode cX6_restOf 0 = .ok (.aload_n 0, 1) := by decide +kernel
theorem dX6_restOf_1 : decode cX6_restOf 1 = .ok (.invokevirtual 139, 3) := by decide +kernel
theorem dX6_restOf_4 : decode cX6_restOf 4 = .ok (.iconst 0, 1) := by decide +kernel
theorem dX6_restOf_5 : decode cX6_restOf 5 = .ok (.istore_n 1, 1) := by decide +kernel
theorem dX6_restOf_6 : decode cX6_restOf 6 = .ok (.iload_n 1, 1) := by decide +kernel
theorem dX6_restOf_7 : decode cX6_restOf 7 = .ok (.bipush 31, 2) := by decide +kernel
theorem dX6_restOf_9 : decode cX6_restOf 9 = .ok (.if_icmp .ge 62, 3) := by decide +kernel
theorem dX6_restOf_12 : decode cX6_restOf 12 = .ok (.aload_n 0, 1) := by decide +kernel
theorem dX6_restOf_13 : decode cX6_restOf 13 = .ok (.invokevirtual 136, 3) := by decide +kernel
theorem dX6_restOf_16 : decode cX6_restOf 16 = .ok (.iconst 1, 1) := by decide +kernel
theorem dX6_restOf_17 : decode cX6_restOf 17 = .ok (.istore_n 2, 1) := by decide +kernel
theorem dX6_restOf_18 : decode cX6_restOf 18 = .ok (.iconst 0, 1) := by decide +kernel
theorem dX6_restOf_19 : decode cX6_restOf 19 = .ok (.istore_n 3, 1) := by decide +kernel
theorem dX6_restOf_20 : decode cX6_restOf 20 = .ok (.iload_n 3, 1) := by decide +kernel
theorem dX6_restOf_21 : decode cX6_restOf 21 = .ok (.aload_n 0, 1) := by decide +kernel
theorem dX6_restOf_22 : decode cX6_restOf 22 = .ok (.getfield 84, 3) := by decide +kernel
theorem dX6_restOf_25 : decode cX6_restOf 25 = .ok (.if_icmp .ge 34, 3) := by decide +kernel
theorem dX6_restOf_28 : decode cX6_restOf 28 = .ok (.iload_n 2, 1) := by decide +kernel
theorem dX6_restOf_29 : decode cX6_restOf 29 = .ok (.ifCond .eq 22, 3) := by decide +kernel
theorem dX6_restOf_32 : decode cX6_restOf 32 = .ok (.aload_n 0, 1) := by decide +kernel
theorem dX6_restOf_33 : decode cX6_restOf 33 = .ok (.getfield 25, 3) := by decide +kernel
theorem dX6_restOf_36 : decode cX6_restOf 36 = .ok (.iload_n 3, 1) := by decide +kernel
theorem dX6_restOf_37 : decode cX6_restOf 37 = .ok (.iaload, 1) := by decide +kernel
theorem dX6_restOf_38 : decode cX6_restOf 38 = .ok (.aload_n 0, 1) := by decide +kernel
theorem dX6_restOf_39 : decode cX6_restOf 39 = .ok (.getfield 31, 3) := by decide +kernel
theorem dX6_restOf_42 : decode cX6_restOf 42 = .ok (.iload_n 3, 1) := by decide +kernel
theorem dX6_restOf_43 : decode cX6_restOf 43 = .ok (.iaload, 1) := by decide +kernel
theorem dX6_restOf_44 : decode cX6_restOf 44 = .ok (.if_icmp .ne 7, 3) := by decide +kernel
theorem dX6_restOf_47 : decode cX6_restOf 47 = .ok (.iconst 1, 1) := by decide +kernel
theorem dX6_restOf_48 : decode cX6_restOf 48 = .ok (.goto 4, 3) := by decide +kernel
theorem dX6_restOf_51 : decode cX6_restOf 51 = .ok (.iconst 0, 1) := by decide +kernel
theorem dX6_restOf_52 : decode cX6_restOf 52 = .ok (.istore_n 2, 1) := by decide +kernel
theorem dX6_restOf_53 : decode cX6_restOf 53 = .ok (.iinc 3 1, 3) := by decide +kernel
theorem dX6_restOf_56 : decode cX6_restOf 56 = .ok (.goto (-36), 3) := by decide +kernel
theorem dX6_restOf_59 : decode cX6_restOf 59 = .ok (.iload_n 2, 1) := by decide +kernel
theorem dX6_restOf_60 : decode cX6_restOf 60 = .ok (.ifCond .eq 5, 3) := by decide +kernel
theorem dX6_restOf_63 : decode cX6_restOf 63 = .ok (.iload_n 1, 1) := by decide +kernel
theorem dX6_restOf_64 : decode cX6_restOf 64 = .ok (.ireturn, 1) := by decide +kernel
theorem dX6_restOf_65 : decode cX6_restOf 65 = .ok (.iinc 1 1, 3) := by decide +kernel
theorem dX6_restOf_68 : decode cX6_restOf 68 = .ok (.goto (-62), 3) := by decide +kernel
theorem dX6_restOf_71 : decode cX6_restOf 71 = .ok (.iconst (-1), 1) := by decide +kernel
theorem dX6_restOf_72 : decode cX6_restOf 72 = .ok (.ireturn, 1) := by decide +kernel
set_option maxRecDepth 20000 in
theorem ggX6_rest_X6_lacks : GoodIn wsX6_rest wsX6_lacks := goodIn_r _ [5, 6, 50, 51, 52, 53, 54, 55, 56, 57, 58, 59, 60, 61, 62, 63, 64, 65, 66, 67, 68, 69, 70, 71, 72, 73, 74, 75, 76, 77, 78, 79, 80, 81, 82] (by decide +kernel) (by decide +kernel)
set_option maxRecDepth 20000 in
theorem gX6_rest_X6_lacks : GoodIn wsX6_rest (wsV RX6 151 RX6 yX6_lacks wsX6_lacks) := goodIn_app (goodIn_of _ (by decide +kernel)) ggX6_rest_X6_lacks
set_option maxRecDepth 20000 in
theorem ggX6_rest_X6_restOf : GoodIn wsX6_rest wsX6_restOf := goodIn_r _ [10, 6, 11, 12, 13, 14, 15, 4, 16, 17, 18, 19, 20, 21, 22, 23, 24, 25, 26, 27, 28, 29, 30, 31, 32, 33, 34, 35, 36, 37, 38, 39, 40, 41, 42, 43, 44, 45, 46, 47, 48, 49, 50, 51, 52, 53, 54, 55, 56, 57, 58, 59, 60, 61, 62, 63, 64, 65, 66, 67, 68, 69, 70, 71, 72, 73, 74, 75, 76, 77, 78, 79, 80, 81, 82] (by decide +kernel) (by decide +kernel)
set_option maxRecDepth 20000 in
theorem gX6_rest_X6_restOf : GoodIn wsX6_rest (wsV RX6 164 RX6 yX6_restOf wsX6_restOf) := goodIn_app (goodIn_of _ (by decide +kernel)) ggX6_rest_X6_restOf
theorem dX6_rest_0 : decode cX6_rest 0 = .ok (.aload_n 0, 1) := by decide +kernel
theorem dX6_rest_1 : decode cX6_rest 1 = .ok (.invokevirtual 151, 3) := by decide +kernel
theorem dX6_rest_4 : decode cX6_rest 4 = .ok (.ifCond .eq 8, 3) := by decide +kernel
theorem dX6_rest_7 : decode cX6_rest 7 = .ok (.bipush (-103), 2) := by decide +kernel
theorem dX6_rest_9 : decode cX6_rest 9 = .ok (.goto 7, 3) := by decide +kernel
theorem dX6_rest_12 : decode cX6_rest 12 = .ok (.aload_n 0, 1) := by decide +kernel
theorem dX6_rest_13 : decode cX6_rest 13 = .ok (.invokevirtual 164, 3) := by decide +kernel
theorem dX6_rest_16 : decode cX6_rest 16 = .ok (.ireturn, 1) := by decide +kernel
set_option maxRecDepth 20000 in
theorem ggX6_outcomeOf_X6_asItIs : GoodIn wsX6_outcomeOf wsX6_asItIs := goodIn_r _ [5, 6, 7, 8, 9, 10, 11, 50, 51, 52, 53, 54, 55, 56, 57, 58, 59, 60, 61, 62, 63, 64, 65, 66, 67, 68, 69, 70, 71, 72, 73, 74, 75, 76, 77, 78, 79, 80, 81, 82] (by decide +kernel) (by decide +kernel)
set_option maxRecDepth 20000 in
theorem gX6_outcomeOf_X6_asItIs : GoodIn wsX6_outcomeOf (wsV RX6 139 RX6 yX6_asItIs wsX6_asItIs) := goodIn_app (goodIn_of _ (by decide +kernel)) ggX6_outcomeOf_X6_asItIs
set_option maxRecDepth 20000 in
theorem ggX6_outcomeOf_X6_passAll : GoodIn wsX6_outcomeOf wsX6_passAll := goodIn_r _ [15, 16, 17, 18, 4, 19, 20, 6, 21, 8, 22, 23, 24, 25, 26, 11, 27, 28, 29, 30, 31, 32, 33, 34, 35, 36, 37, 38, 39, 40, 41, 42, 43, 44, 45, 50, 51, 52, 53, 54, 55, 56, 57, 58, 59, 60, 61, 62, 63, 64, 65, 66, 67, 68, 69, 70, 71, 72, 73, 74, 75, 76, 77, 78, 79, 80, 81, 82] (by decide +kernel) (by decide +kernel)
set_option maxRecDepth 20000 in
theorem gX6_outcomeOf_X6_passAll : GoodIn wsX6_outcomeOf (wsV RX6 167 RX6 yX6_passAll wsX6_passAll) := goodIn_app (goodIn_of _ (by decide +kernel)) ggX6_outcomeOf_X6_passAll
set_option maxRecDepth 20000 in
theorem ggX6_outcomeOf_X6_rightNow : GoodIn wsX6_outcomeOf wsX6_rightNow := goodIn_r _ [49, 21, 6, 26, 50, 51, 52, 53, 54, 55, 56, 57, 58, 59, 60, 61, 62, 63, 64, 65, 66, 67, 68, 69, 70, 71, 72, 73, 74, 75, 76, 77, 78, 79, 80, 81, 82] (by decide +kernel) (by decide +kernel)
set_option maxRecDepth 20000 in
theorem gX6_outcomeOf_X6_rightNow : GoodIn wsX6_outcomeOf (wsV RX6 155 RX6 yX6_rightNow wsX6_rightNow) := goodIn_app (goodIn_of _ (by decide +kernel)) ggX6_outcomeOf_X6_rightNow
theorem dX6_outcomeOf_0 : decode cX6_outcomeOf 0 = .ok (.aload_n 0, 1) := by decide +kernel
theorem dX6_outcomeOf_1 : decode cX6_outcomeOf 1 = .ok (.invokevirtual 139, 3) := by decide +kernel
theorem dX6_outcomeOf_4 : decode cX6_outcomeOf 4 = .ok (.aload_n 0, 1) := by decide +kernel
theorem dX6_outcomeOf_5 : decode cX6_outcomeOf 5 = .ok (.iload_n 1, 1) := by decide +kernel
theorem dX6_outcomeOf_6 : decode cX6_outcomeOf 6 = .ok (.invokevirtual 167, 3) := by decide +kernel
theorem dX6_outcomeOf_9 : decode cX6_outcomeOf 9 = .ok (.aload_n 0, 1) := by decide +kernel
theorem dX6_outcomeOf_10 : decode cX6_outcomeOf 10 = .ok (.invokevirtual 155, 3) := by decide +kernel
theorem dX6_outcomeOf_13 : decode cX6_outcomeOf 13 = .ok (.ireturn, 1) := by decide +kernel
set_option maxRecDepth 20000 in
theorem ggX6_outcome_X6_in : GoodIn wsX6_outcome wsX6_in := goodIn_r _ [5] (by decide +kernel) (by decide +kernel)
set_option maxRecDepth 20000 in
theorem gX6_outcome_X6_in : GoodIn wsX6_outcome (va_wsS RX6 52 yX6_in wsX6_in) := goodIn_app (goodIn_of _ (by decide +kernel)) ggX6_outcome_X6_in
set_option maxRecDepth 20000 in
theorem ggX6_outcome_X6_lacks : GoodIn wsX6_outcome wsX6_lacks := goodIn_r _ [9, 10, 59, 60, 61, 62, 63, 64, 65, 66, 67, 68, 69, 70, 71, 72, 73, 74, 75, 76, 77, 78, 79, 80, 81, 82, 83, 84, 85, 86, 87, 88, 89, 90, 91] (by decide +kernel) (by decide +kernel)
set_option maxRecDepth 20000 in
theorem gX6_outcome_X6_lacks : GoodIn wsX6_outcome (wsV RX6 151 RX6 yX6_lacks wsX6_lacks) := goodIn_app (goodIn_of _ (by decide +kernel)) ggX6_outcome_X6_lacks
set_option maxRecDepth 20000 in
theorem ggX6_outcome_X6_outcomeOf : GoodIn wsX6_outcome wsX6_outcomeOf := goodIn_r _ [14, 15, 16, 17, 4, 18, 19, 20, 21, 22, 23, 24, 25, 26, 27, 28, 29, 30, 31, 32, 33, 10, 34, 35, 36, 37, 38, 39, 40, 41, 42, 43, 44, 45, 46, 47, 48, 49, 50, 51, 52, 53, 54, 2, 3, 5, 55, 56, 57, 58, 59, 60, 61, 62, 63, 64, 65, 66, 67, 68, 69, 70, 71, 72, 73, 74, 75, 76, 77, 78, 79, 80, 81, 82, 83, 84, 85, 86, 87, 88, 89, 90, 91] (by decide +kernel) (by decide +kernel)
set_option maxRecDepth 20000 in
theorem gX6_outcome_X6_outcomeOf : GoodIn wsX6_outcome (wsV RX6 173 RX6 yX6_outcomeOf wsX6_outcomeOf) := goodIn_app (goodIn_of _ (by decide +kernel)) ggX6_outcome_X6_outcomeOf
theorem dX6_outcome_0 : decode cX6_outcome 0 = .ok (.iload_n 1, 1) := by decide +kernel
theorem dX6_outcome_1 : decode cX6_outcome 1 = .ok (.i2l, 1) := by decide +kernel
theorem dX6_outcome_2 : decode cX6_outcome 2 = .ok (.lconst 0, 1) := by decide +kernel
theorem dX6_outcome_3 : decode cX6_outcome 3 = .ok (.ldc2_w 171, 3) := by decide +kernel
theorem dX6_outcome_6 : decode cX6_outcome 6 = .ok (.invokestatic 52, 3) := by decide +kernel
theorem dX6_outcome_9 : decode cX6_outcome 9 = .ok (.ifCond .ne 6, 3) := by decide +kernel
theorem dX6_outcome_12 : decode cX6_outcome 12 = .ok (.bipush (-102), 2) := by decide +kernel
theorem dX6_outcome_14 : decode cX6_outcome 14 = .ok (.ireturn, 1) := by decide +kernel
theorem dX6_outcome_15 : decode cX6_outcome 15 = .ok (.aload_n 0, 1) := by decide +kernel
theorem dX6_outcome_16 : decode cX6_outcome 16 = .ok (.invokevirtual 151, 3) := by decide +kernel
theorem dX6_outcome_19 : decode cX6_outcome 19 = .ok (.ifCond .eq 8, 3) := by decide +kernel
theorem dX6_outcome_22 : decode cX6_outcome 22 = .ok (.bipush (-103), 2) := by decide +kernel
theorem dX6_outcome_24 : decode cX6_outcome 24 = .ok (.goto 8, 3) := by decide +kernel
theorem dX6_outcome_27 : decode cX6_outcome 27 = .ok (.aload_n 0, 1) := by decide +kernel
theorem dX6_outcome_28 : decode cX6_outcome 28 = .ok (.iload_n 1, 1) := by decide +kernel
theorem dX6_outcome_29 : decode cX6_outcome 29 = .ok (.invokevirtual 173, 3) := by decide +kernel
theorem dX6_outcome_32 : decode cX6_outcome 32 = .ok (.ireturn, 1) := by decide +kernel
set_option maxRecDepth 20000 in
theorem ggX6_trickOf_X6_outcomeOf : GoodIn wsX6_trickOf wsX6_outcomeOf := goodIn_r _ [5, 6, 7, 8, 4, 9, 10, 11, 12, 13, 14, 15, 16, 17, 18, 19, 20, 21, 22, 23, 24, 25, 26, 27, 28, 29, 30, 31, 32, 33, 34, 35, 36, 37, 38, 39, 40, 41, 42, 43, 44, 45, 46, 47, 48, 49, 50, 51, 52, 53, 58, 59, 60, 61, 62, 63, 64, 65, 66, 67, 68, 69, 70, 71, 72, 73, 74, 75, 76, 77, 78, 79, 80, 81, 82, 83, 84, 85, 86, 87, 88, 89, 90] (by decide +kernel) (by decide +kernel)
set_option maxRecDepth 20000 in
theorem gX6_trickOf_X6_outcomeOf : GoodIn wsX6_trickOf (wsV RX6 173 RX6 yX6_outcomeOf wsX6_outcomeOf) := goodIn_app (goodIn_of _ (by decide +kernel)) ggX6_trickOf_X6_outcomeOf
set_option maxRecDepth 20000 in
theorem ggX6_trickOf_X6_asItIs : GoodIn wsX6_trickOf wsX6_asItIs := goodIn_r _ [9, 10, 11, 12, 13, 14, 15, 58, 59, 60, 61, 62, 63, 64, 65, 66, 67, 68, 69, 70, 71, 72, 73, 74, 75, 76, 77, 78, 79, 80, 81, 82, 83, 84, 85, 86, 87, 88, 89, 90] (by decide +kernel) (by decide +kernel)
set_option maxRecDepth 20000 in
theorem gX6_trickOf_X6_asItIs : GoodIn wsX6_trickOf (wsV RX6 139 RX6 yX6_asItIs wsX6_asItIs) := goodIn_app (goodIn_of _ (by decide +kernel)) ggX6_trickOf_X6_asItIs
set_option maxRecDepth 20000 in
theorem ggX6_trickOf_X6_passAll : GoodIn wsX6_trickOf wsX6_passAll := goodIn_r _ [19, 20, 21, 22, 4, 23, 24, 10, 25, 12, 26, 27, 28, 29, 30, 15, 31, 32, 33, 34, 35, 36, 37, 38, 39, 40, 41, 42, 43, 44, 45, 46, 47, 48, 49, 58, 59, 60, 61, 62, 63, 64, 65, 66, 67, 68, 69, 70, 71, 72, 73, 74, 75, 76, 77, 78, 79, 80, 81, 82, 83, 84, 85, 86, 87, 88, 89, 90] (by decide +kernel) (by decide +kernel)
set_option maxRecDepth 20000 in
theorem gX6_trickOf_X6_passAll : GoodIn wsX6_trickOf (wsV RX6 167 RX6 yX6_passAll wsX6_passAll) := goodIn_app (goodIn_of _ (by decide +kernel)) ggX6_trickOf_X6_passAll
set_option maxRecDepth 20000 in
theorem ggX6_trickOf_X6_leaveOut : GoodIn wsX6_trickOf wsX6_leaveOut := goodIn_r _ [57, 25, 30, 10, 58, 59, 60, 61, 62, 63, 64, 65, 66, 67, 68, 69, 70, 71, 72, 73, 74, 75, 76, 77, 78, 79, 80, 81, 82, 83, 84, 85, 86, 87, 88, 89, 90] (by decide +kernel) (by decide +kernel)
set_option maxRecDepth 20000 in
theorem gX6_trickOf_X6_leaveOut : GoodIn wsX6_trickOf (wsV RX6 158 RX6 yX6_leaveOut wsX6_leaveOut) := goodIn_app (goodIn_of _ (by decide +kernel)) ggX6_trickOf_X6_leaveOut
set_option maxRecDepth 20000 in
theorem ggX6_trickOf_X6_rightNow : GoodIn wsX6_trickOf wsX6_rightNow := goodIn_r _ [53, 25, 10, 30, 58, 59, 60, 61, 62, 63, 64, 65, 66, 67, 68, 69, 70, 71, 72, 73, 74, 75, 76, 77, 78, 79, 80, 81, 82, 83, 84, 85, 86, 87, 88, 89, 90] (by decide +kernel) (by decide +kernel)
set_option maxRecDepth 20000 in
theorem gX6_trickOf_X6_rightNow : GoodIn wsX6_trickOf (wsV RX6 155 RX6 yX6_rightNow wsX6_rightNow) := goodIn_app (goodIn_of _ (by decide +kernel)) ggX6_trickOf_X6_rightNow
theorem dX6_trickOf_0 : decode cX6_trickOf 0 = .ok (.aload_n 0, 1) := by decide +kernel
theorem dX6_trickOf_1 : decode cX6_trickOf 1 = .ok (.iload_n 1, 1) := by decide +kernel
theorem dX6_trickOf_2 : decode cX6_trickOf 2 = .ok (.invokevirtual 173, 3) := by decide +kernel
theorem dX6_trickOf_5 : decode cX6_trickOf 5 = .ok (.istore_n 3, 1) := by decide +kernel
theorem dX6_trickOf_6 : decode cX6_trickOf 6 = .ok (.iconst (-1), 1) := by decide +kernel
theorem dX6_trickOf_7 : decode cX6_trickOf 7 = .ok (.istore 4, 2) := by decide +kernel
theorem dX6_trickOf_9 : decode cX6_trickOf 9 = .ok (.iconst 0, 1) := by decide +kernel
theorem dX6_trickOf_10 : decode cX6_trickOf 10 = .ok (.istore 5, 2) := by decide +kernel
theorem dX6_trickOf_12 : decode cX6_trickOf 12 = .ok (.iload 5, 2) := by decide +kernel
theorem dX6_trickOf_14 : decode cX6_trickOf 14 = .ok (.iload_n 1, 1) := by decide +kernel
theorem dX6_trickOf_15 : decode cX6_trickOf 15 = .ok (.if_icmp .ge 65, 3) := by decide +kernel
theorem dX6_trickOf_18 : decode cX6_trickOf 18 = .ok (.aload_n 0, 1) := by decide +kernel
theorem dX6_trickOf_19 : decode cX6_trickOf 19 = .ok (.invokevirtual 139, 3) := by decide +kernel
theorem dX6_trickOf_22 : decode cX6_trickOf 22 = .ok (.aload_n 0, 1) := by decide +kernel
theorem dX6_trickOf_23 : decode cX6_trickOf 23 = .ok (.iload 5, 2) := by decide +kernel
theorem dX6_trickOf_25 : decode cX6_trickOf 25 = .ok (.invokevirtual 167, 3) := by decide +kernel
theorem dX6_trickOf_28 : decode cX6_trickOf 28 = .ok (.aload_n 0, 1) := by decide +kernel
theorem dX6_trickOf_29 : decode cX6_trickOf 29 = .ok (.invokevirtual 158, 3) := by decide +kernel
theorem dX6_trickOf_32 : decode cX6_trickOf 32 = .ok (.aload_n 0, 1) := by decide +kernel
theorem dX6_trickOf_33 : decode cX6_trickOf 33 = .ok (.iload_n 1, 1) := by decide +kernel
theorem dX6_trickOf_34 : decode cX6_trickOf 34 = .ok (.iload 5, 2) := by decide +kernel
theorem dX6_trickOf_36 : decode cX6_trickOf 36 = .ok (.isub, 1) := by decide +kernel
theorem dX6_trickOf_37 : decode cX6_trickOf 37 = .ok (.invokevirtual 167, 3) := by decide +kernel
theorem dX6_trickOf_40 : decode cX6_trickOf 40 = .ok (.aload_n 0, 1) := by decide +kernel
theorem dX6_trickOf_41 : decode cX6_trickOf 41 = .ok (.invokevirtual 155, 3) := by decide +kernel
theorem dX6_trickOf_44 : decode cX6_trickOf 44 = .ok (.istore 6, 2) := by decide +kernel
theorem dX6_trickOf_46 : decode cX6_trickOf 46 = .ok (.iload 6, 2) := by decide +kernel
theorem dX6_trickOf_48 : decode cX6_trickOf 48 = .ok (.iload_n 3, 1) := by decide +kernel
theorem dX6_trickOf_49 : decode cX6_trickOf 49 = .ok (.if_icmp .le 8, 3) := by decide +kernel
theorem dX6_trickOf_52 : decode cX6_trickOf 52 = .ok (.iload 5, 2) := by decide +kernel
theorem dX6_trickOf_54 : decode cX6_trickOf 54 = .ok (.goto 5, 3) := by decide +kernel
theorem dX6_trickOf_57 : decode cX6_trickOf 57 = .ok (.iload 4, 2) := by decide +kernel
theorem dX6_trickOf_59 : decode cX6_trickOf 59 = .ok (.istore 4, 2) := by decide +kernel
theorem dX6_trickOf_61 : decode cX6_trickOf 61 = .ok (.iload 6, 2) := by decide +kernel
theorem dX6_trickOf_63 : decode cX6_trickOf 63 = .ok (.iload_n 3, 1) := by decide +kernel
theorem dX6_trickOf_64 : decode cX6_trickOf 64 = .ok (.if_icmp .le 8, 3) := by decide +kernel
theorem dX6_trickOf_67 : decode cX6_trickOf 67 = .ok (.iload 6, 2) := by decide +kernel
theorem dX6_trickOf_69 : decode cX6_trickOf 69 = .ok (.goto 4, 3) := by decide +kernel
theorem dX6_trickOf_72 : decode cX6_trickOf 72 = .ok (.iload_n 3, 1) := by decide +kernel
theorem dX6_trickOf_73 : decode cX6_trickOf 73 = .ok (.istore_n 3, 1) := by decide +kernel
theorem dX6_trickOf_74 : decode cX6_trickOf 74 = .ok (.iinc 5 1, 3) := by decide +kernel
theorem dX6_trickOf_77 : decode cX6_trickOf 77 = .ok (.goto (-65), 3) := by decide +kernel
theorem dX6_trickOf_80 : decode cX6_trickOf 80 = .ok (.iload_n 2, 1) := by decide +kernel
theorem dX6_trickOf_81 : decode cX6_trickOf 81 = .ok (.ifCond .ne 8, 3) := by decide +kernel
theorem dX6_trickOf_84 : decode cX6_trickOf 84 = .ok (.iload 4, 2) := by decide +kernel
theorem dX6_trickOf_86 : decode cX6_trickOf 86 = .ok (.goto 4, 3) := by decide +kernel
theorem dX6_trickOf_89 : decode cX6_trickOf 89 = .ok (.iload_n 3, 1) := by decide +kernel
theorem dX6_trickOf_90 : decode cX6_trickOf 90 = .ok (.ireturn, 1) := by decide +kernel
set_option maxRecDepth 20000 in
theorem ggX6_trick_X6_in : GoodIn wsX6_trick wsX6_in := goodIn_r _ [5] (by decide +kernel) (by decide +kernel)
set_option maxRecDepth 20000 in
theorem gX6_trick_X6_in : GoodIn wsX6_trick (va_wsS RX6 52 yX6_in wsX6_in) := goodIn_app (goodIn_of _ (by decide +kernel)) ggX6_trick_X6_in
set_option maxRecDepth 20000 in
theorem ggX6_trick_X6_lacks : GoodIn wsX6_trick wsX6_lacks := goodIn_r _ [9, 10, 67, 68, 69, 70, 71, 72, 73, 74, 75, 76, 77, 78, 79, 80, 81, 82, 83, 84, 85, 86, 87, 88, 89, 90, 91, 92, 93, 94, 95, 96, 97, 98, 99] (by decide +kernel) (by decide +kernel)
set_option maxRecDepth 20000 in
theorem gX6_trick_X6_lacks : GoodIn wsX6_trick (wsV RX6 151 RX6 yX6_lacks wsX6_lacks) := goodIn_app (goodIn_of _ (by decide +kernel)) ggX6_trick_X6_lacks
set_option maxRecDepth 20000 in
theorem ggX6_trick_X6_trickOf : GoodIn wsX6_trick wsX6_trickOf := goodIn_r _ [14, 15, 16, 17, 4, 18, 19, 20, 21, 22, 23, 24, 25, 26, 27, 28, 29, 30, 31, 32, 33, 34, 35, 36, 37, 10, 38, 39, 40, 41, 42, 43, 44, 45, 46, 47, 48, 49, 50, 51, 52, 53, 54, 55, 56, 57, 58, 2, 3, 5, 59, 60, 61, 62, 63, 64, 65, 66, 67, 68, 69, 70, 71, 72, 73, 74, 75, 76, 77, 78, 79, 80, 81, 82, 83, 84, 85, 86, 87, 88, 89, 90, 91, 92, 93, 94, 95, 96, 97, 98, 99] (by decide +kernel) (by decide +kernel)
set_option maxRecDepth 20000 in
theorem gX6_trick_X6_trickOf : GoodIn wsX6_trick (wsV RX6 178 RX6 yX6_trickOf wsX6_trickOf) := goodIn_app (goodIn_of _ (by decide +kernel)) ggX6_trick_X6_trickOf
theorem dX6_trick_0 : decode cX6_trick 0 = .ok (.iload_n 1, 1) := by decide +kernel
theorem dX6_trick_1 : decode cX6_trick 1 = .ok (.i2l, 1) := by decide +kernel
theorem dX6_trick_2 : decode cX6_trick 2 = .ok (.lconst 1, 1) := by decide +kernel
theorem dX6_trick_3 : decode cX6_trick 3 = .ok (.ldc2_w 176, 3) := by decide +kernel
theorem dX6_trick_6 : decode cX6_trick 6 = .ok (.invokestatic 52, 3) := by decide +kernel
theorem dX6_trick_9 : decode cX6_trick 9 = .ok (.ifCond .eq 13, 3) := by decide +kernel
theorem dX6_trick_12 : decode cX6_trick 12 = .ok (.iload_n 2, 1) := by decide +kernel
theorem dX6_trick_13 : decode cX6_trick 13 = .ok (.i2l, 1) := by decide +kernel
theorem dX6_trick_14 : decode cX6_trick 14 = .ok (.lconst 0, 1) := by decide +kernel
theorem dX6_trick_15 : decode cX6_trick 15 = .ok (.lconst 1, 1) := by decide +kernel
theorem dX6_trick_16 : decode cX6_trick 16 = .ok (.invokestatic 52, 3) := by decide +kernel
theorem dX6_trick_19 : decode cX6_trick 19 = .ok (.ifCond .ne 6, 3) := by decide +kernel
theorem dX6_trick_22 : decode cX6_trick 22 = .ok (.bipush (-102), 2) := by decide +kernel
theorem dX6_trick_24 : decode cX6_trick 24 = .ok (.ireturn, 1) := by decide +kernel
theorem dX6_trick_25 : decode cX6_trick 25 = .ok (.aload_n 0, 1) := by decide +kernel
theorem dX6_trick_26 : decode cX6_trick 26 = .ok (.invokevirtual 151, 3) := by decide +kernel
theorem dX6_trick_29 : decode cX6_trick 29 = .ok (.ifCond .eq 8, 3) := by decide +kernel
theorem dX6_trick_32 : decode cX6_trick 32 = .ok (.bipush (-103), 2) := by decide +kernel
theorem dX6_trick_34 : decode cX6_trick 34 = .ok (.goto 9, 3) := by decide +kernel
theorem dX6_trick_37 : decode cX6_trick 37 = .ok (.aload_n 0, 1) := by decide +kernel
theorem dX6_trick_38 : decode cX6_trick 38 = .ok (.iload_n 1, 1) := by decide +kernel
theorem dX6_trick_39 : decode cX6_trick 39 = .ok (.iload_n 2, 1) := by decide +kernel
theorem dX6_trick_40 : decode cX6_trick 40 = .ok (.invokevirtual 178, 3) := by decide +kernel
theorem dX6_trick_43 : decode cX6_trick 43 = .ok (.ireturn, 1) := by decide +kernel
set_option maxRecDepth 20000 in
theorem ggX6_isWonBy_X6_asItIs : GoodIn wsX6_isWonBy wsX6_asItIs := goodIn_r _ [7, 2, 8, 9, 10, 11, 12, 50, 51, 52, 53, 54, 55, 56, 57, 58, 59, 60, 61, 62, 63, 64, 65, 66, 67, 68, 69, 70, 71, 72, 73, 74, 75, 76, 77, 78, 79, 80, 81, 82] (by decide +kernel) (by decide +kernel)
set_option maxRecDepth 20000 in
theorem gX6_isWonBy_X6_asItIs : GoodIn wsX6_isWonBy (wsV RX6 139 RX6 yX6_asItIs wsX6_asItIs) := goodIn_app (goodIn_of _ (by decide +kernel)) ggX6_isWonBy_X6_asItIs
set_option maxRecDepth 20000 in
theorem ggX6_isWonBy_X6_makes : GoodIn wsX6_isWonBy wsX6_makes := goodIn_r _ [16, 2, 9, 50, 51, 52, 53, 54, 55, 56, 57, 58, 59, 60, 61, 62, 63, 64, 65, 66, 67, 68, 69, 70, 71, 72, 73, 74, 75, 76, 77, 78, 79, 80, 81, 82] (by decide +kernel) (by decide +kernel)
set_option maxRecDepth 20000 in
theorem gX6_isWonBy_X6_makes : GoodIn wsX6_isWonBy (wsV RX6 142 RX6 yX6_makes wsX6_makes) := goodIn_app (goodIn_of _ (by decide +kernel)) ggX6_isWonBy_X6_makes
set_option maxRecDepth 20000 in
theorem ggX6_isWonBy_X6_passAll : GoodIn wsX6_isWonBy wsX6_passAll := goodIn_r _ [20, 21, 22, 23, 6, 24, 25, 2, 1, 9, 26, 27, 28, 29, 30, 12, 31, 32, 33, 34, 35, 36, 37, 38, 39, 40, 41, 42, 43, 44, 45, 46, 47, 48, 49, 50, 51, 52, 53, 54, 55, 56, 57, 58, 59, 60, 61, 62, 63, 64, 65, 66, 67, 68, 69, 70, 71, 72, 73, 74, 75, 76, 77, 78, 79, 80, 81, 82] (by decide +kernel) (by decide +kernel)
set_option maxRecDepth 20000 in
theorem gX6_isWonBy_X6_passAll : GoodIn wsX6_isWonBy (wsV RX6 167 RX6 yX6_passAll wsX6_passAll) := goodIn_app (goodIn_of _ (by decide +kernel)) ggX6_isWonBy_X6_passAll
set_option maxRecDepth 20000 in
theorem ggX6_isWonBy_X6_isStubborn : GoodIn wsX6_isWonBy wsX6_isStubborn := goodIn_r _ [38, 30, 50, 51, 52, 53, 54, 55, 56, 57, 58, 59, 60, 61, 62, 63, 64, 65, 66, 67, 68, 69, 70, 71, 72, 73, 74, 75, 76, 77, 78, 79, 80, 81, 82] (by decide +kernel) (by decide +kernel)
set_option maxRecDepth 20000 in
theorem gX6_isWonBy_X6_isStubborn : GoodIn wsX6_isWonBy (wsV RX6 127 RX6 yX6_isStubborn wsX6_isStubborn) := goodIn_app (goodIn_of _ (by decide +kernel)) ggX6_isWonBy_X6_isStubborn
theorem dX6_isWonBy_0 : decode cX6_isWonBy 0 = .ok (.aload_n 0, 1) := by decide +kernel
theorem dX6_isWonBy_1 : decode cX6_isWonBy 1 = .ok (.invokevirtual 139, 3) := by decide +kernel
theorem dX6_isWonBy_4 : decode cX6_isWonBy 4 = .ok (.iconst 0, 1) := by decide +kernel
theorem dX6_isWonBy_5 : decode cX6_isWonBy 5 = .ok (.istore_n 3, 1) := by decide +kernel
theorem dX6_isWonBy_6 : decode cX6_isWonBy 6 = .ok (.iload_n 3, 1) := by decide +kernel
theorem dX6_isWonBy_7 : decode cX6_isWonBy 7 = .ok (.aload_n 0, 1) := by decide +kernel
theorem dX6_isWonBy_8 : decode cX6_isWonBy 8 = .ok (.getfield 84, 3) := by decide +kernel
theorem dX6_isWonBy_11 : decode cX6_isWonBy 11 = .ok (.if_icmp .ge 24, 3) := by decide +kernel
theorem dX6_isWonBy_14 : decode cX6_isWonBy 14 = .ok (.iload_n 1, 1) := by decide +kernel
theorem dX6_isWonBy_15 : decode cX6_isWonBy 15 = .ok (.iload_n 3, 1) := by decide +kernel
theorem dX6_isWonBy_16 : decode cX6_isWonBy 16 = .ok (.ishr, 1) := by decide +kernel
theorem dX6_isWonBy_17 : decode cX6_isWonBy 17 = .ok (.iconst 1, 1) := by decide +kernel
theorem dX6_isWonBy_18 : decode cX6_isWonBy 18 = .ok (.iand, 1) := by decide +kernel
theorem dX6_isWonBy_19 : decode cX6_isWonBy 19 = .ok (.iconst 1, 1) := by decide +kernel
theorem dX6_isWonBy_20 : decode cX6_isWonBy 20 = .ok (.if_icmp .ne 9, 3) := by decide +kernel
theorem dX6_isWonBy_23 : decode cX6_isWonBy 23 = .ok (.aload_n 0, 1) := by decide +kernel
theorem dX6_isWonBy_24 : decode cX6_isWonBy 24 = .ok (.iload_n 3, 1) := by decide +kernel
theorem dX6_isWonBy_25 : decode cX6_isWonBy 25 = .ok (.iconst 2, 1) := by decide +kernel
theorem dX6_isWonBy_26 : decode cX6_isWonBy 26 = .ok (.invokevirtual 142, 3) := by decide +kernel
theorem dX6_isWonBy_29 : decode cX6_isWonBy 29 = .ok (.iinc 3 1, 3) := by decide +kernel
theorem dX6_isWonBy_32 : decode cX6_isWonBy 32 = .ok (.goto (-26), 3) := by decide +kernel
theorem dX6_isWonBy_35 : decode cX6_isWonBy 35 = .ok (.aload_n 0, 1) := by decide +kernel
theorem dX6_isWonBy_36 : decode cX6_isWonBy 36 = .ok (.iload_n 2, 1) := by decide +kernel
theorem dX6_isWonBy_37 : decode cX6_isWonBy 37 = .ok (.invokevirtual 167, 3) := by decide +kernel
theorem dX6_isWonBy_40 : decode cX6_isWonBy 40 = .ok (.iconst 1, 1) := by decide +kernel
theorem dX6_isWonBy_41 : decode cX6_isWonBy 41 = .ok (.istore_n 3, 1) := by decide +kernel
theorem dX6_isWonBy_42 : decode cX6_isWonBy 42 = .ok (.iconst 0, 1) := by decide +kernel
theorem dX6_isWonBy_43 : decode cX6_isWonBy 43 = .ok (.istore 4, 2) := by decide +kernel
theorem dX6_isWonBy_45 : decode cX6_isWonBy 45 = .ok (.iload 4, 2) := by decide +kernel
theorem dX6_isWonBy_47 : decode cX6_isWonBy 47 = .ok (.aload_n 0, 1) := by decide +kernel
theorem dX6_isWonBy_48 : decode cX6_isWonBy 48 = .ok (.getfield 84, 3) := by decide +kernel
theorem dX6_isWonBy_51 : decode cX6_isWonBy 51 = .ok (.if_icmp .ge 39, 3) := by decide +kernel
theorem dX6_isWonBy_54 : decode cX6_isWonBy 54 = .ok (.iload_n 3, 1) := by decide +kernel
theorem dX6_isWonBy_55 : decode cX6_isWonBy 55 = .ok (.ifCond .eq 27, 3) := by decide +kernel
theorem dX6_isWonBy_58 : decode cX6_isWonBy 58 = .ok (.aload_n 0, 1) := by decide +kernel
theorem dX6_isWonBy_59 : decode cX6_isWonBy 59 = .ok (.iload 4, 2) := by decide +kernel
theorem dX6_isWonBy_61 : decode cX6_isWonBy 61 = .ok (.invokevirtual 127, 3) := by decide +kernel
theorem dX6_isWonBy_64 : decode cX6_isWonBy 64 = .ok (.ifCond .ne 14, 3) := by decide +kernel
theorem dX6_isWonBy_67 : decode cX6_isWonBy 67 = .ok (.aload_n 0, 1) := by decide +kernel
theorem dX6_isWonBy_68 : decode cX6_isWonBy 68 = .ok (.getfield 25, 3) := by decide +kernel
theorem dX6_isWonBy_71 : decode cX6_isWonBy 71 = .ok (.iload 4, 2) := by decide +kernel
theorem dX6_isWonBy_73 : decode cX6_isWonBy 73 = .ok (.iaload, 1) := by decide +kernel
theorem dX6_isWonBy_74 : decode cX6_isWonBy 74 = .ok (.iconst 2, 1) := by decide +kernel
theorem dX6_isWonBy_75 : decode cX6_isWonBy 75 = .ok (.if_icmp .ne 7, 3) := by decide +kernel
theorem dX6_isWonBy_78 : decode cX6_isWonBy 78 = .ok (.iconst 1, 1) := by decide +kernel
theorem dX6_isWonBy_79 : decode cX6_isWonBy 79 = .ok (.goto 4, 3) := by decide +kernel
theorem dX6_isWonBy_82 : decode cX6_isWonBy 82 = .ok (.iconst 0, 1) := by decide +kernel
theorem dX6_isWonBy_83 : decode cX6_isWonBy 83 = .ok (.istore_n 3, 1) := by decide +kernel
theorem dX6_isWonBy_84 : decode cX6_isWonBy 84 = .ok (.iinc 4 1, 3) := by decide +kernel
theorem dX6_isWonBy_87 : decode cX6_isWonBy 87 = .ok (.goto (-42), 3) := by decide +kernel
theorem dX6_isWonBy_90 : decode cX6_isWonBy 90 = .ok (.iload_n 3, 1) := by decide +kernel
theorem dX6_isWonBy_91 : decode cX6_isWonBy 91 = .ok (.ireturn, 1) := by decide +kernel
theorem dX6_ones_0 : decode cX6_ones 0 = .ok (.iconst 0, 1) := by decide +kernel
theorem dX6_ones_1 : decode cX6_ones 1 = .ok (.istore_n 1, 1) := by decide +kernel
theorem dX6_ones_2 : decode cX6_ones 2 = .ok (.iconst 0, 1) := by decide +kernel
theorem dX6_ones_3 : decode cX6_ones 3 = .ok (.istore_n 2, 1) := by decide +kernel
theorem dX6_ones_4 : decode cX6_ones 4 = .ok (.iload_n 2, 1) := by decide +kernel
theorem dX6_ones_5 : decode cX6_ones 5 = .ok (.bipush 8, 2) := by decide +kernel
theorem dX6_ones_7 : decode cX6_ones 7 = .ok (.if_icmp .ge 17, 3) := by decide +kernel
theorem dX6_ones_10 : decode cX6_ones 10 = .ok (.iload_n 1, 1) := by decide +kernel
theorem dX6_ones_11 : decode cX6_ones 11 = .ok (.iload_n 0, 1) := by decide +kernel
theorem dX6_ones_12 : decode cX6_ones 12 = .ok (.iload_n 2, 1) := by decide +kernel
theorem dX6_ones_13 : decode cX6_ones 13 = .ok (.ishr, 1) := by decide +kernel
theorem dX6_ones_14 : decode cX6_ones 14 = .ok (.iconst 1, 1) := by decide +kernel
theorem dX6_ones_15 : decode cX6_ones 15 = .ok (.iand, 1) := by decide +kernel
theorem dX6_ones_16 : decode cX6_ones 16 = .ok (.iadd, 1) := by decide +kernel
theorem dX6_ones_17 : decode cX6_ones 17 = .ok (.istore_n 1, 1) := by decide +kernel
theorem dX6_ones_18 : decode cX6_ones 18 = .ok (.iinc 2 1, 3) := by decide +kernel
theorem dX6_ones_21 : decode cX6_ones 21 = .ok (.goto (-17), 3) := by decide +kernel
theorem dX6_ones_24 : decode cX6_ones 24 = .ok (.iload_n 1, 1) := by decide +kernel
theorem dX6_ones_25 : decode cX6_ones 25 = .ok (.ireturn, 1) := by decide +kernel
set_option maxRecDepth 20000 in
theorem ggX6_turned_X6_in : GoodIn wsX6_turned wsX6_in := goodIn_r _ [7] (by decide +kernel) (by decide +kernel)
set_option maxRecDepth 20000 in
theorem gX6_turned_X6_in : GoodIn wsX6_turned (va_wsS RX6 52 yX6_in wsX6_in) := goodIn_app (goodIn_of _ (by decide +kernel)) ggX6_turned_X6_in
set_option maxRecDepth 20000 in
theorem ggX6_turned_X6_lacks : GoodIn wsX6_turned wsX6_lacks := goodIn_r _ [11, 3, 63, 64, 65, 66, 67, 68, 69, 70, 71, 72, 73, 74, 75, 76, 77, 78, 79, 80, 81, 82, 83, 84, 85, 86, 87, 88, 89, 90, 91, 92, 93, 94, 95] (by decide +kernel) (by decide +kernel)
set_option maxRecDepth 20000 in
theorem gX6_turned_X6_lacks : GoodIn wsX6_turned (wsV RX6 151 RX6 yX6_lacks wsX6_lacks) := goodIn_app (goodIn_of _ (by decide +kernel)) ggX6_turned_X6_lacks
set_option maxRecDepth 20000 in
theorem ggX6_turned_X6_ones : GoodIn wsX6_turned wsX6_ones := goodIn_r _ [14] (by decide +kernel) (by decide +kernel)
set_option maxRecDepth 20000 in
theorem gX6_turned_X6_ones : GoodIn wsX6_turned (va_wsS RX6 184 yX6_ones wsX6_ones) := goodIn_app (goodIn_of _ (by decide +kernel)) ggX6_turned_X6_ones
set_option maxRecDepth 20000 in
theorem ggX6_turned_X6_isWonBy : GoodIn wsX6_turned wsX6_isWonBy := goodIn_r _ [18, 3, 19, 20, 21, 22, 6, 23, 24, 25, 26, 27, 28, 29, 30, 31, 32, 33, 34, 35, 36, 37, 38, 39, 40, 41, 42, 43, 44, 45, 46, 47, 48, 49, 50, 51, 52, 53, 54, 55, 56, 57, 58, 59, 60, 61, 62, 4, 5, 7, 63, 64, 65, 66, 67, 68, 69, 70, 71, 72, 73, 74, 75, 76, 77, 78, 79, 80, 81, 82, 83, 84, 85, 86, 87, 88, 89, 90, 91, 92, 93, 94, 95] (by decide +kernel) (by decide +kernel)
set_option maxRecDepth 20000 in
theorem gX6_turned_X6_isWonBy : GoodIn wsX6_turned (wsV RX6 187 RX6 yX6_isWonBy wsX6_isWonBy) := goodIn_app (goodIn_of _ (by decide +kernel)) ggX6_turned_X6_isWonBy
theorem dX6_turned_0 : decode cX6_turned 0 = .ok (.iload_n 1, 1) := by decide +kernel
theorem dX6_turned_1 : decode cX6_turned 1 = .ok (.i2l, 1) := by decide +kernel
theorem dX6_turned_2 : decode cX6_turned 2 = .ok (.lconst 0, 1) := by decide +kernel
theorem dX6_turned_3 : decode cX6_turned 3 = .ok (.ldc2_w 176, 3) := by decide +kernel
theorem dX6_turned_6 : decode cX6_turned 6 = .ok (.invokestatic 52, 3) := by decide +kernel
theorem dX6_turned_9 : decode cX6_turned 9 = .ok (.ifCond .eq 13, 3) := by decide +kernel
theorem dX6_turned_12 : decode cX6_turned 12 = .ok (.iload_n 2, 1) := by decide +kernel
theorem dX6_turned_13 : decode cX6_turned 13 = .ok (.i2l, 1) := by decide +kernel
theorem dX6_turned_14 : decode cX6_turned 14 = .ok (.lconst 0, 1) := by decide +kernel
theorem dX6_turned_15 : decode cX6_turned 15 = .ok (.lconst 1, 1) := by decide +kernel
theorem dX6_turned_16 : decode cX6_turned 16 = .ok (.invokestatic 52, 3) := by decide +kernel
theorem dX6_turned_19 : decode cX6_turned 19 = .ok (.ifCond .ne 6, 3) := by decide +kernel
theorem dX6_turned_22 : decode cX6_turned 22 = .ok (.bipush (-102), 2) := by decide +kernel
theorem dX6_turned_24 : decode cX6_turned 24 = .ok (.ireturn, 1) := by decide +kernel
theorem dX6_turned_25 : decode cX6_turned 25 = .ok (.aload_n 0, 1) := by decide +kernel
theorem dX6_turned_26 : decode cX6_turned 26 = .ok (.invokevirtual 151, 3) := by decide +kernel
theorem dX6_turned_29 : decode cX6_turned 29 = .ok (.ifCond .ne 12, 3) := by decide +kernel
theorem dX6_turned_32 : decode cX6_turned 32 = .ok (.aload_n 0, 1) := by decide +kernel
theorem dX6_turned_33 : decode cX6_turned 33 = .ok (.getfield 181, 3) := by decide +kernel
theorem dX6_turned_36 : decode cX6_turned 36 = .ok (.bipush 30, 2) := by decide +kernel
theorem dX6_turned_38 : decode cX6_turned 38 = .ok (.if_icmp .ne 6, 3) := by decide +kernel
theorem dX6_turned_41 : decode cX6_turned 41 = .ok (.bipush (-103), 2) := by decide +kernel
theorem dX6_turned_43 : decode cX6_turned 43 = .ok (.ireturn, 1) := by decide +kernel
theorem dX6_turned_44 : decode cX6_turned 44 = .ok (.aload_n 0, 1) := by decide +kernel
theorem dX6_turned_45 : decode cX6_turned 45 = .ok (.dup, 1) := by decide +kernel
theorem dX6_turned_46 : decode cX6_turned 46 = .ok (.getfield 181, 3) := by decide +kernel
theorem dX6_turned_49 : decode cX6_turned 49 = .ok (.iconst 1, 1) := by decide +kernel
theorem dX6_turned_50 : decode cX6_turned 50 = .ok (.iadd, 1) := by decide +kernel
theorem dX6_turned_51 : decode cX6_turned 51 = .ok (.putfield 181, 3) := by decide +kernel
theorem dX6_turned_54 : decode cX6_turned 54 = .ok (.iconst (-1), 1) := by decide +kernel
theorem dX6_turned_55 : decode cX6_turned 55 = .ok (.istore_n 3, 1) := by decide +kernel
theorem dX6_turned_56 : decode cX6_turned 56 = .ok (.iconst 0, 1) := by decide +kernel
theorem dX6_turned_57 : decode cX6_turned 57 = .ok (.istore 4, 2) := by decide +kernel
theorem dX6_turned_59 : decode cX6_turned 59 = .ok (.iload 4, 2) := by decide +kernel
theorem dX6_turned_61 : decode cX6_turned 61 = .ok (.iconst 1, 1) := by decide +kernel
theorem dX6_turned_62 : decode cX6_turned 62 = .ok (.aload_n 0, 1) := by decide +kernel
theorem dX6_turned_63 : decode cX6_turned 63 = .ok (.getfield 84, 3) := by decide +kernel
theorem dX6_turned_66 : decode cX6_turned 66 = .ok (.ishl, 1) := by decide +kernel
theorem dX6_turned_67 : decode cX6_turned 67 = .ok (.if_icmp .ge 55, 3) := by decide +kernel
theorem dX6_turned_70 : decode cX6_turned 70 = .ok (.iload_n 3, 1) := by decide +kernel
theorem dX6_turned_71 : decode cX6_turned 71 = .ok (.iconst (-1), 1) := by decide +kernel
theorem dX6_turned_72 : decode cX6_turned 72 = .ok (.if_icmp .eq 15, 3) := by decide +kernel
theorem dX6_turned_75 : decode cX6_turned 75 = .ok (.iload 4, 2) := by decide +kernel
theorem dX6_turned_77 : decode cX6_turned 77 = .ok (.invokestatic 184, 3) := by decide +kernel
theorem dX6_turned_80 : decode cX6_turned 80 = .ok (.iload_n 3, 1) := by decide +kernel
theorem dX6_turned_81 : decode cX6_turned 81 = .ok (.invokestatic 184, 3) := by decide +kernel
theorem dX6_turned_84 : decode cX6_turned 84 = .ok (.if_icmp .ge 17, 3) := by decide +kernel
theorem dX6_turned_87 : decode cX6_turned 87 = .ok (.aload_n 0, 1) := by decide +kernel
theorem dX6_turned_88 : decode cX6_turned 88 = .ok (.iload 4, 2) := by decide +kernel
theorem dX6_turned_90 : decode cX6_turned 90 = .ok (.iload_n 1, 1) := by decide +kernel
theorem dX6_turned_91 : decode cX6_turned 91 = .ok (.invokevirtual 187, 3) := by decide +kernel
theorem dX6_turned_94 : decode cX6_turned 94 = .ok (.ifCond .eq 7, 3) := by decide +kernel
theorem dX6_turned_97 : decode cX6_turned 97 = .ok (.iconst 1, 1) := by decide +kernel
theorem dX6_turned_98 : decode cX6_turned 98 = .ok (.goto 4, 3) := by decide +kernel
theorem dX6_turned_101 : decode cX6_turned 101 = .ok (.iconst 0, 1) := by decide +kernel
theorem dX6_turned_102 : decode cX6_turned 102 = .ok (.istore 5, 2) := by decide +kernel
theorem dX6_turned_104 : decode cX6_turned 104 = .ok (.iload 5, 2) := by decide +kernel
theorem dX6_turned_106 : decode cX6_turned 106 = .ok (.ifCond .eq 8, 3) := by decide +kernel
theorem dX6_turned_109 : decode cX6_turned 109 = .ok (.iload 4, 2) := by decide +kernel
theorem dX6_turned_111 : decode cX6_turned 111 = .ok (.goto 4, 3) := by decide +kernel
theorem dX6_turned_114 : decode cX6_turned 114 = .ok (.iload_n 3, 1) := by decide +kernel
theorem dX6_turned_115 : decode cX6_turned 115 = .ok (.istore_n 3, 1) := by decide +kernel
theorem dX6_turned_116 : decode cX6_turned 116 = .ok (.iinc 4 1, 3) := by decide +kernel
theorem dX6_turned_119 : decode cX6_turned 119 = .ok (.goto (-60), 3) := by decide +kernel
theorem dX6_turned_122 : decode cX6_turned 122 = .ok (.iload_n 3, 1) := by decide +kernel
theorem dX6_turned_123 : decode cX6_turned 123 = .ok (.iconst (-1), 1) := by decide +kernel
theorem dX6_turned_124 : decode cX6_turned 124 = .ok (.if_icmp .eq 8, 3) := by decide +kernel
theorem dX6_turned_127 : decode cX6_turned 127 = .ok (.iload_n 2, 1) := by decide +kernel
theorem dX6_turned_128 : decode cX6_turned 128 = .ok (.iconst 1, 1) := by decide +kernel
theorem dX6_turned_129 : decode cX6_turned 129 = .ok (.if_icmp .ne 7, 3) := by decide +kernel
theorem dX6_turned_132 : decode cX6_turned 132 = .ok (.iload_n 3, 1) := by decide +kernel
theorem dX6_turned_133 : decode cX6_turned 133 = .ok (.goto 7, 3) := by decide +kernel
theorem dX6_turned_136 : decode cX6_turned 136 = .ok (.iload_n 3, 1) := by decide +kernel
theorem dX6_turned_137 : decode cX6_turned 137 = .ok (.invokestatic 184, 3) := by decide +kernel
theorem dX6_turned_140 : decode cX6_turned 140 = .ok (.ireturn, 1) := by decide +kernel
set_option maxRecDepth 20000 in
theorem ggX6_record_X6_in : GoodIn wsX6_record wsX6_in := goodIn_r _ [7] (by decide +kernel) (by decide +kernel)
set_option maxRecDepth 20000 in
theorem gX6_record_X6_in : GoodIn wsX6_record (va_wsS RX6 52 yX6_in wsX6_in) := goodIn_app (goodIn_of _ (by decide +kernel)) ggX6_record_X6_in
theorem dX6_record_0 : decode cX6_record 0 = .ok (.iload_n 1, 1) := by decide +kernel
theorem dX6_record_1 : decode cX6_record 1 = .ok (.i2l, 1) := by decide +kernel
theorem dX6_record_2 : decode cX6_record 2 = .ok (.lconst 0, 1) := by decide +kernel
theorem dX6_record_3 : decode cX6_record 3 = .ok (.ldc2_w 191, 3) := by decide +kernel
theorem dX6_record_6 : decode cX6_record 6 = .ok (.invokestatic 52, 3) := by decide +kernel
theorem dX6_record_9 : decode cX6_record 9 = .ok (.ifCond .ne 6, 3) := by decide +kernel
theorem dX6_record_12 : decode cX6_record 12 = .ok (.bipush (-102), 2) := by decide +kernel
theorem dX6_record_14 : decode cX6_record 14 = .ok (.ireturn, 1) := by decide +kernel
theorem dX6_record_15 : decode cX6_record 15 = .ok (.aload_n 0, 1) := by decide +kernel
theorem dX6_record_16 : decode cX6_record 16 = .ok (.getfield 99, 3) := by decide +kernel
theorem dX6_record_19 : decode cX6_record 19 = .ok (.bipush 8, 2) := by decide +kernel
theorem dX6_record_21 : decode cX6_record 21 = .ok (.if_icmp .ne 6, 3) := by decide +kernel
theorem dX6_record_24 : decode cX6_record 24 = .ok (.bipush (-104), 2) := by decide +kernel
theorem dX6_record_26 : decode cX6_record 26 = .ok (.ireturn, 1) := by decide +kernel
theorem dX6_record_27 : decode cX6_record 27 = .ok (.aload_n 0, 1) := by decide +kernel
theorem dX6_record_28 : decode cX6_record 28 = .ok (.getfield 34, 3) := by decide +kernel
theorem dX6_record_31 : decode cX6_record 31 = .ok (.aload_n 0, 1) := by decide +kernel
theorem dX6_record_32 : decode cX6_record 32 = .ok (.getfield 99, 3) := by decide +kernel
theorem dX6_record_35 : decode cX6_record 35 = .ok (.iload_n 1, 1) := by decide +kernel
theorem dX6_record_36 : decode cX6_record 36 = .ok (.iastore, 1) := by decide +kernel
theorem dX6_record_37 : decode cX6_record 37 = .ok (.aload_n 0, 1) := by decide +kernel
theorem dX6_record_38 : decode cX6_record 38 = .ok (.dup, 1) := by decide +kernel
theorem dX6_record_39 : decode cX6_record 39 = .ok (.getfield 99, 3) := by decide +kernel
theorem dX6_record_42 : decode cX6_record 42 = .ok (.iconst 1, 1) := by decide +kernel
theorem dX6_record_43 : decode cX6_record 43 = .ok (.iadd, 1) := by decide +kernel
theorem dX6_record_44 : decode cX6_record 44 = .ok (.putfield 99, 3) := by decide +kernel
theorem dX6_record_47 : decode cX6_record 47 = .ok (.aload_n 0, 1) := by decide +kernel
theorem dX6_record_48 : decode cX6_record 48 = .ok (.getfield 99, 3) := by decide +kernel
theorem dX6_record_51 : decode cX6_record 51 = .ok (.ireturn, 1) := by decide +kernel
theorem dX6_forget_0 : decode cX6_forget 0 = .ok (.aload_n 0, 1) := by decide +kernel
theorem dX6_forget_1 : decode cX6_forget 1 = .ok (.getfield 99, 3) := by decide +kernel
theorem dX6_forget_4 : decode cX6_forget 4 = .ok (.istore_n 1, 1) := by decide +kernel
theorem dX6_forget_5 : decode cX6_forget 5 = .ok (.aload_n 0, 1) := by decide +kernel
theorem dX6_forget_6 : decode cX6_forget 6 = .ok (.iconst 0, 1) := by decide +kernel
theorem dX6_forget_7 : decode cX6_forget 7 = .ok (.putfield 99, 3) := by decide +kernel
theorem dX6_forget_10 : decode cX6_forget 10 = .ok (.iload_n 1, 1) := by decide +kernel
theorem dX6_forget_11 : decode cX6_forget 11 = .ok (.ireturn, 1) := by decide +kernel
set_option maxRecDepth 20000 in
theorem ggX6_isRecordedBy_X6_pass : GoodIn wsX6_isRecordedBy wsX6_pass := goodIn_r _ [11, 12, 1, 13, 2, 14, 15, 16, 10, 17, 18, 4, 19, 20, 21, 22, 23, 24, 25, 26, 27, 28, 29, 30, 31, 32, 33, 34, 35, 36, 37, 42, 43, 44, 45, 46, 47, 48, 49, 50, 51, 52, 53, 54, 55, 56, 57, 58, 59, 60, 61, 62, 63, 64, 65, 66, 67, 68, 69, 70, 71, 72, 73, 74] (by decide +kernel) (by decide +kernel)
set_option maxRecDepth 20000 in
theorem gX6_isRecordedBy_X6_pass : GoodIn wsX6_isRecordedBy (wsV RX6 136 RX6 yX6_pass wsX6_pass) := goodIn_app (goodIn_of _ (by decide +kernel)) ggX6_isRecordedBy_X6_pass
set_option maxRecDepth 20000 in
theorem ggX6_isRecordedBy_X6_rightNow : GoodIn wsX6_isRecordedBy wsX6_rightNow := goodIn_r _ [41, 13, 1, 18, 42, 43, 44, 45, 46, 47, 48, 49, 50, 51, 52, 53, 54, 55, 56, 57, 58, 59, 60, 61, 62, 63, 64, 65, 66, 67, 68, 69, 70, 71, 72, 73, 74] (by decide +kernel) (by decide +kernel)
set_option maxRecDepth 20000 in
theorem gX6_isRecordedBy_X6_rightNow : GoodIn wsX6_isRecordedBy (wsV RX6 155 RX6 yX6_rightNow wsX6_rightNow) := goodIn_app (goodIn_of _ (by decide +kernel)) ggX6_isRecordedBy_X6_rightNow
theorem dX6_isRecordedBy_0 : decode cX6_isRecordedBy 0 = .ok (.iconst 0, 1) := by decide +kernel
theorem dX6_isRecordedBy_1 : decode cX6_isRecordedBy 1 = .ok (.istore 4, 2) := by decide +kernel
theorem dX6_isRecordedBy_3 : decode cX6_isRecordedBy 3 = .ok (.iload 4, 2) := by decide +kernel
theorem dX6_isRecordedBy_5 : decode cX6_isRecordedBy 5 = .ok (.bipush 8, 2) := by decide +kernel
theorem dX6_isRecordedBy_7 : decode cX6_isRecordedBy 7 = .ok (.if_icmp .ge 25, 3) := by decide +kernel
theorem dX6_isRecordedBy_10 : decode cX6_isRecordedBy 10 = .ok (.aload_n 0, 1) := by decide +kernel
theorem dX6_isRecordedBy_11 : decode cX6_isRecordedBy 11 = .ok (.getfield 25, 3) := by decide +kernel
theorem dX6_isRecordedBy_14 : decode cX6_isRecordedBy 14 = .ok (.iload 4, 2) := by decide +kernel
theorem dX6_isRecordedBy_16 : decode cX6_isRecordedBy 16 = .ok (.iconst 3, 1) := by decide +kernel
theorem dX6_isRecordedBy_17 : decode cX6_isRecordedBy 17 = .ok (.iastore, 1) := by decide +kernel
theorem dX6_isRecordedBy_18 : decode cX6_isRecordedBy 18 = .ok (.aload_n 0, 1) := by decide +kernel
theorem dX6_isRecordedBy_19 : decode cX6_isRecordedBy 19 = .ok (.getfield 28, 3) := by decide +kernel
theorem dX6_isRecordedBy_22 : decode cX6_isRecordedBy 22 = .ok (.iload 4, 2) := by decide +kernel
theorem dX6_isRecordedBy_24 : decode cX6_isRecordedBy 24 = .ok (.iconst 0, 1) := by decide +kernel
theorem dX6_isRecordedBy_25 : decode cX6_isRecordedBy 25 = .ok (.iastore, 1) := by decide +kernel
theorem dX6_isRecordedBy_26 : decode cX6_isRecordedBy 26 = .ok (.iinc 4 1, 3) := by decide +kernel
theorem dX6_isRecordedBy_29 : decode cX6_isRecordedBy 29 = .ok (.goto (-26), 3) := by decide +kernel
theorem dX6_isRecordedBy_32 : decode cX6_isRecordedBy 32 = .ok (.aload_n 0, 1) := by decide +kernel
theorem dX6_isRecordedBy_33 : decode cX6_isRecordedBy 33 = .ok (.aload_n 0, 1) := by decide +kernel
theorem dX6_isRecordedBy_34 : decode cX6_isRecordedBy 34 = .ok (.getfield 90, 3) := by decide +kernel
theorem dX6_isRecordedBy_37 : decode cX6_isRecordedBy 37 = .ok (.putfield 124, 3) := by decide +kernel
theorem dX6_isRecordedBy_40 : decode cX6_isRecordedBy 40 = .ok (.aload_n 0, 1) := by decide +kernel
theorem dX6_isRecordedBy_41 : decode cX6_isRecordedBy 41 = .ok (.getfield 25, 3) := by decide +kernel
theorem dX6_isRecordedBy_44 : decode cX6_isRecordedBy 44 = .ok (.iload_n 1, 1) := by decide +kernel
theorem dX6_isRecordedBy_45 : decode cX6_isRecordedBy 45 = .ok (.iload_n 3, 1) := by decide +kernel
theorem dX6_isRecordedBy_46 : decode cX6_isRecordedBy 46 = .ok (.iconst 2, 1) := by decide +kernel
theorem dX6_isRecordedBy_47 : decode cX6_isRecordedBy 47 = .ok (.idiv, 1) := by decide +kernel
theorem dX6_isRecordedBy_48 : decode cX6_isRecordedBy 48 = .ok (.iconst 1, 1) := by decide +kernel
theorem dX6_isRecordedBy_49 : decode cX6_isRecordedBy 49 = .ok (.iadd, 1) := by decide +kernel
theorem dX6_isRecordedBy_50 : decode cX6_isRecordedBy 50 = .ok (.iastore, 1) := by decide +kernel
theorem dX6_isRecordedBy_51 : decode cX6_isRecordedBy 51 = .ok (.aload_n 0, 1) := by decide +kernel
theorem dX6_isRecordedBy_52 : decode cX6_isRecordedBy 52 = .ok (.getfield 25, 3) := by decide +kernel
theorem dX6_isRecordedBy_55 : decode cX6_isRecordedBy 55 = .ok (.iload_n 2, 1) := by decide +kernel
theorem dX6_isRecordedBy_56 : decode cX6_isRecordedBy 56 = .ok (.iload_n 3, 1) := by decide +kernel
theorem dX6_isRecordedBy_57 : decode cX6_isRecordedBy 57 = .ok (.iconst 2, 1) := by decide +kernel
theorem dX6_isRecordedBy_58 : decode cX6_isRecordedBy 58 = .ok (.irem, 1) := by decide +kernel
theorem dX6_isRecordedBy_59 : decode cX6_isRecordedBy 59 = .ok (.iconst 1, 1) := by decide +kernel
theorem dX6_isRecordedBy_60 : decode cX6_isRecordedBy 60 = .ok (.iadd, 1) := by decide +kernel
theorem dX6_isRecordedBy_61 : decode cX6_isRecordedBy 61 = .ok (.iastore, 1) := by decide +kernel
theorem dX6_isRecordedBy_62 : decode cX6_isRecordedBy 62 = .ok (.iconst 1, 1) := by decide +kernel
theorem dX6_isRecordedBy_63 : decode cX6_isRecordedBy 63 = .ok (.istore 4, 2) := by decide +kernel
theorem dX6_isRecordedBy_65 : decode cX6_isRecordedBy 65 = .ok (.iconst 0, 1) := by decide +kernel
theorem dX6_isRecordedBy_66 : decode cX6_isRecordedBy 66 = .ok (.istore 5, 2) := by decide +kernel
theorem dX6_isRecordedBy_68 : decode cX6_isRecordedBy 68 = .ok (.iload 5, 2) := by decide +kernel
theorem dX6_isRecordedBy_70 : decode cX6_isRecordedBy 70 = .ok (.aload_n 0, 1) := by decide +kernel
theorem dX6_isRecordedBy_71 : decode cX6_isRecordedBy 71 = .ok (.getfield 99, 3) := by decide +kernel
theorem dX6_isRecordedBy_74 : decode cX6_isRecordedBy 74 = .ok (.if_icmp .ge 39, 3) := by decide +kernel
theorem dX6_isRecordedBy_77 : decode cX6_isRecordedBy 77 = .ok (.iload 4, 2) := by decide +kernel
theorem dX6_isRecordedBy_79 : decode cX6_isRecordedBy 79 = .ok (.ifCond .eq 34, 3) := by decide +kernel
theorem dX6_isRecordedBy_82 : decode cX6_isRecordedBy 82 = .ok (.aload_n 0, 1) := by decide +kernel
theorem dX6_isRecordedBy_83 : decode cX6_isRecordedBy 83 = .ok (.invokevirtual 136, 3) := by decide +kernel
theorem dX6_isRecordedBy_86 : decode cX6_isRecordedBy 86 = .ok (.aload_n 0, 1) := by decide +kernel
theorem dX6_isRecordedBy_87 : decode cX6_isRecordedBy 87 = .ok (.invokevirtual 155, 3) := by decide +kernel
theorem dX6_isRecordedBy_90 : decode cX6_isRecordedBy 90 = .ok (.aload_n 0, 1) := by decide +kernel
theorem dX6_isRecordedBy_91 : decode cX6_isRecordedBy 91 = .ok (.getfield 34, 3) := by decide +kernel
theorem dX6_isRecordedBy_94 : decode cX6_isRecordedBy 94 = .ok (.iload 5, 2) := by decide +kernel
theorem dX6_isRecordedBy_96 : decode cX6_isRecordedBy 96 = .ok (.iaload, 1) := by decide +kernel
theorem dX6_isRecordedBy_97 : decode cX6_isRecordedBy 97 = .ok (.if_icmp .ne 7, 3) := by decide +kernel
theorem dX6_isRecordedBy_100 : decode cX6_isRecordedBy 100 = .ok (.iconst 1, 1) := by decide +kernel
theorem dX6_isRecordedBy_101 : decode cX6_isRecordedBy 101 = .ok (.goto 4, 3) := by decide +kernel
theorem dX6_isRecordedBy_104 : decode cX6_isRecordedBy 104 = .ok (.iconst 0, 1) := by decide +kernel
theorem dX6_isRecordedBy_105 : decode cX6_isRecordedBy 105 = .ok (.istore 4, 2) := by decide +kernel
theorem dX6_isRecordedBy_107 : decode cX6_isRecordedBy 107 = .ok (.iinc 5 1, 3) := by decide +kernel
theorem dX6_isRecordedBy_110 : decode cX6_isRecordedBy 110 = .ok (.goto (-42), 3) := by decide +kernel
theorem dX6_isRecordedBy_113 : decode cX6_isRecordedBy 113 = .ok (.iload 4, 2) := by decide +kernel
theorem dX6_isRecordedBy_115 : decode cX6_isRecordedBy 115 = .ok (.ireturn, 1) := by decide +kernel
set_option maxRecDepth 20000 in
theorem ggX6_began_X6_in : GoodIn wsX6_began wsX6_in := goodIn_r _ [6] (by decide +kernel) (by decide +kernel)
set_option maxRecDepth 20000 in
theorem gX6_began_X6_in : GoodIn wsX6_began (va_wsS RX6 52 yX6_in wsX6_in) := goodIn_app (goodIn_of _ (by decide +kernel)) ggX6_began_X6_in
set_option maxRecDepth 20000 in
theorem ggX6_began_X6_lacks : GoodIn wsX6_began wsX6_lacks := goodIn_r _ [10, 2, 51, 52, 53, 54, 55, 56, 57, 58, 59, 60, 61, 62, 63, 64, 65, 66, 67, 68, 69, 70, 71, 72, 73, 74, 75, 76, 77, 78, 79, 80, 81, 82, 83] (by decide +kernel) (by decide +kernel)
set_option maxRecDepth 20000 in
theorem gX6_began_X6_lacks : GoodIn wsX6_began (wsV RX6 151 RX6 yX6_lacks wsX6_lacks) := goodIn_app (goodIn_of _ (by decide +kernel)) ggX6_began_X6_lacks
set_option maxRecDepth 20000 in
theorem ggX6_began_X6_isRecordedBy : GoodIn wsX6_began wsX6_isRecordedBy := goodIn_r _ [14, 15, 16, 17, 18, 19, 20, 21, 22, 23, 5, 24, 25, 2, 26, 27, 28, 29, 30, 31, 32, 33, 34, 35, 36, 37, 38, 39, 40, 41, 42, 43, 44, 45, 46, 3, 4, 6, 47, 48, 49, 50, 51, 52, 53, 54, 55, 56, 57, 58, 59, 60, 61, 62, 63, 64, 65, 66, 67, 68, 69, 70, 71, 72, 73, 74, 75, 76, 77, 78, 79, 80, 81, 82, 83] (by decide +kernel) (by decide +kernel)
set_option maxRecDepth 20000 in
theorem gX6_began_X6_isRecordedBy : GoodIn wsX6_began (wsV RX6 196 RX6 yX6_isRecordedBy wsX6_isRecordedBy) := goodIn_app (goodIn_of _ (by decide +kernel)) ggX6_began_X6_isRecordedBy
theorem dX6_began_0 : decode cX6_began 0 = .ok (.iload_n 1, 1) := by decide +kernel
theorem dX6_began_1 : decode cX6_began 1 = .ok (.i2l, 1) := by decide +kernel
theorem dX6_began_2 : decode cX6_began 2 = .ok (.lconst 0, 1) := by decide +kernel
theorem dX6_began_3 : decode cX6_began 3 = .ok (.lconst 1, 1) := by decide +kernel
theorem dX6_began_4 : decode cX6_began 4 = .ok (.invokestatic 52, 3) := by decide +kernel
theorem dX6_began_7 : decode cX6_began 7 = .ok (.ifCond .ne 6, 3) := by decide +kernel
theorem dX6_began_10 : decode cX6_began 10 = .ok (.bipush (-102), 2) := by decide +kernel
theorem dX6_began_12 : decode cX6_began 12 = .ok (.ireturn, 1) := by decide +kernel
theorem dX6_began_13 : decode cX6_began 13 = .ok (.aload_n 0, 1) := by decide +kernel
theorem dX6_began_14 : decode cX6_began 14 = .ok (.invokevirtual 151, 3) := by decide +kernel
theorem dX6_began_17 : decode cX6_began 17 = .ok (.ifCond .ne 12, 3) := by decide +kernel
theorem dX6_began_20 : decode cX6_began 20 = .ok (.aload_n 0, 1) := by decide +kernel
theorem dX6_began_21 : decode cX6_began 21 = .ok (.getfield 193, 3) := by decide +kernel
theorem dX6_began_24 : decode cX6_began 24 = .ok (.bipush 30, 2) := by decide +kernel
theorem dX6_began_26 : decode cX6_began 26 = .ok (.if_icmp .ne 6, 3) := by decide +kernel
theorem dX6_began_29 : decode cX6_began 29 = .ok (.bipush (-103), 2) := by decide +kernel
theorem dX6_began_31 : decode cX6_began 31 = .ok (.ireturn, 1) := by decide +kernel
theorem dX6_began_32 : decode cX6_began 32 = .ok (.aload_n 0, 1) := by decide +kernel
theorem dX6_began_33 : decode cX6_began 33 = .ok (.dup, 1) := by decide +kernel
theorem dX6_began_34 : decode cX6_began 34 = .ok (.getfield 193, 3) := by decide +kernel
theorem dX6_began_37 : decode cX6_began 37 = .ok (.iconst 1, 1) := by decide +kernel
theorem dX6_began_38 : decode cX6_began 38 = .ok (.iadd, 1) := by decide +kernel
theorem dX6_began_39 : decode cX6_began 39 = .ok (.putfield 193, 3) := by decide +kernel
theorem dX6_began_42 : decode cX6_began 42 = .ok (.iconst 0, 1) := by decide +kernel
theorem dX6_began_43 : decode cX6_began 43 = .ok (.istore_n 2, 1) := by decide +kernel
theorem dX6_began_44 : decode cX6_began 44 = .ok (.iconst (-1), 1) := by decide +kernel
theorem dX6_began_45 : decode cX6_began 45 = .ok (.istore_n 3, 1) := by decide +kernel
theorem dX6_began_46 : decode cX6_began 46 = .ok (.sipush 255, 3) := by decide +kernel
theorem dX6_began_49 : decode cX6_began 49 = .ok (.istore 4, 2) := by decide +kernel
theorem dX6_began_51 : decode cX6_began 51 = .ok (.iload 4, 2) := by decide +kernel
theorem dX6_began_53 : decode cX6_began 53 = .ok (.ifCond .lt 88, 3) := by decide +kernel
theorem dX6_began_56 : decode cX6_began 56 = .ok (.iload 4, 2) := by decide +kernel
theorem dX6_began_58 : decode cX6_began 58 = .ok (.bipush 32, 2) := by decide +kernel
theorem dX6_began_60 : decode cX6_began 60 = .ok (.idiv, 1) := by decide +kernel
theorem dX6_began_61 : decode cX6_began 61 = .ok (.istore 5, 2) := by decide +kernel
theorem dX6_began_63 : decode cX6_began 63 = .ok (.iload 4, 2) := by decide +kernel
theorem dX6_began_65 : decode cX6_began 65 = .ok (.iconst 4, 1) := by decide +kernel
theorem dX6_began_66 : decode cX6_began 66 = .ok (.idiv, 1) := by decide +kernel
theorem dX6_began_67 : decode cX6_began 67 = .ok (.bipush 8, 2) := by decide +kernel
theorem dX6_began_69 : decode cX6_began 69 = .ok (.irem, 1) := by decide +kernel
theorem dX6_began_70 : decode cX6_began 70 = .ok (.istore 6, 2) := by decide +kernel
theorem dX6_began_72 : decode cX6_began 72 = .ok (.iload 5, 2) := by decide +kernel
theorem dX6_began_74 : decode cX6_began 74 = .ok (.iload 6, 2) := by decide +kernel
theorem dX6_began_76 : decode cX6_began 76 = .ok (.if_icmp .ge 31, 3) := by decide +kernel
theorem dX6_began_79 : decode cX6_began 79 = .ok (.iload 6, 2) := by decide +kernel
theorem dX6_began_81 : decode cX6_began 81 = .ok (.aload_n 0, 1) := by decide +kernel
theorem dX6_began_82 : decode cX6_began 82 = .ok (.getfield 84, 3) := by decide +kernel
theorem dX6_began_85 : decode cX6_began 85 = .ok (.if_icmp .ge 22, 3) := by decide +kernel
theorem dX6_began_88 : decode cX6_began 88 = .ok (.aload_n 0, 1) := by decide +kernel
theorem dX6_began_89 : decode cX6_began 89 = .ok (.iload 5, 2) := by decide +kernel
theorem dX6_began_91 : decode cX6_began 91 = .ok (.iload 6, 2) := by decide +kernel
theorem dX6_began_93 : decode cX6_began 93 = .ok (.iload 4, 2) := by decide +kernel
theorem dX6_began_95 : decode cX6_began 95 = .ok (.iconst 4, 1) := by decide +kernel
theorem dX6_began_96 : decode cX6_began 96 = .ok (.irem, 1) := by decide +kernel
theorem dX6_began_97 : decode cX6_began 97 = .ok (.invokevirtual 196, 3) := by decide +kernel
theorem dX6_began_100 : decode cX6_began 100 = .ok (.ifCond .eq 7, 3) := by decide +kernel
theorem dX6_began_103 : decode cX6_began 103 = .ok (.iconst 1, 1) := by decide +kernel
theorem dX6_began_104 : decode cX6_began 104 = .ok (.goto 4, 3) := by decide +kernel
theorem dX6_began_107 : decode cX6_began 107 = .ok (.iconst 0, 1) := by decide +kernel
theorem dX6_began_108 : decode cX6_began 108 = .ok (.istore 7, 2) := by decide +kernel
theorem dX6_began_110 : decode cX6_began 110 = .ok (.iload_n 2, 1) := by decide +kernel
theorem dX6_began_111 : decode cX6_began 111 = .ok (.iload 7, 2) := by decide +kernel
theorem dX6_began_113 : decode cX6_began 113 = .ok (.ifCond .eq 7, 3) := by decide +kernel
theorem dX6_began_116 : decode cX6_began 116 = .ok (.iconst 1, 1) := by decide +kernel
