theorem dX5_image_26 : decode cX5_image 26 = .ok (.putfield 40, 3) := by decide +kernel
theorem dX5_image_29 : decode cX5_image 29 = .ok (.aload_n 0, 1) := by decide +kernel
theorem dX5_image_30 : decode cX5_image 30 = .ok (.getfield 30, 3) := by decide +kernel
theorem dX5_image_33 : decode cX5_image 33 = .ok (.getfield 121, 3) := by decide +kernel
theorem dX5_image_36 : decode cX5_image 36 = .ok (.ireturn, 1) := by decide +kernel
set_option maxRecDepth 20000 in
theorem ggX5_restore_X3_takeFrom : GoodIn wsX5_restore wsX3_takeFrom := goodIn_r _ [8, 9, 10, 11, 12, 13, 14, 15, 16, 17, 18, 19, 20, 21, 31, 32, 33, 34, 35, 36, 37, 38, 39] (by decide +kernel) (by decide +kernel)
set_option maxRecDepth 20000 in
theorem gX5_restore_X3_takeFrom : GoodIn wsX5_restore (wsV RX5 172 RX3 yX3_takeFrom wsX3_takeFrom) := goodIn_app (goodIn_of _ (by decide +kernel)) ggX5_restore_X3_takeFrom
theorem dX5_restore_0 : decode cX5_restore 0 = .ok (.aload_n 0, 1) := by decide +kernel
theorem dX5_restore_1 : decode cX5_restore 1 = .ok (.getfield 40, 3) := by decide +kernel
theorem dX5_restore_4 : decode cX5_restore 4 = .ok (.ifCond .ne 6, 3) := by decide +kernel
theorem dX5_restore_7 : decode cX5_restore 7 = .ok (.bipush (-103), 2) := by decide +kernel
theorem dX5_restore_9 : decode cX5_restore 9 = .ok (.ireturn, 1) := by decide +kernel
theorem dX5_restore_10 : decode cX5_restore 10 = .ok (.aload_n 0, 1) := by decide +kernel
theorem dX5_restore_11 : decode cX5_restore 11 = .ok (.getfield 26, 3) := by decide +kernel
theorem dX5_restore_14 : decode cX5_restore 14 = .ok (.aload_n 0, 1) := by decide +kernel
theorem dX5_restore_15 : decode cX5_restore 15 = .ok (.getfield 30, 3) := by decide +kernel
theorem dX5_restore_18 : decode cX5_restore 18 = .ok (.invokevirtual 172, 3) := by decide +kernel
theorem dX5_restore_21 : decode cX5_restore 21 = .ok (.aload_n 0, 1) := by decide +kernel
theorem dX5_restore_22 : decode cX5_restore 22 = .ok (.getfield 26, 3) := by decide +kernel
theorem dX5_restore_25 : decode cX5_restore 25 = .ok (.getfield 121, 3) := by decide +kernel
theorem dX5_restore_28 : decode cX5_restore 28 = .ok (.ireturn, 1) := by decide +kernel
set_option maxRecDepth 20000 in
theorem ggX5_count_X2_allPalms : GoodIn wsX5_count wsX2_allPalms := goodIn_r _ [11, 12, 13, 33, 34, 35, 36, 37] (by decide +kernel) (by decide +kernel)
set_option maxRecDepth 20000 in
theorem gX5_count_X2_allPalms : GoodIn wsX5_count (wsV RX5 179 RX2 yX2_allPalms wsX2_allPalms) := goodIn_app (goodIn_of _ (by decide +kernel)) ggX5_count_X2_allPalms
set_option maxRecDepth 20000 in
theorem ggX5_count_X0_palmsRight : GoodIn wsX5_count wsX0_palmsRight := goodIn_r _ [18, 19, 20, 21, 22, 10, 23, 12, 13, 33, 34, 35, 36, 37, 43, 44, 45, 46] (by decide +kernel) (by decide +kernel)
set_option maxRecDepth 20000 in
theorem gX5_count_X0_palmsRight : GoodIn wsX5_count (wsV RX5 124 RX0 yX0_palmsRight wsX0_palmsRight) := goodIn_app (goodIn_of _ (by decide +kernel)) ggX5_count_X0_palmsRight
theorem dX5_count_0 : decode cX5_count 0 = .ok (.iload_n 1, 1) := by decide +kernel
theorem dX5_count_1 : decode cX5_count 1 = .ok (.tableswitch 160 0 11 #[63, 71, 79, 87, 102, 113, 121, 129, 137, 145, 150, 155], 63) := by decide +kernel
theorem dX5_count_64 : decode cX5_count 64 = .ok (.aload_n 0, 1) := by decide +kernel
theorem dX5_count_65 : decode cX5_count 65 = .ok (.getfield 19, 3) := by decide +kernel
theorem dX5_count_68 : decode cX5_count 68 = .ok (.getfield 83, 3) := by decide +kernel
theorem dX5_count_71 : decode cX5_count 71 = .ok (.ireturn, 1) := by decide +kernel
theorem dX5_count_72 : decode cX5_count 72 = .ok (.aload_n 0, 1) := by decide +kernel
theorem dX5_count_73 : decode cX5_count 73 = .ok (.getfield 19, 3) := by decide +kernel
theorem dX5_count_76 : decode cX5_count 76 = .ok (.getfield 176, 3) := by decide +kernel
theorem dX5_count_79 : decode cX5_count 79 = .ok (.ireturn, 1) := by decide +kernel
theorem dX5_count_80 : decode cX5_count 80 = .ok (.aload_n 0, 1) := by decide +kernel
theorem dX5_count_81 : decode cX5_count 81 = .ok (.getfield 19, 3) := by decide +kernel
theorem dX5_count_84 : decode cX5_count 84 = .ok (.invokevirtual 179, 3) := by decide +kernel
theorem dX5_count_87 : decode cX5_count 87 = .ok (.ireturn, 1) := by decide +kernel
theorem dX5_count_88 : decode cX5_count 88 = .ok (.aload_n 0, 1) := by decide +kernel
theorem dX5_count_89 : decode cX5_count 89 = .ok (.getfield 26, 3) := by decide +kernel
theorem dX5_count_92 : decode cX5_count 92 = .ok (.getfield 97, 3) := by decide +kernel
theorem dX5_count_95 : decode cX5_count 95 = .ok (.aload_n 0, 1) := by decide +kernel
theorem dX5_count_96 : decode cX5_count 96 = .ok (.getfield 19, 3) := by decide +kernel
theorem dX5_count_99 : decode cX5_count 99 = .ok (.invokevirtual 124, 3) := by decide +kernel
theorem dX5_count_102 : decode cX5_count 102 = .ok (.ireturn, 1) := by decide +kernel
theorem dX5_count_103 : decode cX5_count 103 = .ok (.aload_n 0, 1) := by decide +kernel
theorem dX5_count_104 : decode cX5_count 104 = .ok (.getfield 26, 3) := by decide +kernel
theorem dX5_count_107 : decode cX5_count 107 = .ok (.getfield 97, 3) := by decide +kernel
theorem dX5_count_110 : decode cX5_count 110 = .ok (.getfield 114, 3) := by decide +kernel
theorem dX5_count_113 : decode cX5_count 113 = .ok (.ireturn, 1) := by decide +kernel
theorem dX5_count_114 : decode cX5_count 114 = .ok (.aload_n 0, 1) := by decide +kernel
theorem dX5_count_115 : decode cX5_count 115 = .ok (.getfield 26, 3) := by decide +kernel
theorem dX5_count_118 : decode cX5_count 118 = .ok (.getfield 121, 3) := by decide +kernel
theorem dX5_count_121 : decode cX5_count 121 = .ok (.ireturn, 1) := by decide +kernel
theorem dX5_count_122 : decode cX5_count 122 = .ok (.aload_n 0, 1) := by decide +kernel
theorem dX5_count_123 : decode cX5_count 123 = .ok (.getfield 26, 3) := by decide +kernel
theorem dX5_count_126 : decode cX5_count 126 = .ok (.getfield 132, 3) := by decide +kernel
theorem dX5_count_129 : decode cX5_count 129 = .ok (.ireturn, 1) := by decide +kernel
theorem dX5_count_130 : decode cX5_count 130 = .ok (.aload_n 0, 1) := by decide +kernel
theorem dX5_count_131 : decode cX5_count 131 = .ok (.getfield 26, 3) := by decide +kernel
theorem dX5_count_134 : decode cX5_count 134 = .ok (.getfield 159, 3) := by decide +kernel
theorem dX5_count_137 : decode cX5_count 137 = .ok (.ireturn, 1) := by decide +kernel
theorem dX5_count_138 : decode cX5_count 138 = .ok (.aload_n 0, 1) := by decide +kernel
theorem dX5_count_139 : decode cX5_count 139 = .ok (.getfield 10, 3) := by decide +kernel
theorem dX5_count_142 : decode cX5_count 142 = .ok (.getfield 62, 3) := by decide +kernel
theorem dX5_count_145 : decode cX5_count 145 = .ok (.ireturn, 1) := by decide +kernel
theorem dX5_count_146 : decode cX5_count 146 = .ok (.aload_n 0, 1) := by decide +kernel
theorem dX5_count_147 : decode cX5_count 147 = .ok (.getfield 44, 3) := by decide +kernel
theorem dX5_count_150 : decode cX5_count 150 = .ok (.ireturn, 1) := by decide +kernel
theorem dX5_count_151 : decode cX5_count 151 = .ok (.aload_n 0, 1) := by decide +kernel
theorem dX5_count_152 : decode cX5_count 152 = .ok (.getfield 48, 3) := by decide +kernel
theorem dX5_count_155 : decode cX5_count 155 = .ok (.ireturn, 1) := by decide +kernel
theorem dX5_count_156 : decode cX5_count 156 = .ok (.aload_n 0, 1) := by decide +kernel
theorem dX5_count_157 : decode cX5_count 157 = .ok (.getfield 51, 3) := by decide +kernel
theorem dX5_count_160 : decode cX5_count 160 = .ok (.ireturn, 1) := by decide +kernel
theorem dX5_count_161 : decode cX5_count 161 = .ok (.bipush (-102), 2) := by decide +kernel
theorem dX5_count_163 : decode cX5_count 163 = .ok (.ireturn, 1) := by decide +kernel
set_option maxRecDepth 20000 in
theorem ggX5_digest_X5_aboutRow : GoodIn wsX5_digest wsX5_aboutRow := goodIn_r _ [9, 3, 2, 10, 11, 12, 13, 14, 15, 16, 17, 18, 19, 20, 21, 22, 23, 24, 25, 26, 27, 28, 29, 30, 31, 32, 33, 34, 35, 36, 37, 38, 39, 40, 8, 41, 42, 43, 44, 45, 46, 47, 48, 49, 50, 51, 52, 53, 54, 55, 56, 57, 58, 59, 60, 61, 62, 63, 151, 152, 153, 154, 155, 156, 157, 158, 159, 165, 166, 167, 168, 169, 160, 161, 162, 163, 164, 172, 173, 174, 175] (by decide +kernel) (by decide +kernel)
set_option maxRecDepth 20000 in
theorem gX5_digest_X5_aboutRow : GoodIn wsX5_digest (wsV RX5 89 RX5 yX5_aboutRow wsX5_aboutRow) := goodIn_app (goodIn_of _ (by decide +kernel)) ggX5_digest_X5_aboutRow
set_option maxRecDepth 20000 in
theorem ggX5_digest_X5_mixed : GoodIn wsX5_digest wsX5_mixed := goodIn_r _ [66, 67] (by decide +kernel) (by decide +kernel)
set_option maxRecDepth 20000 in
theorem gX5_digest_X5_mixed : GoodIn wsX5_digest (va_wsS RX5 184 yX5_mixed wsX5_mixed) := goodIn_app (goodIn_of _ (by decide +kernel)) ggX5_digest_X5_mixed
set_option maxRecDepth 20000 in
theorem ggX5_digest_X0_loudness : GoodIn wsX5_digest wsX0_loudness := goodIn_r _ [71, 72, 73, 74, 35, 75, 37, 160, 161, 162, 163, 164, 172, 173, 174, 175] (by decide +kernel) (by decide +kernel)
set_option maxRecDepth 20000 in
theorem gX5_digest_X0_loudness : GoodIn wsX5_digest (wsV RX5 135 RX0 yX0_loudness wsX0_loudness) := goodIn_app (goodIn_of _ (by decide +kernel)) ggX5_digest_X0_loudness
set_option maxRecDepth 20000 in
theorem ggX5_digest_X2_isThere : GoodIn wsX5_digest wsX2_isThere := goodIn_r _ [79, 15, 160, 161, 162, 163, 164] (by decide +kernel) (by decide +kernel)
set_option maxRecDepth 20000 in
theorem gX5_digest_X2_isThere : GoodIn wsX5_digest (wsV RX5 111 RX2 yX2_isThere wsX2_isThere) := goodIn_app (goodIn_of _ (by decide +kernel)) ggX5_digest_X2_isThere
set_option maxRecDepth 20000 in
theorem ggX5_digest_X5_barsToRest : GoodIn wsX5_digest wsX5_barsToRest := goodIn_r _ [83, 84, 3, 2, 85, 86, 87, 35, 88, 37, 49, 63, 89, 90, 91, 92, 93, 94, 95, 96, 97, 98, 51, 52, 53, 54, 23, 24, 13, 25, 15, 26, 55, 46, 47, 48, 99, 33, 34, 36, 100, 101, 102, 103, 104, 11, 12, 14, 16, 105, 106, 60, 61, 62, 107, 108, 109, 110, 72, 73, 74, 75, 111, 112, 113, 114, 57, 8, 58, 151, 152, 153, 154, 155, 156, 157, 158, 159, 165, 166, 167, 168, 169, 172, 173, 174, 175, 160, 161, 162, 163, 164] (by decide +kernel) (by decide +kernel)
set_option maxRecDepth 20000 in
theorem gX5_digest_X5_barsToRest : GoodIn wsX5_digest (wsV RX5 139 RX5 yX5_barsToRest wsX5_barsToRest) := goodIn_app (goodIn_of _ (by decide +kernel)) ggX5_digest_X5_barsToRest
set_option maxRecDepth 20000 in
theorem ggX5_digest_X5_rightBehind : GoodIn wsX5_digest wsX5_rightBehind := goodIn_r _ [118, 84, 3, 2, 85, 86, 87, 35, 88, 37, 49, 63, 119, 120, 121, 122, 105, 11, 12, 13, 14, 15, 16, 43, 8, 44, 89, 90, 91, 92, 93, 94, 95, 96, 97, 98, 51, 52, 53, 54, 23, 24, 25, 26, 55, 46, 47, 48, 99, 33, 34, 36, 100, 101, 102, 103, 104, 106, 60, 61, 62, 107, 108, 109, 110, 72, 73, 74, 75, 111, 112, 113, 114, 57, 58, 123, 124, 125, 126, 127, 18, 19, 20, 21, 151, 152, 153, 154, 155, 156, 157, 158, 159, 165, 166, 167, 168, 169, 172, 173, 174, 175, 160, 161, 162, 163, 164] (by decide +kernel) (by decide +kernel)
set_option maxRecDepth 20000 in
theorem gX5_digest_X5_rightBehind : GoodIn wsX5_digest (wsV RX5 142 RX5 yX5_rightBehind wsX5_rightBehind) := goodIn_app (goodIn_of _ (by decide +kernel)) ggX5_digest_X5_rightBehind
set_option maxRecDepth 20000 in
theorem ggX5_digest_X5_trickTold : GoodIn wsX5_digest wsX5_trickTold := goodIn_r _ [131, 115, 116, 117, 8, 118, 84, 3, 2, 85, 86, 87, 35, 88, 37, 49, 63, 119, 120, 121, 122, 105, 11, 12, 13, 14, 15, 16, 43, 44, 89, 90, 91, 92, 93, 94, 95, 96, 97, 98, 51, 52, 53, 54, 23, 24, 25, 26, 55, 46, 47, 48, 99, 33, 34, 36, 100, 101, 102, 103, 104, 106, 60, 61, 62, 107, 108, 109, 110, 72, 73, 74, 75, 111, 112, 113, 114, 57, 58, 123, 124, 125, 126, 127, 18, 19, 20, 21, 151, 152, 153, 154, 155, 156, 157, 158, 159, 165, 166, 167, 168, 169, 172, 173, 174, 175, 160, 161, 162, 163, 164] (by decide +kernel) (by decide +kernel)
set_option maxRecDepth 20000 in
theorem gX5_digest_X5_trickTold : GoodIn wsX5_digest (wsV RX5 145 RX5 yX5_trickTold wsX5_trickTold) := goodIn_app (goodIn_of _ (by decide +kernel)) ggX5_digest_X5_trickTold
set_option maxRecDepth 20000 in
theorem ggX5_digest_X4_codeAt : GoodIn wsX5_digest wsX4_codeAt := goodIn_r _ [136, 137, 138, 8, 139, 170, 171] (by decide +kernel) (by decide +kernel)
set_option maxRecDepth 20000 in
theorem gX5_digest_X4_codeAt : GoodIn wsX5_digest (wsV RX5 188 RX4 yX4_codeAt wsX4_codeAt) := goodIn_app (goodIn_of _ (by decide +kernel)) ggX5_digest_X4_codeAt
set_option maxRecDepth 20000 in
theorem ggX5_digest_X5_count : GoodIn wsX5_digest wsX5_count := goodIn_r _ [143, 2, 3, 4, 144, 145, 146, 147, 148, 149, 13, 150, 15, 21, 123, 124, 125, 35, 126, 37, 127, 18, 19, 20, 151, 152, 153, 154, 155, 156, 157, 158, 159, 160, 161, 162, 163, 164, 165, 166, 167, 168, 169, 172, 173, 174, 175, 170, 171] (by decide +kernel) (by decide +kernel)
set_option maxRecDepth 20000 in
theorem gX5_digest_X5_count : GoodIn wsX5_digest (wsV RX5 191 RX5 yX5_count wsX5_count) := goodIn_app (goodIn_of _ (by decide +kernel)) ggX5_digest_X5_count
theorem dX5_digest_0 : decode cX5_digest 0 = .ok (.ldc2_w 182, 3) := by decide +kernel
theorem dX5_digest_3 : decode cX5_digest 3 = .ok (.lstore_n 1, 1) := by decide +kernel
theorem dX5_digest_4 : decode cX5_digest 4 = .ok (.iconst 0, 1) := by decide +kernel
theorem dX5_digest_5 : decode cX5_digest 5 = .ok (.istore_n 3, 1) := by decide +kernel
theorem dX5_digest_6 : decode cX5_digest 6 = .ok (.iload_n 3, 1) := by decide +kernel
theorem dX5_digest_7 : decode cX5_digest 7 = .ok (.aload_n 0, 1) := by decide +kernel
theorem dX5_digest_8 : decode cX5_digest 8 = .ok (.getfield 19, 3) := by decide +kernel
theorem dX5_digest_11 : decode cX5_digest 11 = .ok (.getfield 83, 3) := by decide +kernel
theorem dX5_digest_14 : decode cX5_digest 14 = .ok (.if_icmp .ge 74, 3) := by decide +kernel
theorem dX5_digest_17 : decode cX5_digest 17 = .ok (.iconst 0, 1) := by decide +kernel
theorem dX5_digest_18 : decode cX5_digest 18 = .ok (.istore 4, 2) := by decide +kernel
theorem dX5_digest_20 : decode cX5_digest 20 = .ok (.iload 4, 2) := by decide +kernel
theorem dX5_digest_22 : decode cX5_digest 22 = .ok (.bipush 8, 2) := by decide +kernel
theorem dX5_digest_24 : decode cX5_digest 24 = .ok (.if_icmp .gt 21, 3) := by decide +kernel
theorem dX5_digest_27 : decode cX5_digest 27 = .ok (.lload_n 1, 1) := by decide +kernel
theorem dX5_digest_28 : decode cX5_digest 28 = .ok (.aload_n 0, 1) := by decide +kernel
theorem dX5_digest_29 : decode cX5_digest 29 = .ok (.iload_n 3, 1) := by decide +kernel
theorem dX5_digest_30 : decode cX5_digest 30 = .ok (.iload 4, 2) := by decide +kernel
theorem dX5_digest_32 : decode cX5_digest 32 = .ok (.invokevirtual 89, 3) := by decide +kernel
theorem dX5_digest_35 : decode cX5_digest 35 = .ok (.invokestatic 184, 3) := by decide +kernel
theorem dX5_digest_38 : decode cX5_digest 38 = .ok (.lstore_n 1, 1) := by decide +kernel
theorem dX5_digest_39 : decode cX5_digest 39 = .ok (.iinc 4 1, 3) := by decide +kernel
theorem dX5_digest_42 : decode cX5_digest 42 = .ok (.goto (-22), 3) := by decide +kernel
theorem dX5_digest_45 : decode cX5_digest 45 = .ok (.iconst 0, 1) := by decide +kernel
theorem dX5_digest_46 : decode cX5_digest 46 = .ok (.istore 4, 2) := by decide +kernel
theorem dX5_digest_48 : decode cX5_digest 48 = .ok (.iload 4, 2) := by decide +kernel
theorem dX5_digest_50 : decode cX5_digest 50 = .ok (.iconst 3, 1) := by decide +kernel
theorem dX5_digest_51 : decode cX5_digest 51 = .ok (.if_icmp .gt 31, 3) := by decide +kernel
theorem dX5_digest_54 : decode cX5_digest 54 = .ok (.lload_n 1, 1) := by decide +kernel
theorem dX5_digest_55 : decode cX5_digest 55 = .ok (.aload_n 0, 1) := by decide +kernel
theorem dX5_digest_56 : decode cX5_digest 56 = .ok (.getfield 26, 3) := by decide +kernel
theorem dX5_digest_59 : decode cX5_digest 59 = .ok (.getfield 97, 3) := by decide +kernel
theorem dX5_digest_62 : decode cX5_digest 62 = .ok (.aload_n 0, 1) := by decide +kernel
theorem dX5_digest_63 : decode cX5_digest 63 = .ok (.getfield 19, 3) := by decide +kernel
theorem dX5_digest_66 : decode cX5_digest 66 = .ok (.iload_n 3, 1) := by decide +kernel
theorem dX5_digest_67 : decode cX5_digest 67 = .ok (.iload 4, 2) := by decide +kernel
theorem dX5_digest_69 : decode cX5_digest 69 = .ok (.invokevirtual 135, 3) := by decide +kernel
theorem dX5_digest_72 : decode cX5_digest 72 = .ok (.invokestatic 184, 3) := by decide +kernel
theorem dX5_digest_75 : decode cX5_digest 75 = .ok (.lstore_n 1, 1) := by decide +kernel
theorem dX5_digest_76 : decode cX5_digest 76 = .ok (.iinc 4 1, 3) := by decide +kernel
theorem dX5_digest_79 : decode cX5_digest 79 = .ok (.goto (-31), 3) := by decide +kernel
theorem dX5_digest_82 : decode cX5_digest 82 = .ok (.iinc 3 1, 3) := by decide +kernel
theorem dX5_digest_85 : decode cX5_digest 85 = .ok (.goto (-79), 3) := by decide +kernel
theorem dX5_digest_88 : decode cX5_digest 88 = .ok (.aload_n 0, 1) := by decide +kernel
theorem dX5_digest_89 : decode cX5_digest 89 = .ok (.getfield 19, 3) := by decide +kernel
theorem dX5_digest_92 : decode cX5_digest 92 = .ok (.invokevirtual 111, 3) := by decide +kernel
theorem dX5_digest_95 : decode cX5_digest 95 = .ok (.ifCond .eq 45, 3) := by decide +kernel
theorem dX5_digest_98 : decode cX5_digest 98 = .ok (.lload_n 1, 1) := by decide +kernel
theorem dX5_digest_99 : decode cX5_digest 99 = .ok (.aload_n 0, 1) := by decide +kernel
theorem dX5_digest_100 : decode cX5_digest 100 = .ok (.invokevirtual 139, 3) := by decide +kernel
theorem dX5_digest_103 : decode cX5_digest 103 = .ok (.invokestatic 184, 3) := by decide +kernel
theorem dX5_digest_106 : decode cX5_digest 106 = .ok (.lstore_n 1, 1) := by decide +kernel
theorem dX5_digest_107 : decode cX5_digest 107 = .ok (.lload_n 1, 1) := by decide +kernel
theorem dX5_digest_108 : decode cX5_digest 108 = .ok (.aload_n 0, 1) := by decide +kernel
theorem dX5_digest_109 : decode cX5_digest 109 = .ok (.iconst 4, 1) := by decide +kernel
theorem dX5_digest_110 : decode cX5_digest 110 = .ok (.iconst (-1), 1) := by decide +kernel
theorem dX5_digest_111 : decode cX5_digest 111 = .ok (.invokevirtual 142, 3) := by decide +kernel
theorem dX5_digest_114 : decode cX5_digest 114 = .ok (.invokestatic 184, 3) := by decide +kernel
theorem dX5_digest_117 : decode cX5_digest 117 = .ok (.lstore_n 1, 1) := by decide +kernel
theorem dX5_digest_118 : decode cX5_digest 118 = .ok (.lload_n 1, 1) := by decide +kernel
theorem dX5_digest_119 : decode cX5_digest 119 = .ok (.aload_n 0, 1) := by decide +kernel
theorem dX5_digest_120 : decode cX5_digest 120 = .ok (.iconst 4, 1) := by decide +kernel
theorem dX5_digest_121 : decode cX5_digest 121 = .ok (.iconst 0, 1) := by decide +kernel
theorem dX5_digest_122 : decode cX5_digest 122 = .ok (.invokevirtual 145, 3) := by decide +kernel
theorem dX5_digest_125 : decode cX5_digest 125 = .ok (.invokestatic 184, 3) := by decide +kernel
theorem dX5_digest_128 : decode cX5_digest 128 = .ok (.lstore_n 1, 1) := by decide +kernel
theorem dX5_digest_129 : decode cX5_digest 129 = .ok (.lload_n 1, 1) := by decide +kernel
theorem dX5_digest_130 : decode cX5_digest 130 = .ok (.aload_n 0, 1) := by decide +kernel
theorem dX5_digest_131 : decode cX5_digest 131 = .ok (.iconst 4, 1) := by decide +kernel
theorem dX5_digest_132 : decode cX5_digest 132 = .ok (.iconst 1, 1) := by decide +kernel
theorem dX5_digest_133 : decode cX5_digest 133 = .ok (.invokevirtual 145, 3) := by decide +kernel
theorem dX5_digest_136 : decode cX5_digest 136 = .ok (.invokestatic 184, 3) := by decide +kernel
theorem dX5_digest_139 : decode cX5_digest 139 = .ok (.lstore_n 1, 1) := by decide +kernel
theorem dX5_digest_140 : decode cX5_digest 140 = .ok (.iconst 0, 1) := by decide +kernel
theorem dX5_digest_141 : decode cX5_digest 141 = .ok (.istore_n 3, 1) := by decide +kernel
theorem dX5_digest_142 : decode cX5_digest 142 = .ok (.iload_n 3, 1) := by decide +kernel
theorem dX5_digest_143 : decode cX5_digest 143 = .ok (.aload_n 0, 1) := by decide +kernel
theorem dX5_digest_144 : decode cX5_digest 144 = .ok (.getfield 10, 3) := by decide +kernel
theorem dX5_digest_147 : decode cX5_digest 147 = .ok (.getfield 62, 3) := by decide +kernel
theorem dX5_digest_150 : decode cX5_digest 150 = .ok (.if_icmp .ge 22, 3) := by decide +kernel
theorem dX5_digest_153 : decode cX5_digest 153 = .ok (.lload_n 1, 1) := by decide +kernel
theorem dX5_digest_154 : decode cX5_digest 154 = .ok (.aload_n 0, 1) := by decide +kernel
theorem dX5_digest_155 : decode cX5_digest 155 = .ok (.getfield 10, 3) := by decide +kernel
theorem dX5_digest_158 : decode cX5_digest 158 = .ok (.iload_n 3, 1) := by decide +kernel
theorem dX5_digest_159 : decode cX5_digest 159 = .ok (.invokevirtual 188, 3) := by decide +kernel
theorem dX5_digest_162 : decode cX5_digest 162 = .ok (.invokestatic 184, 3) := by decide +kernel
theorem dX5_digest_165 : decode cX5_digest 165 = .ok (.lstore_n 1, 1) := by decide +kernel
theorem dX5_digest_166 : decode cX5_digest 166 = .ok (.iinc 3 1, 3) := by decide +kernel
theorem dX5_digest_169 : decode cX5_digest 169 = .ok (.goto (-27), 3) := by decide +kernel
theorem dX5_digest_172 : decode cX5_digest 172 = .ok (.iconst 0, 1) := by decide +kernel
theorem dX5_digest_173 : decode cX5_digest 173 = .ok (.istore_n 3, 1) := by decide +kernel
theorem dX5_digest_174 : decode cX5_digest 174 = .ok (.iload_n 3, 1) := by decide +kernel
theorem dX5_digest_175 : decode cX5_digest 175 = .ok (.bipush 11, 2) := by decide +kernel
theorem dX5_digest_177 : decode cX5_digest 177 = .ok (.if_icmp .gt 19, 3) := by decide +kernel
theorem dX5_digest_180 : decode cX5_digest 180 = .ok (.lload_n 1, 1) := by decide +kernel
theorem dX5_digest_181 : decode cX5_digest 181 = .ok (.aload_n 0, 1) := by decide +kernel
theorem dX5_digest_182 : decode cX5_digest 182 = .ok (.iload_n 3, 1) := by decide +kernel
theorem dX5_digest_183 : decode cX5_digest 183 = .ok (.invokevirtual 191, 3) := by decide +kernel
theorem dX5_digest_186 : decode cX5_digest 186 = .ok (.invokestatic 184, 3) := by decide +kernel
theorem dX5_digest_189 : decode cX5_digest 189 = .ok (.lstore_n 1, 1) := by decide +kernel
theorem dX5_digest_190 : decode cX5_digest 190 = .ok (.iinc 3 1, 3) := by decide +kernel
theorem dX5_digest_193 : decode cX5_digest 193 = .ok (.goto (-19), 3) := by decide +kernel
theorem dX5_digest_196 : decode cX5_digest 196 = .ok (.lload_n 1, 1) := by decide +kernel
theorem dX5_digest_197 : decode cX5_digest 197 = .ok (.lreturn, 1) := by decide +kernel
theorem dX5_within_0 : decode cX5_within 0 = .ok (.iload_n 0, 1) := by decide +kernel
theorem dX5_within_1 : decode cX5_within 1 = .ok (.iload_n 1, 1) := by decide +kernel
theorem dX5_within_2 : decode cX5_within 2 = .ok (.if_icmp .lt 12, 3) := by decide +kernel
theorem dX5_within_5 : decode cX5_within 5 = .ok (.iload_n 0, 1) := by decide +kernel
theorem dX5_within_6 : decode cX5_within 6 = .ok (.iload_n 2, 1) := by decide +kernel
theorem dX5_within_7 : decode cX5_within 7 = .ok (.if_icmp .gt 7, 3) := by decide +kernel
theorem dX5_within_10 : decode cX5_within 10 = .ok (.iconst 1, 1) := by decide +kernel
theorem dX5_within_11 : decode cX5_within 11 = .ok (.goto 4, 3) := by decide +kernel
theorem dX5_within_14 : decode cX5_within 14 = .ok (.iconst 0, 1) := by decide +kernel
theorem dX5_within_15 : decode cX5_within 15 = .ok (.ireturn, 1) := by decide +kernel
theorem dX5_oneIf_0 : decode cX5_oneIf 0 = .ok (.iload_n 0, 1) := by decide +kernel
theorem dX5_oneIf_1 : decode cX5_oneIf 1 = .ok (.ifCond .eq 7, 3) := by decide +kernel
theorem dX5_oneIf_4 : decode cX5_oneIf 4 = .ok (.iconst 1, 1) := by decide +kernel
theorem dX5_oneIf_5 : decode cX5_oneIf 5 = .ok (.goto 4, 3) := by decide +kernel
theorem dX5_oneIf_8 : decode cX5_oneIf 8 = .ok (.iconst 0, 1) := by decide +kernel
theorem dX5_oneIf_9 : decode cX5_oneIf 9 = .ok (.ireturn, 1) := by decide +kernel
theorem dX5_swapped_0 : decode cX5_swapped 0 = .ok (.iload_n 0, 1) := by decide +kernel
theorem dX5_swapped_1 : decode cX5_swapped 1 = .ok (.iconst 1, 1) := by decide +kernel
theorem dX5_swapped_2 : decode cX5_swapped 2 = .ok (.if_icmp .ne 5, 3) := by decide +kernel
theorem dX5_swapped_5 : decode cX5_swapped 5 = .ok (.iconst 2, 1) := by decide +kernel
theorem dX5_swapped_6 : decode cX5_swapped 6 = .ok (.ireturn, 1) := by decide +kernel
theorem dX5_swapped_7 : decode cX5_swapped 7 = .ok (.iload_n 0, 1) := by decide +kernel
theorem dX5_swapped_8 : decode cX5_swapped 8 = .ok (.iconst 2, 1) := by decide +kernel
theorem dX5_swapped_9 : decode cX5_swapped 9 = .ok (.if_icmp .ne 7, 3) := by decide +kernel
theorem dX5_swapped_12 : decode cX5_swapped 12 = .ok (.iconst 1, 1) := by decide +kernel
theorem dX5_swapped_13 : decode cX5_swapped 13 = .ok (.goto 4, 3) := by decide +kernel
theorem dX5_swapped_16 : decode cX5_swapped 16 = .ok (.iload_n 0, 1) := by decide +kernel
theorem dX5_swapped_17 : decode cX5_swapped 17 = .ok (.ireturn, 1) := by decide +kernel
theorem dX5_mixed_0 : decode cX5_mixed 0 = .ok (.ldc2_w 194, 3) := by decide +kernel
theorem dX5_mixed_3 : decode cX5_mixed 3 = .ok (.lload_n 0, 1) := by decide +kernel
theorem dX5_mixed_4 : decode cX5_mixed 4 = .ok (.lmul, 1) := by decide +kernel
theorem dX5_mixed_5 : decode cX5_mixed 5 = .ok (.iload_n 2, 1) := by decide +kernel
theorem dX5_mixed_6 : decode cX5_mixed 6 = .ok (.i2l, 1) := by decide +kernel
theorem dX5_mixed_7 : decode cX5_mixed 7 = .ok (.ladd, 1) := by decide +kernel
theorem dX5_mixed_8 : decode cX5_mixed 8 = .ok (.lreturn, 1) := by decide +kernel
set_option maxRecDepth 20000 in
theorem ggX5_heard_X2_lag : GoodIn wsX5_heard wsX2_lag := goodIn_r _ [6, 7, 21, 22, 23, 24, 25] (by decide +kernel) (by decide +kernel)
set_option maxRecDepth 20000 in
theorem gX5_heard_X2_lag : GoodIn wsX5_heard (wsV RX5 196 RX2 yX2_lag wsX2_lag) := goodIn_app (goodIn_of _ (by decide +kernel)) ggX5_heard_X2_lag
set_option maxRecDepth 20000 in
theorem ggX5_heard_X5_swapped : GoodIn wsX5_heard wsX5_swapped := goodIn_r _ [11] (by decide +kernel) (by decide +kernel)
set_option maxRecDepth 20000 in
theorem gX5_heard_X5_swapped : GoodIn wsX5_heard (va_wsS RX5 199 yX5_swapped wsX5_swapped) := goodIn_app (goodIn_of _ (by decide +kernel)) ggX5_heard_X5_swapped
theorem dX5_heard_0 : decode cX5_heard 0 = .ok (.aload_n 0, 1) := by decide +kernel
theorem dX5_heard_1 : decode cX5_heard 1 = .ok (.getfield 19, 3) := by decide +kernel
theorem dX5_heard_4 : decode cX5_heard 4 = .ok (.iload_n 1, 1) := by decide +kernel
theorem dX5_heard_5 : decode cX5_heard 5 = .ok (.invokevirtual 196, 3) := by decide +kernel
theorem dX5_heard_8 : decode cX5_heard 8 = .ok (.iconst 2, 1) := by decide +kernel
theorem dX5_heard_9 : decode cX5_heard 9 = .ok (.irem, 1) := by decide +kernel
theorem dX5_heard_10 : decode cX5_heard 10 = .ok (.iconst 1, 1) := by decide +kernel
theorem dX5_heard_11 : decode cX5_heard 11 = .ok (.if_icmp .ne 10, 3) := by decide +kernel
theorem dX5_heard_14 : decode cX5_heard 14 = .ok (.iload_n 2, 1) := by decide +kernel
theorem dX5_heard_15 : decode cX5_heard 15 = .ok (.invokestatic 199, 3) := by decide +kernel
theorem dX5_heard_18 : decode cX5_heard 18 = .ok (.goto 4, 3) := by decide +kernel
theorem dX5_heard_21 : decode cX5_heard 21 = .ok (.iload_n 2, 1) := by decide +kernel
theorem dX5_heard_22 : decode cX5_heard 22 = .ok (.ireturn, 1) := by decide +kernel
set_option maxRecDepth 20000 in
theorem ggX5_aboutRow_X2_kindOf : GoodIn wsX5_aboutRow wsX2_kindOf := goodIn_r _ [7, 8, 9, 72, 73, 74, 75, 76] (by decide +kernel) (by decide +kernel)
set_option maxRecDepth 20000 in
theorem gX5_aboutRow_X2_kindOf : GoodIn wsX5_aboutRow (wsV RX5 202 RX2 yX2_kindOf wsX2_kindOf) := goodIn_app (goodIn_of _ (by decide +kernel)) ggX5_aboutRow_X2_kindOf
set_option maxRecDepth 20000 in
theorem ggX5_aboutRow_X2_palmsOf : GoodIn wsX5_aboutRow wsX2_palmsOf := goodIn_r _ [13, 8, 14, 72, 73, 74, 75, 76] (by decide +kernel) (by decide +kernel)
set_option maxRecDepth 20000 in
theorem gX5_aboutRow_X2_palmsOf : GoodIn wsX5_aboutRow (wsV RX5 205 RX2 yX2_palmsOf wsX2_palmsOf) := goodIn_app (goodIn_of _ (by decide +kernel)) ggX5_aboutRow_X2_palmsOf
set_option maxRecDepth 20000 in
theorem ggX5_aboutRow_X2_strengthOf : GoodIn wsX5_aboutRow wsX2_strengthOf := goodIn_r _ [18, 8, 19, 72, 73, 74, 75, 76] (by decide +kernel) (by decide +kernel)
set_option maxRecDepth 20000 in
theorem gX5_aboutRow_X2_strengthOf : GoodIn wsX5_aboutRow (wsV RX5 208 RX2 yX2_strengthOf wsX2_strengthOf) := goodIn_app (goodIn_of _ (by decide +kernel)) ggX5_aboutRow_X2_strengthOf
set_option maxRecDepth 20000 in
theorem ggX5_aboutRow_X2_lag : GoodIn wsX5_aboutRow wsX2_lag := goodIn_r _ [23, 24, 72, 73, 74, 75, 76] (by decide +kernel) (by decide +kernel)
set_option maxRecDepth 20000 in
theorem gX5_aboutRow_X2_lag : GoodIn wsX5_aboutRow (wsV RX5 196 RX2 yX2_lag wsX2_lag) := goodIn_app (goodIn_of _ (by decide +kernel)) ggX5_aboutRow_X2_lag
set_option maxRecDepth 20000 in
theorem ggX5_aboutRow_X0_soundOf : GoodIn wsX5_aboutRow wsX0_soundOf := goodIn_r _ [29, 30, 77, 78, 79, 80] (by decide +kernel) (by decide +kernel)
set_option maxRecDepth 20000 in
theorem gX5_aboutRow_X0_soundOf : GoodIn wsX5_aboutRow (wsV RX5 100 RX0 yX0_soundOf wsX0_soundOf) := goodIn_app (goodIn_of _ (by decide +kernel)) ggX5_aboutRow_X0_soundOf
set_option maxRecDepth 20000 in
theorem ggX5_aboutRow_X5_heard : GoodIn wsX5_aboutRow wsX5_heard := goodIn_r _ [35, 2, 20, 21, 22, 6, 23, 24, 36, 37, 34, 38, 58, 59, 60, 61, 62, 63, 64, 65, 66, 72, 73, 74, 75, 76] (by decide +kernel) (by decide +kernel)
set_option maxRecDepth 20000 in
theorem gX5_aboutRow_X5_heard : GoodIn wsX5_aboutRow (wsV RX5 104 RX5 yX5_heard wsX5_heard) := goodIn_app (goodIn_of _ (by decide +kernel)) ggX5_aboutRow_X5_heard
set_option maxRecDepth 20000 in
theorem ggX5_aboutRow_X0_clappedOf : GoodIn wsX5_aboutRow wsX0_clappedOf := goodIn_r _ [42, 43, 77, 78, 79, 80] (by decide +kernel) (by decide +kernel)
set_option maxRecDepth 20000 in
theorem gX5_aboutRow_X0_clappedOf : GoodIn wsX5_aboutRow (wsV RX5 211 RX0 yX0_clappedOf wsX0_clappedOf) := goodIn_app (goodIn_of _ (by decide +kernel)) ggX5_aboutRow_X0_clappedOf
set_option maxRecDepth 20000 in
theorem ggX5_aboutRow_X0_isTired : GoodIn wsX5_aboutRow wsX0_isTired := goodIn_r _ [47, 48, 16, 17, 6, 18, 8, 19, 49, 40, 41, 28, 42, 43, 72, 73, 74, 75, 76, 77, 78, 79, 80] (by decide +kernel) (by decide +kernel)
set_option maxRecDepth 20000 in
theorem gX5_aboutRow_X0_isTired : GoodIn wsX5_aboutRow (wsV RX5 214 RX0 yX0_isTired wsX0_isTired) := goodIn_app (goodIn_of _ (by decide +kernel)) ggX5_aboutRow_X0_isTired
set_option maxRecDepth 20000 in
theorem ggX5_aboutRow_X5_oneIf : GoodIn wsX5_aboutRow wsX5_oneIf := goodIn_r _ [52] (by decide +kernel) (by decide +kernel)
set_option maxRecDepth 20000 in
theorem gX5_aboutRow_X5_oneIf : GoodIn wsX5_aboutRow (va_wsS RX5 218 yX5_oneIf wsX5_oneIf) := goodIn_app (goodIn_of _ (by decide +kernel)) ggX5_aboutRow_X5_oneIf
set_option maxRecDepth 20000 in
theorem ggX5_aboutRow_X0_seesArm : GoodIn wsX5_aboutRow wsX0_seesArm := goodIn_r _ [56, 57, 77, 78, 79, 80] (by decide +kernel) (by decide +kernel)
set_option maxRecDepth 20000 in
theorem gX5_aboutRow_X0_seesArm : GoodIn wsX5_aboutRow (wsV RX5 222 RX0 yX0_seesArm wsX0_seesArm) := goodIn_app (goodIn_of _ (by decide +kernel)) ggX5_aboutRow_X0_seesArm
theorem dX5_aboutRow_0 : decode cX5_aboutRow 0 = .ok (.aload_n 0, 1) := by decide +kernel
theorem dX5_aboutRow_1 : decode cX5_aboutRow 1 = .ok (.getfield 26, 3) := by decide +kernel
theorem dX5_aboutRow_4 : decode cX5_aboutRow 4 = .ok (.getfield 97, 3) := by decide +kernel
theorem dX5_aboutRow_7 : decode cX5_aboutRow 7 = .ok (.astore_n 3, 1) := by decide +kernel
theorem dX5_aboutRow_8 : decode cX5_aboutRow 8 = .ok (.iload_n 2, 1) := by decide +kernel
theorem dX5_aboutRow_9 : decode cX5_aboutRow 9 = .ok (.tableswitch 119 0 7 #[47, 56, 65, 74, 83, 89, 100, 106], 47) := by decide +kernel
theorem dX5_aboutRow_56 : decode cX5_aboutRow 56 = .ok (.aload_n 0, 1) := by decide +kernel
theorem dX5_aboutRow_57 : decode cX5_aboutRow 57 = .ok (.getfield 19, 3) := by decide +kernel
theorem dX5_aboutRow_60 : decode cX5_aboutRow 60 = .ok (.iload_n 1, 1) := by decide +kernel
theorem dX5_aboutRow_61 : decode cX5_aboutRow 61 = .ok (.invokevirtual 202, 3) := by decide +kernel
theorem dX5_aboutRow_64 : decode cX5_aboutRow 64 = .ok (.ireturn, 1) := by decide +kernel
theorem dX5_aboutRow_65 : decode cX5_aboutRow 65 = .ok (.aload_n 0, 1) := by decide +kernel
theorem dX5_aboutRow_66 : decode cX5_aboutRow 66 = .ok (.getfield 19, 3) := by decide +kernel
theorem dX5_aboutRow_69 : decode cX5_aboutRow 69 = .ok (.iload_n 1, 1) := by decide +kernel
theorem dX5_aboutRow_70 : decode cX5_aboutRow 70 = .ok (.invokevirtual 205, 3) := by decide +kernel
theorem dX5_aboutRow_73 : decode cX5_aboutRow 73 = .ok (.ireturn, 1) := by decide +kernel
theorem dX5_aboutRow_74 : decode cX5_aboutRow 74 = .ok (.aload_n 0, 1) := by decide +kernel
theorem dX5_aboutRow_75 : decode cX5_aboutRow 75 = .ok (.getfield 19, 3) := by decide +kernel
theorem dX5_aboutRow_78 : decode cX5_aboutRow 78 = .ok (.iload_n 1, 1) := by decide +kernel
theorem dX5_aboutRow_79 : decode cX5_aboutRow 79 = .ok (.invokevirtual 208, 3) := by decide +kernel
theorem dX5_aboutRow_82 : decode cX5_aboutRow 82 = .ok (.ireturn, 1) := by decide +kernel
theorem dX5_aboutRow_83 : decode cX5_aboutRow 83 = .ok (.aload_n 0, 1) := by decide +kernel
theorem dX5_aboutRow_84 : decode cX5_aboutRow 84 = .ok (.getfield 19, 3) := by decide +kernel
theorem dX5_aboutRow_87 : decode cX5_aboutRow 87 = .ok (.iload_n 1, 1) := by decide +kernel
theorem dX5_aboutRow_88 : decode cX5_aboutRow 88 = .ok (.invokevirtual 196, 3) := by decide +kernel
theorem dX5_aboutRow_91 : decode cX5_aboutRow 91 = .ok (.ireturn, 1) := by decide +kernel
theorem dX5_aboutRow_92 : decode cX5_aboutRow 92 = .ok (.aload_n 3, 1) := by decide +kernel
theorem dX5_aboutRow_93 : decode cX5_aboutRow 93 = .ok (.iload_n 1, 1) := by decide +kernel
theorem dX5_aboutRow_94 : decode cX5_aboutRow 94 = .ok (.invokevirtual 100, 3) := by decide +kernel
theorem dX5_aboutRow_97 : decode cX5_aboutRow 97 = .ok (.ireturn, 1) := by decide +kernel
theorem dX5_aboutRow_98 : decode cX5_aboutRow 98 = .ok (.aload_n 0, 1) := by decide +kernel
theorem dX5_aboutRow_99 : decode cX5_aboutRow 99 = .ok (.iload_n 1, 1) := by decide +kernel
theorem dX5_aboutRow_100 : decode cX5_aboutRow 100 = .ok (.aload_n 3, 1) := by decide +kernel
theorem dX5_aboutRow_101 : decode cX5_aboutRow 101 = .ok (.iload_n 1, 1) := by decide +kernel
theorem dX5_aboutRow_102 : decode cX5_aboutRow 102 = .ok (.invokevirtual 100, 3) := by decide +kernel
theorem dX5_aboutRow_105 : decode cX5_aboutRow 105 = .ok (.invokevirtual 104, 3) := by decide +kernel
theorem dX5_aboutRow_108 : decode cX5_aboutRow 108 = .ok (.ireturn, 1) := by decide +kernel
theorem dX5_aboutRow_109 : decode cX5_aboutRow 109 = .ok (.aload_n 3, 1) := by decide +kernel
theorem dX5_aboutRow_110 : decode cX5_aboutRow 110 = .ok (.iload_n 1, 1) := by decide +kernel
theorem dX5_aboutRow_111 : decode cX5_aboutRow 111 = .ok (.invokevirtual 211, 3) := by decide +kernel
theorem dX5_aboutRow_114 : decode cX5_aboutRow 114 = .ok (.ireturn, 1) := by decide +kernel
theorem dX5_aboutRow_115 : decode cX5_aboutRow 115 = .ok (.aload_n 3, 1) := by decide +kernel
theorem dX5_aboutRow_116 : decode cX5_aboutRow 116 = .ok (.aload_n 0, 1) := by decide +kernel
theorem dX5_aboutRow_117 : decode cX5_aboutRow 117 = .ok (.getfield 19, 3) := by decide +kernel
theorem dX5_aboutRow_120 : decode cX5_aboutRow 120 = .ok (.iload_n 1, 1) := by decide +kernel
theorem dX5_aboutRow_121 : decode cX5_aboutRow 121 = .ok (.invokevirtual 214, 3) := by decide +kernel
theorem dX5_aboutRow_124 : decode cX5_aboutRow 124 = .ok (.invokestatic 218, 3) := by decide +kernel
theorem dX5_aboutRow_127 : decode cX5_aboutRow 127 = .ok (.ireturn, 1) := by decide +kernel
theorem dX5_aboutRow_128 : decode cX5_aboutRow 128 = .ok (.aload_n 3, 1) := by decide +kernel
theorem dX5_aboutRow_129 : decode cX5_aboutRow 129 = .ok (.iload_n 1, 1) := by decide +kernel
theorem dX5_aboutRow_130 : decode cX5_aboutRow 130 = .ok (.invokevirtual 222, 3) := by decide +kernel
theorem dX5_aboutRow_133 : decode cX5_aboutRow 133 = .ok (.invokestatic 218, 3) := by decide +kernel
theorem dX5_aboutRow_136 : decode cX5_aboutRow 136 = .ok (.ireturn, 1) := by decide +kernel
set_option maxRecDepth 20000 in
theorem ggX5_barsToRest_X0_takeFrom : GoodIn wsX5_barsToRest wsX0_takeFrom := goodIn_r _ [8, 9, 10, 11, 83, 84, 85, 86] (by decide +kernel) (by decide +kernel)
set_option maxRecDepth 20000 in
theorem gX5_barsToRest_X0_takeFrom : GoodIn wsX5_barsToRest (wsV RX5 225 RX0 yX0_takeFrom wsX0_takeFrom) := goodIn_app (goodIn_of _ (by decide +kernel)) ggX5_barsToRest_X0_takeFrom
set_option maxRecDepth 20000 in
theorem ggX5_barsToRest_X0_goOn : GoodIn wsX5_barsToRest wsX0_goOn := goodIn_r _ [15, 16, 9, 10, 17, 18, 19, 7, 20, 21, 22, 23, 24, 25, 26, 27, 28, 29, 30, 31, 32, 33, 34, 35, 36, 37, 38, 39, 40, 41, 42, 43, 44, 45, 46, 47, 48, 49, 50, 51, 52, 53, 11, 54, 55, 56, 57, 58, 59, 60, 61, 62, 63, 64, 65, 66, 67, 68, 87, 88, 89, 90, 91, 83, 84, 85, 86] (by decide +kernel) (by decide +kernel)
set_option maxRecDepth 20000 in
theorem gX5_barsToRest_X0_goOn : GoodIn wsX5_barsToRest (wsV RX5 117 RX0 yX0_goOn wsX0_goOn) := goodIn_app (goodIn_of _ (by decide +kernel)) ggX5_barsToRest_X0_goOn
theorem dX5_barsToRest_0 : decode cX5_barsToRest 0 = .ok (.aload_n 0, 1) := by decide +kernel
theorem dX5_barsToRest_1 : decode cX5_barsToRest 1 = .ok (.getfield 36, 3) := by decide +kernel
theorem dX5_barsToRest_4 : decode cX5_barsToRest 4 = .ok (.aload_n 0, 1) := by decide +kernel
theorem dX5_barsToRest_5 : decode cX5_barsToRest 5 = .ok (.getfield 26, 3) := by decide +kernel
theorem dX5_barsToRest_8 : decode cX5_barsToRest 8 = .ok (.getfield 97, 3) := by decide +kernel
theorem dX5_barsToRest_11 : decode cX5_barsToRest 11 = .ok (.invokevirtual 225, 3) := by decide +kernel
theorem dX5_barsToRest_14 : decode cX5_barsToRest 14 = .ok (.iconst 0, 1) := by decide +kernel
theorem dX5_barsToRest_15 : decode cX5_barsToRest 15 = .ok (.istore_n 1, 1) := by decide +kernel
theorem dX5_barsToRest_16 : decode cX5_barsToRest 16 = .ok (.iload_n 1, 1) := by decide +kernel
theorem dX5_barsToRest_17 : decode cX5_barsToRest 17 = .ok (.bipush 30, 2) := by decide +kernel
theorem dX5_barsToRest_19 : decode cX5_barsToRest 19 = .ok (.if_icmp .gt 25, 3) := by decide +kernel
theorem dX5_barsToRest_22 : decode cX5_barsToRest 22 = .ok (.aload_n 0, 1) := by decide +kernel
theorem dX5_barsToRest_23 : decode cX5_barsToRest 23 = .ok (.getfield 36, 3) := by decide +kernel
theorem dX5_barsToRest_26 : decode cX5_barsToRest 26 = .ok (.aload_n 0, 1) := by decide +kernel
theorem dX5_barsToRest_27 : decode cX5_barsToRest 27 = .ok (.getfield 19, 3) := by decide +kernel
theorem dX5_barsToRest_30 : decode cX5_barsToRest 30 = .ok (.invokevirtual 117, 3) := by decide +kernel
theorem dX5_barsToRest_33 : decode cX5_barsToRest 33 = .ok (.ifCond .ne 5, 3) := by decide +kernel
theorem dX5_barsToRest_36 : decode cX5_barsToRest 36 = .ok (.iload_n 1, 1) := by decide +kernel
theorem dX5_barsToRest_37 : decode cX5_barsToRest 37 = .ok (.ireturn, 1) := by decide +kernel
theorem dX5_barsToRest_38 : decode cX5_barsToRest 38 = .ok (.iinc 1 1, 3) := by decide +kernel
theorem dX5_barsToRest_41 : decode cX5_barsToRest 41 = .ok (.goto (-25), 3) := by decide +kernel
theorem dX5_barsToRest_44 : decode cX5_barsToRest 44 = .ok (.iconst (-1), 1) := by decide +kernel
theorem dX5_barsToRest_45 : decode cX5_barsToRest 45 = .ok (.ireturn, 1) := by decide +kernel
set_option maxRecDepth 20000 in
theorem ggX5_rightBehind_X0_takeFrom : GoodIn wsX5_rightBehind wsX0_takeFrom := goodIn_r _ [8, 9, 10, 11, 98, 99, 100, 101] (by decide +kernel) (by decide +kernel)
set_option maxRecDepth 20000 in
theorem gX5_rightBehind_X0_takeFrom : GoodIn wsX5_rightBehind (wsV RX5 225 RX0 yX0_takeFrom wsX0_takeFrom) := goodIn_app (goodIn_of _ (by decide +kernel)) ggX5_rightBehind_X0_takeFrom
set_option maxRecDepth 20000 in
theorem ggX5_rightBehind_X0_leaveBeatOut : GoodIn wsX5_rightBehind wsX0_leaveBeatOut := goodIn_r _ [15, 9, 16, 17, 18, 19, 20, 21, 22, 23, 24, 25, 102, 103, 104, 105, 106, 98, 99, 100, 101] (by decide +kernel) (by decide +kernel)
set_option maxRecDepth 20000 in
theorem gX5_rightBehind_X0_leaveBeatOut : GoodIn wsX5_rightBehind (wsV RX5 128 RX0 yX0_leaveBeatOut wsX0_leaveBeatOut) := goodIn_app (goodIn_of _ (by decide +kernel)) ggX5_rightBehind_X0_leaveBeatOut
set_option maxRecDepth 20000 in
theorem ggX5_rightBehind_X0_goOn : GoodIn wsX5_rightBehind wsX0_goOn := goodIn_r _ [29, 30, 9, 10, 31, 32, 33, 7, 34, 35, 36, 37, 38, 39, 40, 41, 19, 42, 21, 43, 44, 45, 46, 47, 48, 49, 50, 51, 52, 53, 54, 55, 56, 17, 18, 20, 22, 16, 57, 58, 59, 60, 11, 61, 62, 63, 64, 65, 66, 67, 68, 69, 70, 71, 72, 73, 24, 74, 102, 103, 104, 105, 106, 98, 99, 100, 101] (by decide +kernel) (by decide +kernel)
set_option maxRecDepth 20000 in
theorem gX5_rightBehind_X0_goOn : GoodIn wsX5_rightBehind (wsV RX5 117 RX0 yX0_goOn wsX0_goOn) := goodIn_app (goodIn_of _ (by decide +kernel)) ggX5_rightBehind_X0_goOn
set_option maxRecDepth 20000 in
theorem ggX5_rightBehind_X0_palmsRight : GoodIn wsX5_rightBehind wsX0_palmsRight := goodIn_r _ [78, 9, 79, 80, 81, 19, 82, 21, 83, 102, 103, 104, 105, 106, 98, 99, 100, 101] (by decide +kernel) (by decide +kernel)
set_option maxRecDepth 20000 in
theorem gX5_rightBehind_X0_palmsRight : GoodIn wsX5_rightBehind (wsV RX5 124 RX0 yX0_palmsRight wsX0_palmsRight) := goodIn_app (goodIn_of _ (by decide +kernel)) ggX5_rightBehind_X0_palmsRight
theorem dX5_rightBehind_0 : decode cX5_rightBehind 0 = .ok (.aload_n 0, 1) := by decide +kernel
theorem dX5_rightBehind_1 : decode cX5_rightBehind 1 = .ok (.getfield 36, 3) := by decide +kernel
theorem dX5_rightBehind_4 : decode cX5_rightBehind 4 = .ok (.aload_n 0, 1) := by decide +kernel
theorem dX5_rightBehind_5 : decode cX5_rightBehind 5 = .ok (.getfield 26, 3) := by decide +kernel
theorem dX5_rightBehind_8 : decode cX5_rightBehind 8 = .ok (.getfield 97, 3) := by decide +kernel
theorem dX5_rightBehind_11 : decode cX5_rightBehind 11 = .ok (.invokevirtual 225, 3) := by decide +kernel
theorem dX5_rightBehind_14 : decode cX5_rightBehind 14 = .ok (.iconst 0, 1) := by decide +kernel
theorem dX5_rightBehind_15 : decode cX5_rightBehind 15 = .ok (.istore_n 3, 1) := by decide +kernel
theorem dX5_rightBehind_16 : decode cX5_rightBehind 16 = .ok (.iload_n 3, 1) := by decide +kernel
theorem dX5_rightBehind_17 : decode cX5_rightBehind 17 = .ok (.iload_n 1, 1) := by decide +kernel
theorem dX5_rightBehind_18 : decode cX5_rightBehind 18 = .ok (.if_icmp .ge 37, 3) := by decide +kernel
theorem dX5_rightBehind_21 : decode cX5_rightBehind 21 = .ok (.iload_n 3, 1) := by decide +kernel
theorem dX5_rightBehind_22 : decode cX5_rightBehind 22 = .ok (.iload_n 2, 1) := by decide +kernel
theorem dX5_rightBehind_23 : decode cX5_rightBehind 23 = .ok (.if_icmp .ne 14, 3) := by decide +kernel
theorem dX5_rightBehind_26 : decode cX5_rightBehind 26 = .ok (.aload_n 0, 1) := by decide +kernel
theorem dX5_rightBehind_27 : decode cX5_rightBehind 27 = .ok (.getfield 36, 3) := by decide +kernel
theorem dX5_rightBehind_30 : decode cX5_rightBehind 30 = .ok (.aload_n 0, 1) := by decide +kernel
theorem dX5_rightBehind_31 : decode cX5_rightBehind 31 = .ok (.getfield 19, 3) := by decide +kernel
theorem dX5_rightBehind_34 : decode cX5_rightBehind 34 = .ok (.invokevirtual 128, 3) := by decide +kernel
theorem dX5_rightBehind_37 : decode cX5_rightBehind 37 = .ok (.aload_n 0, 1) := by decide +kernel
theorem dX5_rightBehind_38 : decode cX5_rightBehind 38 = .ok (.getfield 36, 3) := by decide +kernel
theorem dX5_rightBehind_41 : decode cX5_rightBehind 41 = .ok (.aload_n 0, 1) := by decide +kernel
theorem dX5_rightBehind_42 : decode cX5_rightBehind 42 = .ok (.getfield 19, 3) := by decide +kernel
theorem dX5_rightBehind_45 : decode cX5_rightBehind 45 = .ok (.invokevirtual 117, 3) := by decide +kernel
theorem dX5_rightBehind_48 : decode cX5_rightBehind 48 = .ok (.pop, 1) := by decide +kernel
theorem dX5_rightBehind_49 : decode cX5_rightBehind 49 = .ok (.iinc 3 1, 3) := by decide +kernel
theorem dX5_rightBehind_52 : decode cX5_rightBehind 52 = .ok (.goto (-36), 3) := by decide +kernel
theorem dX5_rightBehind_55 : decode cX5_rightBehind 55 = .ok (.aload_n 0, 1) := by decide +kernel
theorem dX5_rightBehind_56 : decode cX5_rightBehind 56 = .ok (.getfield 36, 3) := by decide +kernel
theorem dX5_rightBehind_59 : decode cX5_rightBehind 59 = .ok (.aload_n 0, 1) := by decide +kernel
theorem dX5_rightBehind_60 : decode cX5_rightBehind 60 = .ok (.getfield 19, 3) := by decide +kernel
theorem dX5_rightBehind_63 : decode cX5_rightBehind 63 = .ok (.invokevirtual 124, 3) := by decide +kernel
theorem dX5_rightBehind_66 : decode cX5_rightBehind 66 = .ok (.ireturn, 1) := by decide +kernel
set_option maxRecDepth 20000 in
theorem ggX5_trickTold_X5_rightBehind : GoodIn wsX5_trickTold wsX5_rightBehind := goodIn_r _ [5, 6, 7, 8, 9, 10, 11, 12, 13, 14, 15, 16, 17, 18, 19, 20, 21, 22, 23, 24, 25, 26, 27, 28, 4, 29, 30, 31, 32, 33, 34, 35, 36, 37, 38, 39, 40, 41, 42, 43, 44, 45, 46, 47, 48, 49, 50, 51, 52, 53, 54, 55, 56, 57, 58, 59, 60, 61, 62, 63, 64, 65, 66, 67, 68, 69, 70, 71, 72, 73, 74, 75, 76, 77, 78, 79, 80, 81, 82, 83, 84, 85, 86, 87, 88, 89, 90, 91, 92, 93, 94, 95, 96, 97, 98, 99, 100, 101, 102, 103, 104, 105, 106, 107, 108, 109, 110] (by decide +kernel) (by decide +kernel)
set_option maxRecDepth 20000 in
theorem gX5_trickTold_X5_rightBehind : GoodIn wsX5_trickTold (wsV RX5 142 RX5 yX5_rightBehind wsX5_rightBehind) := goodIn_app (goodIn_of _ (by decide +kernel)) ggX5_trickTold_X5_rightBehind
theorem dX5_trickTold_0 : decode cX5_trickTold 0 = .ok (.iconst (-1), 1) := by decide +kernel
theorem dX5_trickTold_1 : decode cX5_trickTold 1 = .ok (.istore_n 3, 1) := by decide +kernel
theorem dX5_trickTold_2 : decode cX5_trickTold 2 = .ok (.aload_n 0, 1) := by decide +kernel
theorem dX5_trickTold_3 : decode cX5_trickTold 3 = .ok (.iload_n 1, 1) := by decide +kernel
theorem dX5_trickTold_4 : decode cX5_trickTold 4 = .ok (.iconst (-1), 1) := by decide +kernel
theorem dX5_trickTold_5 : decode cX5_trickTold 5 = .ok (.invokevirtual 142, 3) := by decide +kernel
theorem dX5_trickTold_8 : decode cX5_trickTold 8 = .ok (.istore 4, 2) := by decide +kernel
theorem dX5_trickTold_10 : decode cX5_trickTold 10 = .ok (.iconst 0, 1) := by decide +kernel
theorem dX5_trickTold_11 : decode cX5_trickTold 11 = .ok (.istore 5, 2) := by decide +kernel
theorem dX5_trickTold_13 : decode cX5_trickTold 13 = .ok (.iload 5, 2) := by decide +kernel
theorem dX5_trickTold_15 : decode cX5_trickTold 15 = .ok (.iload_n 1, 1) := by decide +kernel
theorem dX5_trickTold_16 : decode cX5_trickTold 16 = .ok (.if_icmp .ge 32, 3) := by decide +kernel
theorem dX5_trickTold_19 : decode cX5_trickTold 19 = .ok (.aload_n 0, 1) := by decide +kernel
theorem dX5_trickTold_20 : decode cX5_trickTold 20 = .ok (.iload_n 1, 1) := by decide +kernel
theorem dX5_trickTold_21 : decode cX5_trickTold 21 = .ok (.iload 5, 2) := by decide +kernel
theorem dX5_trickTold_23 : decode cX5_trickTold 23 = .ok (.invokevirtual 142, 3) := by decide +kernel
theorem dX5_trickTold_26 : decode cX5_trickTold 26 = .ok (.istore 6, 2) := by decide +kernel
theorem dX5_trickTold_28 : decode cX5_trickTold 28 = .ok (.iload 6, 2) := by decide +kernel
theorem dX5_trickTold_30 : decode cX5_trickTold 30 = .ok (.iload 4, 2) := by decide +kernel
theorem dX5_trickTold_32 : decode cX5_trickTold 32 = .ok (.if_icmp .le 10, 3) := by decide +kernel
theorem dX5_trickTold_35 : decode cX5_trickTold 35 = .ok (.iload 5, 2) := by decide +kernel
theorem dX5_trickTold_37 : decode cX5_trickTold 37 = .ok (.istore_n 3, 1) := by decide +kernel
theorem dX5_trickTold_38 : decode cX5_trickTold 38 = .ok (.iload 6, 2) := by decide +kernel
theorem dX5_trickTold_40 : decode cX5_trickTold 40 = .ok (.istore 4, 2) := by decide +kernel
theorem dX5_trickTold_42 : decode cX5_trickTold 42 = .ok (.iinc 5 1, 3) := by decide +kernel
theorem dX5_trickTold_45 : decode cX5_trickTold 45 = .ok (.goto (-32), 3) := by decide +kernel
theorem dX5_trickTold_48 : decode cX5_trickTold 48 = .ok (.iload_n 2, 1) := by decide +kernel
theorem dX5_trickTold_49 : decode cX5_trickTold 49 = .ok (.ifCond .ne 7, 3) := by decide +kernel
theorem dX5_trickTold_52 : decode cX5_trickTold 52 = .ok (.iload_n 3, 1) := by decide +kernel
theorem dX5_trickTold_53 : decode cX5_trickTold 53 = .ok (.goto 5, 3) := by decide +kernel
theorem dX5_trickTold_56 : decode cX5_trickTold 56 = .ok (.iload 4, 2) := by decide +kernel
theorem dX5_trickTold_58 : decode cX5_trickTold 58 = .ok (.ireturn, 1) := by decide +kernel
set_option maxRecDepth 20000 in
theorem ggX5_fewestTurned_J6_bitCount_0f7a4 : GoodIn wsX5_fewestTurned wsJ6_bitCount_0f7a4 := goodIn_r _ [5, 6, 7, 8] (by decide +kernel) (by decide +kernel)
set_option maxRecDepth 20000 in
theorem gX5_fewestTurned_J6_bitCount_0f7a4 : GoodIn wsX5_fewestTurned (va_wsS RX5 151 yJ6_bitCount_0f7a4 wsJ6_bitCount_0f7a4) := goodIn_app (goodIn_of _ (by decide +kernel)) ggX5_fewestTurned_J6_bitCount_0f7a4
set_option maxRecDepth 20000 in
theorem ggX5_fewestTurned_X5_winsAll : GoodIn wsX5_fewestTurned wsX5_winsAll := goodIn_r _ [13, 14, 15, 1, 16, 17, 18, 19, 20, 21, 22, 23, 24, 25, 26, 27, 28, 29, 30, 31, 32, 33, 34, 35, 36, 37, 38, 39, 40, 41, 42, 43, 44, 45, 46, 47, 48, 49, 50, 51, 52, 53, 54, 55, 56, 57, 58, 59, 60, 61, 62, 63, 64, 65, 66, 67, 68, 69, 70, 71, 72, 73, 74, 75, 76, 77, 78, 79, 12, 80, 81, 82, 83, 84, 85, 86, 87, 88, 89, 90, 91, 92, 93, 99, 100, 101, 102, 103, 94, 95, 96, 97, 98, 104, 105, 106, 107] (by decide +kernel) (by decide +kernel)
set_option maxRecDepth 20000 in
theorem gX5_fewestTurned_X5_winsAll : GoodIn wsX5_fewestTurned (wsV RX5 228 RX5 yX5_winsAll wsX5_winsAll) := goodIn_app (goodIn_of _ (by decide +kernel)) ggX5_fewestTurned_X5_winsAll
theorem dX5_fewestTurned_0 : decode cX5_fewestTurned 0 = .ok (.iconst (-1), 1) := by decide +kernel
theorem dX5_fewestTurned_1 : decode cX5_fewestTurned 1 = .ok (.istore_n 2, 1) := by decide +kernel
theorem dX5_fewestTurned_2 : decode cX5_fewestTurned 2 = .ok (.aload_n 0, 1) := by decide +kernel
theorem dX5_fewestTurned_3 : decode cX5_fewestTurned 3 = .ok (.getfield 19, 3) := by decide +kernel
theorem dX5_fewestTurned_6 : decode cX5_fewestTurned 6 = .ok (.getfield 83, 3) := by decide +kernel
theorem dX5_fewestTurned_9 : decode cX5_fewestTurned 9 = .ok (.iconst 1, 1) := by decide +kernel
theorem dX5_fewestTurned_10 : decode cX5_fewestTurned 10 = .ok (.iadd, 1) := by decide +kernel
theorem dX5_fewestTurned_11 : decode cX5_fewestTurned 11 = .ok (.istore_n 3, 1) := by decide +kernel
theorem dX5_fewestTurned_12 : decode cX5_fewestTurned 12 = .ok (.iconst 1, 1) := by decide +kernel
theorem dX5_fewestTurned_13 : decode cX5_fewestTurned 13 = .ok (.aload_n 0, 1) := by decide +kernel
theorem dX5_fewestTurned_14 : decode cX5_fewestTurned 14 = .ok (.getfield 19, 3) := by decide +kernel
theorem dX5_fewestTurned_17 : decode cX5_fewestTurned 17 = .ok (.getfield 83, 3) := by decide +kernel
theorem dX5_fewestTurned_20 : decode cX5_fewestTurned 20 = .ok (.ishl, 1) := by decide +kernel
theorem dX5_fewestTurned_21 : decode cX5_fewestTurned 21 = .ok (.istore 4, 2) := by decide +kernel
theorem dX5_fewestTurned_23 : decode cX5_fewestTurned 23 = .ok (.iconst 0, 1) := by decide +kernel
theorem dX5_fewestTurned_24 : decode cX5_fewestTurned 24 = .ok (.istore 5, 2) := by decide +kernel
theorem dX5_fewestTurned_26 : decode cX5_fewestTurned 26 = .ok (.iload 5, 2) := by decide +kernel
theorem dX5_fewestTurned_28 : decode cX5_fewestTurned 28 = .ok (.iload 4, 2) := by decide +kernel
theorem dX5_fewestTurned_30 : decode cX5_fewestTurned 30 = .ok (.if_icmp .ge 38, 3) := by decide +kernel
theorem dX5_fewestTurned_33 : decode cX5_fewestTurned 33 = .ok (.iload 5, 2) := by decide +kernel
theorem dX5_fewestTurned_35 : decode cX5_fewestTurned 35 = .ok (.invokestatic 151, 3) := by decide +kernel
theorem dX5_fewestTurned_38 : decode cX5_fewestTurned 38 = .ok (.istore 6, 2) := by decide +kernel
theorem dX5_fewestTurned_40 : decode cX5_fewestTurned 40 = .ok (.iload 6, 2) := by decide +kernel
theorem dX5_fewestTurned_42 : decode cX5_fewestTurned 42 = .ok (.iload_n 3, 1) := by decide +kernel
theorem dX5_fewestTurned_43 : decode cX5_fewestTurned 43 = .ok (.if_icmp .ge 19, 3) := by decide +kernel
theorem dX5_fewestTurned_46 : decode cX5_fewestTurned 46 = .ok (.aload_n 0, 1) := by decide +kernel
theorem dX5_fewestTurned_47 : decode cX5_fewestTurned 47 = .ok (.iload 5, 2) := by decide +kernel
theorem dX5_fewestTurned_49 : decode cX5_fewestTurned 49 = .ok (.iload_n 1, 1) := by decide +kernel
theorem dX5_fewestTurned_50 : decode cX5_fewestTurned 50 = .ok (.invokevirtual 228, 3) := by decide +kernel
theorem dX5_fewestTurned_53 : decode cX5_fewestTurned 53 = .ok (.ifCond .eq 9, 3) := by decide +kernel
theorem dX5_fewestTurned_56 : decode cX5_fewestTurned 56 = .ok (.iload 5, 2) := by decide +kernel
theorem dX5_fewestTurned_58 : decode cX5_fewestTurned 58 = .ok (.istore_n 2, 1) := by decide +kernel
theorem dX5_fewestTurned_59 : decode cX5_fewestTurned 59 = .ok (.iload 6, 2) := by decide +kernel
theorem dX5_fewestTurned_61 : decode cX5_fewestTurned 61 = .ok (.istore_n 3, 1) := by decide +kernel
theorem dX5_fewestTurned_62 : decode cX5_fewestTurned 62 = .ok (.iinc 5 1, 3) := by decide +kernel
theorem dX5_fewestTurned_65 : decode cX5_fewestTurned 65 = .ok (.goto (-39), 3) := by decide +kernel
theorem dX5_fewestTurned_68 : decode cX5_fewestTurned 68 = .ok (.iload_n 2, 1) := by decide +kernel
theorem dX5_fewestTurned_69 : decode cX5_fewestTurned 69 = .ok (.ireturn, 1) := by decide +kernel
set_option maxRecDepth 20000 in
theorem ggX5_winsAll_X0_takeFrom : GoodIn wsX5_winsAll wsX0_takeFrom := goodIn_r _ [8, 9, 10, 11, 93, 94, 95, 96] (by decide +kernel) (by decide +kernel)
set_option maxRecDepth 20000 in
theorem gX5_winsAll_X0_takeFrom : GoodIn wsX5_winsAll (wsV RX5 225 RX0 yX0_takeFrom wsX0_takeFrom) := goodIn_app (goodIn_of _ (by decide +kernel)) ggX5_winsAll_X0_takeFrom
set_option maxRecDepth 20000 in
theorem ggX5_winsAll_X0_let : GoodIn wsX5_winsAll wsX0_let := goodIn_r _ [15, 9, 10, 93, 94, 95, 96] (by decide +kernel) (by decide +kernel)
set_option maxRecDepth 20000 in
theorem gX5_winsAll_X0_let : GoodIn wsX5_winsAll (wsV RX5 107 RX0 yX0_let wsX0_let) := goodIn_app (goodIn_of _ (by decide +kernel)) ggX5_winsAll_X0_let
set_option maxRecDepth 20000 in
theorem ggX5_winsAll_X0_goOn : GoodIn wsX5_winsAll wsX0_goOn := goodIn_r _ [19, 20, 9, 10, 21, 22, 23, 7, 24, 25, 26, 27, 28, 29, 30, 31, 32, 33, 34, 35, 36, 37, 38, 39, 40, 41, 42, 43, 44, 45, 46, 47, 48, 49, 50, 51, 52, 53, 54, 55, 56, 57, 11, 58, 59, 60, 61, 62, 63, 64, 65, 66, 13, 14, 15, 67, 68, 69, 88, 89, 90, 91, 92, 93, 94, 95, 96] (by decide +kernel) (by decide +kernel)
set_option maxRecDepth 20000 in
theorem gX5_winsAll_X0_goOn : GoodIn wsX5_winsAll (wsV RX5 117 RX0 yX0_goOn wsX0_goOn) := goodIn_app (goodIn_of _ (by decide +kernel)) ggX5_winsAll_X0_goOn
set_option maxRecDepth 20000 in
theorem ggX5_winsAll_X0_areWillingRight : GoodIn wsX5_winsAll wsX0_areWillingRight := goodIn_r _ [73, 9, 44, 45, 46, 32, 47, 48, 49, 50, 51, 34, 52, 88, 89, 90, 91, 92, 93, 94, 95, 96] (by decide +kernel) (by decide +kernel)
set_option maxRecDepth 20000 in
theorem gX5_winsAll_X0_areWillingRight : GoodIn wsX5_winsAll (wsV RX5 231 RX0 yX0_areWillingRight wsX0_areWillingRight) := goodIn_app (goodIn_of _ (by decide +kernel)) ggX5_winsAll_X0_areWillingRight
theorem dX5_winsAll_0 : decode cX5_winsAll 0 = .ok (.aload_n 0, 1) := by decide +kernel
theorem dX5_winsAll_1 : decode cX5_winsAll 1 = .ok (.getfield 36, 3) := by decide +kernel
theorem dX5_winsAll_4 : decode cX5_winsAll 4 = .ok (.aload_n 0, 1) := by decide +kernel
theorem dX5_winsAll_5 : decode cX5_winsAll 5 = .ok (.getfield 26, 3) := by decide +kernel
theorem dX5_winsAll_8 : decode cX5_winsAll 8 = .ok (.getfield 97, 3) := by decide +kernel
theorem dX5_winsAll_11 : decode cX5_winsAll 11 = .ok (.invokevirtual 225, 3) := by decide +kernel
theorem dX5_winsAll_14 : decode cX5_winsAll 14 = .ok (.iconst 0, 1) := by decide +kernel
theorem dX5_winsAll_15 : decode cX5_winsAll 15 = .ok (.istore_n 3, 1) := by decide +kernel
theorem dX5_winsAll_16 : decode cX5_winsAll 16 = .ok (.iload_n 3, 1) := by decide +kernel
theorem dX5_winsAll_17 : decode cX5_winsAll 17 = .ok (.aload_n 0, 1) := by decide +kernel
theorem dX5_winsAll_18 : decode cX5_winsAll 18 = .ok (.getfield 19, 3) := by decide +kernel
theorem dX5_winsAll_21 : decode cX5_winsAll 21 = .ok (.getfield 83, 3) := by decide +kernel
theorem dX5_winsAll_24 : decode cX5_winsAll 24 = .ok (.if_icmp .ge 27, 3) := by decide +kernel
theorem dX5_winsAll_27 : decode cX5_winsAll 27 = .ok (.iload_n 1, 1) := by decide +kernel
theorem dX5_winsAll_28 : decode cX5_winsAll 28 = .ok (.iload_n 3, 1) := by decide +kernel
theorem dX5_winsAll_29 : decode cX5_winsAll 29 = .ok (.ishr, 1) := by decide +kernel
theorem dX5_winsAll_30 : decode cX5_winsAll 30 = .ok (.iconst 1, 1) := by decide +kernel
theorem dX5_winsAll_31 : decode cX5_winsAll 31 = .ok (.iand, 1) := by decide +kernel
theorem dX5_winsAll_32 : decode cX5_winsAll 32 = .ok (.iconst 1, 1) := by decide +kernel
theorem dX5_winsAll_33 : decode cX5_winsAll 33 = .ok (.if_icmp .ne 12, 3) := by decide +kernel
theorem dX5_winsAll_36 : decode cX5_winsAll 36 = .ok (.aload_n 0, 1) := by decide +kernel
theorem dX5_winsAll_37 : decode cX5_winsAll 37 = .ok (.getfield 36, 3) := by decide +kernel
theorem dX5_winsAll_40 : decode cX5_winsAll 40 = .ok (.iload_n 3, 1) := by decide +kernel
theorem dX5_winsAll_41 : decode cX5_winsAll 41 = .ok (.iconst 2, 1) := by decide +kernel
theorem dX5_winsAll_42 : decode cX5_winsAll 42 = .ok (.invokevirtual 107, 3) := by decide +kernel
theorem dX5_winsAll_45 : decode cX5_winsAll 45 = .ok (.iinc 3 1, 3) := by decide +kernel
theorem dX5_winsAll_48 : decode cX5_winsAll 48 = .ok (.goto (-32), 3) := by decide +kernel
theorem dX5_winsAll_51 : decode cX5_winsAll 51 = .ok (.iconst 0, 1) := by decide +kernel
theorem dX5_winsAll_52 : decode cX5_winsAll 52 = .ok (.istore_n 3, 1) := by decide +kernel
theorem dX5_winsAll_53 : decode cX5_winsAll 53 = .ok (.iload_n 3, 1) := by decide +kernel
theorem dX5_winsAll_54 : decode cX5_winsAll 54 = .ok (.iload_n 2, 1) := by decide +kernel
theorem dX5_winsAll_55 : decode cX5_winsAll 55 = .ok (.if_icmp .ge 21, 3) := by decide +kernel
theorem dX5_winsAll_58 : decode cX5_winsAll 58 = .ok (.aload_n 0, 1) := by decide +kernel
theorem dX5_winsAll_59 : decode cX5_winsAll 59 = .ok (.getfield 36, 3) := by decide +kernel
theorem dX5_winsAll_62 : decode cX5_winsAll 62 = .ok (.aload_n 0, 1) := by decide +kernel
theorem dX5_winsAll_63 : decode cX5_winsAll 63 = .ok (.getfield 19, 3) := by decide +kernel
theorem dX5_winsAll_66 : decode cX5_winsAll 66 = .ok (.invokevirtual 117, 3) := by decide +kernel
theorem dX5_winsAll_69 : decode cX5_winsAll 69 = .ok (.pop, 1) := by decide +kernel
theorem dX5_winsAll_70 : decode cX5_winsAll 70 = .ok (.iinc 3 1, 3) := by decide +kernel
theorem dX5_winsAll_73 : decode cX5_winsAll 73 = .ok (.goto (-20), 3) := by decide +kernel
theorem dX5_winsAll_76 : decode cX5_winsAll 76 = .ok (.aload_n 0, 1) := by decide +kernel
theorem dX5_winsAll_77 : decode cX5_winsAll 77 = .ok (.getfield 36, 3) := by decide +kernel
theorem dX5_winsAll_80 : decode cX5_winsAll 80 = .ok (.aload_n 0, 1) := by decide +kernel
theorem dX5_winsAll_81 : decode cX5_winsAll 81 = .ok (.getfield 19, 3) := by decide +kernel
theorem dX5_winsAll_84 : decode cX5_winsAll 84 = .ok (.invokevirtual 231, 3) := by decide +kernel
theorem dX5_winsAll_87 : decode cX5_winsAll 87 = .ok (.ireturn, 1) := by decide +kernel
set_option maxRecDepth 20000 in
theorem ggX5_waysBegun_X5_beganSo : GoodIn wsX5_waysBegun wsX5_beganSo := goodIn_r _ [5, 6, 7, 8, 9, 10, 11, 12, 13, 14, 15, 16, 17, 18, 19, 20, 21, 22, 23, 24, 25, 26, 27, 28, 29, 30, 31, 32, 33, 34, 35, 36, 37, 38, 39, 40, 41, 42, 43, 44, 45, 46, 47, 48, 49, 50, 51, 52, 53, 54, 55, 56, 57, 58, 59, 60, 61, 62, 63, 64, 65, 66, 67, 68, 69, 70, 71, 72, 73, 74, 75, 76, 4, 77, 78, 79, 80, 81, 82, 83, 84, 85, 86, 87, 88, 89, 90, 91, 92, 93, 94, 96, 97, 98, 99, 100, 101, 102, 103, 104, 105, 106, 107, 108, 109, 110, 111, 112, 113, 114, 115, 116, 117, 118] (by decide +kernel) (by decide +kernel)
set_option maxRecDepth 20000 in
theorem gX5_waysBegun_X5_beganSo : GoodIn wsX5_waysBegun (wsV RX5 234 RX5 yX5_beganSo wsX5_beganSo) := goodIn_app (goodIn_of _ (by decide +kernel)) ggX5_waysBegun_X5_beganSo
set_option maxRecDepth 20000 in
theorem ggX5_waysBegun_X5_oneIf : GoodIn wsX5_waysBegun wsX5_oneIf := goodIn_r _ [77] (by decide +kernel) (by decide +kernel)
set_option maxRecDepth 20000 in
theorem gX5_waysBegun_X5_oneIf : GoodIn wsX5_waysBegun (va_wsS RX5 218 yX5_oneIf wsX5_oneIf) := goodIn_app (goodIn_of _ (by decide +kernel)) ggX5_waysBegun_X5_oneIf
theorem dX5_waysBegun_0 : decode cX5_waysBegun 0 = .ok (.iconst 0, 1) := by decide +kernel
theorem dX5_waysBegun_1 : decode cX5_waysBegun 1 = .ok (.istore_n 1, 1) := by decide +kernel
theorem dX5_waysBegun_2 : decode cX5_waysBegun 2 = .ok (.iconst 0, 1) := by decide +kernel
theorem dX5_waysBegun_3 : decode cX5_waysBegun 3 = .ok (.istore_n 2, 1) := by decide +kernel
theorem dX5_waysBegun_4 : decode cX5_waysBegun 4 = .ok (.iload_n 2, 1) := by decide +kernel
theorem dX5_waysBegun_5 : decode cX5_waysBegun 5 = .ok (.sipush 256, 3) := by decide +kernel
theorem dX5_waysBegun_8 : decode cX5_waysBegun 8 = .ok (.if_icmp .ge 20, 3) := by decide +kernel
theorem dX5_waysBegun_11 : decode cX5_waysBegun 11 = .ok (.iload_n 1, 1) := by decide +kernel
theorem dX5_waysBegun_12 : decode cX5_waysBegun 12 = .ok (.aload_n 0, 1) := by decide +kernel
theorem dX5_waysBegun_13 : decode cX5_waysBegun 13 = .ok (.iload_n 2, 1) := by decide +kernel
theorem dX5_waysBegun_14 : decode cX5_waysBegun 14 = .ok (.invokevirtual 234, 3) := by decide +kernel
theorem dX5_waysBegun_17 : decode cX5_waysBegun 17 = .ok (.invokestatic 218, 3) := by decide +kernel
theorem dX5_waysBegun_20 : decode cX5_waysBegun 20 = .ok (.iadd, 1) := by decide +kernel
theorem dX5_waysBegun_21 : decode cX5_waysBegun 21 = .ok (.istore_n 1, 1) := by decide +kernel
theorem dX5_waysBegun_22 : decode cX5_waysBegun 22 = .ok (.iinc 2 1, 3) := by decide +kernel
theorem dX5_waysBegun_25 : decode cX5_waysBegun 25 = .ok (.goto (-21), 3) := by decide +kernel
theorem dX5_waysBegun_28 : decode cX5_waysBegun 28 = .ok (.iload_n 1, 1) := by decide +kernel
theorem dX5_waysBegun_29 : decode cX5_waysBegun 29 = .ok (.ireturn, 1) := by decide +kernel
set_option maxRecDepth 20000 in
theorem ggX5_leastBegun_X5_beganSo : GoodIn wsX5_leastBegun wsX5_beganSo := goodIn_r _ [5, 6, 7, 8, 9, 10, 11, 12, 13, 14, 15, 16, 17, 18, 19, 20, 21, 22, 23, 24, 25, 26, 27, 28, 29, 30, 31, 32, 33, 34, 35, 36, 37, 38, 39, 40, 41, 42, 43, 44, 45, 46, 47, 48, 49, 50, 51, 52, 53, 54, 55, 56, 57, 58, 59, 60, 61, 62, 63, 64, 65, 66, 67, 68, 69, 70, 71, 72, 73, 74, 75, 76, 4, 77, 78, 79, 80, 81, 82, 83, 84, 85, 86, 87, 88, 89, 90, 91, 92, 93, 94, 95, 96, 97, 98, 99, 100, 101, 102, 103, 104, 105, 106, 107, 108, 109, 110, 111, 112, 113, 114, 115, 116, 117] (by decide +kernel) (by decide +kernel)
set_option maxRecDepth 20000 in
theorem gX5_leastBegun_X5_beganSo : GoodIn wsX5_leastBegun (wsV RX5 234 RX5 yX5_beganSo wsX5_beganSo) := goodIn_app (goodIn_of _ (by decide +kernel)) ggX5_leastBegun_X5_beganSo
theorem dX5_leastBegun_0 : decode cX5_leastBegun 0 = .ok (.iconst 0, 1) := by decide +kernel
theorem dX5_leastBegun_1 : decode cX5_leastBegun 1 = .ok (.istore_n 1, 1) := by decide +kernel
theorem dX5_leastBegun_2 : decode cX5_leastBegun 2 = .ok (.iload_n 1, 1) := by decide +kernel
theorem dX5_leastBegun_3 : decode cX5_leastBegun 3 = .ok (.sipush 256, 3) := by decide +kernel
theorem dX5_leastBegun_6 : decode cX5_leastBegun 6 = .ok (.if_icmp .ge 19, 3) := by decide +kernel
theorem dX5_leastBegun_9 : decode cX5_leastBegun 9 = .ok (.aload_n 0, 1) := by decide +kernel
theorem dX5_leastBegun_10 : decode cX5_leastBegun 10 = .ok (.iload_n 1, 1) := by decide +kernel
theorem dX5_leastBegun_11 : decode cX5_leastBegun 11 = .ok (.invokevirtual 234, 3) := by decide +kernel
theorem dX5_leastBegun_14 : decode cX5_leastBegun 14 = .ok (.ifCond .eq 5, 3) := by decide +kernel
theorem dX5_leastBegun_17 : decode cX5_leastBegun 17 = .ok (.iload_n 1, 1) := by decide +kernel
theorem dX5_leastBegun_18 : decode cX5_leastBegun 18 = .ok (.ireturn, 1) := by decide +kernel
theorem dX5_leastBegun_19 : decode cX5_leastBegun 19 = .ok (.iinc 1 1, 3) := by decide +kernel
theorem dX5_leastBegun_22 : decode cX5_leastBegun 22 = .ok (.goto (-20), 3) := by decide +kernel
theorem dX5_leastBegun_25 : decode cX5_leastBegun 25 = .ok (.iconst (-1), 1) := by decide +kernel
theorem dX5_leastBegun_26 : decode cX5_leastBegun 26 = .ok (.ireturn, 1) := by decide +kernel
set_option maxRecDepth 20000 in
theorem ggX5_beganSo_X2_has : GoodIn wsX5_beganSo wsX2_has := goodIn_r _ [8, 9, 109, 110, 111, 112, 113] (by decide +kernel) (by decide +kernel)
set_option maxRecDepth 20000 in
theorem gX5_beganSo_X2_has : GoodIn wsX5_beganSo (wsV RX5 86 RX2 yX2_has wsX2_has) := goodIn_app (goodIn_of _ (by decide +kernel)) ggX5_beganSo_X2_has
set_option maxRecDepth 20000 in
theorem ggX5_beganSo_X0_beginWith : GoodIn wsX5_beganSo wsX0_beginWith := goodIn_r _ [14, 15, 16, 17, 105, 106, 107, 108] (by decide +kernel) (by decide +kernel)
set_option maxRecDepth 20000 in
theorem gX5_beganSo_X0_beginWith : GoodIn wsX5_beganSo (wsV RX5 237 RX0 yX0_beginWith wsX0_beginWith) := goodIn_app (goodIn_of _ (by decide +kernel)) ggX5_beganSo_X0_beginWith
set_option maxRecDepth 20000 in
theorem ggX5_beganSo_X0_let : GoodIn wsX5_beganSo wsX0_let := goodIn_r _ [21, 15, 16, 105, 106, 107, 108] (by decide +kernel) (by decide +kernel)
set_option maxRecDepth 20000 in
theorem gX5_beganSo_X0_let : GoodIn wsX5_beganSo (wsV RX5 107 RX0 yX0_let wsX0_let) := goodIn_app (goodIn_of _ (by decide +kernel)) ggX5_beganSo_X0_let
set_option maxRecDepth 20000 in
theorem ggX5_beganSo_X0_goOn : GoodIn wsX5_beganSo wsX0_goOn := goodIn_r _ [25, 26, 15, 16, 27, 28, 29, 13, 30, 31, 32, 33, 34, 35, 36, 37, 7, 38, 9, 39, 40, 41, 42, 43, 44, 45, 46, 47, 48, 49, 50, 51, 52, 53, 54, 55, 56, 57, 58, 59, 60, 61, 17, 62, 63, 64, 65, 66, 67, 68, 69, 70, 19, 20, 21, 71, 72, 73, 109, 110, 111, 112, 113, 105, 106, 107, 108] (by decide +kernel) (by decide +kernel)
set_option maxRecDepth 20000 in
theorem gX5_beganSo_X0_goOn : GoodIn wsX5_beganSo (wsV RX5 117 RX0 yX0_goOn wsX0_goOn) := goodIn_app (goodIn_of _ (by decide +kernel)) ggX5_beganSo_X0_goOn
set_option maxRecDepth 20000 in
theorem ggX5_beganSo_X0_palmsRight : GoodIn wsX5_beganSo wsX0_palmsRight := goodIn_r _ [77, 15, 78, 79, 80, 7, 81, 9, 82, 109, 110, 111, 112, 113, 105, 106, 107, 108] (by decide +kernel) (by decide +kernel)
set_option maxRecDepth 20000 in
theorem gX5_beganSo_X0_palmsRight : GoodIn wsX5_beganSo (wsV RX5 124 RX0 yX0_palmsRight wsX0_palmsRight) := goodIn_app (goodIn_of _ (by decide +kernel)) ggX5_beganSo_X0_palmsRight
set_option maxRecDepth 20000 in
theorem ggX5_beganSo_X3_recordedAt : GoodIn wsX5_beganSo wsX3_recordedAt := goodIn_r _ [87, 88, 89, 72, 90, 100, 101, 102, 103, 104] (by decide +kernel) (by decide +kernel)
set_option maxRecDepth 20000 in
theorem gX5_beganSo_X3_recordedAt : GoodIn wsX5_beganSo (wsV RX5 241 RX3 yX3_recordedAt wsX3_recordedAt) := goodIn_app (goodIn_of _ (by decide +kernel)) ggX5_beganSo_X3_recordedAt
theorem dX5_beganSo_0 : decode cX5_beganSo 0 = .ok (.iload_n 1, 1) := by decide +kernel
theorem dX5_beganSo_1 : decode cX5_beganSo 1 = .ok (.bipush 32, 2) := by decide +kernel
theorem dX5_beganSo_3 : decode cX5_beganSo 3 = .ok (.idiv, 1) := by decide +kernel
theorem dX5_beganSo_4 : decode cX5_beganSo 4 = .ok (.istore_n 2, 1) := by decide +kernel
theorem dX5_beganSo_5 : decode cX5_beganSo 5 = .ok (.iload_n 1, 1) := by decide +kernel
theorem dX5_beganSo_6 : decode cX5_beganSo 6 = .ok (.iconst 4, 1) := by decide +kernel
theorem dX5_beganSo_7 : decode cX5_beganSo 7 = .ok (.idiv, 1) := by decide +kernel
theorem dX5_beganSo_8 : decode cX5_beganSo 8 = .ok (.bipush 8, 2) := by decide +kernel
theorem dX5_beganSo_10 : decode cX5_beganSo 10 = .ok (.irem, 1) := by decide +kernel
theorem dX5_beganSo_11 : decode cX5_beganSo 11 = .ok (.istore_n 3, 1) := by decide +kernel
theorem dX5_beganSo_12 : decode cX5_beganSo 12 = .ok (.iload_n 2, 1) := by decide +kernel
theorem dX5_beganSo_13 : decode cX5_beganSo 13 = .ok (.iload_n 3, 1) := by decide +kernel
theorem dX5_beganSo_14 : decode cX5_beganSo 14 = .ok (.if_icmp .ge 14, 3) := by decide +kernel
theorem dX5_beganSo_17 : decode cX5_beganSo 17 = .ok (.aload_n 0, 1) := by decide +kernel
theorem dX5_beganSo_18 : decode cX5_beganSo 18 = .ok (.getfield 19, 3) := by decide +kernel
theorem dX5_beganSo_21 : decode cX5_beganSo 21 = .ok (.iload_n 3, 1) := by decide +kernel
theorem dX5_beganSo_22 : decode cX5_beganSo 22 = .ok (.invokevirtual 86, 3) := by decide +kernel
theorem dX5_beganSo_25 : decode cX5_beganSo 25 = .ok (.ifCond .ne 5, 3) := by decide +kernel
theorem dX5_beganSo_28 : decode cX5_beganSo 28 = .ok (.iconst 0, 1) := by decide +kernel
theorem dX5_beganSo_29 : decode cX5_beganSo 29 = .ok (.ireturn, 1) := by decide +kernel
theorem dX5_beganSo_30 : decode cX5_beganSo 30 = .ok (.aload_n 0, 1) := by decide +kernel
theorem dX5_beganSo_31 : decode cX5_beganSo 31 = .ok (.getfield 36, 3) := by decide +kernel
theorem dX5_beganSo_34 : decode cX5_beganSo 34 = .ok (.aload_n 0, 1) := by decide +kernel
theorem dX5_beganSo_35 : decode cX5_beganSo 35 = .ok (.getfield 26, 3) := by decide +kernel
theorem dX5_beganSo_38 : decode cX5_beganSo 38 = .ok (.getfield 97, 3) := by decide +kernel
theorem dX5_beganSo_41 : decode cX5_beganSo 41 = .ok (.getfield 114, 3) := by decide +kernel
theorem dX5_beganSo_44 : decode cX5_beganSo 44 = .ok (.invokevirtual 237, 3) := by decide +kernel
theorem dX5_beganSo_47 : decode cX5_beganSo 47 = .ok (.aload_n 0, 1) := by decide +kernel
theorem dX5_beganSo_48 : decode cX5_beganSo 48 = .ok (.getfield 36, 3) := by decide +kernel
theorem dX5_beganSo_51 : decode cX5_beganSo 51 = .ok (.iload_n 2, 1) := by decide +kernel
theorem dX5_beganSo_52 : decode cX5_beganSo 52 = .ok (.iload_n 1, 1) := by decide +kernel
theorem dX5_beganSo_53 : decode cX5_beganSo 53 = .ok (.iconst 2, 1) := by decide +kernel
theorem dX5_beganSo_54 : decode cX5_beganSo 54 = .ok (.idiv, 1) := by decide +kernel
theorem dX5_beganSo_55 : decode cX5_beganSo 55 = .ok (.iconst 2, 1) := by decide +kernel
theorem dX5_beganSo_56 : decode cX5_beganSo 56 = .ok (.irem, 1) := by decide +kernel
theorem dX5_beganSo_57 : decode cX5_beganSo 57 = .ok (.iconst 1, 1) := by decide +kernel
theorem dX5_beganSo_58 : decode cX5_beganSo 58 = .ok (.if_icmp .ne 7, 3) := by decide +kernel
theorem dX5_beganSo_61 : decode cX5_beganSo 61 = .ok (.iconst 2, 1) := by decide +kernel
theorem dX5_beganSo_62 : decode cX5_beganSo 62 = .ok (.goto 4, 3) := by decide +kernel
theorem dX5_beganSo_65 : decode cX5_beganSo 65 = .ok (.iconst 1, 1) := by decide +kernel
theorem dX5_beganSo_66 : decode cX5_beganSo 66 = .ok (.invokevirtual 107, 3) := by decide +kernel
theorem dX5_beganSo_69 : decode cX5_beganSo 69 = .ok (.aload_n 0, 1) := by decide +kernel
theorem dX5_beganSo_70 : decode cX5_beganSo 70 = .ok (.getfield 36, 3) := by decide +kernel
theorem dX5_beganSo_73 : decode cX5_beganSo 73 = .ok (.iload_n 3, 1) := by decide +kernel
theorem dX5_beganSo_74 : decode cX5_beganSo 74 = .ok (.iload_n 1, 1) := by decide +kernel
theorem dX5_beganSo_75 : decode cX5_beganSo 75 = .ok (.iconst 2, 1) := by decide +kernel
theorem dX5_beganSo_76 : decode cX5_beganSo 76 = .ok (.irem, 1) := by decide +kernel
theorem dX5_beganSo_77 : decode cX5_beganSo 77 = .ok (.iconst 1, 1) := by decide +kernel
theorem dX5_beganSo_78 : decode cX5_beganSo 78 = .ok (.if_icmp .ne 7, 3) := by decide +kernel
theorem dX5_beganSo_81 : decode cX5_beganSo 81 = .ok (.iconst 2, 1) := by decide +kernel
theorem dX5_beganSo_82 : decode cX5_beganSo 82 = .ok (.goto 4, 3) := by decide +kernel
theorem dX5_beganSo_85 : decode cX5_beganSo 85 = .ok (.iconst 1, 1) := by decide +kernel
theorem dX5_beganSo_86 : decode cX5_beganSo 86 = .ok (.invokevirtual 107, 3) := by decide +kernel
theorem dX5_beganSo_89 : decode cX5_beganSo 89 = .ok (.iconst 0, 1) := by decide +kernel
theorem dX5_beganSo_90 : decode cX5_beganSo 90 = .ok (.istore 4, 2) := by decide +kernel
theorem dX5_beganSo_92 : decode cX5_beganSo 92 = .ok (.iload 4, 2) := by decide +kernel
theorem dX5_beganSo_94 : decode cX5_beganSo 94 = .ok (.aload_n 0, 1) := by decide +kernel
theorem dX5_beganSo_95 : decode cX5_beganSo 95 = .ok (.getfield 26, 3) := by decide +kernel
theorem dX5_beganSo_98 : decode cX5_beganSo 98 = .ok (.getfield 159, 3) := by decide +kernel
theorem dX5_beganSo_101 : decode cX5_beganSo 101 = .ok (.if_icmp .ge 46, 3) := by decide +kernel
theorem dX5_beganSo_104 : decode cX5_beganSo 104 = .ok (.aload_n 0, 1) := by decide +kernel
theorem dX5_beganSo_105 : decode cX5_beganSo 105 = .ok (.getfield 36, 3) := by decide +kernel
theorem dX5_beganSo_108 : decode cX5_beganSo 108 = .ok (.aload_n 0, 1) := by decide +kernel
theorem dX5_beganSo_109 : decode cX5_beganSo 109 = .ok (.getfield 19, 3) := by decide +kernel
theorem dX5_beganSo_112 : decode cX5_beganSo 112 = .ok (.invokevirtual 117, 3) := by decide +kernel
theorem dX5_beganSo_115 : decode cX5_beganSo 115 = .ok (.pop, 1) := by decide +kernel
theorem dX5_beganSo_116 : decode cX5_beganSo 116 = .ok (.aload_n 0, 1) := by decide +kernel
theorem dX5_beganSo_117 : decode cX5_beganSo 117 = .ok (.getfield 36, 3) := by decide +kernel
theorem dX5_beganSo_120 : decode cX5_beganSo 120 = .ok (.aload_n 0, 1) := by decide +kernel
theorem dX5_beganSo_121 : decode cX5_beganSo 121 = .ok (.getfield 19, 3) := by decide +kernel
theorem dX5_beganSo_124 : decode cX5_beganSo 124 = .ok (.invokevirtual 124, 3) := by decide +kernel
theorem dX5_beganSo_127 : decode cX5_beganSo 127 = .ok (.aload_n 0, 1) := by decide +kernel
theorem dX5_beganSo_128 : decode cX5_beganSo 128 = .ok (.getfield 26, 3) := by decide +kernel
theorem dX5_beganSo_131 : decode cX5_beganSo 131 = .ok (.iload 4, 2) := by decide +kernel
theorem dX5_beganSo_133 : decode cX5_beganSo 133 = .ok (.invokevirtual 241, 3) := by decide +kernel
theorem dX5_beganSo_136 : decode cX5_beganSo 136 = .ok (.if_icmp .eq 5, 3) := by decide +kernel
theorem dX5_beganSo_139 : decode cX5_beganSo 139 = .ok (.iconst 0, 1) := by decide +kernel
theorem dX5_beganSo_140 : decode cX5_beganSo 140 = .ok (.ireturn, 1) := by decide +kernel
theorem dX5_beganSo_141 : decode cX5_beganSo 141 = .ok (.iinc 4 1, 3) := by decide +kernel
theorem dX5_beganSo_144 : decode cX5_beganSo 144 = .ok (.goto (-52), 3) := by decide +kernel
theorem dX5_beganSo_147 : decode cX5_beganSo 147 = .ok (.iconst 1, 1) := by decide +kernel
theorem dX5_beganSo_148 : decode cX5_beganSo 148 = .ok (.ireturn, 1) := by decide +kernel
set_option maxRecDepth 20000 in
theorem ggX5_nightsTold_X1_init : GoodIn wsX5_nightsTold wsX1_init := goodIn_r _ [9, 10, 11, 12, 13, 112] (by decide +kernel) (by decide +kernel)
set_option maxRecDepth 20000 in
theorem gX5_nightsTold_X1_init : GoodIn wsX5_nightsTold (wsX1_init) := ggX5_nightsTold_X1_init
set_option maxRecDepth 20000 in
theorem ggX5_nightsTold_X0_takeFrom : GoodIn wsX5_nightsTold wsX0_takeFrom := goodIn_r _ [18, 19, 20, 21, 127, 128, 129, 130] (by decide +kernel) (by decide +kernel)
set_option maxRecDepth 20000 in
theorem gX5_nightsTold_X0_takeFrom : GoodIn wsX5_nightsTold (wsV RX5 225 RX0 yX0_takeFrom wsX0_takeFrom) := goodIn_app (goodIn_of _ (by decide +kernel)) ggX5_nightsTold_X0_takeFrom
set_option maxRecDepth 20000 in
theorem ggX5_nightsTold_X5_happen : GoodIn wsX5_nightsTold wsX5_happen := goodIn_r _ [26, 4, 6, 27, 28, 29, 3, 30, 31, 13, 32, 33, 34, 35, 36, 37, 17, 38, 19, 39, 40, 41, 42, 43, 44, 45, 46, 25, 47, 48, 49, 50, 51, 20, 113, 114, 115, 116, 117, 118, 119, 120, 121, 131, 132, 133, 134, 135, 127, 128, 129, 130, 112] (by decide +kernel) (by decide +kernel)
set_option maxRecDepth 20000 in
theorem gX5_nightsTold_X5_happen : GoodIn wsX5_nightsTold (wsV RX5 248 RX5 yX5_happen wsX5_happen) := goodIn_app (goodIn_of _ (by decide +kernel)) ggX5_nightsTold_X5_happen
set_option maxRecDepth 20000 in
theorem ggX5_nightsTold_X0_goOn : GoodIn wsX5_nightsTold wsX0_goOn := goodIn_r _ [55, 56, 19, 20, 57, 58, 59, 17, 60, 61, 62, 63, 64, 65, 66, 67, 42, 68, 44, 69, 70, 71, 72, 73, 74, 75, 76, 77, 78, 79, 80, 81, 82, 40, 41, 43, 45, 39, 83, 84, 85, 86, 21, 87, 88, 89, 90, 91, 92, 93, 94, 95, 49, 50, 51, 96, 25, 97, 131, 132, 133, 134, 135, 127, 128, 129, 130] (by decide +kernel) (by decide +kernel)
set_option maxRecDepth 20000 in
theorem gX5_nightsTold_X0_goOn : GoodIn wsX5_nightsTold (wsV RX5 117 RX0 yX0_goOn wsX0_goOn) := goodIn_app (goodIn_of _ (by decide +kernel)) ggX5_nightsTold_X0_goOn
set_option maxRecDepth 20000 in
theorem ggX5_nightsTold_X0_palmsRight : GoodIn wsX5_nightsTold wsX0_palmsRight := goodIn_r _ [101, 19, 102, 103, 104, 42, 105, 44, 106, 131, 132, 133, 134, 135, 127, 128, 129, 130] (by decide +kernel) (by decide +kernel)
set_option maxRecDepth 20000 in
theorem gX5_nightsTold_X0_palmsRight : GoodIn wsX5_nightsTold (wsV RX5 124 RX0 yX0_palmsRight wsX0_palmsRight) := goodIn_app (goodIn_of _ (by decide +kernel)) ggX5_nightsTold_X0_palmsRight
set_option maxRecDepth 20000 in
theorem ggX5_nightsTold_X2_allPalms : GoodIn wsX5_nightsTold wsX2_allPalms := goodIn_r _ [110, 44, 106, 131, 132, 133, 134, 135] (by decide +kernel) (by decide +kernel)
set_option maxRecDepth 20000 in
theorem gX5_nightsTold_X2_allPalms : GoodIn wsX5_nightsTold (wsV RX5 179 RX2 yX2_allPalms wsX2_allPalms) := goodIn_app (goodIn_of _ (by decide +kernel)) ggX5_nightsTold_X2_allPalms
set_option maxRecDepth 20000 in
theorem ggX5_nightsTold_X5_oneIf : GoodIn wsX5_nightsTold wsX5_oneIf := goodIn_r _ [97] (by decide +kernel) (by decide +kernel)
set_option maxRecDepth 20000 in
theorem gX5_nightsTold_X5_oneIf : GoodIn wsX5_nightsTold (va_wsS RX5 218 yX5_oneIf wsX5_oneIf) := goodIn_app (goodIn_of _ (by decide +kernel)) ggX5_nightsTold_X5_oneIf
theorem dX5_nightsTold_0 : decode cX5_nightsTold 0 = .ok (.new 244, 3) := by decide +kernel
theorem dX5_nightsTold_3 : decode cX5_nightsTold 3 = .ok (.dup, 1) := by decide +kernel
theorem dX5_nightsTold_4 : decode cX5_nightsTold 4 = .ok (.iload_n 2, 1) := by decide +kernel
theorem dX5_nightsTold_5 : decode cX5_nightsTold 5 = .ok (.invokespecial 246, 3) := by decide +kernel
theorem dX5_nightsTold_8 : decode cX5_nightsTold 8 = .ok (.astore 4, 2) := by decide +kernel
theorem dX5_nightsTold_10 : decode cX5_nightsTold 10 = .ok (.iconst 0, 1) := by decide +kernel
theorem dX5_nightsTold_11 : decode cX5_nightsTold 11 = .ok (.istore 5, 2) := by decide +kernel
theorem dX5_nightsTold_13 : decode cX5_nightsTold 13 = .ok (.aload_n 0, 1) := by decide +kernel
theorem dX5_nightsTold_14 : decode cX5_nightsTold 14 = .ok (.getfield 36, 3) := by decide +kernel
theorem dX5_nightsTold_17 : decode cX5_nightsTold 17 = .ok (.aload_n 0, 1) := by decide +kernel
theorem dX5_nightsTold_18 : decode cX5_nightsTold 18 = .ok (.getfield 26, 3) := by decide +kernel
theorem dX5_nightsTold_21 : decode cX5_nightsTold 21 = .ok (.getfield 97, 3) := by decide +kernel
theorem dX5_nightsTold_24 : decode cX5_nightsTold 24 = .ok (.invokevirtual 225, 3) := by decide +kernel
theorem dX5_nightsTold_27 : decode cX5_nightsTold 27 = .ok (.iconst 0, 1) := by decide +kernel
theorem dX5_nightsTold_28 : decode cX5_nightsTold 28 = .ok (.istore 6, 2) := by decide +kernel
theorem dX5_nightsTold_30 : decode cX5_nightsTold 30 = .ok (.iload 6, 2) := by decide +kernel
theorem dX5_nightsTold_32 : decode cX5_nightsTold 32 = .ok (.iload_n 1, 1) := by decide +kernel
theorem dX5_nightsTold_33 : decode cX5_nightsTold 33 = .ok (.if_icmp .ge 63, 3) := by decide +kernel
theorem dX5_nightsTold_36 : decode cX5_nightsTold 36 = .ok (.aload_n 0, 1) := by decide +kernel
theorem dX5_nightsTold_37 : decode cX5_nightsTold 37 = .ok (.aload 4, 2) := by decide +kernel
theorem dX5_nightsTold_39 : decode cX5_nightsTold 39 = .ok (.invokevirtual 248, 3) := by decide +kernel
theorem dX5_nightsTold_42 : decode cX5_nightsTold 42 = .ok (.aload_n 0, 1) := by decide +kernel
theorem dX5_nightsTold_43 : decode cX5_nightsTold 43 = .ok (.getfield 36, 3) := by decide +kernel
theorem dX5_nightsTold_46 : decode cX5_nightsTold 46 = .ok (.aload_n 0, 1) := by decide +kernel
theorem dX5_nightsTold_47 : decode cX5_nightsTold 47 = .ok (.getfield 19, 3) := by decide +kernel
theorem dX5_nightsTold_50 : decode cX5_nightsTold 50 = .ok (.invokevirtual 117, 3) := by decide +kernel
theorem dX5_nightsTold_53 : decode cX5_nightsTold 53 = .ok (.pop, 1) := by decide +kernel
theorem dX5_nightsTold_54 : decode cX5_nightsTold 54 = .ok (.iload 5, 2) := by decide +kernel
theorem dX5_nightsTold_56 : decode cX5_nightsTold 56 = .ok (.iconst 2, 1) := by decide +kernel
theorem dX5_nightsTold_57 : decode cX5_nightsTold 57 = .ok (.aload_n 0, 1) := by decide +kernel
theorem dX5_nightsTold_58 : decode cX5_nightsTold 58 = .ok (.getfield 36, 3) := by decide +kernel
theorem dX5_nightsTold_61 : decode cX5_nightsTold 61 = .ok (.aload_n 0, 1) := by decide +kernel
theorem dX5_nightsTold_62 : decode cX5_nightsTold 62 = .ok (.getfield 19, 3) := by decide +kernel
theorem dX5_nightsTold_65 : decode cX5_nightsTold 65 = .ok (.invokevirtual 124, 3) := by decide +kernel
theorem dX5_nightsTold_68 : decode cX5_nightsTold 68 = .ok (.imul, 1) := by decide +kernel
theorem dX5_nightsTold_69 : decode cX5_nightsTold 69 = .ok (.aload_n 0, 1) := by decide +kernel
theorem dX5_nightsTold_70 : decode cX5_nightsTold 70 = .ok (.getfield 19, 3) := by decide +kernel
theorem dX5_nightsTold_73 : decode cX5_nightsTold 73 = .ok (.invokevirtual 179, 3) := by decide +kernel
theorem dX5_nightsTold_76 : decode cX5_nightsTold 76 = .ok (.if_icmp .le 7, 3) := by decide +kernel
theorem dX5_nightsTold_79 : decode cX5_nightsTold 79 = .ok (.iconst 1, 1) := by decide +kernel
theorem dX5_nightsTold_80 : decode cX5_nightsTold 80 = .ok (.goto 4, 3) := by decide +kernel
theorem dX5_nightsTold_83 : decode cX5_nightsTold 83 = .ok (.iconst 0, 1) := by decide +kernel
theorem dX5_nightsTold_84 : decode cX5_nightsTold 84 = .ok (.invokestatic 218, 3) := by decide +kernel
theorem dX5_nightsTold_87 : decode cX5_nightsTold 87 = .ok (.iadd, 1) := by decide +kernel
theorem dX5_nightsTold_88 : decode cX5_nightsTold 88 = .ok (.istore 5, 2) := by decide +kernel
theorem dX5_nightsTold_90 : decode cX5_nightsTold 90 = .ok (.iinc 6 1, 3) := by decide +kernel
theorem dX5_nightsTold_93 : decode cX5_nightsTold 93 = .ok (.goto (-63), 3) := by decide +kernel
theorem dX5_nightsTold_96 : decode cX5_nightsTold 96 = .ok (.iload_n 3, 1) := by decide +kernel
theorem dX5_nightsTold_97 : decode cX5_nightsTold 97 = .ok (.ifCond .ne 15, 3) := by decide +kernel
theorem dX5_nightsTold_100 : decode cX5_nightsTold 100 = .ok (.aload_n 0, 1) := by decide +kernel
theorem dX5_nightsTold_101 : decode cX5_nightsTold 101 = .ok (.getfield 36, 3) := by decide +kernel
theorem dX5_nightsTold_104 : decode cX5_nightsTold 104 = .ok (.aload_n 0, 1) := by decide +kernel
theorem dX5_nightsTold_105 : decode cX5_nightsTold 105 = .ok (.getfield 19, 3) := by decide +kernel
theorem dX5_nightsTold_108 : decode cX5_nightsTold 108 = .ok (.invokevirtual 124, 3) := by decide +kernel
theorem dX5_nightsTold_111 : decode cX5_nightsTold 111 = .ok (.ireturn, 1) := by decide +kernel
theorem dX5_nightsTold_112 : decode cX5_nightsTold 112 = .ok (.iload_n 3, 1) := by decide +kernel
theorem dX5_nightsTold_113 : decode cX5_nightsTold 113 = .ok (.iconst 1, 1) := by decide +kernel
theorem dX5_nightsTold_114 : decode cX5_nightsTold 114 = .ok (.if_icmp .ne 8, 3) := by decide +kernel
theorem dX5_nightsTold_117 : decode cX5_nightsTold 117 = .ok (.iload 5, 2) := by decide +kernel
theorem dX5_nightsTold_119 : decode cX5_nightsTold 119 = .ok (.goto 8, 3) := by decide +kernel
theorem dX5_nightsTold_122 : decode cX5_nightsTold 122 = .ok (.aload 4, 2) := by decide +kernel
theorem dX5_nightsTold_124 : decode cX5_nightsTold 124 = .ok (.getfield 252, 3) := by decide +kernel
theorem dX5_nightsTold_127 : decode cX5_nightsTold 127 = .ok (.ireturn, 1) := by decide +kernel
set_option maxRecDepth 20000 in
theorem ggX5_happen_X1_next : GoodIn wsX5_happen wsX1_next := goodIn_r _ [7, 8, 9, 10, 11, 12, 52] (by decide +kernel) (by decide +kernel)
set_option maxRecDepth 20000 in
theorem gX5_happen_X1_next : GoodIn wsX5_happen (wsV RX5 255 RX1 yX1_next wsX1_next) := goodIn_app (goodIn_of _ (by decide +kernel)) ggX5_happen_X1_next
set_option maxRecDepth 20000 in
theorem ggX5_happen_X0_leaveBeatOut : GoodIn wsX5_happen wsX0_leaveBeatOut := goodIn_r _ [17, 18, 19, 20, 21, 22, 23, 24, 25, 26, 27, 28, 43, 44, 45, 46, 47, 48, 49, 50, 51] (by decide +kernel) (by decide +kernel)
set_option maxRecDepth 20000 in
theorem gX5_happen_X0_leaveBeatOut : GoodIn wsX5_happen (wsV RX5 128 RX0 yX0_leaveBeatOut wsX0_leaveBeatOut) := goodIn_app (goodIn_of _ (by decide +kernel)) ggX5_happen_X0_leaveBeatOut
set_option maxRecDepth 20000 in
theorem ggX5_happen_X0_let : GoodIn wsX5_happen wsX0_let := goodIn_r _ [32, 18, 33, 48, 49, 50, 51] (by decide +kernel) (by decide +kernel)
set_option maxRecDepth 20000 in
theorem gX5_happen_X0_let : GoodIn wsX5_happen (wsV RX5 107 RX0 yX0_let wsX0_let) := goodIn_app (goodIn_of _ (by decide +kernel)) ggX5_happen_X0_let
theorem dX5_happen_0 : decode cX5_happen 0 = .ok (.aload_n 1, 1) := by decide +kernel
theorem dX5_happen_1 : decode cX5_happen 1 = .ok (.bipush 6, 2) := by decide +kernel
theorem dX5_happen_3 : decode cX5_happen 3 = .ok (.invokevirtual 255, 3) := by decide +kernel
theorem dX5_happen_6 : decode cX5_happen 6 = .ok (.tableswitch 78 0 2 #[26, 40, 62], 26) := by decide +kernel
theorem dX5_happen_32 : decode cX5_happen 32 = .ok (.aload_n 0, 1) := by decide +kernel
theorem dX5_happen_33 : decode cX5_happen 33 = .ok (.getfield 36, 3) := by decide +kernel
theorem dX5_happen_36 : decode cX5_happen 36 = .ok (.aload_n 0, 1) := by decide +kernel
theorem dX5_happen_37 : decode cX5_happen 37 = .ok (.getfield 19, 3) := by decide +kernel
theorem dX5_happen_40 : decode cX5_happen 40 = .ok (.invokevirtual 128, 3) := by decide +kernel
theorem dX5_happen_43 : decode cX5_happen 43 = .ok (.goto 41, 3) := by decide +kernel
theorem dX5_happen_46 : decode cX5_happen 46 = .ok (.aload_n 0, 1) := by decide +kernel
theorem dX5_happen_47 : decode cX5_happen 47 = .ok (.getfield 36, 3) := by decide +kernel
theorem dX5_happen_50 : decode cX5_happen 50 = .ok (.aload_n 1, 1) := by decide +kernel
theorem dX5_happen_51 : decode cX5_happen 51 = .ok (.aload_n 0, 1) := by decide +kernel
theorem dX5_happen_52 : decode cX5_happen 52 = .ok (.getfield 19, 3) := by decide +kernel
theorem dX5_happen_55 : decode cX5_happen 55 = .ok (.getfield 83, 3) := by decide +kernel
theorem dX5_happen_58 : decode cX5_happen 58 = .ok (.invokevirtual 255, 3) := by decide +kernel
theorem dX5_happen_61 : decode cX5_happen 61 = .ok (.iconst 2, 1) := by decide +kernel
theorem dX5_happen_62 : decode cX5_happen 62 = .ok (.invokevirtual 107, 3) := by decide +kernel
theorem dX5_happen_65 : decode cX5_happen 65 = .ok (.goto 19, 3) := by decide +kernel
theorem dX5_happen_68 : decode cX5_happen 68 = .ok (.aload_n 0, 1) := by decide +kernel
theorem dX5_happen_69 : decode cX5_happen 69 = .ok (.getfield 36, 3) := by decide +kernel
theorem dX5_happen_72 : decode cX5_happen 72 = .ok (.aload_n 1, 1) := by decide +kernel
theorem dX5_happen_73 : decode cX5_happen 73 = .ok (.bipush 9, 2) := by decide +kernel
theorem dX5_happen_75 : decode cX5_happen 75 = .ok (.invokevirtual 255, 3) := by decide +kernel
theorem dX5_happen_78 : decode cX5_happen 78 = .ok (.putfield 114, 3) := by decide +kernel
theorem dX5_happen_81 : decode cX5_happen 81 = .ok (.goto 3, 3) := by decide +kernel
theorem dX5_happen_84 : decode cX5_happen 84 = .ok (.return_, 1) := by decide +kernel
theorem dX6_init_0 : decode cX6_init 0 = .ok (.aload_n 0, 1) := by decide +kernel
theorem dX6_init_1 : decode cX6_init 1 = .ok (.invokespecial 1, 3) := by decide +kernel
theorem dX6_init_4 : decode cX6_init 4 = .ok (.aload_n 0, 1) := by decide +kernel
theorem dX6_init_5 : decode cX6_init 5 = .ok (.bipush 36, 2) := by decide +kernel
theorem dX6_init_7 : decode cX6_init 7 = .ok (.newarray .int, 2) := by decide +kernel
theorem dX6_init_9 : decode cX6_init 9 = .ok (.putfield 7, 3) := by decide +kernel
theorem dX6_init_12 : decode cX6_init 12 = .ok (.aload_n 0, 1) := by decide +kernel
theorem dX6_init_13 : decode cX6_init 13 = .ok (.bipush 24, 2) := by decide +kernel
theorem dX6_init_15 : decode cX6_init 15 = .ok (.newarray .int, 2) := by decide +kernel
theorem dX6_init_17 : decode cX6_init 17 = .ok (.putfield 13, 3) := by decide +kernel
theorem dX6_init_20 : decode cX6_init 20 = .ok (.aload_n 0, 1) := by decide +kernel
theorem dX6_init_21 : decode cX6_init 21 = .ok (.bipush 24, 2) := by decide +kernel
theorem dX6_init_23 : decode cX6_init 23 = .ok (.newarray .int, 2) := by decide +kernel
theorem dX6_init_25 : decode cX6_init 25 = .ok (.putfield 16, 3) := by decide +kernel
theorem dX6_init_28 : decode cX6_init 28 = .ok (.aload_n 0, 1) := by decide +kernel
theorem dX6_init_29 : decode cX6_init 29 = .ok (.bipush 8, 2) := by decide +kernel
theorem dX6_init_31 : decode cX6_init 31 = .ok (.newarray .int, 2) := by decide +kernel
theorem dX6_init_33 : decode cX6_init 33 = .ok (.putfield 19, 3) := by decide +kernel
theorem dX6_init_36 : decode cX6_init 36 = .ok (.aload_n 0, 1) := by decide +kernel
theorem dX6_init_37 : decode cX6_init 37 = .ok (.bipush 8, 2) := by decide +kernel
theorem dX6_init_39 : decode cX6_init 39 = .ok (.newarray .int, 2) := by decide +kernel
