theorem dX4_write_16 : decode cX4_write 16 = .ok (.if_icmp .lt 5, 3) := by decide +kernel
theorem dX4_write_19 : decode cX4_write 19 = .ok (.iconst 0, 1) := by decide +kernel
theorem dX4_write_20 : decode cX4_write 20 = .ok (.ireturn, 1) := by decide +kernel
theorem dX4_write_21 : decode cX4_write 21 = .ok (.aload_n 0, 1) := by decide +kernel
theorem dX4_write_22 : decode cX4_write 22 = .ok (.getfield 9, 3) := by decide +kernel
theorem dX4_write_25 : decode cX4_write 25 = .ok (.aload_n 0, 1) := by decide +kernel
theorem dX4_write_26 : decode cX4_write 26 = .ok (.getfield 15, 3) := by decide +kernel
theorem dX4_write_29 : decode cX4_write 29 = .ok (.iload_n 1, 1) := by decide +kernel
theorem dX4_write_30 : decode cX4_write 30 = .ok (.iastore, 1) := by decide +kernel
theorem dX4_write_31 : decode cX4_write 31 = .ok (.aload_n 0, 1) := by decide +kernel
theorem dX4_write_32 : decode cX4_write 32 = .ok (.dup, 1) := by decide +kernel
theorem dX4_write_33 : decode cX4_write 33 = .ok (.getfield 15, 3) := by decide +kernel
theorem dX4_write_36 : decode cX4_write 36 = .ok (.iconst 1, 1) := by decide +kernel
theorem dX4_write_37 : decode cX4_write 37 = .ok (.iadd, 1) := by decide +kernel
theorem dX4_write_38 : decode cX4_write 38 = .ok (.putfield 15, 3) := by decide +kernel
theorem dX4_write_41 : decode cX4_write 41 = .ok (.iconst 1, 1) := by decide +kernel
theorem dX4_write_42 : decode cX4_write 42 = .ok (.ireturn, 1) := by decide +kernel
theorem dX4_wipe_0 : decode cX4_wipe 0 = .ok (.aload_n 0, 1) := by decide +kernel
theorem dX4_wipe_1 : decode cX4_wipe 1 = .ok (.iconst 0, 1) := by decide +kernel
theorem dX4_wipe_2 : decode cX4_wipe 2 = .ok (.putfield 15, 3) := by decide +kernel
theorem dX4_wipe_5 : decode cX4_wipe 5 = .ok (.return_, 1) := by decide +kernel
set_option maxRecDepth 20000 in
theorem ggX4_codeAt_X5_within : GoodIn wsX4_codeAt wsX5_within := goodIn_r _ [4] (by decide +kernel) (by decide +kernel)
set_option maxRecDepth 20000 in
theorem gX4_codeAt_X5_within_n19 : GoodIn wsX4_codeAt (wsX5_within) := ggX4_codeAt_X5_within
theorem dX4_codeAt_0 : decode cX4_codeAt 0 = .ok (.iload_n 1, 1) := by decide +kernel
theorem dX4_codeAt_1 : decode cX4_codeAt 1 = .ok (.iconst 0, 1) := by decide +kernel
theorem dX4_codeAt_2 : decode cX4_codeAt 2 = .ok (.aload_n 0, 1) := by decide +kernel
theorem dX4_codeAt_3 : decode cX4_codeAt 3 = .ok (.getfield 9, 3) := by decide +kernel
theorem dX4_codeAt_6 : decode cX4_codeAt 6 = .ok (.arraylength, 1) := by decide +kernel
theorem dX4_codeAt_7 : decode cX4_codeAt 7 = .ok (.iconst 1, 1) := by decide +kernel
theorem dX4_codeAt_8 : decode cX4_codeAt 8 = .ok (.isub, 1) := by decide +kernel
theorem dX4_codeAt_9 : decode cX4_codeAt 9 = .ok (.invokestatic 19, 3) := by decide +kernel
theorem dX4_codeAt_12 : decode cX4_codeAt 12 = .ok (.ifCond .eq 12, 3) := by decide +kernel
theorem dX4_codeAt_15 : decode cX4_codeAt 15 = .ok (.aload_n 0, 1) := by decide +kernel
theorem dX4_codeAt_16 : decode cX4_codeAt 16 = .ok (.getfield 9, 3) := by decide +kernel
theorem dX4_codeAt_19 : decode cX4_codeAt 19 = .ok (.iload_n 1, 1) := by decide +kernel
theorem dX4_codeAt_20 : decode cX4_codeAt 20 = .ok (.iaload, 1) := by decide +kernel
theorem dX4_codeAt_21 : decode cX4_codeAt 21 = .ok (.goto 4, 3) := by decide +kernel
theorem dX4_codeAt_24 : decode cX4_codeAt 24 = .ok (.iconst 0, 1) := by decide +kernel
theorem dX4_codeAt_25 : decode cX4_codeAt 25 = .ok (.ireturn, 1) := by decide +kernel
set_option maxRecDepth 20000 in
theorem ggX4_firstFault_X4_fits : GoodIn wsX4_firstFault wsX4_fits := goodIn_r _ [6, 7, 8, 9, 5, 10, 11, 12, 13, 14, 15, 16, 17, 18, 19, 20, 21, 22, 23, 24, 25, 26, 27, 28, 29, 30, 31, 32, 33, 34, 35, 36, 37, 38, 39, 40, 41, 42, 43, 44, 45, 46, 47, 48, 49, 50, 51, 52, 53, 54, 55, 56, 57, 58, 59, 60, 61, 62, 63, 64, 65, 66, 67, 68, 69, 70, 71, 72, 73, 74, 75, 76, 77, 78, 79, 80, 81, 82, 83, 84, 85, 86, 87, 88, 89, 90, 91, 92, 93, 94, 95, 96, 97, 98, 99, 100, 101, 102, 103, 104, 105, 106, 107, 108, 109, 110, 111] (by decide +kernel) (by decide +kernel)
set_option maxRecDepth 20000 in
theorem gX4_firstFault_X4_fits : GoodIn wsX4_firstFault (wsV RX4 23 RX4 yX4_fits wsX4_fits) := goodIn_app (goodIn_of _ (by decide +kernel)) ggX4_firstFault_X4_fits
set_option maxRecDepth 20000 in
theorem ggX4_firstFault_X4_codeAt : GoodIn wsX4_firstFault wsX4_codeAt := goodIn_r _ [10, 11, 12, 13, 14, 110, 111] (by decide +kernel) (by decide +kernel)
set_option maxRecDepth 20000 in
theorem gX4_firstFault_X4_codeAt : GoodIn wsX4_firstFault (wsV RX4 27 RX4 yX4_codeAt wsX4_codeAt) := goodIn_app (goodIn_of _ (by decide +kernel)) ggX4_firstFault_X4_codeAt
theorem dX4_firstFault_0 : decode cX4_firstFault 0 = .ok (.iconst (-1), 1) := by decide +kernel
theorem dX4_firstFault_1 : decode cX4_firstFault 1 = .ok (.istore_n 1, 1) := by decide +kernel
theorem dX4_firstFault_2 : decode cX4_firstFault 2 = .ok (.iconst 0, 1) := by decide +kernel
theorem dX4_firstFault_3 : decode cX4_firstFault 3 = .ok (.istore_n 2, 1) := by decide +kernel
theorem dX4_firstFault_4 : decode cX4_firstFault 4 = .ok (.iload_n 2, 1) := by decide +kernel
theorem dX4_firstFault_5 : decode cX4_firstFault 5 = .ok (.aload_n 0, 1) := by decide +kernel
theorem dX4_firstFault_6 : decode cX4_firstFault 6 = .ok (.getfield 15, 3) := by decide +kernel
theorem dX4_firstFault_9 : decode cX4_firstFault 9 = .ok (.if_icmp .ge 32, 3) := by decide +kernel
theorem dX4_firstFault_12 : decode cX4_firstFault 12 = .ok (.aload_n 0, 1) := by decide +kernel
theorem dX4_firstFault_13 : decode cX4_firstFault 13 = .ok (.iload_n 2, 1) := by decide +kernel
theorem dX4_firstFault_14 : decode cX4_firstFault 14 = .ok (.iload_n 1, 1) := by decide +kernel
theorem dX4_firstFault_15 : decode cX4_firstFault 15 = .ok (.invokevirtual 23, 3) := by decide +kernel
theorem dX4_firstFault_18 : decode cX4_firstFault 18 = .ok (.ifCond .ne 5, 3) := by decide +kernel
theorem dX4_firstFault_21 : decode cX4_firstFault 21 = .ok (.iload_n 2, 1) := by decide +kernel
theorem dX4_firstFault_22 : decode cX4_firstFault 22 = .ok (.ireturn, 1) := by decide +kernel
theorem dX4_firstFault_23 : decode cX4_firstFault 23 = .ok (.aload_n 0, 1) := by decide +kernel
theorem dX4_firstFault_24 : decode cX4_firstFault 24 = .ok (.iload_n 2, 1) := by decide +kernel
theorem dX4_firstFault_25 : decode cX4_firstFault 25 = .ok (.invokevirtual 27, 3) := by decide +kernel
theorem dX4_firstFault_28 : decode cX4_firstFault 28 = .ok (.bipush 59, 2) := by decide +kernel
theorem dX4_firstFault_30 : decode cX4_firstFault 30 = .ok (.if_icmp .ne 5, 3) := by decide +kernel
theorem dX4_firstFault_33 : decode cX4_firstFault 33 = .ok (.iload_n 2, 1) := by decide +kernel
theorem dX4_firstFault_34 : decode cX4_firstFault 34 = .ok (.istore_n 1, 1) := by decide +kernel
theorem dX4_firstFault_35 : decode cX4_firstFault 35 = .ok (.iinc 2 1, 3) := by decide +kernel
theorem dX4_firstFault_38 : decode cX4_firstFault 38 = .ok (.goto (-34), 3) := by decide +kernel
theorem dX4_firstFault_41 : decode cX4_firstFault 41 = .ok (.aload_n 0, 1) := by decide +kernel
theorem dX4_firstFault_42 : decode cX4_firstFault 42 = .ok (.getfield 15, 3) := by decide +kernel
theorem dX4_firstFault_45 : decode cX4_firstFault 45 = .ok (.ireturn, 1) := by decide +kernel
set_option maxRecDepth 20000 in
theorem ggX4_isWhole_X4_firstFault : GoodIn wsX4_isWhole wsX4_firstFault := goodIn_r _ [6, 1, 7, 8, 9, 5, 10, 11, 12, 13, 14, 15, 16, 17, 18, 19, 20, 21, 22, 23, 24, 25, 26, 27, 28, 29, 30, 31, 32, 33, 34, 35, 36, 37, 38, 39, 40, 41, 42, 43, 44, 45, 46, 47, 48, 49, 50, 51, 52, 53, 54, 55, 56, 57, 58, 59, 60, 61, 62, 63, 64, 65, 66, 67, 68, 69, 70, 71, 72, 73, 74, 75, 76, 77, 78, 79, 80, 81, 82, 83, 84, 85, 86, 87, 88, 89, 90, 91, 92, 93, 94, 95, 96, 97, 98, 99, 100, 101, 102, 103, 104, 105, 106, 107, 108, 109, 110, 111, 112, 113, 114, 115] (by decide +kernel) (by decide +kernel)
set_option maxRecDepth 20000 in
theorem gX4_isWhole_X4_firstFault : GoodIn wsX4_isWhole (wsV RX4 31 RX4 yX4_firstFault wsX4_firstFault) := goodIn_app (goodIn_of _ (by decide +kernel)) ggX4_isWhole_X4_firstFault
set_option maxRecDepth 20000 in
theorem ggX4_isWhole_X4_codeAt : GoodIn wsX4_isWhole wsX4_codeAt := goodIn_r _ [14, 15, 16, 17, 18, 114, 115] (by decide +kernel) (by decide +kernel)
set_option maxRecDepth 20000 in
theorem gX4_isWhole_X4_codeAt : GoodIn wsX4_isWhole (wsV RX4 27 RX4 yX4_codeAt wsX4_codeAt) := goodIn_app (goodIn_of _ (by decide +kernel)) ggX4_isWhole_X4_codeAt
theorem dX4_isWhole_0 : decode cX4_isWhole 0 = .ok (.aload_n 0, 1) := by decide +kernel
theorem dX4_isWhole_1 : decode cX4_isWhole 1 = .ok (.getfield 15, 3) := by decide +kernel
theorem dX4_isWhole_4 : decode cX4_isWhole 4 = .ok (.iconst 1, 1) := by decide +kernel
theorem dX4_isWhole_5 : decode cX4_isWhole 5 = .ok (.if_icmp .le 33, 3) := by decide +kernel
theorem dX4_isWhole_8 : decode cX4_isWhole 8 = .ok (.aload_n 0, 1) := by decide +kernel
theorem dX4_isWhole_9 : decode cX4_isWhole 9 = .ok (.invokevirtual 31, 3) := by decide +kernel
theorem dX4_isWhole_12 : decode cX4_isWhole 12 = .ok (.aload_n 0, 1) := by decide +kernel
theorem dX4_isWhole_13 : decode cX4_isWhole 13 = .ok (.getfield 15, 3) := by decide +kernel
theorem dX4_isWhole_16 : decode cX4_isWhole 16 = .ok (.if_icmp .ne 22, 3) := by decide +kernel
theorem dX4_isWhole_19 : decode cX4_isWhole 19 = .ok (.aload_n 0, 1) := by decide +kernel
theorem dX4_isWhole_20 : decode cX4_isWhole 20 = .ok (.aload_n 0, 1) := by decide +kernel
theorem dX4_isWhole_21 : decode cX4_isWhole 21 = .ok (.getfield 15, 3) := by decide +kernel
theorem dX4_isWhole_24 : decode cX4_isWhole 24 = .ok (.iconst 2, 1) := by decide +kernel
theorem dX4_isWhole_25 : decode cX4_isWhole 25 = .ok (.isub, 1) := by decide +kernel
theorem dX4_isWhole_26 : decode cX4_isWhole 26 = .ok (.invokevirtual 27, 3) := by decide +kernel
theorem dX4_isWhole_29 : decode cX4_isWhole 29 = .ok (.bipush 59, 2) := by decide +kernel
theorem dX4_isWhole_31 : decode cX4_isWhole 31 = .ok (.if_icmp .ne 7, 3) := by decide +kernel
theorem dX4_isWhole_34 : decode cX4_isWhole 34 = .ok (.iconst 1, 1) := by decide +kernel
theorem dX4_isWhole_35 : decode cX4_isWhole 35 = .ok (.goto 4, 3) := by decide +kernel
theorem dX4_isWhole_38 : decode cX4_isWhole 38 = .ok (.iconst 0, 1) := by decide +kernel
theorem dX4_isWhole_39 : decode cX4_isWhole 39 = .ok (.ireturn, 1) := by decide +kernel
set_option maxRecDepth 20000 in
theorem ggX4_fits_X4_codeAt : GoodIn wsX4_fits wsX4_codeAt := goodIn_r _ [5, 6, 7, 8, 9, 105, 106] (by decide +kernel) (by decide +kernel)
set_option maxRecDepth 20000 in
theorem gX4_fits_X4_codeAt : GoodIn wsX4_fits (wsV RX4 27 RX4 yX4_codeAt wsX4_codeAt) := goodIn_app (goodIn_of _ (by decide +kernel)) ggX4_fits_X4_codeAt
set_option maxRecDepth 20000 in
theorem ggX4_fits_X5_within : GoodIn wsX4_fits wsX5_within := goodIn_r _ [9] (by decide +kernel) (by decide +kernel)
set_option maxRecDepth 20000 in
theorem gX4_fits_X5_within_n19 : GoodIn wsX4_fits (wsX5_within) := ggX4_fits_X5_within
set_option maxRecDepth 20000 in
theorem ggX4_fits_X4_kindBy : GoodIn wsX4_fits wsX4_kindBy := goodIn_r _ [12, 13, 14, 15, 16, 17, 18, 19, 20, 21, 22, 23, 24, 25, 26, 27, 28, 29, 30, 31, 32, 33, 34, 35, 36, 37, 38, 39, 40, 41, 42, 43, 44, 45, 46, 47, 48, 49, 50, 51, 52, 53, 54, 55, 56, 57, 58, 59, 60, 61, 62, 63, 64, 65, 66, 67, 68, 69, 70, 71, 72, 73, 74, 75, 76, 77, 78, 79, 80, 81, 82, 83, 84, 85, 86, 87, 88, 89, 90, 91, 92, 93, 94, 95, 96, 97, 98, 99, 100, 101] (by decide +kernel) (by decide +kernel)
set_option maxRecDepth 20000 in
theorem gX4_fits_X4_kindBy : GoodIn wsX4_fits (va_wsS RX4 35 yX4_kindBy wsX4_kindBy) := goodIn_app (goodIn_of _ (by decide +kernel)) ggX4_fits_X4_kindBy
set_option maxRecDepth 20000 in
theorem ggX4_fits_X4_followsRow : GoodIn wsX4_fits wsX4_followsRow := goodIn_r _ [104] (by decide +kernel) (by decide +kernel)
set_option maxRecDepth 20000 in
theorem gX4_fits_X4_followsRow : GoodIn wsX4_fits (va_wsS RX4 38 yX4_followsRow wsX4_followsRow) := goodIn_app (goodIn_of _ (by decide +kernel)) ggX4_fits_X4_followsRow
theorem dX4_fits_0 : decode cX4_fits 0 = .ok (.aload_n 0, 1) := by decide +kernel
theorem dX4_fits_1 : decode cX4_fits 1 = .ok (.iload_n 1, 1) := by decide +kernel
theorem dX4_fits_2 : decode cX4_fits 2 = .ok (.invokevirtual 27, 3) := by decide +kernel
theorem dX4_fits_5 : decode cX4_fits 5 = .ok (.istore_n 3, 1) := by decide +kernel
theorem dX4_fits_6 : decode cX4_fits 6 = .ok (.iload_n 2, 1) := by decide +kernel
theorem dX4_fits_7 : decode cX4_fits 7 = .ok (.iconst (-1), 1) := by decide +kernel
theorem dX4_fits_8 : decode cX4_fits 8 = .ok (.if_icmp .eq 27, 3) := by decide +kernel
theorem dX4_fits_11 : decode cX4_fits 11 = .ok (.iload_n 1, 1) := by decide +kernel
theorem dX4_fits_12 : decode cX4_fits 12 = .ok (.iload_n 2, 1) := by decide +kernel
theorem dX4_fits_13 : decode cX4_fits 13 = .ok (.iconst 1, 1) := by decide +kernel
theorem dX4_fits_14 : decode cX4_fits 14 = .ok (.iadd, 1) := by decide +kernel
theorem dX4_fits_15 : decode cX4_fits 15 = .ok (.if_icmp .ne 18, 3) := by decide +kernel
theorem dX4_fits_18 : decode cX4_fits 18 = .ok (.iload_n 3, 1) := by decide +kernel
theorem dX4_fits_19 : decode cX4_fits 19 = .ok (.bipush 48, 2) := by decide +kernel
theorem dX4_fits_21 : decode cX4_fits 21 = .ok (.bipush 51, 2) := by decide +kernel
theorem dX4_fits_23 : decode cX4_fits 23 = .ok (.invokestatic 19, 3) := by decide +kernel
theorem dX4_fits_26 : decode cX4_fits 26 = .ok (.ifCond .eq 7, 3) := by decide +kernel
theorem dX4_fits_29 : decode cX4_fits 29 = .ok (.iconst 1, 1) := by decide +kernel
theorem dX4_fits_30 : decode cX4_fits 30 = .ok (.goto 4, 3) := by decide +kernel
theorem dX4_fits_33 : decode cX4_fits 33 = .ok (.iconst 0, 1) := by decide +kernel
theorem dX4_fits_34 : decode cX4_fits 34 = .ok (.ireturn, 1) := by decide +kernel
theorem dX4_fits_35 : decode cX4_fits 35 = .ok (.iload_n 1, 1) := by decide +kernel
theorem dX4_fits_36 : decode cX4_fits 36 = .ok (.iconst 4, 1) := by decide +kernel
theorem dX4_fits_37 : decode cX4_fits 37 = .ok (.irem, 1) := by decide +kernel
theorem dX4_fits_38 : decode cX4_fits 38 = .ok (.tableswitch 58 0 2 #[26, 40, 49], 26) := by decide +kernel
theorem dX4_fits_64 : decode cX4_fits 64 = .ok (.iload_n 3, 1) := by decide +kernel
theorem dX4_fits_65 : decode cX4_fits 65 = .ok (.invokestatic 35, 3) := by decide +kernel
theorem dX4_fits_68 : decode cX4_fits 68 = .ok (.iconst (-1), 1) := by decide +kernel
theorem dX4_fits_69 : decode cX4_fits 69 = .ok (.if_icmp .eq 7, 3) := by decide +kernel
theorem dX4_fits_72 : decode cX4_fits 72 = .ok (.iconst 1, 1) := by decide +kernel
theorem dX4_fits_73 : decode cX4_fits 73 = .ok (.goto 4, 3) := by decide +kernel
theorem dX4_fits_76 : decode cX4_fits 76 = .ok (.iconst 0, 1) := by decide +kernel
theorem dX4_fits_77 : decode cX4_fits 77 = .ok (.ireturn, 1) := by decide +kernel
theorem dX4_fits_78 : decode cX4_fits 78 = .ok (.iload_n 3, 1) := by decide +kernel
theorem dX4_fits_79 : decode cX4_fits 79 = .ok (.bipush 49, 2) := by decide +kernel
theorem dX4_fits_81 : decode cX4_fits 81 = .ok (.bipush 57, 2) := by decide +kernel
theorem dX4_fits_83 : decode cX4_fits 83 = .ok (.invokestatic 19, 3) := by decide +kernel
theorem dX4_fits_86 : decode cX4_fits 86 = .ok (.ireturn, 1) := by decide +kernel
theorem dX4_fits_87 : decode cX4_fits 87 = .ok (.iload_n 3, 1) := by decide +kernel
theorem dX4_fits_88 : decode cX4_fits 88 = .ok (.bipush 48, 2) := by decide +kernel
theorem dX4_fits_90 : decode cX4_fits 90 = .ok (.bipush 57, 2) := by decide +kernel
theorem dX4_fits_92 : decode cX4_fits 92 = .ok (.invokestatic 19, 3) := by decide +kernel
theorem dX4_fits_95 : decode cX4_fits 95 = .ok (.ireturn, 1) := by decide +kernel
theorem dX4_fits_96 : decode cX4_fits 96 = .ok (.iload_n 3, 1) := by decide +kernel
theorem dX4_fits_97 : decode cX4_fits 97 = .ok (.iload_n 1, 1) := by decide +kernel
theorem dX4_fits_98 : decode cX4_fits 98 = .ok (.iconst 4, 1) := by decide +kernel
theorem dX4_fits_99 : decode cX4_fits 99 = .ok (.idiv, 1) := by decide +kernel
theorem dX4_fits_100 : decode cX4_fits 100 = .ok (.iconst 1, 1) := by decide +kernel
theorem dX4_fits_101 : decode cX4_fits 101 = .ok (.iadd, 1) := by decide +kernel
theorem dX4_fits_102 : decode cX4_fits 102 = .ok (.invokestatic 38, 3) := by decide +kernel
theorem dX4_fits_105 : decode cX4_fits 105 = .ok (.ireturn, 1) := by decide +kernel
theorem dX4_followsRow_0 : decode cX4_followsRow 0 = .ok (.iload_n 0, 1) := by decide +kernel
theorem dX4_followsRow_1 : decode cX4_followsRow 1 = .ok (.bipush 44, 2) := by decide +kernel
theorem dX4_followsRow_3 : decode cX4_followsRow 3 = .ok (.if_icmp .ne 15, 3) := by decide +kernel
theorem dX4_followsRow_6 : decode cX4_followsRow 6 = .ok (.iload_n 1, 1) := by decide +kernel
theorem dX4_followsRow_7 : decode cX4_followsRow 7 = .ok (.bipush 8, 2) := by decide +kernel
theorem dX4_followsRow_9 : decode cX4_followsRow 9 = .ok (.if_icmp .ge 7, 3) := by decide +kernel
theorem dX4_followsRow_12 : decode cX4_followsRow 12 = .ok (.iconst 1, 1) := by decide +kernel
theorem dX4_followsRow_13 : decode cX4_followsRow 13 = .ok (.goto 4, 3) := by decide +kernel
theorem dX4_followsRow_16 : decode cX4_followsRow 16 = .ok (.iconst 0, 1) := by decide +kernel
theorem dX4_followsRow_17 : decode cX4_followsRow 17 = .ok (.ireturn, 1) := by decide +kernel
theorem dX4_followsRow_18 : decode cX4_followsRow 18 = .ok (.iload_n 0, 1) := by decide +kernel
theorem dX4_followsRow_19 : decode cX4_followsRow 19 = .ok (.bipush 59, 2) := by decide +kernel
theorem dX4_followsRow_21 : decode cX4_followsRow 21 = .ok (.if_icmp .ne 12, 3) := by decide +kernel
theorem dX4_followsRow_24 : decode cX4_followsRow 24 = .ok (.iload_n 1, 1) := by decide +kernel
theorem dX4_followsRow_25 : decode cX4_followsRow 25 = .ok (.iconst 3, 1) := by decide +kernel
theorem dX4_followsRow_26 : decode cX4_followsRow 26 = .ok (.if_icmp .lt 7, 3) := by decide +kernel
theorem dX4_followsRow_29 : decode cX4_followsRow 29 = .ok (.iconst 1, 1) := by decide +kernel
theorem dX4_followsRow_30 : decode cX4_followsRow 30 = .ok (.goto 4, 3) := by decide +kernel
theorem dX4_followsRow_33 : decode cX4_followsRow 33 = .ok (.iconst 0, 1) := by decide +kernel
theorem dX4_followsRow_34 : decode cX4_followsRow 34 = .ok (.ireturn, 1) := by decide +kernel
set_option maxRecDepth 20000 in
theorem ggX4_kindBy_J0_indexOf_0f7a4 : GoodIn wsX4_kindBy wsJ0_indexOf_0f7a4 := goodIn_r _ [5, 6, 7, 8, 4, 9, 10, 11, 12, 13, 14, 15, 16, 17, 18, 19, 20, 21, 22, 23, 24, 25, 26, 27, 28, 29, 30, 31, 32, 33, 34, 35, 36, 37, 38, 39, 40, 41, 42, 43, 44, 45, 46, 47, 48, 49, 50, 51, 52, 53, 54, 55, 56, 57, 58, 59, 60, 61, 62, 63, 64, 65, 66, 67, 68, 69, 70, 71, 72, 73, 74, 75, 76, 77, 78, 79, 80, 81, 82, 83, 84, 85, 86, 87, 88, 89] (by decide +kernel) (by decide +kernel)
set_option maxRecDepth 20000 in
theorem gX4_kindBy_J0_indexOf_0f7a4 : GoodIn wsX4_kindBy (wsV RX4 43 RJ0 yJ0_indexOf_0f7a4 wsJ0_indexOf_0f7a4) := goodIn_app (goodIn_of _ (by decide +kernel)) ggX4_kindBy_J0_indexOf_0f7a4
theorem dX4_kindBy_0 : decode cX4_kindBy 0 = .ok (.ldc 41, 2) := by decide +kernel
theorem dX4_kindBy_2 : decode cX4_kindBy 2 = .ok (.iload_n 0, 1) := by decide +kernel
theorem dX4_kindBy_3 : decode cX4_kindBy 3 = .ok (.i2c, 1) := by decide +kernel
theorem dX4_kindBy_4 : decode cX4_kindBy 4 = .ok (.invokevirtual 43, 3) := by decide +kernel
theorem dX4_kindBy_7 : decode cX4_kindBy 7 = .ok (.ireturn, 1) := by decide +kernel
set_option maxRecDepth 20000 in
theorem ggX5_init_X4_init : GoodIn wsX5_init wsX4_init := goodIn_r _ [27, 28, 2, 3, 29, 30, 31, 60, 61] (by decide +kernel) (by decide +kernel)
set_option maxRecDepth 20000 in
theorem gX5_init_X4_init : GoodIn wsX5_init (wsX4_init) := ggX5_init_X4_init
set_option maxRecDepth 20000 in
theorem ggX5_init_X2_init : GoodIn wsX5_init wsX2_init := goodIn_r _ [34, 35, 2, 3, 29, 36, 37, 38, 39, 40, 71, 72, 73, 74, 75] (by decide +kernel) (by decide +kernel)
set_option maxRecDepth 20000 in
theorem gX5_init_X2_init : GoodIn wsX5_init (wsX2_init) := ggX5_init_X2_init
set_option maxRecDepth 20000 in
theorem ggX5_init_X3_init : GoodIn wsX5_init wsX3_init := goodIn_r _ [43, 44, 2, 3, 45, 18, 19, 46, 29, 47, 48, 49, 50, 51, 52, 53, 54, 55, 56, 57, 58, 81, 82, 83, 84, 76, 77, 78, 79, 80] (by decide +kernel) (by decide +kernel)
set_option maxRecDepth 20000 in
theorem gX5_init_X3_init : GoodIn wsX5_init (wsX3_init) := ggX5_init_X3_init
set_option maxRecDepth 20000 in
theorem ggX5_init_X0_init : GoodIn wsX5_init wsX0_init := goodIn_r _ [53, 54, 2, 3, 29, 55, 56, 57, 58, 81, 82, 83, 84] (by decide +kernel) (by decide +kernel)
set_option maxRecDepth 20000 in
theorem gX5_init_X0_init : GoodIn wsX5_init (wsX0_init) := ggX5_init_X0_init
theorem dX5_init_0 : decode cX5_init 0 = .ok (.aload_n 0, 1) := by decide +kernel
theorem dX5_init_1 : decode cX5_init 1 = .ok (.invokespecial 1, 3) := by decide +kernel
theorem dX5_init_4 : decode cX5_init 4 = .ok (.aload_n 0, 1) := by decide +kernel
theorem dX5_init_5 : decode cX5_init 5 = .ok (.new 7, 3) := by decide +kernel
theorem dX5_init_8 : decode cX5_init 8 = .ok (.dup, 1) := by decide +kernel
theorem dX5_init_9 : decode cX5_init 9 = .ok (.invokespecial 9, 3) := by decide +kernel
theorem dX5_init_12 : decode cX5_init 12 = .ok (.putfield 10, 3) := by decide +kernel
theorem dX5_init_15 : decode cX5_init 15 = .ok (.aload_n 0, 1) := by decide +kernel
theorem dX5_init_16 : decode cX5_init 16 = .ok (.new 16, 3) := by decide +kernel
theorem dX5_init_19 : decode cX5_init 19 = .ok (.dup, 1) := by decide +kernel
theorem dX5_init_20 : decode cX5_init 20 = .ok (.invokespecial 18, 3) := by decide +kernel
theorem dX5_init_23 : decode cX5_init 23 = .ok (.putfield 19, 3) := by decide +kernel
theorem dX5_init_26 : decode cX5_init 26 = .ok (.aload_n 0, 1) := by decide +kernel
theorem dX5_init_27 : decode cX5_init 27 = .ok (.new 23, 3) := by decide +kernel
theorem dX5_init_30 : decode cX5_init 30 = .ok (.dup, 1) := by decide +kernel
theorem dX5_init_31 : decode cX5_init 31 = .ok (.invokespecial 25, 3) := by decide +kernel
theorem dX5_init_34 : decode cX5_init 34 = .ok (.putfield 26, 3) := by decide +kernel
theorem dX5_init_37 : decode cX5_init 37 = .ok (.aload_n 0, 1) := by decide +kernel
theorem dX5_init_38 : decode cX5_init 38 = .ok (.new 23, 3) := by decide +kernel
theorem dX5_init_41 : decode cX5_init 41 = .ok (.dup, 1) := by decide +kernel
theorem dX5_init_42 : decode cX5_init 42 = .ok (.invokespecial 25, 3) := by decide +kernel
theorem dX5_init_45 : decode cX5_init 45 = .ok (.putfield 30, 3) := by decide +kernel
theorem dX5_init_48 : decode cX5_init 48 = .ok (.aload_n 0, 1) := by decide +kernel
theorem dX5_init_49 : decode cX5_init 49 = .ok (.new 33, 3) := by decide +kernel
theorem dX5_init_52 : decode cX5_init 52 = .ok (.dup, 1) := by decide +kernel
theorem dX5_init_53 : decode cX5_init 53 = .ok (.invokespecial 35, 3) := by decide +kernel
theorem dX5_init_56 : decode cX5_init 56 = .ok (.putfield 36, 3) := by decide +kernel
theorem dX5_init_59 : decode cX5_init 59 = .ok (.aload_n 0, 1) := by decide +kernel
theorem dX5_init_60 : decode cX5_init 60 = .ok (.iconst 0, 1) := by decide +kernel
theorem dX5_init_61 : decode cX5_init 61 = .ok (.putfield 40, 3) := by decide +kernel
theorem dX5_init_64 : decode cX5_init 64 = .ok (.aload_n 0, 1) := by decide +kernel
theorem dX5_init_65 : decode cX5_init 65 = .ok (.iconst 0, 1) := by decide +kernel
theorem dX5_init_66 : decode cX5_init 66 = .ok (.putfield 44, 3) := by decide +kernel
theorem dX5_init_69 : decode cX5_init 69 = .ok (.aload_n 0, 1) := by decide +kernel
theorem dX5_init_70 : decode cX5_init 70 = .ok (.iconst 0, 1) := by decide +kernel
theorem dX5_init_71 : decode cX5_init 71 = .ok (.putfield 48, 3) := by decide +kernel
theorem dX5_init_74 : decode cX5_init 74 = .ok (.aload_n 0, 1) := by decide +kernel
theorem dX5_init_75 : decode cX5_init 75 = .ok (.iconst 0, 1) := by decide +kernel
theorem dX5_init_76 : decode cX5_init 76 = .ok (.putfield 51, 3) := by decide +kernel
theorem dX5_init_79 : decode cX5_init 79 = .ok (.return_, 1) := by decide +kernel
set_option maxRecDepth 20000 in
theorem ggX5_letter_X5_within : GoodIn wsX5_letter wsX5_within := goodIn_r _ [5] (by decide +kernel) (by decide +kernel)
set_option maxRecDepth 20000 in
theorem gX5_letter_X5_within : GoodIn wsX5_letter (va_wsS RX5 54 yX5_within wsX5_within) := goodIn_app (goodIn_of _ (by decide +kernel)) ggX5_letter_X5_within
set_option maxRecDepth 20000 in
theorem ggX5_letter_X4_write : GoodIn wsX5_letter wsX4_write := goodIn_r _ [10, 11, 12, 22, 23] (by decide +kernel) (by decide +kernel)
set_option maxRecDepth 20000 in
theorem gX5_letter_X4_write : GoodIn wsX5_letter (wsV RX5 58 RX4 yX4_write wsX4_write) := goodIn_app (goodIn_of _ (by decide +kernel)) ggX5_letter_X4_write
theorem dX5_letter_0 : decode cX5_letter 0 = .ok (.iload_n 1, 1) := by decide +kernel
theorem dX5_letter_1 : decode cX5_letter 1 = .ok (.iconst 1, 1) := by decide +kernel
theorem dX5_letter_2 : decode cX5_letter 2 = .ok (.bipush 126, 2) := by decide +kernel
theorem dX5_letter_4 : decode cX5_letter 4 = .ok (.invokestatic 54, 3) := by decide +kernel
theorem dX5_letter_7 : decode cX5_letter 7 = .ok (.ifCond .ne 6, 3) := by decide +kernel
theorem dX5_letter_10 : decode cX5_letter 10 = .ok (.bipush (-102), 2) := by decide +kernel
theorem dX5_letter_12 : decode cX5_letter 12 = .ok (.ireturn, 1) := by decide +kernel
theorem dX5_letter_13 : decode cX5_letter 13 = .ok (.aload_n 0, 1) := by decide +kernel
theorem dX5_letter_14 : decode cX5_letter 14 = .ok (.getfield 10, 3) := by decide +kernel
theorem dX5_letter_17 : decode cX5_letter 17 = .ok (.iload_n 1, 1) := by decide +kernel
theorem dX5_letter_18 : decode cX5_letter 18 = .ok (.invokevirtual 58, 3) := by decide +kernel
theorem dX5_letter_21 : decode cX5_letter 21 = .ok (.ifCond .eq 13, 3) := by decide +kernel
theorem dX5_letter_24 : decode cX5_letter 24 = .ok (.aload_n 0, 1) := by decide +kernel
theorem dX5_letter_25 : decode cX5_letter 25 = .ok (.getfield 10, 3) := by decide +kernel
theorem dX5_letter_28 : decode cX5_letter 28 = .ok (.getfield 62, 3) := by decide +kernel
theorem dX5_letter_31 : decode cX5_letter 31 = .ok (.goto 5, 3) := by decide +kernel
theorem dX5_letter_34 : decode cX5_letter 34 = .ok (.bipush (-104), 2) := by decide +kernel
theorem dX5_letter_36 : decode cX5_letter 36 = .ok (.ireturn, 1) := by decide +kernel
set_option maxRecDepth 20000 in
theorem ggX5_blank_X4_wipe : GoodIn wsX5_blank wsX4_wipe := goodIn_r _ [6, 7, 17, 18] (by decide +kernel) (by decide +kernel)
set_option maxRecDepth 20000 in
theorem gX5_blank_X4_wipe : GoodIn wsX5_blank (wsV RX5 65 RX4 yX4_wipe wsX4_wipe) := goodIn_app (goodIn_of _ (by decide +kernel)) ggX5_blank_X4_wipe
theorem dX5_blank_0 : decode cX5_blank 0 = .ok (.aload_n 0, 1) := by decide +kernel
theorem dX5_blank_1 : decode cX5_blank 1 = .ok (.getfield 10, 3) := by decide +kernel
theorem dX5_blank_4 : decode cX5_blank 4 = .ok (.getfield 62, 3) := by decide +kernel
theorem dX5_blank_7 : decode cX5_blank 7 = .ok (.istore_n 1, 1) := by decide +kernel
theorem dX5_blank_8 : decode cX5_blank 8 = .ok (.aload_n 0, 1) := by decide +kernel
theorem dX5_blank_9 : decode cX5_blank 9 = .ok (.getfield 10, 3) := by decide +kernel
theorem dX5_blank_12 : decode cX5_blank 12 = .ok (.invokevirtual 65, 3) := by decide +kernel
theorem dX5_blank_15 : decode cX5_blank 15 = .ok (.iload_n 1, 1) := by decide +kernel
theorem dX5_blank_16 : decode cX5_blank 16 = .ok (.ireturn, 1) := by decide +kernel
set_option maxRecDepth 20000 in
theorem ggX5_fault_X4_firstFault : GoodIn wsX5_fault wsX4_firstFault := goodIn_r _ [6, 7, 8, 9, 10, 5, 11, 12, 13, 14, 15, 16, 17, 18, 19, 20, 21, 22, 23, 24, 25, 26, 27, 28, 29, 30, 31, 32, 33, 34, 35, 36, 37, 38, 39, 40, 41, 42, 43, 44, 45, 46, 47, 48, 49, 50, 51, 52, 53, 54, 55, 56, 57, 58, 59, 60, 61, 62, 63, 64, 65, 66, 67, 68, 69, 70, 71, 72, 73, 74, 75, 76, 77, 78, 79, 80, 81, 82, 83, 84, 85, 86, 87, 88, 89, 90, 91, 92, 93, 94, 95, 96, 97, 98, 99, 100, 101, 102, 103, 104, 105, 106, 107, 108, 109, 110, 111, 112, 113, 114, 124, 125] (by decide +kernel) (by decide +kernel)
set_option maxRecDepth 20000 in
theorem gX5_fault_X4_firstFault : GoodIn wsX5_fault (wsV RX5 68 RX4 yX4_firstFault wsX4_firstFault) := goodIn_app (goodIn_of _ (by decide +kernel)) ggX5_fault_X4_firstFault
theorem dX5_fault_0 : decode cX5_fault 0 = .ok (.aload_n 0, 1) := by decide +kernel
theorem dX5_fault_1 : decode cX5_fault 1 = .ok (.getfield 10, 3) := by decide +kernel
theorem dX5_fault_4 : decode cX5_fault 4 = .ok (.invokevirtual 68, 3) := by decide +kernel
theorem dX5_fault_7 : decode cX5_fault 7 = .ok (.ireturn, 1) := by decide +kernel
set_option maxRecDepth 20000 in
theorem ggX5_hall_X4_isWhole : GoodIn wsX5_hall wsX4_isWhole := goodIn_r _ [10, 11, 12, 13, 14, 9, 15, 16, 17, 18, 19, 20, 21, 22, 23, 24, 25, 26, 27, 28, 29, 30, 31, 32, 33, 34, 35, 36, 37, 38, 39, 40, 41, 42, 43, 44, 45, 46, 47, 48, 49, 50, 51, 52, 53, 54, 55, 56, 57, 58, 59, 60, 61, 62, 63, 64, 65, 66, 67, 68, 69, 70, 71, 72, 73, 74, 75, 76, 77, 78, 79, 80, 81, 82, 83, 84, 85, 86, 87, 88, 89, 90, 91, 92, 93, 94, 95, 96, 97, 98, 99, 100, 101, 102, 103, 104, 105, 106, 107, 108, 109, 110, 111, 112, 113, 114, 115, 116, 117, 118, 119, 120, 121, 122, 171, 172] (by decide +kernel) (by decide +kernel)
set_option maxRecDepth 20000 in
theorem gX5_hall_X4_isWhole : GoodIn wsX5_hall (wsV RX5 72 RX4 yX4_isWhole wsX4_isWhole) := goodIn_app (goodIn_of _ (by decide +kernel)) ggX5_hall_X4_isWhole
set_option maxRecDepth 20000 in
theorem ggX5_hall_X2_read : GoodIn wsX5_hall wsX2_read := goodIn_r _ [127, 128, 64, 61, 65, 129, 130, 131, 132, 133, 134, 21, 22, 9, 23, 24, 25, 26, 27, 135, 29, 30, 31, 32, 33, 34, 35, 36, 37, 38, 39, 40, 41, 42, 43, 44, 45, 46, 47, 48, 49, 50, 51, 52, 53, 54, 55, 56, 57, 58, 59, 60, 62, 63, 66, 67, 68, 69, 70, 71, 72, 73, 74, 75, 76, 77, 78, 79, 80, 81, 82, 83, 84, 85, 86, 87, 88, 89, 90, 91, 92, 93, 94, 95, 96, 97, 98, 99, 100, 101, 102, 103, 104, 105, 106, 107, 108, 109, 110, 111, 112, 113, 114, 115, 116, 117, 118, 119, 171, 172, 166, 167, 168, 169, 170] (by decide +kernel) (by decide +kernel)
set_option maxRecDepth 20000 in
theorem gX5_hall_X2_read : GoodIn wsX5_hall (wsV RX5 76 RX2 yX2_read wsX2_read) := goodIn_app (goodIn_of _ (by decide +kernel)) ggX5_hall_X2_read
set_option maxRecDepth 20000 in
theorem ggX5_hall_X4_wipe : GoodIn wsX5_hall wsX4_wipe := goodIn_r _ [139, 11, 171, 172] (by decide +kernel) (by decide +kernel)
set_option maxRecDepth 20000 in
theorem gX5_hall_X4_wipe : GoodIn wsX5_hall (wsV RX5 65 RX4 yX4_wipe wsX4_wipe) := goodIn_app (goodIn_of _ (by decide +kernel)) ggX5_hall_X4_wipe
set_option maxRecDepth 20000 in
theorem ggX5_hall_X3_startAnew : GoodIn wsX5_hall wsX3_startAnew := goodIn_r _ [144, 145, 146, 147, 148, 149, 150, 151, 152, 153, 154, 155, 156, 173, 174, 175, 176, 177, 178, 179, 180, 181] (by decide +kernel) (by decide +kernel)
set_option maxRecDepth 20000 in
theorem gX5_hall_X3_startAnew : GoodIn wsX5_hall (wsV RX5 80 RX3 yX3_startAnew wsX3_startAnew) := goodIn_app (goodIn_of _ (by decide +kernel)) ggX5_hall_X3_startAnew
theorem dX5_hall_0 : decode cX5_hall 0 = .ok (.aload_n 0, 1) := by decide +kernel
theorem dX5_hall_1 : decode cX5_hall 1 = .ok (.getfield 10, 3) := by decide +kernel
theorem dX5_hall_4 : decode cX5_hall 4 = .ok (.invokevirtual 72, 3) := by decide +kernel
theorem dX5_hall_7 : decode cX5_hall 7 = .ok (.ifCond .ne 6, 3) := by decide +kernel
theorem dX5_hall_10 : decode cX5_hall 10 = .ok (.bipush (-103), 2) := by decide +kernel
theorem dX5_hall_12 : decode cX5_hall 12 = .ok (.ireturn, 1) := by decide +kernel
theorem dX5_hall_13 : decode cX5_hall 13 = .ok (.aload_n 0, 1) := by decide +kernel
theorem dX5_hall_14 : decode cX5_hall 14 = .ok (.getfield 19, 3) := by decide +kernel
theorem dX5_hall_17 : decode cX5_hall 17 = .ok (.aload_n 0, 1) := by decide +kernel
theorem dX5_hall_18 : decode cX5_hall 18 = .ok (.getfield 10, 3) := by decide +kernel
theorem dX5_hall_21 : decode cX5_hall 21 = .ok (.invokevirtual 76, 3) := by decide +kernel
theorem dX5_hall_24 : decode cX5_hall 24 = .ok (.aload_n 0, 1) := by decide +kernel
theorem dX5_hall_25 : decode cX5_hall 25 = .ok (.getfield 10, 3) := by decide +kernel
theorem dX5_hall_28 : decode cX5_hall 28 = .ok (.invokevirtual 65, 3) := by decide +kernel
theorem dX5_hall_31 : decode cX5_hall 31 = .ok (.aload_n 0, 1) := by decide +kernel
theorem dX5_hall_32 : decode cX5_hall 32 = .ok (.getfield 26, 3) := by decide +kernel
theorem dX5_hall_35 : decode cX5_hall 35 = .ok (.invokevirtual 80, 3) := by decide +kernel
theorem dX5_hall_38 : decode cX5_hall 38 = .ok (.aload_n 0, 1) := by decide +kernel
theorem dX5_hall_39 : decode cX5_hall 39 = .ok (.iconst 0, 1) := by decide +kernel
theorem dX5_hall_40 : decode cX5_hall 40 = .ok (.putfield 40, 3) := by decide +kernel
theorem dX5_hall_43 : decode cX5_hall 43 = .ok (.aload_n 0, 1) := by decide +kernel
theorem dX5_hall_44 : decode cX5_hall 44 = .ok (.dup, 1) := by decide +kernel
theorem dX5_hall_45 : decode cX5_hall 45 = .ok (.getfield 44, 3) := by decide +kernel
theorem dX5_hall_48 : decode cX5_hall 48 = .ok (.iconst 1, 1) := by decide +kernel
theorem dX5_hall_49 : decode cX5_hall 49 = .ok (.iadd, 1) := by decide +kernel
theorem dX5_hall_50 : decode cX5_hall 50 = .ok (.putfield 44, 3) := by decide +kernel
theorem dX5_hall_53 : decode cX5_hall 53 = .ok (.aload_n 0, 1) := by decide +kernel
theorem dX5_hall_54 : decode cX5_hall 54 = .ok (.getfield 19, 3) := by decide +kernel
theorem dX5_hall_57 : decode cX5_hall 57 = .ok (.getfield 83, 3) := by decide +kernel
theorem dX5_hall_60 : decode cX5_hall 60 = .ok (.ireturn, 1) := by decide +kernel
set_option maxRecDepth 20000 in
theorem ggX5_about_X2_has : GoodIn wsX5_about wsX2_has := goodIn_r _ [6, 7, 78, 79, 80, 81, 82] (by decide +kernel) (by decide +kernel)
set_option maxRecDepth 20000 in
theorem gX5_about_X2_has : GoodIn wsX5_about (wsV RX5 86 RX2 yX2_has wsX2_has) := goodIn_app (goodIn_of _ (by decide +kernel)) ggX5_about_X2_has
set_option maxRecDepth 20000 in
theorem ggX5_about_X5_within : GoodIn wsX5_about wsX5_within := goodIn_r _ [11] (by decide +kernel) (by decide +kernel)
set_option maxRecDepth 20000 in
theorem gX5_about_X5_within : GoodIn wsX5_about (va_wsS RX5 54 yX5_within wsX5_within) := goodIn_app (goodIn_of _ (by decide +kernel)) ggX5_about_X5_within
set_option maxRecDepth 20000 in
theorem ggX5_about_X5_aboutRow : GoodIn wsX5_about wsX5_aboutRow := goodIn_r _ [15, 16, 1, 17, 18, 19, 5, 20, 7, 21, 22, 23, 24, 25, 26, 27, 28, 29, 30, 31, 32, 33, 34, 35, 36, 37, 38, 39, 40, 41, 42, 43, 44, 45, 10, 46, 47, 48, 49, 50, 51, 52, 53, 54, 55, 56, 57, 58, 59, 60, 61, 62, 63, 64, 65, 66, 67, 68, 69, 70, 71, 72, 73, 74, 75, 76, 77, 83, 84, 85, 86, 87, 78, 79, 80, 81, 82, 88, 89, 90, 91] (by decide +kernel) (by decide +kernel)
set_option maxRecDepth 20000 in
theorem gX5_about_X5_aboutRow : GoodIn wsX5_about (wsV RX5 89 RX5 yX5_aboutRow wsX5_aboutRow) := goodIn_app (goodIn_of _ (by decide +kernel)) ggX5_about_X5_aboutRow
theorem dX5_about_0 : decode cX5_about 0 = .ok (.aload_n 0, 1) := by decide +kernel
theorem dX5_about_1 : decode cX5_about 1 = .ok (.getfield 19, 3) := by decide +kernel
theorem dX5_about_4 : decode cX5_about 4 = .ok (.iload_n 1, 1) := by decide +kernel
theorem dX5_about_5 : decode cX5_about 5 = .ok (.invokevirtual 86, 3) := by decide +kernel
theorem dX5_about_8 : decode cX5_about 8 = .ok (.ifCond .ne 6, 3) := by decide +kernel
theorem dX5_about_11 : decode cX5_about 11 = .ok (.bipush (-101), 2) := by decide +kernel
theorem dX5_about_13 : decode cX5_about 13 = .ok (.ireturn, 1) := by decide +kernel
theorem dX5_about_14 : decode cX5_about 14 = .ok (.iload_n 2, 1) := by decide +kernel
theorem dX5_about_15 : decode cX5_about 15 = .ok (.iconst 0, 1) := by decide +kernel
theorem dX5_about_16 : decode cX5_about 16 = .ok (.bipush 8, 2) := by decide +kernel
theorem dX5_about_18 : decode cX5_about 18 = .ok (.invokestatic 54, 3) := by decide +kernel
theorem dX5_about_21 : decode cX5_about 21 = .ok (.ifCond .eq 12, 3) := by decide +kernel
theorem dX5_about_24 : decode cX5_about 24 = .ok (.aload_n 0, 1) := by decide +kernel
theorem dX5_about_25 : decode cX5_about 25 = .ok (.iload_n 1, 1) := by decide +kernel
theorem dX5_about_26 : decode cX5_about 26 = .ok (.iload_n 2, 1) := by decide +kernel
theorem dX5_about_27 : decode cX5_about 27 = .ok (.invokevirtual 89, 3) := by decide +kernel
theorem dX5_about_30 : decode cX5_about 30 = .ok (.goto 5, 3) := by decide +kernel
theorem dX5_about_33 : decode cX5_about 33 = .ok (.bipush (-102), 2) := by decide +kernel
theorem dX5_about_35 : decode cX5_about 35 = .ok (.ireturn, 1) := by decide +kernel
set_option maxRecDepth 20000 in
theorem ggX5_as_X2_has : GoodIn wsX5_as wsX2_has := goodIn_r _ [6, 7, 30, 31, 32, 33, 34] (by decide +kernel) (by decide +kernel)
set_option maxRecDepth 20000 in
theorem gX5_as_X2_has : GoodIn wsX5_as (wsV RX5 86 RX2 yX2_has wsX2_has) := goodIn_app (goodIn_of _ (by decide +kernel)) ggX5_as_X2_has
set_option maxRecDepth 20000 in
theorem ggX5_as_X5_within : GoodIn wsX5_as wsX5_within := goodIn_r _ [11] (by decide +kernel) (by decide +kernel)
set_option maxRecDepth 20000 in
theorem gX5_as_X5_within : GoodIn wsX5_as (va_wsS RX5 54 yX5_within wsX5_within) := goodIn_app (goodIn_of _ (by decide +kernel)) ggX5_as_X5_within
set_option maxRecDepth 20000 in
theorem ggX5_as_X2_isOf : GoodIn wsX5_as wsX2_isOf := goodIn_r _ [15, 16, 17, 18, 5, 19, 7, 20, 30, 31, 32, 33, 34] (by decide +kernel) (by decide +kernel)
set_option maxRecDepth 20000 in
theorem gX5_as_X2_isOf : GoodIn wsX5_as (wsV RX5 93 RX2 yX2_isOf wsX2_isOf) := goodIn_app (goodIn_of _ (by decide +kernel)) ggX5_as_X2_isOf
theorem dX5_as_0 : decode cX5_as 0 = .ok (.aload_n 0, 1) := by decide +kernel
theorem dX5_as_1 : decode cX5_as 1 = .ok (.getfield 19, 3) := by decide +kernel
theorem dX5_as_4 : decode cX5_as 4 = .ok (.iload_n 1, 1) := by decide +kernel
theorem dX5_as_5 : decode cX5_as 5 = .ok (.invokevirtual 86, 3) := by decide +kernel
theorem dX5_as_8 : decode cX5_as 8 = .ok (.ifCond .ne 6, 3) := by decide +kernel
theorem dX5_as_11 : decode cX5_as 11 = .ok (.bipush (-101), 2) := by decide +kernel
theorem dX5_as_13 : decode cX5_as 13 = .ok (.ireturn, 1) := by decide +kernel
theorem dX5_as_14 : decode cX5_as 14 = .ok (.iload_n 2, 1) := by decide +kernel
theorem dX5_as_15 : decode cX5_as 15 = .ok (.iconst 0, 1) := by decide +kernel
theorem dX5_as_16 : decode cX5_as 16 = .ok (.iconst 4, 1) := by decide +kernel
theorem dX5_as_17 : decode cX5_as 17 = .ok (.invokestatic 54, 3) := by decide +kernel
theorem dX5_as_20 : decode cX5_as 20 = .ok (.ifCond .ne 6, 3) := by decide +kernel
theorem dX5_as_23 : decode cX5_as 23 = .ok (.bipush (-102), 2) := by decide +kernel
theorem dX5_as_25 : decode cX5_as 25 = .ok (.ireturn, 1) := by decide +kernel
theorem dX5_as_26 : decode cX5_as 26 = .ok (.aload_n 0, 1) := by decide +kernel
theorem dX5_as_27 : decode cX5_as 27 = .ok (.getfield 19, 3) := by decide +kernel
theorem dX5_as_30 : decode cX5_as 30 = .ok (.iload_n 1, 1) := by decide +kernel
theorem dX5_as_31 : decode cX5_as 31 = .ok (.iload_n 2, 1) := by decide +kernel
theorem dX5_as_32 : decode cX5_as 32 = .ok (.invokevirtual 93, 3) := by decide +kernel
theorem dX5_as_35 : decode cX5_as 35 = .ok (.ifCond .eq 7, 3) := by decide +kernel
theorem dX5_as_38 : decode cX5_as 38 = .ok (.iload_n 1, 1) := by decide +kernel
theorem dX5_as_39 : decode cX5_as 39 = .ok (.goto 4, 3) := by decide +kernel
theorem dX5_as_42 : decode cX5_as 42 = .ok (.iconst (-1), 1) := by decide +kernel
theorem dX5_as_43 : decode cX5_as 43 = .ok (.ireturn, 1) := by decide +kernel
set_option maxRecDepth 20000 in
theorem ggX5_clap_X2_has : GoodIn wsX5_clap wsX2_has := goodIn_r _ [7, 8, 50, 51, 52, 53, 54] (by decide +kernel) (by decide +kernel)
set_option maxRecDepth 20000 in
theorem gX5_clap_X2_has : GoodIn wsX5_clap (wsV RX5 86 RX2 yX2_has wsX2_has) := goodIn_app (goodIn_of _ (by decide +kernel)) ggX5_clap_X2_has
set_option maxRecDepth 20000 in
theorem ggX5_clap_X5_within : GoodIn wsX5_clap wsX5_within := goodIn_r _ [12] (by decide +kernel) (by decide +kernel)
set_option maxRecDepth 20000 in
theorem gX5_clap_X5_within : GoodIn wsX5_clap (va_wsS RX5 54 yX5_within wsX5_within) := goodIn_app (goodIn_of _ (by decide +kernel)) ggX5_clap_X5_within
set_option maxRecDepth 20000 in
theorem ggX5_clap_X0_soundOf : GoodIn wsX5_clap wsX0_soundOf := goodIn_r _ [17, 18, 55, 56, 57, 58] (by decide +kernel) (by decide +kernel)
set_option maxRecDepth 20000 in
theorem gX5_clap_X0_soundOf : GoodIn wsX5_clap (wsV RX5 100 RX0 yX0_soundOf wsX0_soundOf) := goodIn_app (goodIn_of _ (by decide +kernel)) ggX5_clap_X0_soundOf
set_option maxRecDepth 20000 in
theorem ggX5_clap_X5_heard : GoodIn wsX5_clap wsX5_heard := goodIn_r _ [22, 1, 23, 24, 25, 6, 26, 27, 28, 29, 11, 30, 36, 37, 38, 39, 40, 41, 42, 43, 44, 50, 51, 52, 53, 54] (by decide +kernel) (by decide +kernel)
set_option maxRecDepth 20000 in
theorem gX5_clap_X5_heard : GoodIn wsX5_clap (wsV RX5 104 RX5 yX5_heard wsX5_heard) := goodIn_app (goodIn_of _ (by decide +kernel)) ggX5_clap_X5_heard
set_option maxRecDepth 20000 in
theorem ggX5_clap_X0_let : GoodIn wsX5_clap wsX0_let := goodIn_r _ [34, 18, 35, 55, 56, 57, 58] (by decide +kernel) (by decide +kernel)
set_option maxRecDepth 20000 in
theorem gX5_clap_X0_let : GoodIn wsX5_clap (wsV RX5 107 RX0 yX0_let wsX0_let) := goodIn_app (goodIn_of _ (by decide +kernel)) ggX5_clap_X0_let
theorem dX5_clap_0 : decode cX5_clap 0 = .ok (.aload_n 0, 1) := by decide +kernel
theorem dX5_clap_1 : decode cX5_clap 1 = .ok (.getfield 19, 3) := by decide +kernel
theorem dX5_clap_4 : decode cX5_clap 4 = .ok (.iload_n 1, 1) := by decide +kernel
theorem dX5_clap_5 : decode cX5_clap 5 = .ok (.invokevirtual 86, 3) := by decide +kernel
theorem dX5_clap_8 : decode cX5_clap 8 = .ok (.ifCond .ne 6, 3) := by decide +kernel
theorem dX5_clap_11 : decode cX5_clap 11 = .ok (.bipush (-101), 2) := by decide +kernel
theorem dX5_clap_13 : decode cX5_clap 13 = .ok (.ireturn, 1) := by decide +kernel
theorem dX5_clap_14 : decode cX5_clap 14 = .ok (.iload_n 2, 1) := by decide +kernel
theorem dX5_clap_15 : decode cX5_clap 15 = .ok (.iconst 0, 1) := by decide +kernel
theorem dX5_clap_16 : decode cX5_clap 16 = .ok (.iconst 3, 1) := by decide +kernel
theorem dX5_clap_17 : decode cX5_clap 17 = .ok (.invokestatic 54, 3) := by decide +kernel
theorem dX5_clap_20 : decode cX5_clap 20 = .ok (.ifCond .ne 6, 3) := by decide +kernel
theorem dX5_clap_23 : decode cX5_clap 23 = .ok (.bipush (-102), 2) := by decide +kernel
theorem dX5_clap_25 : decode cX5_clap 25 = .ok (.ireturn, 1) := by decide +kernel
theorem dX5_clap_26 : decode cX5_clap 26 = .ok (.aload_n 0, 1) := by decide +kernel
theorem dX5_clap_27 : decode cX5_clap 27 = .ok (.iload_n 1, 1) := by decide +kernel
theorem dX5_clap_28 : decode cX5_clap 28 = .ok (.aload_n 0, 1) := by decide +kernel
theorem dX5_clap_29 : decode cX5_clap 29 = .ok (.getfield 26, 3) := by decide +kernel
theorem dX5_clap_32 : decode cX5_clap 32 = .ok (.getfield 97, 3) := by decide +kernel
theorem dX5_clap_35 : decode cX5_clap 35 = .ok (.iload_n 1, 1) := by decide +kernel
theorem dX5_clap_36 : decode cX5_clap 36 = .ok (.invokevirtual 100, 3) := by decide +kernel
theorem dX5_clap_39 : decode cX5_clap 39 = .ok (.invokevirtual 104, 3) := by decide +kernel
theorem dX5_clap_42 : decode cX5_clap 42 = .ok (.istore_n 3, 1) := by decide +kernel
theorem dX5_clap_43 : decode cX5_clap 43 = .ok (.aload_n 0, 1) := by decide +kernel
theorem dX5_clap_44 : decode cX5_clap 44 = .ok (.getfield 26, 3) := by decide +kernel
theorem dX5_clap_47 : decode cX5_clap 47 = .ok (.getfield 97, 3) := by decide +kernel
theorem dX5_clap_50 : decode cX5_clap 50 = .ok (.iload_n 1, 1) := by decide +kernel
theorem dX5_clap_51 : decode cX5_clap 51 = .ok (.aload_n 0, 1) := by decide +kernel
theorem dX5_clap_52 : decode cX5_clap 52 = .ok (.iload_n 1, 1) := by decide +kernel
theorem dX5_clap_53 : decode cX5_clap 53 = .ok (.iload_n 2, 1) := by decide +kernel
theorem dX5_clap_54 : decode cX5_clap 54 = .ok (.invokevirtual 104, 3) := by decide +kernel
theorem dX5_clap_57 : decode cX5_clap 57 = .ok (.invokevirtual 107, 3) := by decide +kernel
theorem dX5_clap_60 : decode cX5_clap 60 = .ok (.iload_n 3, 1) := by decide +kernel
theorem dX5_clap_61 : decode cX5_clap 61 = .ok (.ireturn, 1) := by decide +kernel
set_option maxRecDepth 20000 in
theorem ggX5_arm_X5_within : GoodIn wsX5_arm wsX5_within := goodIn_r _ [6] (by decide +kernel) (by decide +kernel)
set_option maxRecDepth 20000 in
theorem gX5_arm_X5_within : GoodIn wsX5_arm (va_wsS RX5 54 yX5_within wsX5_within) := goodIn_app (goodIn_of _ (by decide +kernel)) ggX5_arm_X5_within
set_option maxRecDepth 20000 in
theorem ggX5_arm_X2_isThere : GoodIn wsX5_arm wsX2_isThere := goodIn_r _ [11, 12, 31, 32, 33, 34, 35] (by decide +kernel) (by decide +kernel)
set_option maxRecDepth 20000 in
theorem gX5_arm_X2_isThere : GoodIn wsX5_arm (wsV RX5 111 RX2 yX2_isThere wsX2_isThere) := goodIn_app (goodIn_of _ (by decide +kernel)) ggX5_arm_X2_isThere
theorem dX5_arm_0 : decode cX5_arm 0 = .ok (.iload_n 1, 1) := by decide +kernel
theorem dX5_arm_1 : decode cX5_arm 1 = .ok (.iconst 0, 1) := by decide +kernel
theorem dX5_arm_2 : decode cX5_arm 2 = .ok (.bipush 8, 2) := by decide +kernel
theorem dX5_arm_4 : decode cX5_arm 4 = .ok (.invokestatic 54, 3) := by decide +kernel
theorem dX5_arm_7 : decode cX5_arm 7 = .ok (.ifCond .ne 6, 3) := by decide +kernel
theorem dX5_arm_10 : decode cX5_arm 10 = .ok (.bipush (-102), 2) := by decide +kernel
theorem dX5_arm_12 : decode cX5_arm 12 = .ok (.ireturn, 1) := by decide +kernel
theorem dX5_arm_13 : decode cX5_arm 13 = .ok (.aload_n 0, 1) := by decide +kernel
theorem dX5_arm_14 : decode cX5_arm 14 = .ok (.getfield 19, 3) := by decide +kernel
theorem dX5_arm_17 : decode cX5_arm 17 = .ok (.invokevirtual 111, 3) := by decide +kernel
theorem dX5_arm_20 : decode cX5_arm 20 = .ok (.ifCond .ne 6, 3) := by decide +kernel
theorem dX5_arm_23 : decode cX5_arm 23 = .ok (.bipush (-103), 2) := by decide +kernel
theorem dX5_arm_25 : decode cX5_arm 25 = .ok (.ireturn, 1) := by decide +kernel
theorem dX5_arm_26 : decode cX5_arm 26 = .ok (.aload_n 0, 1) := by decide +kernel
theorem dX5_arm_27 : decode cX5_arm 27 = .ok (.getfield 26, 3) := by decide +kernel
theorem dX5_arm_30 : decode cX5_arm 30 = .ok (.getfield 97, 3) := by decide +kernel
theorem dX5_arm_33 : decode cX5_arm 33 = .ok (.getfield 114, 3) := by decide +kernel
theorem dX5_arm_36 : decode cX5_arm 36 = .ok (.istore_n 2, 1) := by decide +kernel
theorem dX5_arm_37 : decode cX5_arm 37 = .ok (.aload_n 0, 1) := by decide +kernel
theorem dX5_arm_38 : decode cX5_arm 38 = .ok (.getfield 26, 3) := by decide +kernel
theorem dX5_arm_41 : decode cX5_arm 41 = .ok (.getfield 97, 3) := by decide +kernel
theorem dX5_arm_44 : decode cX5_arm 44 = .ok (.iload_n 1, 1) := by decide +kernel
theorem dX5_arm_45 : decode cX5_arm 45 = .ok (.putfield 114, 3) := by decide +kernel
theorem dX5_arm_48 : decode cX5_arm 48 = .ok (.iload_n 2, 1) := by decide +kernel
theorem dX5_arm_49 : decode cX5_arm 49 = .ok (.ireturn, 1) := by decide +kernel
set_option maxRecDepth 20000 in
theorem ggX5_bar_X2_isThere : GoodIn wsX5_bar wsX2_isThere := goodIn_r _ [7, 8, 91, 92, 93, 94, 95] (by decide +kernel) (by decide +kernel)
set_option maxRecDepth 20000 in
theorem gX5_bar_X2_isThere : GoodIn wsX5_bar (wsV RX5 111 RX2 yX2_isThere wsX2_isThere) := goodIn_app (goodIn_of _ (by decide +kernel)) ggX5_bar_X2_isThere
set_option maxRecDepth 20000 in
theorem ggX5_bar_X0_goOn : GoodIn wsX5_bar wsX0_goOn := goodIn_r _ [13, 14, 15, 16, 17, 18, 19, 12, 20, 21, 22, 23, 24, 25, 26, 27, 6, 28, 8, 29, 30, 31, 32, 33, 34, 35, 36, 37, 38, 39, 40, 41, 42, 43, 44, 45, 46, 47, 48, 49, 50, 51, 52, 53, 54, 55, 56, 57, 58, 59, 60, 61, 62, 63, 64, 65, 66, 67, 91, 92, 93, 94, 95, 96, 97, 98, 99] (by decide +kernel) (by decide +kernel)
set_option maxRecDepth 20000 in
theorem gX5_bar_X0_goOn : GoodIn wsX5_bar (wsV RX5 117 RX0 yX0_goOn wsX0_goOn) := goodIn_app (goodIn_of _ (by decide +kernel)) ggX5_bar_X0_goOn
set_option maxRecDepth 20000 in
theorem ggX5_bar_X0_palmsRight : GoodIn wsX5_bar wsX0_palmsRight := goodIn_r _ [71, 15, 72, 73, 74, 6, 75, 8, 76, 91, 92, 93, 94, 95, 96, 97, 98, 99] (by decide +kernel) (by decide +kernel)
set_option maxRecDepth 20000 in
theorem gX5_bar_X0_palmsRight : GoodIn wsX5_bar (wsV RX5 124 RX0 yX0_palmsRight wsX0_palmsRight) := goodIn_app (goodIn_of _ (by decide +kernel)) ggX5_bar_X0_palmsRight
theorem dX5_bar_0 : decode cX5_bar 0 = .ok (.aload_n 0, 1) := by decide +kernel
theorem dX5_bar_1 : decode cX5_bar 1 = .ok (.getfield 19, 3) := by decide +kernel
theorem dX5_bar_4 : decode cX5_bar 4 = .ok (.invokevirtual 111, 3) := by decide +kernel
theorem dX5_bar_7 : decode cX5_bar 7 = .ok (.ifCond .ne 6, 3) := by decide +kernel
theorem dX5_bar_10 : decode cX5_bar 10 = .ok (.bipush (-103), 2) := by decide +kernel
theorem dX5_bar_12 : decode cX5_bar 12 = .ok (.ireturn, 1) := by decide +kernel
theorem dX5_bar_13 : decode cX5_bar 13 = .ok (.aload_n 0, 1) := by decide +kernel
theorem dX5_bar_14 : decode cX5_bar 14 = .ok (.getfield 26, 3) := by decide +kernel
theorem dX5_bar_17 : decode cX5_bar 17 = .ok (.getfield 97, 3) := by decide +kernel
theorem dX5_bar_20 : decode cX5_bar 20 = .ok (.aload_n 0, 1) := by decide +kernel
theorem dX5_bar_21 : decode cX5_bar 21 = .ok (.getfield 19, 3) := by decide +kernel
theorem dX5_bar_24 : decode cX5_bar 24 = .ok (.invokevirtual 117, 3) := by decide +kernel
theorem dX5_bar_27 : decode cX5_bar 27 = .ok (.pop, 1) := by decide +kernel
theorem dX5_bar_28 : decode cX5_bar 28 = .ok (.aload_n 0, 1) := by decide +kernel
theorem dX5_bar_29 : decode cX5_bar 29 = .ok (.getfield 26, 3) := by decide +kernel
theorem dX5_bar_32 : decode cX5_bar 32 = .ok (.dup, 1) := by decide +kernel
theorem dX5_bar_33 : decode cX5_bar 33 = .ok (.getfield 121, 3) := by decide +kernel
theorem dX5_bar_36 : decode cX5_bar 36 = .ok (.iconst 1, 1) := by decide +kernel
theorem dX5_bar_37 : decode cX5_bar 37 = .ok (.iadd, 1) := by decide +kernel
theorem dX5_bar_38 : decode cX5_bar 38 = .ok (.putfield 121, 3) := by decide +kernel
theorem dX5_bar_41 : decode cX5_bar 41 = .ok (.aload_n 0, 1) := by decide +kernel
theorem dX5_bar_42 : decode cX5_bar 42 = .ok (.getfield 26, 3) := by decide +kernel
theorem dX5_bar_45 : decode cX5_bar 45 = .ok (.getfield 97, 3) := by decide +kernel
theorem dX5_bar_48 : decode cX5_bar 48 = .ok (.aload_n 0, 1) := by decide +kernel
theorem dX5_bar_49 : decode cX5_bar 49 = .ok (.getfield 19, 3) := by decide +kernel
theorem dX5_bar_52 : decode cX5_bar 52 = .ok (.invokevirtual 124, 3) := by decide +kernel
theorem dX5_bar_55 : decode cX5_bar 55 = .ok (.ireturn, 1) := by decide +kernel
set_option maxRecDepth 20000 in
theorem ggX5_skip_X2_isThere : GoodIn wsX5_skip wsX2_isThere := goodIn_r _ [7, 8, 46, 47, 48, 49, 50] (by decide +kernel) (by decide +kernel)
set_option maxRecDepth 20000 in
theorem gX5_skip_X2_isThere : GoodIn wsX5_skip (wsV RX5 111 RX2 yX2_isThere wsX2_isThere) := goodIn_app (goodIn_of _ (by decide +kernel)) ggX5_skip_X2_isThere
set_option maxRecDepth 20000 in
theorem ggX5_skip_X0_leaveBeatOut : GoodIn wsX5_skip wsX0_leaveBeatOut := goodIn_r _ [13, 14, 15, 16, 17, 6, 18, 8, 19, 20, 21, 22, 46, 47, 48, 49, 50, 51, 52, 53, 54] (by decide +kernel) (by decide +kernel)
set_option maxRecDepth 20000 in
theorem gX5_skip_X0_leaveBeatOut : GoodIn wsX5_skip (wsV RX5 128 RX0 yX0_leaveBeatOut wsX0_leaveBeatOut) := goodIn_app (goodIn_of _ (by decide +kernel)) ggX5_skip_X0_leaveBeatOut
set_option maxRecDepth 20000 in
theorem ggX5_skip_X0_palmsRight : GoodIn wsX5_skip wsX0_palmsRight := goodIn_r _ [26, 14, 27, 28, 29, 6, 30, 8, 31, 46, 47, 48, 49, 50, 51, 52, 53, 54] (by decide +kernel) (by decide +kernel)
set_option maxRecDepth 20000 in
theorem gX5_skip_X0_palmsRight : GoodIn wsX5_skip (wsV RX5 124 RX0 yX0_palmsRight wsX0_palmsRight) := goodIn_app (goodIn_of _ (by decide +kernel)) ggX5_skip_X0_palmsRight
theorem dX5_skip_0 : decode cX5_skip 0 = .ok (.aload_n 0, 1) := by decide +kernel
theorem dX5_skip_1 : decode cX5_skip 1 = .ok (.getfield 19, 3) := by decide +kernel
theorem dX5_skip_4 : decode cX5_skip 4 = .ok (.invokevirtual 111, 3) := by decide +kernel
theorem dX5_skip_7 : decode cX5_skip 7 = .ok (.ifCond .ne 6, 3) := by decide +kernel
theorem dX5_skip_10 : decode cX5_skip 10 = .ok (.bipush (-103), 2) := by decide +kernel
theorem dX5_skip_12 : decode cX5_skip 12 = .ok (.ireturn, 1) := by decide +kernel
theorem dX5_skip_13 : decode cX5_skip 13 = .ok (.aload_n 0, 1) := by decide +kernel
theorem dX5_skip_14 : decode cX5_skip 14 = .ok (.getfield 26, 3) := by decide +kernel
theorem dX5_skip_17 : decode cX5_skip 17 = .ok (.getfield 97, 3) := by decide +kernel
theorem dX5_skip_20 : decode cX5_skip 20 = .ok (.aload_n 0, 1) := by decide +kernel
theorem dX5_skip_21 : decode cX5_skip 21 = .ok (.getfield 19, 3) := by decide +kernel
theorem dX5_skip_24 : decode cX5_skip 24 = .ok (.invokevirtual 128, 3) := by decide +kernel
theorem dX5_skip_27 : decode cX5_skip 27 = .ok (.aload_n 0, 1) := by decide +kernel
theorem dX5_skip_28 : decode cX5_skip 28 = .ok (.getfield 26, 3) := by decide +kernel
theorem dX5_skip_31 : decode cX5_skip 31 = .ok (.dup, 1) := by decide +kernel
theorem dX5_skip_32 : decode cX5_skip 32 = .ok (.getfield 132, 3) := by decide +kernel
theorem dX5_skip_35 : decode cX5_skip 35 = .ok (.iconst 1, 1) := by decide +kernel
theorem dX5_skip_36 : decode cX5_skip 36 = .ok (.iadd, 1) := by decide +kernel
theorem dX5_skip_37 : decode cX5_skip 37 = .ok (.putfield 132, 3) := by decide +kernel
theorem dX5_skip_40 : decode cX5_skip 40 = .ok (.aload_n 0, 1) := by decide +kernel
theorem dX5_skip_41 : decode cX5_skip 41 = .ok (.getfield 26, 3) := by decide +kernel
theorem dX5_skip_44 : decode cX5_skip 44 = .ok (.getfield 97, 3) := by decide +kernel
theorem dX5_skip_47 : decode cX5_skip 47 = .ok (.aload_n 0, 1) := by decide +kernel
theorem dX5_skip_48 : decode cX5_skip 48 = .ok (.getfield 19, 3) := by decide +kernel
theorem dX5_skip_51 : decode cX5_skip 51 = .ok (.invokevirtual 124, 3) := by decide +kernel
theorem dX5_skip_54 : decode cX5_skip 54 = .ok (.ireturn, 1) := by decide +kernel
set_option maxRecDepth 20000 in
theorem ggX5_loud_X2_has : GoodIn wsX5_loud wsX2_has := goodIn_r _ [7, 8, 37, 38, 39, 40, 41] (by decide +kernel) (by decide +kernel)
set_option maxRecDepth 20000 in
theorem gX5_loud_X2_has : GoodIn wsX5_loud (wsV RX5 86 RX2 yX2_has wsX2_has) := goodIn_app (goodIn_of _ (by decide +kernel)) ggX5_loud_X2_has
set_option maxRecDepth 20000 in
theorem ggX5_loud_X5_within : GoodIn wsX5_loud wsX5_within := goodIn_r _ [12] (by decide +kernel) (by decide +kernel)
set_option maxRecDepth 20000 in
theorem gX5_loud_X5_within : GoodIn wsX5_loud (va_wsS RX5 54 yX5_within wsX5_within) := goodIn_app (goodIn_of _ (by decide +kernel)) ggX5_loud_X5_within
set_option maxRecDepth 20000 in
theorem ggX5_loud_X0_loudness : GoodIn wsX5_loud wsX0_loudness := goodIn_r _ [17, 18, 19, 20, 16, 21, 22, 37, 38, 39, 40, 41, 42, 43, 44, 45] (by decide +kernel) (by decide +kernel)
set_option maxRecDepth 20000 in
theorem gX5_loud_X0_loudness : GoodIn wsX5_loud (wsV RX5 135 RX0 yX0_loudness wsX0_loudness) := goodIn_app (goodIn_of _ (by decide +kernel)) ggX5_loud_X0_loudness
theorem dX5_loud_0 : decode cX5_loud 0 = .ok (.aload_n 0, 1) := by decide +kernel
theorem dX5_loud_1 : decode cX5_loud 1 = .ok (.getfield 19, 3) := by decide +kernel
theorem dX5_loud_4 : decode cX5_loud 4 = .ok (.iload_n 1, 1) := by decide +kernel
theorem dX5_loud_5 : decode cX5_loud 5 = .ok (.invokevirtual 86, 3) := by decide +kernel
theorem dX5_loud_8 : decode cX5_loud 8 = .ok (.ifCond .ne 6, 3) := by decide +kernel
theorem dX5_loud_11 : decode cX5_loud 11 = .ok (.bipush (-101), 2) := by decide +kernel
theorem dX5_loud_13 : decode cX5_loud 13 = .ok (.ireturn, 1) := by decide +kernel
theorem dX5_loud_14 : decode cX5_loud 14 = .ok (.iload_n 2, 1) := by decide +kernel
theorem dX5_loud_15 : decode cX5_loud 15 = .ok (.iconst 0, 1) := by decide +kernel
theorem dX5_loud_16 : decode cX5_loud 16 = .ok (.iconst 3, 1) := by decide +kernel
theorem dX5_loud_17 : decode cX5_loud 17 = .ok (.invokestatic 54, 3) := by decide +kernel
theorem dX5_loud_20 : decode cX5_loud 20 = .ok (.ifCond .eq 22, 3) := by decide +kernel
theorem dX5_loud_23 : decode cX5_loud 23 = .ok (.aload_n 0, 1) := by decide +kernel
theorem dX5_loud_24 : decode cX5_loud 24 = .ok (.getfield 26, 3) := by decide +kernel
theorem dX5_loud_27 : decode cX5_loud 27 = .ok (.getfield 97, 3) := by decide +kernel
theorem dX5_loud_30 : decode cX5_loud 30 = .ok (.aload_n 0, 1) := by decide +kernel
theorem dX5_loud_31 : decode cX5_loud 31 = .ok (.getfield 19, 3) := by decide +kernel
theorem dX5_loud_34 : decode cX5_loud 34 = .ok (.iload_n 1, 1) := by decide +kernel
theorem dX5_loud_35 : decode cX5_loud 35 = .ok (.iload_n 2, 1) := by decide +kernel
theorem dX5_loud_36 : decode cX5_loud 36 = .ok (.invokevirtual 135, 3) := by decide +kernel
theorem dX5_loud_39 : decode cX5_loud 39 = .ok (.goto 5, 3) := by decide +kernel
theorem dX5_loud_42 : decode cX5_loud 42 = .ok (.bipush (-102), 2) := by decide +kernel
theorem dX5_loud_44 : decode cX5_loud 44 = .ok (.ireturn, 1) := by decide +kernel
set_option maxRecDepth 20000 in
theorem ggX5_rest_X2_isThere : GoodIn wsX5_rest wsX2_isThere := goodIn_r _ [6, 7, 86, 87, 88, 89, 90] (by decide +kernel) (by decide +kernel)
set_option maxRecDepth 20000 in
theorem gX5_rest_X2_isThere : GoodIn wsX5_rest (wsV RX5 111 RX2 yX2_isThere wsX2_isThere) := goodIn_app (goodIn_of _ (by decide +kernel)) ggX5_rest_X2_isThere
set_option maxRecDepth 20000 in
theorem ggX5_rest_X5_barsToRest : GoodIn wsX5_rest wsX5_barsToRest := goodIn_r _ [12, 13, 14, 1, 15, 16, 17, 18, 19, 20, 21, 22, 23, 24, 25, 26, 27, 28, 29, 30, 31, 32, 33, 34, 35, 36, 37, 38, 5, 39, 7, 40, 41, 42, 43, 44, 45, 46, 47, 48, 49, 50, 51, 52, 53, 54, 55, 56, 57, 58, 59, 60, 61, 62, 63, 64, 65, 66, 67, 68, 69, 70, 71, 72, 73, 74, 75, 11, 76, 77, 78, 79, 80, 81, 82, 83, 84, 85, 91, 92, 93, 94, 95, 96, 97, 98, 99, 86, 87, 88, 89, 90] (by decide +kernel) (by decide +kernel)
set_option maxRecDepth 20000 in
theorem gX5_rest_X5_barsToRest : GoodIn wsX5_rest (wsV RX5 139 RX5 yX5_barsToRest wsX5_barsToRest) := goodIn_app (goodIn_of _ (by decide +kernel)) ggX5_rest_X5_barsToRest
theorem dX5_rest_0 : decode cX5_rest 0 = .ok (.aload_n 0, 1) := by decide +kernel
theorem dX5_rest_1 : decode cX5_rest 1 = .ok (.getfield 19, 3) := by decide +kernel
theorem dX5_rest_4 : decode cX5_rest 4 = .ok (.invokevirtual 111, 3) := by decide +kernel
theorem dX5_rest_7 : decode cX5_rest 7 = .ok (.ifCond .eq 10, 3) := by decide +kernel
theorem dX5_rest_10 : decode cX5_rest 10 = .ok (.aload_n 0, 1) := by decide +kernel
theorem dX5_rest_11 : decode cX5_rest 11 = .ok (.invokevirtual 139, 3) := by decide +kernel
theorem dX5_rest_14 : decode cX5_rest 14 = .ok (.goto 5, 3) := by decide +kernel
theorem dX5_rest_17 : decode cX5_rest 17 = .ok (.bipush (-103), 2) := by decide +kernel
theorem dX5_rest_19 : decode cX5_rest 19 = .ok (.ireturn, 1) := by decide +kernel
set_option maxRecDepth 20000 in
theorem ggX5_outcome_X5_within : GoodIn wsX5_outcome wsX5_within := goodIn_r _ [5] (by decide +kernel) (by decide +kernel)
set_option maxRecDepth 20000 in
theorem gX5_outcome_X5_within : GoodIn wsX5_outcome (va_wsS RX5 54 yX5_within wsX5_within) := goodIn_app (goodIn_of _ (by decide +kernel)) ggX5_outcome_X5_within
set_option maxRecDepth 20000 in
theorem ggX5_outcome_X2_isThere : GoodIn wsX5_outcome wsX2_isThere := goodIn_r _ [10, 11, 104, 105, 106, 107, 108] (by decide +kernel) (by decide +kernel)
set_option maxRecDepth 20000 in
theorem gX5_outcome_X2_isThere : GoodIn wsX5_outcome (wsV RX5 111 RX2 yX2_isThere wsX2_isThere) := goodIn_app (goodIn_of _ (by decide +kernel)) ggX5_outcome_X2_isThere
set_option maxRecDepth 20000 in
theorem ggX5_outcome_X5_rightBehind : GoodIn wsX5_outcome wsX5_rightBehind := goodIn_r _ [15, 16, 17, 1, 18, 19, 20, 21, 22, 23, 24, 25, 26, 27, 28, 29, 30, 31, 32, 9, 33, 11, 34, 35, 4, 36, 37, 38, 39, 40, 41, 42, 43, 44, 45, 46, 47, 48, 49, 50, 51, 52, 53, 54, 55, 56, 57, 58, 59, 60, 61, 62, 63, 64, 65, 66, 67, 68, 69, 70, 71, 72, 73, 74, 75, 76, 77, 78, 79, 80, 81, 82, 83, 84, 85, 86, 87, 88, 89, 90, 91, 92, 93, 94, 95, 96, 97, 98, 99, 100, 101, 102, 103, 109, 110, 111, 112, 113, 114, 115, 116, 117, 104, 105, 106, 107, 108] (by decide +kernel) (by decide +kernel)
set_option maxRecDepth 20000 in
theorem gX5_outcome_X5_rightBehind : GoodIn wsX5_outcome (wsV RX5 142 RX5 yX5_rightBehind wsX5_rightBehind) := goodIn_app (goodIn_of _ (by decide +kernel)) ggX5_outcome_X5_rightBehind
theorem dX5_outcome_0 : decode cX5_outcome 0 = .ok (.iload_n 1, 1) := by decide +kernel
theorem dX5_outcome_1 : decode cX5_outcome 1 = .ok (.iconst 0, 1) := by decide +kernel
theorem dX5_outcome_2 : decode cX5_outcome 2 = .ok (.bipush 30, 2) := by decide +kernel
theorem dX5_outcome_4 : decode cX5_outcome 4 = .ok (.invokestatic 54, 3) := by decide +kernel
theorem dX5_outcome_7 : decode cX5_outcome 7 = .ok (.ifCond .ne 6, 3) := by decide +kernel
theorem dX5_outcome_10 : decode cX5_outcome 10 = .ok (.bipush (-102), 2) := by decide +kernel
theorem dX5_outcome_12 : decode cX5_outcome 12 = .ok (.ireturn, 1) := by decide +kernel
theorem dX5_outcome_13 : decode cX5_outcome 13 = .ok (.aload_n 0, 1) := by decide +kernel
theorem dX5_outcome_14 : decode cX5_outcome 14 = .ok (.getfield 19, 3) := by decide +kernel
theorem dX5_outcome_17 : decode cX5_outcome 17 = .ok (.invokevirtual 111, 3) := by decide +kernel
theorem dX5_outcome_20 : decode cX5_outcome 20 = .ok (.ifCond .eq 12, 3) := by decide +kernel
theorem dX5_outcome_23 : decode cX5_outcome 23 = .ok (.aload_n 0, 1) := by decide +kernel
theorem dX5_outcome_24 : decode cX5_outcome 24 = .ok (.iload_n 1, 1) := by decide +kernel
theorem dX5_outcome_25 : decode cX5_outcome 25 = .ok (.iconst (-1), 1) := by decide +kernel
theorem dX5_outcome_26 : decode cX5_outcome 26 = .ok (.invokevirtual 142, 3) := by decide +kernel
theorem dX5_outcome_29 : decode cX5_outcome 29 = .ok (.goto 5, 3) := by decide +kernel
theorem dX5_outcome_32 : decode cX5_outcome 32 = .ok (.bipush (-103), 2) := by decide +kernel
theorem dX5_outcome_34 : decode cX5_outcome 34 = .ok (.ireturn, 1) := by decide +kernel
set_option maxRecDepth 20000 in
theorem ggX5_trick_X5_within : GoodIn wsX5_trick wsX5_within := goodIn_r _ [5] (by decide +kernel) (by decide +kernel)
set_option maxRecDepth 20000 in
theorem gX5_trick_X5_within : GoodIn wsX5_trick (va_wsS RX5 54 yX5_within wsX5_within) := goodIn_app (goodIn_of _ (by decide +kernel)) ggX5_trick_X5_within
set_option maxRecDepth 20000 in
theorem ggX5_trick_X2_isThere : GoodIn wsX5_trick wsX2_isThere := goodIn_r _ [10, 11, 108, 109, 110, 111, 112] (by decide +kernel) (by decide +kernel)
set_option maxRecDepth 20000 in
theorem gX5_trick_X2_isThere : GoodIn wsX5_trick (wsV RX5 111 RX2 yX2_isThere wsX2_isThere) := goodIn_app (goodIn_of _ (by decide +kernel)) ggX5_trick_X2_isThere
set_option maxRecDepth 20000 in
theorem ggX5_trick_X5_trickTold : GoodIn wsX5_trick wsX5_trickTold := goodIn_r _ [15, 16, 17, 18, 4, 19, 20, 21, 1, 22, 23, 24, 25, 26, 27, 28, 29, 30, 31, 32, 33, 34, 35, 36, 9, 37, 11, 38, 39, 40, 41, 42, 43, 44, 45, 46, 47, 48, 49, 50, 51, 52, 53, 54, 55, 56, 57, 58, 59, 60, 61, 62, 63, 64, 65, 66, 67, 68, 69, 70, 71, 72, 73, 74, 75, 76, 77, 78, 79, 80, 81, 82, 83, 84, 85, 86, 87, 88, 89, 90, 91, 92, 93, 94, 95, 96, 97, 98, 99, 100, 101, 102, 103, 104, 105, 106, 107, 113, 114, 115, 116, 117, 118, 119, 120, 121, 108, 109, 110, 111, 112] (by decide +kernel) (by decide +kernel)
set_option maxRecDepth 20000 in
theorem gX5_trick_X5_trickTold : GoodIn wsX5_trick (wsV RX5 145 RX5 yX5_trickTold wsX5_trickTold) := goodIn_app (goodIn_of _ (by decide +kernel)) ggX5_trick_X5_trickTold
theorem dX5_trick_0 : decode cX5_trick 0 = .ok (.iload_n 1, 1) := by decide +kernel
theorem dX5_trick_1 : decode cX5_trick 1 = .ok (.iconst 1, 1) := by decide +kernel
theorem dX5_trick_2 : decode cX5_trick 2 = .ok (.bipush 12, 2) := by decide +kernel
theorem dX5_trick_4 : decode cX5_trick 4 = .ok (.invokestatic 54, 3) := by decide +kernel
theorem dX5_trick_7 : decode cX5_trick 7 = .ok (.ifCond .eq 12, 3) := by decide +kernel
theorem dX5_trick_10 : decode cX5_trick 10 = .ok (.iload_n 2, 1) := by decide +kernel
theorem dX5_trick_11 : decode cX5_trick 11 = .ok (.iconst 0, 1) := by decide +kernel
theorem dX5_trick_12 : decode cX5_trick 12 = .ok (.iconst 1, 1) := by decide +kernel
theorem dX5_trick_13 : decode cX5_trick 13 = .ok (.invokestatic 54, 3) := by decide +kernel
theorem dX5_trick_16 : decode cX5_trick 16 = .ok (.ifCond .ne 6, 3) := by decide +kernel
theorem dX5_trick_19 : decode cX5_trick 19 = .ok (.bipush (-102), 2) := by decide +kernel
theorem dX5_trick_21 : decode cX5_trick 21 = .ok (.ireturn, 1) := by decide +kernel
theorem dX5_trick_22 : decode cX5_trick 22 = .ok (.aload_n 0, 1) := by decide +kernel
theorem dX5_trick_23 : decode cX5_trick 23 = .ok (.getfield 19, 3) := by decide +kernel
theorem dX5_trick_26 : decode cX5_trick 26 = .ok (.invokevirtual 111, 3) := by decide +kernel
theorem dX5_trick_29 : decode cX5_trick 29 = .ok (.ifCond .eq 12, 3) := by decide +kernel
theorem dX5_trick_32 : decode cX5_trick 32 = .ok (.aload_n 0, 1) := by decide +kernel
theorem dX5_trick_33 : decode cX5_trick 33 = .ok (.iload_n 1, 1) := by decide +kernel
theorem dX5_trick_34 : decode cX5_trick 34 = .ok (.iload_n 2, 1) := by decide +kernel
theorem dX5_trick_35 : decode cX5_trick 35 = .ok (.invokevirtual 145, 3) := by decide +kernel
theorem dX5_trick_38 : decode cX5_trick 38 = .ok (.goto 5, 3) := by decide +kernel
theorem dX5_trick_41 : decode cX5_trick 41 = .ok (.bipush (-103), 2) := by decide +kernel
theorem dX5_trick_43 : decode cX5_trick 43 = .ok (.ireturn, 1) := by decide +kernel
set_option maxRecDepth 20000 in
theorem ggX5_turned_X5_within : GoodIn wsX5_turned wsX5_within := goodIn_r _ [6] (by decide +kernel) (by decide +kernel)
set_option maxRecDepth 20000 in
theorem gX5_turned_X5_within : GoodIn wsX5_turned (va_wsS RX5 54 yX5_within wsX5_within) := goodIn_app (goodIn_of _ (by decide +kernel)) ggX5_turned_X5_within
set_option maxRecDepth 20000 in
theorem ggX5_turned_X2_isThere : GoodIn wsX5_turned wsX2_isThere := goodIn_r _ [11, 12, 106, 107, 108, 109, 110] (by decide +kernel) (by decide +kernel)
set_option maxRecDepth 20000 in
theorem gX5_turned_X2_isThere : GoodIn wsX5_turned (wsV RX5 111 RX2 yX2_isThere wsX2_isThere) := goodIn_app (goodIn_of _ (by decide +kernel)) ggX5_turned_X2_isThere
set_option maxRecDepth 20000 in
theorem ggX5_turned_X5_fewestTurned : GoodIn wsX5_turned wsX5_fewestTurned := goodIn_r _ [16, 1, 17, 18, 19, 20, 21, 22, 23, 24, 25, 26, 5, 27, 28, 29, 30, 31, 32, 33, 34, 35, 36, 37, 38, 39, 40, 41, 42, 43, 44, 45, 46, 47, 48, 49, 50, 51, 52, 53, 54, 55, 56, 57, 10, 58, 12, 59, 60, 61, 62, 63, 64, 65, 66, 67, 68, 69, 70, 71, 72, 73, 74, 75, 76, 77, 78, 79, 80, 81, 82, 83, 84, 85, 86, 87, 88, 89, 90, 91, 92, 93, 94, 95, 96, 97, 98, 99, 100, 101, 102, 103, 104, 105, 106, 107, 108, 109, 110, 111, 112, 113, 114, 115, 116, 117, 118, 119] (by decide +kernel) (by decide +kernel)
set_option maxRecDepth 20000 in
theorem gX5_turned_X5_fewestTurned : GoodIn wsX5_turned (wsV RX5 148 RX5 yX5_fewestTurned wsX5_fewestTurned) := goodIn_app (goodIn_of _ (by decide +kernel)) ggX5_turned_X5_fewestTurned
set_option maxRecDepth 20000 in
theorem ggX5_turned_J6_bitCount_0f7a4 : GoodIn wsX5_turned wsJ6_bitCount_0f7a4 := goodIn_r _ [20, 21, 22, 23] (by decide +kernel) (by decide +kernel)
set_option maxRecDepth 20000 in
theorem gX5_turned_J6_bitCount_0f7a4 : GoodIn wsX5_turned (va_wsS RX5 151 yJ6_bitCount_0f7a4 wsJ6_bitCount_0f7a4) := goodIn_app (goodIn_of _ (by decide +kernel)) ggX5_turned_J6_bitCount_0f7a4
theorem dX5_turned_0 : decode cX5_turned 0 = .ok (.iload_n 1, 1) := by decide +kernel
theorem dX5_turned_1 : decode cX5_turned 1 = .ok (.iconst 0, 1) := by decide +kernel
theorem dX5_turned_2 : decode cX5_turned 2 = .ok (.bipush 12, 2) := by decide +kernel
theorem dX5_turned_4 : decode cX5_turned 4 = .ok (.invokestatic 54, 3) := by decide +kernel
theorem dX5_turned_7 : decode cX5_turned 7 = .ok (.ifCond .eq 12, 3) := by decide +kernel
theorem dX5_turned_10 : decode cX5_turned 10 = .ok (.iload_n 2, 1) := by decide +kernel
theorem dX5_turned_11 : decode cX5_turned 11 = .ok (.iconst 0, 1) := by decide +kernel
theorem dX5_turned_12 : decode cX5_turned 12 = .ok (.iconst 1, 1) := by decide +kernel
theorem dX5_turned_13 : decode cX5_turned 13 = .ok (.invokestatic 54, 3) := by decide +kernel
theorem dX5_turned_16 : decode cX5_turned 16 = .ok (.ifCond .ne 6, 3) := by decide +kernel
theorem dX5_turned_19 : decode cX5_turned 19 = .ok (.bipush (-102), 2) := by decide +kernel
theorem dX5_turned_21 : decode cX5_turned 21 = .ok (.ireturn, 1) := by decide +kernel
theorem dX5_turned_22 : decode cX5_turned 22 = .ok (.aload_n 0, 1) := by decide +kernel
theorem dX5_turned_23 : decode cX5_turned 23 = .ok (.getfield 19, 3) := by decide +kernel
theorem dX5_turned_26 : decode cX5_turned 26 = .ok (.invokevirtual 111, 3) := by decide +kernel
theorem dX5_turned_29 : decode cX5_turned 29 = .ok (.ifCond .eq 12, 3) := by decide +kernel
theorem dX5_turned_32 : decode cX5_turned 32 = .ok (.aload_n 0, 1) := by decide +kernel
theorem dX5_turned_33 : decode cX5_turned 33 = .ok (.getfield 48, 3) := by decide +kernel
theorem dX5_turned_36 : decode cX5_turned 36 = .ok (.bipush 30, 2) := by decide +kernel
theorem dX5_turned_38 : decode cX5_turned 38 = .ok (.if_icmp .lt 6, 3) := by decide +kernel
theorem dX5_turned_41 : decode cX5_turned 41 = .ok (.bipush (-103), 2) := by decide +kernel
theorem dX5_turned_43 : decode cX5_turned 43 = .ok (.ireturn, 1) := by decide +kernel
theorem dX5_turned_44 : decode cX5_turned 44 = .ok (.aload_n 0, 1) := by decide +kernel
theorem dX5_turned_45 : decode cX5_turned 45 = .ok (.dup, 1) := by decide +kernel
theorem dX5_turned_46 : decode cX5_turned 46 = .ok (.getfield 48, 3) := by decide +kernel
theorem dX5_turned_49 : decode cX5_turned 49 = .ok (.iconst 1, 1) := by decide +kernel
theorem dX5_turned_50 : decode cX5_turned 50 = .ok (.iadd, 1) := by decide +kernel
theorem dX5_turned_51 : decode cX5_turned 51 = .ok (.putfield 48, 3) := by decide +kernel
theorem dX5_turned_54 : decode cX5_turned 54 = .ok (.aload_n 0, 1) := by decide +kernel
theorem dX5_turned_55 : decode cX5_turned 55 = .ok (.iload_n 1, 1) := by decide +kernel
theorem dX5_turned_56 : decode cX5_turned 56 = .ok (.invokevirtual 148, 3) := by decide +kernel
theorem dX5_turned_59 : decode cX5_turned 59 = .ok (.istore_n 3, 1) := by decide +kernel
theorem dX5_turned_60 : decode cX5_turned 60 = .ok (.iload_n 3, 1) := by decide +kernel
theorem dX5_turned_61 : decode cX5_turned 61 = .ok (.iconst (-1), 1) := by decide +kernel
theorem dX5_turned_62 : decode cX5_turned 62 = .ok (.if_icmp .ne 5, 3) := by decide +kernel
theorem dX5_turned_65 : decode cX5_turned 65 = .ok (.iconst (-1), 1) := by decide +kernel
theorem dX5_turned_66 : decode cX5_turned 66 = .ok (.ireturn, 1) := by decide +kernel
theorem dX5_turned_67 : decode cX5_turned 67 = .ok (.iload_n 2, 1) := by decide +kernel
theorem dX5_turned_68 : decode cX5_turned 68 = .ok (.ifCond .ne 10, 3) := by decide +kernel
theorem dX5_turned_71 : decode cX5_turned 71 = .ok (.iload_n 3, 1) := by decide +kernel
theorem dX5_turned_72 : decode cX5_turned 72 = .ok (.invokestatic 151, 3) := by decide +kernel
theorem dX5_turned_75 : decode cX5_turned 75 = .ok (.goto 4, 3) := by decide +kernel
theorem dX5_turned_78 : decode cX5_turned 78 = .ok (.iload_n 3, 1) := by decide +kernel
theorem dX5_turned_79 : decode cX5_turned 79 = .ok (.ireturn, 1) := by decide +kernel
set_option maxRecDepth 20000 in
theorem ggX5_record_X5_within : GoodIn wsX5_record wsX5_within := goodIn_r _ [5] (by decide +kernel) (by decide +kernel)
set_option maxRecDepth 20000 in
theorem gX5_record_X5_within : GoodIn wsX5_record (va_wsS RX5 54 yX5_within wsX5_within) := goodIn_app (goodIn_of _ (by decide +kernel)) ggX5_record_X5_within
set_option maxRecDepth 20000 in
theorem ggX5_record_X3_noteDown : GoodIn wsX5_record wsX3_noteDown := goodIn_r _ [10, 11, 12, 3, 4, 5, 22, 23, 24, 25, 26] (by decide +kernel) (by decide +kernel)
set_option maxRecDepth 20000 in
theorem gX5_record_X3_noteDown : GoodIn wsX5_record (wsV RX5 156 RX3 yX3_noteDown wsX3_noteDown) := goodIn_app (goodIn_of _ (by decide +kernel)) ggX5_record_X3_noteDown
theorem dX5_record_0 : decode cX5_record 0 = .ok (.iload_n 1, 1) := by decide +kernel
theorem dX5_record_1 : decode cX5_record 1 = .ok (.iconst 0, 1) := by decide +kernel
theorem dX5_record_2 : decode cX5_record 2 = .ok (.bipush 72, 2) := by decide +kernel
theorem dX5_record_4 : decode cX5_record 4 = .ok (.invokestatic 54, 3) := by decide +kernel
theorem dX5_record_7 : decode cX5_record 7 = .ok (.ifCond .ne 6, 3) := by decide +kernel
theorem dX5_record_10 : decode cX5_record 10 = .ok (.bipush (-102), 2) := by decide +kernel
theorem dX5_record_12 : decode cX5_record 12 = .ok (.ireturn, 1) := by decide +kernel
theorem dX5_record_13 : decode cX5_record 13 = .ok (.aload_n 0, 1) := by decide +kernel
theorem dX5_record_14 : decode cX5_record 14 = .ok (.getfield 26, 3) := by decide +kernel
theorem dX5_record_17 : decode cX5_record 17 = .ok (.iload_n 1, 1) := by decide +kernel
theorem dX5_record_18 : decode cX5_record 18 = .ok (.invokevirtual 156, 3) := by decide +kernel
theorem dX5_record_21 : decode cX5_record 21 = .ok (.ifCond .eq 13, 3) := by decide +kernel
theorem dX5_record_24 : decode cX5_record 24 = .ok (.aload_n 0, 1) := by decide +kernel
theorem dX5_record_25 : decode cX5_record 25 = .ok (.getfield 26, 3) := by decide +kernel
theorem dX5_record_28 : decode cX5_record 28 = .ok (.getfield 159, 3) := by decide +kernel
theorem dX5_record_31 : decode cX5_record 31 = .ok (.goto 5, 3) := by decide +kernel
theorem dX5_record_34 : decode cX5_record 34 = .ok (.bipush (-104), 2) := by decide +kernel
theorem dX5_record_36 : decode cX5_record 36 = .ok (.ireturn, 1) := by decide +kernel
theorem dX5_forget_0 : decode cX5_forget 0 = .ok (.aload_n 0, 1) := by decide +kernel
theorem dX5_forget_1 : decode cX5_forget 1 = .ok (.getfield 26, 3) := by decide +kernel
theorem dX5_forget_4 : decode cX5_forget 4 = .ok (.getfield 159, 3) := by decide +kernel
theorem dX5_forget_7 : decode cX5_forget 7 = .ok (.istore_n 1, 1) := by decide +kernel
theorem dX5_forget_8 : decode cX5_forget 8 = .ok (.aload_n 0, 1) := by decide +kernel
theorem dX5_forget_9 : decode cX5_forget 9 = .ok (.getfield 26, 3) := by decide +kernel
theorem dX5_forget_12 : decode cX5_forget 12 = .ok (.iconst 0, 1) := by decide +kernel
theorem dX5_forget_13 : decode cX5_forget 13 = .ok (.putfield 159, 3) := by decide +kernel
theorem dX5_forget_16 : decode cX5_forget 16 = .ok (.iload_n 1, 1) := by decide +kernel
theorem dX5_forget_17 : decode cX5_forget 17 = .ok (.ireturn, 1) := by decide +kernel
set_option maxRecDepth 20000 in
theorem ggX5_began_X5_within : GoodIn wsX5_began wsX5_within := goodIn_r _ [6] (by decide +kernel) (by decide +kernel)
set_option maxRecDepth 20000 in
theorem gX5_began_X5_within : GoodIn wsX5_began (va_wsS RX5 54 yX5_within wsX5_within) := goodIn_app (goodIn_of _ (by decide +kernel)) ggX5_began_X5_within
set_option maxRecDepth 20000 in
theorem ggX5_began_X2_isThere : GoodIn wsX5_began wsX2_isThere := goodIn_r _ [11, 12, 119, 120, 121, 122, 123] (by decide +kernel) (by decide +kernel)
set_option maxRecDepth 20000 in
theorem gX5_began_X2_isThere : GoodIn wsX5_began (wsV RX5 111 RX2 yX2_isThere wsX2_isThere) := goodIn_app (goodIn_of _ (by decide +kernel)) ggX5_began_X2_isThere
set_option maxRecDepth 20000 in
theorem ggX5_began_X5_waysBegun : GoodIn wsX5_began wsX5_waysBegun := goodIn_r _ [16, 17, 18, 19, 5, 20, 1, 21, 22, 23, 24, 25, 10, 26, 12, 27, 28, 29, 30, 31, 32, 33, 34, 35, 36, 37, 38, 39, 40, 41, 42, 43, 44, 45, 46, 47, 48, 49, 50, 51, 52, 53, 54, 55, 56, 57, 58, 59, 60, 61, 62, 63, 64, 65, 66, 67, 68, 69, 70, 71, 72, 73, 74, 75, 76, 77, 78, 79, 80, 81, 82, 83, 84, 85, 86, 87, 88, 89, 90, 91, 92, 93, 94, 95, 96, 97, 98, 99, 100, 101, 102, 103, 104, 4, 6, 105, 110, 111, 112, 113, 114, 115, 116, 117, 118, 124, 125, 126, 127, 128, 129, 130, 131, 132, 119, 120, 121, 122, 123] (by decide +kernel) (by decide +kernel)
set_option maxRecDepth 20000 in
theorem gX5_began_X5_waysBegun : GoodIn wsX5_began (wsV RX5 162 RX5 yX5_waysBegun wsX5_waysBegun) := goodIn_app (goodIn_of _ (by decide +kernel)) ggX5_began_X5_waysBegun
set_option maxRecDepth 20000 in
theorem ggX5_began_X5_leastBegun : GoodIn wsX5_began wsX5_leastBegun := goodIn_r _ [109, 17, 18, 19, 5, 20, 1, 21, 22, 23, 24, 25, 10, 26, 12, 27, 28, 29, 30, 31, 32, 33, 34, 35, 36, 37, 38, 39, 40, 41, 42, 43, 44, 45, 46, 47, 48, 49, 50, 51, 52, 53, 54, 55, 56, 57, 58, 59, 60, 61, 62, 63, 64, 65, 66, 67, 68, 69, 70, 71, 72, 73, 74, 75, 76, 77, 78, 79, 80, 81, 82, 83, 84, 85, 86, 87, 88, 89, 90, 91, 92, 93, 94, 95, 96, 97, 98, 99, 100, 101, 102, 103, 104, 4, 6, 110, 111, 112, 113, 114, 115, 116, 117, 118, 124, 125, 126, 127, 128, 129, 130, 131, 132, 119, 120, 121, 122, 123] (by decide +kernel) (by decide +kernel)
set_option maxRecDepth 20000 in
theorem gX5_began_X5_leastBegun : GoodIn wsX5_began (wsV RX5 165 RX5 yX5_leastBegun wsX5_leastBegun) := goodIn_app (goodIn_of _ (by decide +kernel)) ggX5_began_X5_leastBegun
theorem dX5_began_0 : decode cX5_began 0 = .ok (.iload_n 1, 1) := by decide +kernel
theorem dX5_began_1 : decode cX5_began 1 = .ok (.iconst 0, 1) := by decide +kernel
theorem dX5_began_2 : decode cX5_began 2 = .ok (.iconst 1, 1) := by decide +kernel
theorem dX5_began_3 : decode cX5_began 3 = .ok (.invokestatic 54, 3) := by decide +kernel
theorem dX5_began_6 : decode cX5_began 6 = .ok (.ifCond .ne 6, 3) := by decide +kernel
theorem dX5_began_9 : decode cX5_began 9 = .ok (.bipush (-102), 2) := by decide +kernel
theorem dX5_began_11 : decode cX5_began 11 = .ok (.ireturn, 1) := by decide +kernel
theorem dX5_began_12 : decode cX5_began 12 = .ok (.aload_n 0, 1) := by decide +kernel
theorem dX5_began_13 : decode cX5_began 13 = .ok (.getfield 19, 3) := by decide +kernel
theorem dX5_began_16 : decode cX5_began 16 = .ok (.invokevirtual 111, 3) := by decide +kernel
theorem dX5_began_19 : decode cX5_began 19 = .ok (.ifCond .eq 12, 3) := by decide +kernel
theorem dX5_began_22 : decode cX5_began 22 = .ok (.aload_n 0, 1) := by decide +kernel
theorem dX5_began_23 : decode cX5_began 23 = .ok (.getfield 51, 3) := by decide +kernel
theorem dX5_began_26 : decode cX5_began 26 = .ok (.bipush 30, 2) := by decide +kernel
theorem dX5_began_28 : decode cX5_began 28 = .ok (.if_icmp .lt 6, 3) := by decide +kernel
theorem dX5_began_31 : decode cX5_began 31 = .ok (.bipush (-103), 2) := by decide +kernel
theorem dX5_began_33 : decode cX5_began 33 = .ok (.ireturn, 1) := by decide +kernel
theorem dX5_began_34 : decode cX5_began 34 = .ok (.aload_n 0, 1) := by decide +kernel
theorem dX5_began_35 : decode cX5_began 35 = .ok (.dup, 1) := by decide +kernel
theorem dX5_began_36 : decode cX5_began 36 = .ok (.getfield 51, 3) := by decide +kernel
theorem dX5_began_39 : decode cX5_began 39 = .ok (.iconst 1, 1) := by decide +kernel
theorem dX5_began_40 : decode cX5_began 40 = .ok (.iadd, 1) := by decide +kernel
theorem dX5_began_41 : decode cX5_began 41 = .ok (.putfield 51, 3) := by decide +kernel
theorem dX5_began_44 : decode cX5_began 44 = .ok (.iload_n 1, 1) := by decide +kernel
theorem dX5_began_45 : decode cX5_began 45 = .ok (.ifCond .ne 10, 3) := by decide +kernel
theorem dX5_began_48 : decode cX5_began 48 = .ok (.aload_n 0, 1) := by decide +kernel
theorem dX5_began_49 : decode cX5_began 49 = .ok (.invokevirtual 162, 3) := by decide +kernel
theorem dX5_began_52 : decode cX5_began 52 = .ok (.goto 7, 3) := by decide +kernel
theorem dX5_began_55 : decode cX5_began 55 = .ok (.aload_n 0, 1) := by decide +kernel
theorem dX5_began_56 : decode cX5_began 56 = .ok (.invokevirtual 165, 3) := by decide +kernel
theorem dX5_began_59 : decode cX5_began 59 = .ok (.ireturn, 1) := by decide +kernel
set_option maxRecDepth 20000 in
theorem ggX5_nights_X5_within : GoodIn wsX5_nights wsX5_within := goodIn_r _ [5] (by decide +kernel) (by decide +kernel)
set_option maxRecDepth 20000 in
theorem gX5_nights_X5_within : GoodIn wsX5_nights (va_wsS RX5 54 yX5_within wsX5_within) := goodIn_app (goodIn_of _ (by decide +kernel)) ggX5_nights_X5_within
set_option maxRecDepth 20000 in
theorem ggX5_nights_X2_isThere : GoodIn wsX5_nights wsX2_isThere := goodIn_r _ [10, 11, 132, 133, 134, 135, 136] (by decide +kernel) (by decide +kernel)
set_option maxRecDepth 20000 in
theorem gX5_nights_X2_isThere : GoodIn wsX5_nights (wsV RX5 111 RX2 yX2_isThere wsX2_isThere) := goodIn_app (goodIn_of _ (by decide +kernel)) ggX5_nights_X2_isThere
set_option maxRecDepth 20000 in
theorem ggX5_nights_X5_nightsTold : GoodIn wsX5_nights wsX5_nightsTold := goodIn_r _ [15, 16, 17, 18, 19, 20, 1, 21, 22, 23, 24, 25, 26, 27, 28, 29, 30, 31, 32, 33, 34, 35, 36, 37, 38, 4, 39, 40, 41, 42, 43, 44, 45, 46, 47, 48, 49, 50, 51, 52, 53, 54, 9, 55, 11, 56, 57, 58, 59, 60, 61, 62, 63, 64, 65, 66, 67, 68, 69, 70, 71, 72, 73, 74, 75, 76, 77, 78, 79, 80, 81, 82, 83, 84, 85, 86, 87, 88, 89, 90, 91, 92, 93, 94, 95, 96, 97, 98, 99, 100, 101, 102, 103, 104, 105, 106, 107, 108, 109, 110, 111, 112, 113, 114, 115, 116, 117, 118, 119, 120, 121, 122, 137, 123, 124, 125, 126, 127, 128, 129, 130, 131, 138, 139, 140, 141, 142, 143, 144, 145, 146, 132, 133, 134, 135, 136] (by decide +kernel) (by decide +kernel)
set_option maxRecDepth 20000 in
theorem gX5_nights_X5_nightsTold : GoodIn wsX5_nights (wsV RX5 168 RX5 yX5_nightsTold wsX5_nightsTold) := goodIn_app (goodIn_of _ (by decide +kernel)) ggX5_nights_X5_nightsTold
theorem dX5_nights_0 : decode cX5_nights 0 = .ok (.iload_n 1, 1) := by decide +kernel
theorem dX5_nights_1 : decode cX5_nights 1 = .ok (.iconst 1, 1) := by decide +kernel
theorem dX5_nights_2 : decode cX5_nights 2 = .ok (.bipush 60, 2) := by decide +kernel
theorem dX5_nights_4 : decode cX5_nights 4 = .ok (.invokestatic 54, 3) := by decide +kernel
theorem dX5_nights_7 : decode cX5_nights 7 = .ok (.ifCond .eq 16, 3) := by decide +kernel
theorem dX5_nights_10 : decode cX5_nights 10 = .ok (.iload_n 2, 1) := by decide +kernel
theorem dX5_nights_11 : decode cX5_nights 11 = .ok (.ifCond .lt 12, 3) := by decide +kernel
theorem dX5_nights_14 : decode cX5_nights 14 = .ok (.iload_n 3, 1) := by decide +kernel
theorem dX5_nights_15 : decode cX5_nights 15 = .ok (.iconst 0, 1) := by decide +kernel
theorem dX5_nights_16 : decode cX5_nights 16 = .ok (.iconst 2, 1) := by decide +kernel
theorem dX5_nights_17 : decode cX5_nights 17 = .ok (.invokestatic 54, 3) := by decide +kernel
theorem dX5_nights_20 : decode cX5_nights 20 = .ok (.ifCond .ne 6, 3) := by decide +kernel
theorem dX5_nights_23 : decode cX5_nights 23 = .ok (.bipush (-102), 2) := by decide +kernel
theorem dX5_nights_25 : decode cX5_nights 25 = .ok (.ireturn, 1) := by decide +kernel
theorem dX5_nights_26 : decode cX5_nights 26 = .ok (.aload_n 0, 1) := by decide +kernel
theorem dX5_nights_27 : decode cX5_nights 27 = .ok (.getfield 19, 3) := by decide +kernel
theorem dX5_nights_30 : decode cX5_nights 30 = .ok (.invokevirtual 111, 3) := by decide +kernel
theorem dX5_nights_33 : decode cX5_nights 33 = .ok (.ifCond .eq 13, 3) := by decide +kernel
theorem dX5_nights_36 : decode cX5_nights 36 = .ok (.aload_n 0, 1) := by decide +kernel
theorem dX5_nights_37 : decode cX5_nights 37 = .ok (.iload_n 1, 1) := by decide +kernel
theorem dX5_nights_38 : decode cX5_nights 38 = .ok (.iload_n 2, 1) := by decide +kernel
theorem dX5_nights_39 : decode cX5_nights 39 = .ok (.iload_n 3, 1) := by decide +kernel
theorem dX5_nights_40 : decode cX5_nights 40 = .ok (.invokevirtual 168, 3) := by decide +kernel
theorem dX5_nights_43 : decode cX5_nights 43 = .ok (.goto 5, 3) := by decide +kernel
theorem dX5_nights_46 : decode cX5_nights 46 = .ok (.bipush (-103), 2) := by decide +kernel
theorem dX5_nights_48 : decode cX5_nights 48 = .ok (.ireturn, 1) := by decide +kernel
set_option maxRecDepth 20000 in
theorem ggX5_image_X2_isThere : GoodIn wsX5_image wsX2_isThere := goodIn_r _ [9, 10, 43, 44, 45, 46, 47] (by decide +kernel) (by decide +kernel)
set_option maxRecDepth 20000 in
theorem gX5_image_X2_isThere : GoodIn wsX5_image (wsV RX5 111 RX2 yX2_isThere wsX2_isThere) := goodIn_app (goodIn_of _ (by decide +kernel)) ggX5_image_X2_isThere
set_option maxRecDepth 20000 in
theorem ggX5_image_X3_takeFrom : GoodIn wsX5_image wsX3_takeFrom := goodIn_r _ [15, 16, 17, 18, 19, 20, 21, 22, 23, 24, 25, 26, 27, 28, 38, 39, 40, 41, 42, 48, 49, 50, 51] (by decide +kernel) (by decide +kernel)
set_option maxRecDepth 20000 in
theorem gX5_image_X3_takeFrom : GoodIn wsX5_image (wsV RX5 172 RX3 yX3_takeFrom wsX3_takeFrom) := goodIn_app (goodIn_of _ (by decide +kernel)) ggX5_image_X3_takeFrom
theorem dX5_image_0 : decode cX5_image 0 = .ok (.aload_n 0, 1) := by decide +kernel
theorem dX5_image_1 : decode cX5_image 1 = .ok (.getfield 19, 3) := by decide +kernel
theorem dX5_image_4 : decode cX5_image 4 = .ok (.invokevirtual 111, 3) := by decide +kernel
theorem dX5_image_7 : decode cX5_image 7 = .ok (.ifCond .ne 6, 3) := by decide +kernel
theorem dX5_image_10 : decode cX5_image 10 = .ok (.bipush (-103), 2) := by decide +kernel
theorem dX5_image_12 : decode cX5_image 12 = .ok (.ireturn, 1) := by decide +kernel
theorem dX5_image_13 : decode cX5_image 13 = .ok (.aload_n 0, 1) := by decide +kernel
theorem dX5_image_14 : decode cX5_image 14 = .ok (.getfield 30, 3) := by decide +kernel
theorem dX5_image_17 : decode cX5_image 17 = .ok (.aload_n 0, 1) := by decide +kernel
theorem dX5_image_18 : decode cX5_image 18 = .ok (.getfield 26, 3) := by decide +kernel
theorem dX5_image_21 : decode cX5_image 21 = .ok (.invokevirtual 172, 3) := by decide +kernel
theorem dX5_image_24 : decode cX5_image 24 = .ok (.aload_n 0, 1) := by decide +kernel
theorem dX5_image_25 : decode cX5_image 25 = .ok (.iconst 1, 1) := by decide +kernel
