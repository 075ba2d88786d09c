theorem dX6_init_41 : decode cX6_init 41 = .ok (.putfield 22, 3) := by decide +kernel
theorem dX6_init_44 : decode cX6_init 44 = .ok (.aload_n 0, 1) := by decide +kernel
theorem dX6_init_45 : decode cX6_init 45 = .ok (.bipush 8, 2) := by decide +kernel
theorem dX6_init_47 : decode cX6_init 47 = .ok (.newarray .int, 2) := by decide +kernel
theorem dX6_init_49 : decode cX6_init 49 = .ok (.putfield 25, 3) := by decide +kernel
theorem dX6_init_52 : decode cX6_init 52 = .ok (.aload_n 0, 1) := by decide +kernel
theorem dX6_init_53 : decode cX6_init 53 = .ok (.bipush 8, 2) := by decide +kernel
theorem dX6_init_55 : decode cX6_init 55 = .ok (.newarray .int, 2) := by decide +kernel
theorem dX6_init_57 : decode cX6_init 57 = .ok (.putfield 28, 3) := by decide +kernel
theorem dX6_init_60 : decode cX6_init 60 = .ok (.aload_n 0, 1) := by decide +kernel
theorem dX6_init_61 : decode cX6_init 61 = .ok (.bipush 8, 2) := by decide +kernel
theorem dX6_init_63 : decode cX6_init 63 = .ok (.newarray .int, 2) := by decide +kernel
theorem dX6_init_65 : decode cX6_init 65 = .ok (.putfield 31, 3) := by decide +kernel
theorem dX6_init_68 : decode cX6_init 68 = .ok (.aload_n 0, 1) := by decide +kernel
theorem dX6_init_69 : decode cX6_init 69 = .ok (.bipush 8, 2) := by decide +kernel
theorem dX6_init_71 : decode cX6_init 71 = .ok (.newarray .int, 2) := by decide +kernel
theorem dX6_init_73 : decode cX6_init 73 = .ok (.putfield 34, 3) := by decide +kernel
theorem dX6_init_76 : decode cX6_init 76 = .ok (.aload_n 0, 1) := by decide +kernel
theorem dX6_init_77 : decode cX6_init 77 = .ok (.bipush 8, 2) := by decide +kernel
theorem dX6_init_79 : decode cX6_init 79 = .ok (.newarray .int, 2) := by decide +kernel
theorem dX6_init_81 : decode cX6_init 81 = .ok (.putfield 37, 3) := by decide +kernel
theorem dX6_init_84 : decode cX6_init 84 = .ok (.aload_n 0, 1) := by decide +kernel
theorem dX6_init_85 : decode cX6_init 85 = .ok (.bipush 8, 2) := by decide +kernel
theorem dX6_init_87 : decode cX6_init 87 = .ok (.newarray .int, 2) := by decide +kernel
theorem dX6_init_89 : decode cX6_init 89 = .ok (.putfield 40, 3) := by decide +kernel
theorem dX6_init_92 : decode cX6_init 92 = .ok (.aload_n 0, 1) := by decide +kernel
theorem dX6_init_93 : decode cX6_init 93 = .ok (.bipush 8, 2) := by decide +kernel
theorem dX6_init_95 : decode cX6_init 95 = .ok (.newarray .int, 2) := by decide +kernel
theorem dX6_init_97 : decode cX6_init 97 = .ok (.putfield 43, 3) := by decide +kernel
theorem dX6_init_100 : decode cX6_init 100 = .ok (.aload_n 0, 1) := by decide +kernel
theorem dX6_init_101 : decode cX6_init 101 = .ok (.iconst (-1), 1) := by decide +kernel
theorem dX6_init_102 : decode cX6_init 102 = .ok (.putfield 46, 3) := by decide +kernel
theorem dX6_init_105 : decode cX6_init 105 = .ok (.return_, 1) := by decide +kernel
theorem dX6_in_0 : decode cX6_in 0 = .ok (.lload_n 0, 1) := by decide +kernel
theorem dX6_in_1 : decode cX6_in 1 = .ok (.lload_n 2, 1) := by decide +kernel
theorem dX6_in_2 : decode cX6_in 2 = .ok (.lcmp, 1) := by decide +kernel
theorem dX6_in_3 : decode cX6_in 3 = .ok (.ifCond .lt 14, 3) := by decide +kernel
theorem dX6_in_6 : decode cX6_in 6 = .ok (.lload_n 0, 1) := by decide +kernel
theorem dX6_in_7 : decode cX6_in 7 = .ok (.lload 4, 2) := by decide +kernel
theorem dX6_in_9 : decode cX6_in 9 = .ok (.lcmp, 1) := by decide +kernel
theorem dX6_in_10 : decode cX6_in 10 = .ok (.ifCond .gt 7, 3) := by decide +kernel
theorem dX6_in_13 : decode cX6_in 13 = .ok (.iconst 1, 1) := by decide +kernel
theorem dX6_in_14 : decode cX6_in 14 = .ok (.goto 4, 3) := by decide +kernel
theorem dX6_in_17 : decode cX6_in 17 = .ok (.iconst 0, 1) := by decide +kernel
theorem dX6_in_18 : decode cX6_in 18 = .ok (.ireturn, 1) := by decide +kernel
set_option maxRecDepth 20000 in
theorem ggX6_letter_X6_in : GoodIn wsX6_letter wsX6_in := goodIn_r _ [7] (by decide +kernel) (by decide +kernel)
set_option maxRecDepth 20000 in
theorem gX6_letter_X6_in : GoodIn wsX6_letter (va_wsS RX6 52 yX6_in wsX6_in) := goodIn_app (goodIn_of _ (by decide +kernel)) ggX6_letter_X6_in
theorem dX6_letter_0 : decode cX6_letter 0 = .ok (.iload_n 1, 1) := by decide +kernel
theorem dX6_letter_1 : decode cX6_letter 1 = .ok (.i2l, 1) := by decide +kernel
theorem dX6_letter_2 : decode cX6_letter 2 = .ok (.lconst 1, 1) := by decide +kernel
theorem dX6_letter_3 : decode cX6_letter 3 = .ok (.ldc2_w 50, 3) := by decide +kernel
theorem dX6_letter_6 : decode cX6_letter 6 = .ok (.invokestatic 52, 3) := by decide +kernel
theorem dX6_letter_9 : decode cX6_letter 9 = .ok (.ifCond .ne 6, 3) := by decide +kernel
theorem dX6_letter_12 : decode cX6_letter 12 = .ok (.bipush (-102), 2) := by decide +kernel
theorem dX6_letter_14 : decode cX6_letter 14 = .ok (.ireturn, 1) := by decide +kernel
theorem dX6_letter_15 : decode cX6_letter 15 = .ok (.aload_n 0, 1) := by decide +kernel
theorem dX6_letter_16 : decode cX6_letter 16 = .ok (.getfield 56, 3) := by decide +kernel
theorem dX6_letter_19 : decode cX6_letter 19 = .ok (.bipush 36, 2) := by decide +kernel
theorem dX6_letter_21 : decode cX6_letter 21 = .ok (.if_icmp .ne 6, 3) := by decide +kernel
theorem dX6_letter_24 : decode cX6_letter 24 = .ok (.bipush (-104), 2) := by decide +kernel
theorem dX6_letter_26 : decode cX6_letter 26 = .ok (.ireturn, 1) := by decide +kernel
theorem dX6_letter_27 : decode cX6_letter 27 = .ok (.aload_n 0, 1) := by decide +kernel
theorem dX6_letter_28 : decode cX6_letter 28 = .ok (.getfield 7, 3) := by decide +kernel
theorem dX6_letter_31 : decode cX6_letter 31 = .ok (.aload_n 0, 1) := by decide +kernel
theorem dX6_letter_32 : decode cX6_letter 32 = .ok (.getfield 56, 3) := by decide +kernel
theorem dX6_letter_35 : decode cX6_letter 35 = .ok (.iload_n 1, 1) := by decide +kernel
theorem dX6_letter_36 : decode cX6_letter 36 = .ok (.iastore, 1) := by decide +kernel
theorem dX6_letter_37 : decode cX6_letter 37 = .ok (.aload_n 0, 1) := by decide +kernel
theorem dX6_letter_38 : decode cX6_letter 38 = .ok (.dup, 1) := by decide +kernel
theorem dX6_letter_39 : decode cX6_letter 39 = .ok (.getfield 56, 3) := by decide +kernel
theorem dX6_letter_42 : decode cX6_letter 42 = .ok (.iconst 1, 1) := by decide +kernel
theorem dX6_letter_43 : decode cX6_letter 43 = .ok (.iadd, 1) := by decide +kernel
theorem dX6_letter_44 : decode cX6_letter 44 = .ok (.putfield 56, 3) := by decide +kernel
theorem dX6_letter_47 : decode cX6_letter 47 = .ok (.aload_n 0, 1) := by decide +kernel
theorem dX6_letter_48 : decode cX6_letter 48 = .ok (.getfield 56, 3) := by decide +kernel
theorem dX6_letter_51 : decode cX6_letter 51 = .ok (.ireturn, 1) := by decide +kernel
theorem dX6_blank_0 : decode cX6_blank 0 = .ok (.aload_n 0, 1) := by decide +kernel
theorem dX6_blank_1 : decode cX6_blank 1 = .ok (.getfield 56, 3) := by decide +kernel
theorem dX6_blank_4 : decode cX6_blank 4 = .ok (.istore_n 1, 1) := by decide +kernel
theorem dX6_blank_5 : decode cX6_blank 5 = .ok (.aload_n 0, 1) := by decide +kernel
theorem dX6_blank_6 : decode cX6_blank 6 = .ok (.iconst 0, 1) := by decide +kernel
theorem dX6_blank_7 : decode cX6_blank 7 = .ok (.putfield 56, 3) := by decide +kernel
theorem dX6_blank_10 : decode cX6_blank 10 = .ok (.iload_n 1, 1) := by decide +kernel
theorem dX6_blank_11 : decode cX6_blank 11 = .ok (.ireturn, 1) := by decide +kernel
theorem dX6_kindBy_0 : decode cX6_kindBy 0 = .ok (.iload_n 0, 1) := by decide +kernel
theorem dX6_kindBy_1 : decode cX6_kindBy 1 = .ok (.bipush 99, 2) := by decide +kernel
theorem dX6_kindBy_3 : decode cX6_kindBy 3 = .ok (.if_icmp .ne 7, 3) := by decide +kernel
theorem dX6_kindBy_6 : decode cX6_kindBy 6 = .ok (.iconst 0, 1) := by decide +kernel
theorem dX6_kindBy_7 : decode cX6_kindBy 7 = .ok (.goto 44, 3) := by decide +kernel
theorem dX6_kindBy_10 : decode cX6_kindBy 10 = .ok (.iload_n 0, 1) := by decide +kernel
theorem dX6_kindBy_11 : decode cX6_kindBy 11 = .ok (.bipush 115, 2) := by decide +kernel
theorem dX6_kindBy_13 : decode cX6_kindBy 13 = .ok (.if_icmp .ne 7, 3) := by decide +kernel
theorem dX6_kindBy_16 : decode cX6_kindBy 16 = .ok (.iconst 1, 1) := by decide +kernel
theorem dX6_kindBy_17 : decode cX6_kindBy 17 = .ok (.goto 34, 3) := by decide +kernel
theorem dX6_kindBy_20 : decode cX6_kindBy 20 = .ok (.iload_n 0, 1) := by decide +kernel
theorem dX6_kindBy_21 : decode cX6_kindBy 21 = .ok (.bipush 102, 2) := by decide +kernel
theorem dX6_kindBy_23 : decode cX6_kindBy 23 = .ok (.if_icmp .ne 7, 3) := by decide +kernel
theorem dX6_kindBy_26 : decode cX6_kindBy 26 = .ok (.iconst 2, 1) := by decide +kernel
theorem dX6_kindBy_27 : decode cX6_kindBy 27 = .ok (.goto 24, 3) := by decide +kernel
theorem dX6_kindBy_30 : decode cX6_kindBy 30 = .ok (.iload_n 0, 1) := by decide +kernel
theorem dX6_kindBy_31 : decode cX6_kindBy 31 = .ok (.bipush 101, 2) := by decide +kernel
theorem dX6_kindBy_33 : decode cX6_kindBy 33 = .ok (.if_icmp .ne 7, 3) := by decide +kernel
theorem dX6_kindBy_36 : decode cX6_kindBy 36 = .ok (.iconst 3, 1) := by decide +kernel
theorem dX6_kindBy_37 : decode cX6_kindBy 37 = .ok (.goto 14, 3) := by decide +kernel
theorem dX6_kindBy_40 : decode cX6_kindBy 40 = .ok (.iload_n 0, 1) := by decide +kernel
theorem dX6_kindBy_41 : decode cX6_kindBy 41 = .ok (.bipush 100, 2) := by decide +kernel
theorem dX6_kindBy_43 : decode cX6_kindBy 43 = .ok (.if_icmp .ne 7, 3) := by decide +kernel
theorem dX6_kindBy_46 : decode cX6_kindBy 46 = .ok (.iconst 4, 1) := by decide +kernel
theorem dX6_kindBy_47 : decode cX6_kindBy 47 = .ok (.goto 4, 3) := by decide +kernel
theorem dX6_kindBy_50 : decode cX6_kindBy 50 = .ok (.iconst (-1), 1) := by decide +kernel
theorem dX6_kindBy_51 : decode cX6_kindBy 51 = .ok (.ireturn, 1) := by decide +kernel
set_option maxRecDepth 20000 in
theorem ggX6_go_X6_kindBy : GoodIn wsX6_go wsX6_kindBy := goodIn_r _ [10] (by decide +kernel) (by decide +kernel)
set_option maxRecDepth 20000 in
theorem gX6_go_X6_kindBy : GoodIn wsX6_go (va_wsS RX6 65 yX6_kindBy wsX6_kindBy) := goodIn_app (goodIn_of _ (by decide +kernel)) ggX6_go_X6_kindBy
set_option maxRecDepth 20000 in
theorem ggX6_go_X6_in : GoodIn wsX6_go wsX6_in := goodIn_r _ [13] (by decide +kernel) (by decide +kernel)
set_option maxRecDepth 20000 in
theorem gX6_go_X6_in : GoodIn wsX6_go (va_wsS RX6 52 yX6_in wsX6_in) := goodIn_app (goodIn_of _ (by decide +kernel)) ggX6_go_X6_in
theorem dX6_go_0 : decode cX6_go 0 = .ok (.iload_n 1, 1) := by decide +kernel
theorem dX6_go_1 : decode cX6_go 1 = .ok (.bipush 48, 2) := by decide +kernel
theorem dX6_go_3 : decode cX6_go 3 = .ok (.isub, 1) := by decide +kernel
theorem dX6_go_4 : decode cX6_go 4 = .ok (.istore_n 2, 1) := by decide +kernel
theorem dX6_go_5 : decode cX6_go 5 = .ok (.aload_n 0, 1) := by decide +kernel
theorem dX6_go_6 : decode cX6_go 6 = .ok (.getfield 59, 3) := by decide +kernel
theorem dX6_go_9 : decode cX6_go 9 = .ok (.istore_n 3, 1) := by decide +kernel
theorem dX6_go_10 : decode cX6_go 10 = .ok (.aload_n 0, 1) := by decide +kernel
theorem dX6_go_11 : decode cX6_go 11 = .ok (.dup, 1) := by decide +kernel
theorem dX6_go_12 : decode cX6_go 12 = .ok (.getfield 59, 3) := by decide +kernel
theorem dX6_go_15 : decode cX6_go 15 = .ok (.iconst 1, 1) := by decide +kernel
theorem dX6_go_16 : decode cX6_go 16 = .ok (.iadd, 1) := by decide +kernel
theorem dX6_go_17 : decode cX6_go 17 = .ok (.putfield 59, 3) := by decide +kernel
theorem dX6_go_20 : decode cX6_go 20 = .ok (.iload_n 3, 1) := by decide +kernel
theorem dX6_go_21 : decode cX6_go 21 = .ok (.ifCond .ne 32, 3) := by decide +kernel
theorem dX6_go_24 : decode cX6_go 24 = .ok (.aload_n 0, 1) := by decide +kernel
theorem dX6_go_25 : decode cX6_go 25 = .ok (.getfield 13, 3) := by decide +kernel
theorem dX6_go_28 : decode cX6_go 28 = .ok (.iconst 3, 1) := by decide +kernel
theorem dX6_go_29 : decode cX6_go 29 = .ok (.aload_n 0, 1) := by decide +kernel
theorem dX6_go_30 : decode cX6_go 30 = .ok (.getfield 62, 3) := by decide +kernel
theorem dX6_go_33 : decode cX6_go 33 = .ok (.imul, 1) := by decide +kernel
theorem dX6_go_34 : decode cX6_go 34 = .ok (.iload_n 1, 1) := by decide +kernel
theorem dX6_go_35 : decode cX6_go 35 = .ok (.invokestatic 65, 3) := by decide +kernel
theorem dX6_go_38 : decode cX6_go 38 = .ok (.iastore, 1) := by decide +kernel
theorem dX6_go_39 : decode cX6_go 39 = .ok (.iload_n 1, 1) := by decide +kernel
theorem dX6_go_40 : decode cX6_go 40 = .ok (.invokestatic 65, 3) := by decide +kernel
theorem dX6_go_43 : decode cX6_go 43 = .ok (.iconst (-1), 1) := by decide +kernel
theorem dX6_go_44 : decode cX6_go 44 = .ok (.if_icmp .eq 7, 3) := by decide +kernel
theorem dX6_go_47 : decode cX6_go 47 = .ok (.iconst 1, 1) := by decide +kernel
theorem dX6_go_48 : decode cX6_go 48 = .ok (.goto 4, 3) := by decide +kernel
theorem dX6_go_51 : decode cX6_go 51 = .ok (.iconst 0, 1) := by decide +kernel
theorem dX6_go_52 : decode cX6_go 52 = .ok (.ireturn, 1) := by decide +kernel
theorem dX6_go_53 : decode cX6_go 53 = .ok (.iload_n 3, 1) := by decide +kernel
theorem dX6_go_54 : decode cX6_go 54 = .ok (.iconst 1, 1) := by decide +kernel
theorem dX6_go_55 : decode cX6_go 55 = .ok (.if_icmp .ne 27, 3) := by decide +kernel
theorem dX6_go_58 : decode cX6_go 58 = .ok (.aload_n 0, 1) := by decide +kernel
theorem dX6_go_59 : decode cX6_go 59 = .ok (.getfield 13, 3) := by decide +kernel
theorem dX6_go_62 : decode cX6_go 62 = .ok (.iconst 3, 1) := by decide +kernel
theorem dX6_go_63 : decode cX6_go 63 = .ok (.aload_n 0, 1) := by decide +kernel
theorem dX6_go_64 : decode cX6_go 64 = .ok (.getfield 62, 3) := by decide +kernel
theorem dX6_go_67 : decode cX6_go 67 = .ok (.imul, 1) := by decide +kernel
theorem dX6_go_68 : decode cX6_go 68 = .ok (.iconst 1, 1) := by decide +kernel
theorem dX6_go_69 : decode cX6_go 69 = .ok (.iadd, 1) := by decide +kernel
theorem dX6_go_70 : decode cX6_go 70 = .ok (.iload_n 2, 1) := by decide +kernel
theorem dX6_go_71 : decode cX6_go 71 = .ok (.iastore, 1) := by decide +kernel
theorem dX6_go_72 : decode cX6_go 72 = .ok (.iload_n 2, 1) := by decide +kernel
theorem dX6_go_73 : decode cX6_go 73 = .ok (.i2l, 1) := by decide +kernel
theorem dX6_go_74 : decode cX6_go 74 = .ok (.lconst 1, 1) := by decide +kernel
theorem dX6_go_75 : decode cX6_go 75 = .ok (.ldc2_w 69, 3) := by decide +kernel
theorem dX6_go_78 : decode cX6_go 78 = .ok (.invokestatic 52, 3) := by decide +kernel
theorem dX6_go_81 : decode cX6_go 81 = .ok (.ireturn, 1) := by decide +kernel
theorem dX6_go_82 : decode cX6_go 82 = .ok (.iload_n 3, 1) := by decide +kernel
theorem dX6_go_83 : decode cX6_go 83 = .ok (.iconst 2, 1) := by decide +kernel
theorem dX6_go_84 : decode cX6_go 84 = .ok (.if_icmp .ne 37, 3) := by decide +kernel
theorem dX6_go_87 : decode cX6_go 87 = .ok (.aload_n 0, 1) := by decide +kernel
theorem dX6_go_88 : decode cX6_go 88 = .ok (.getfield 13, 3) := by decide +kernel
theorem dX6_go_91 : decode cX6_go 91 = .ok (.iconst 3, 1) := by decide +kernel
theorem dX6_go_92 : decode cX6_go 92 = .ok (.aload_n 0, 1) := by decide +kernel
theorem dX6_go_93 : decode cX6_go 93 = .ok (.getfield 62, 3) := by decide +kernel
theorem dX6_go_96 : decode cX6_go 96 = .ok (.imul, 1) := by decide +kernel
theorem dX6_go_97 : decode cX6_go 97 = .ok (.iconst 2, 1) := by decide +kernel
theorem dX6_go_98 : decode cX6_go 98 = .ok (.iadd, 1) := by decide +kernel
theorem dX6_go_99 : decode cX6_go 99 = .ok (.iload_n 2, 1) := by decide +kernel
theorem dX6_go_100 : decode cX6_go 100 = .ok (.iastore, 1) := by decide +kernel
theorem dX6_go_101 : decode cX6_go 101 = .ok (.aload_n 0, 1) := by decide +kernel
theorem dX6_go_102 : decode cX6_go 102 = .ok (.dup, 1) := by decide +kernel
theorem dX6_go_103 : decode cX6_go 103 = .ok (.getfield 62, 3) := by decide +kernel
theorem dX6_go_106 : decode cX6_go 106 = .ok (.iconst 1, 1) := by decide +kernel
theorem dX6_go_107 : decode cX6_go 107 = .ok (.iadd, 1) := by decide +kernel
theorem dX6_go_108 : decode cX6_go 108 = .ok (.putfield 62, 3) := by decide +kernel
theorem dX6_go_111 : decode cX6_go 111 = .ok (.iload_n 2, 1) := by decide +kernel
theorem dX6_go_112 : decode cX6_go 112 = .ok (.i2l, 1) := by decide +kernel
theorem dX6_go_113 : decode cX6_go 113 = .ok (.lconst 0, 1) := by decide +kernel
theorem dX6_go_114 : decode cX6_go 114 = .ok (.ldc2_w 69, 3) := by decide +kernel
theorem dX6_go_117 : decode cX6_go 117 = .ok (.invokestatic 52, 3) := by decide +kernel
theorem dX6_go_120 : decode cX6_go 120 = .ok (.ireturn, 1) := by decide +kernel
theorem dX6_go_121 : decode cX6_go 121 = .ok (.iload_n 3, 1) := by decide +kernel
theorem dX6_go_122 : decode cX6_go 122 = .ok (.iconst 3, 1) := by decide +kernel
theorem dX6_go_123 : decode cX6_go 123 = .ok (.if_icmp .ne 61, 3) := by decide +kernel
theorem dX6_go_126 : decode cX6_go 126 = .ok (.aload_n 0, 1) := by decide +kernel
theorem dX6_go_127 : decode cX6_go 127 = .ok (.iload_n 1, 1) := by decide +kernel
theorem dX6_go_128 : decode cX6_go 128 = .ok (.bipush 44, 2) := by decide +kernel
theorem dX6_go_130 : decode cX6_go 130 = .ok (.if_icmp .ne 7, 3) := by decide +kernel
theorem dX6_go_133 : decode cX6_go 133 = .ok (.iconst 0, 1) := by decide +kernel
theorem dX6_go_134 : decode cX6_go 134 = .ok (.goto 4, 3) := by decide +kernel
theorem dX6_go_137 : decode cX6_go 137 = .ok (.iconst 4, 1) := by decide +kernel
theorem dX6_go_138 : decode cX6_go 138 = .ok (.putfield 59, 3) := by decide +kernel
theorem dX6_go_141 : decode cX6_go 141 = .ok (.iload_n 1, 1) := by decide +kernel
theorem dX6_go_142 : decode cX6_go 142 = .ok (.bipush 44, 2) := by decide +kernel
theorem dX6_go_144 : decode cX6_go 144 = .ok (.if_icmp .ne 20, 3) := by decide +kernel
theorem dX6_go_147 : decode cX6_go 147 = .ok (.aload_n 0, 1) := by decide +kernel
theorem dX6_go_148 : decode cX6_go 148 = .ok (.getfield 62, 3) := by decide +kernel
theorem dX6_go_151 : decode cX6_go 151 = .ok (.bipush 8, 2) := by decide +kernel
theorem dX6_go_153 : decode cX6_go 153 = .ok (.if_icmp .ge 7, 3) := by decide +kernel
theorem dX6_go_156 : decode cX6_go 156 = .ok (.iconst 1, 1) := by decide +kernel
theorem dX6_go_157 : decode cX6_go 157 = .ok (.goto 26, 3) := by decide +kernel
theorem dX6_go_160 : decode cX6_go 160 = .ok (.iconst 0, 1) := by decide +kernel
theorem dX6_go_161 : decode cX6_go 161 = .ok (.goto 22, 3) := by decide +kernel
theorem dX6_go_164 : decode cX6_go 164 = .ok (.iload_n 1, 1) := by decide +kernel
theorem dX6_go_165 : decode cX6_go 165 = .ok (.bipush 59, 2) := by decide +kernel
theorem dX6_go_167 : decode cX6_go 167 = .ok (.if_icmp .ne 15, 3) := by decide +kernel
theorem dX6_go_170 : decode cX6_go 170 = .ok (.aload_n 0, 1) := by decide +kernel
theorem dX6_go_171 : decode cX6_go 171 = .ok (.getfield 62, 3) := by decide +kernel
theorem dX6_go_174 : decode cX6_go 174 = .ok (.iconst 2, 1) := by decide +kernel
theorem dX6_go_175 : decode cX6_go 175 = .ok (.if_icmp .le 7, 3) := by decide +kernel
theorem dX6_go_178 : decode cX6_go 178 = .ok (.iconst 1, 1) := by decide +kernel
theorem dX6_go_179 : decode cX6_go 179 = .ok (.goto 4, 3) := by decide +kernel
theorem dX6_go_182 : decode cX6_go 182 = .ok (.iconst 0, 1) := by decide +kernel
theorem dX6_go_183 : decode cX6_go 183 = .ok (.ireturn, 1) := by decide +kernel
theorem dX6_go_184 : decode cX6_go 184 = .ok (.aload_n 0, 1) := by decide +kernel
theorem dX6_go_185 : decode cX6_go 185 = .ok (.iload_n 2, 1) := by decide +kernel
theorem dX6_go_186 : decode cX6_go 186 = .ok (.putfield 71, 3) := by decide +kernel
theorem dX6_go_189 : decode cX6_go 189 = .ok (.iload_n 3, 1) := by decide +kernel
theorem dX6_go_190 : decode cX6_go 190 = .ok (.iconst 4, 1) := by decide +kernel
theorem dX6_go_191 : decode cX6_go 191 = .ok (.if_icmp .ne 19, 3) := by decide +kernel
theorem dX6_go_194 : decode cX6_go 194 = .ok (.iload_n 2, 1) := by decide +kernel
theorem dX6_go_195 : decode cX6_go 195 = .ok (.i2l, 1) := by decide +kernel
theorem dX6_go_196 : decode cX6_go 196 = .ok (.lconst 0, 1) := by decide +kernel
theorem dX6_go_197 : decode cX6_go 197 = .ok (.ldc2_w 74, 3) := by decide +kernel
theorem dX6_go_200 : decode cX6_go 200 = .ok (.invokestatic 52, 3) := by decide +kernel
theorem dX6_go_203 : decode cX6_go 203 = .ok (.ifCond .eq 7, 3) := by decide +kernel
theorem dX6_go_206 : decode cX6_go 206 = .ok (.iconst 1, 1) := by decide +kernel
theorem dX6_go_207 : decode cX6_go 207 = .ok (.goto 4, 3) := by decide +kernel
theorem dX6_go_210 : decode cX6_go 210 = .ok (.iconst 0, 1) := by decide +kernel
theorem dX6_go_211 : decode cX6_go 211 = .ok (.ireturn, 1) := by decide +kernel
set_option maxRecDepth 20000 in
theorem ggX6_faultOf_X6_go : GoodIn wsX6_faultOf wsX6_go := goodIn_r _ [9, 2, 10, 1, 11, 12, 13, 14, 15, 8, 16, 17, 18, 19, 20, 21, 22, 23, 24, 25, 26, 27, 28, 29, 30, 31, 32, 33, 34, 35, 36, 37, 38, 39, 40, 41, 42, 43, 44, 45, 46, 47, 48, 49, 50, 51, 52] (by decide +kernel) (by decide +kernel)
set_option maxRecDepth 20000 in
theorem gX6_faultOf_X6_go : GoodIn wsX6_faultOf (wsV RX6 76 RX6 yX6_go wsX6_go) := goodIn_app (goodIn_of _ (by decide +kernel)) ggX6_faultOf_X6_go
theorem dX6_faultOf_0 : decode cX6_faultOf 0 = .ok (.aload_n 0, 1) := by decide +kernel
theorem dX6_faultOf_1 : decode cX6_faultOf 1 = .ok (.iconst 0, 1) := by decide +kernel
theorem dX6_faultOf_2 : decode cX6_faultOf 2 = .ok (.putfield 62, 3) := by decide +kernel
theorem dX6_faultOf_5 : decode cX6_faultOf 5 = .ok (.aload_n 0, 1) := by decide +kernel
theorem dX6_faultOf_6 : decode cX6_faultOf 6 = .ok (.iconst 0, 1) := by decide +kernel
theorem dX6_faultOf_7 : decode cX6_faultOf 7 = .ok (.putfield 59, 3) := by decide +kernel
theorem dX6_faultOf_10 : decode cX6_faultOf 10 = .ok (.iconst 0, 1) := by decide +kernel
theorem dX6_faultOf_11 : decode cX6_faultOf 11 = .ok (.istore_n 1, 1) := by decide +kernel
theorem dX6_faultOf_12 : decode cX6_faultOf 12 = .ok (.iload_n 1, 1) := by decide +kernel
theorem dX6_faultOf_13 : decode cX6_faultOf 13 = .ok (.aload_n 0, 1) := by decide +kernel
theorem dX6_faultOf_14 : decode cX6_faultOf 14 = .ok (.getfield 56, 3) := by decide +kernel
theorem dX6_faultOf_17 : decode cX6_faultOf 17 = .ok (.if_icmp .ge 22, 3) := by decide +kernel
theorem dX6_faultOf_20 : decode cX6_faultOf 20 = .ok (.aload_n 0, 1) := by decide +kernel
theorem dX6_faultOf_21 : decode cX6_faultOf 21 = .ok (.aload_n 0, 1) := by decide +kernel
theorem dX6_faultOf_22 : decode cX6_faultOf 22 = .ok (.getfield 7, 3) := by decide +kernel
theorem dX6_faultOf_25 : decode cX6_faultOf 25 = .ok (.iload_n 1, 1) := by decide +kernel
theorem dX6_faultOf_26 : decode cX6_faultOf 26 = .ok (.iaload, 1) := by decide +kernel
theorem dX6_faultOf_27 : decode cX6_faultOf 27 = .ok (.invokevirtual 76, 3) := by decide +kernel
theorem dX6_faultOf_30 : decode cX6_faultOf 30 = .ok (.ifCond .eq 9, 3) := by decide +kernel
theorem dX6_faultOf_33 : decode cX6_faultOf 33 = .ok (.iinc 1 1, 3) := by decide +kernel
theorem dX6_faultOf_36 : decode cX6_faultOf 36 = .ok (.goto (-24), 3) := by decide +kernel
theorem dX6_faultOf_39 : decode cX6_faultOf 39 = .ok (.iload_n 1, 1) := by decide +kernel
theorem dX6_faultOf_40 : decode cX6_faultOf 40 = .ok (.ireturn, 1) := by decide +kernel
set_option maxRecDepth 20000 in
theorem ggX6_fault_X6_faultOf : GoodIn wsX6_fault wsX6_faultOf := goodIn_r _ [5, 6, 7, 8, 9, 10, 11, 12, 4, 13, 14, 15, 16, 17, 18, 19, 20, 21, 22, 23, 24, 25, 26, 27, 28, 29, 30, 31, 32, 33, 34, 35, 36, 37, 38, 39, 40, 41, 42, 43, 44, 45, 46, 47, 48, 49, 50, 51, 52, 53, 54, 55, 56] (by decide +kernel) (by decide +kernel)
set_option maxRecDepth 20000 in
theorem gX6_fault_X6_faultOf : GoodIn wsX6_fault (wsV RX6 80 RX6 yX6_faultOf wsX6_faultOf) := goodIn_app (goodIn_of _ (by decide +kernel)) ggX6_fault_X6_faultOf
theorem dX6_fault_0 : decode cX6_fault 0 = .ok (.aload_n 0, 1) := by decide +kernel
theorem dX6_fault_1 : decode cX6_fault 1 = .ok (.invokevirtual 80, 3) := by decide +kernel
theorem dX6_fault_4 : decode cX6_fault 4 = .ok (.ireturn, 1) := by decide +kernel
set_option maxRecDepth 20000 in
theorem ggX6_hall_X6_faultOf : GoodIn wsX6_hall wsX6_faultOf := goodIn_r _ [20, 7, 2, 1, 21, 22, 23, 24, 19, 25, 4, 26, 9, 27, 28, 29, 30, 31, 32, 33, 34, 35, 36, 37, 38, 39, 40, 41, 42, 43, 44, 45, 46, 47, 48, 49, 50, 51, 52, 53, 54, 55, 56, 57, 58, 59, 60, 61, 62, 63, 64, 65, 66] (by decide +kernel) (by decide +kernel)
set_option maxRecDepth 20000 in
theorem gX6_hall_X6_faultOf : GoodIn wsX6_hall (wsV RX6 80 RX6 yX6_faultOf wsX6_faultOf) := goodIn_app (goodIn_of _ (by decide +kernel)) ggX6_hall_X6_faultOf
theorem dX6_hall_0 : decode cX6_hall 0 = .ok (.aload_n 0, 1) := by decide +kernel
theorem dX6_hall_1 : decode cX6_hall 1 = .ok (.invokevirtual 80, 3) := by decide +kernel
theorem dX6_hall_4 : decode cX6_hall 4 = .ok (.aload_n 0, 1) := by decide +kernel
theorem dX6_hall_5 : decode cX6_hall 5 = .ok (.getfield 56, 3) := by decide +kernel
theorem dX6_hall_8 : decode cX6_hall 8 = .ok (.if_icmp .lt 11, 3) := by decide +kernel
theorem dX6_hall_11 : decode cX6_hall 11 = .ok (.aload_n 0, 1) := by decide +kernel
theorem dX6_hall_12 : decode cX6_hall 12 = .ok (.getfield 59, 3) := by decide +kernel
theorem dX6_hall_15 : decode cX6_hall 15 = .ok (.iconst 5, 1) := by decide +kernel
theorem dX6_hall_16 : decode cX6_hall 16 = .ok (.if_icmp .eq 6, 3) := by decide +kernel
theorem dX6_hall_19 : decode cX6_hall 19 = .ok (.bipush (-103), 2) := by decide +kernel
theorem dX6_hall_21 : decode cX6_hall 21 = .ok (.ireturn, 1) := by decide +kernel
theorem dX6_hall_22 : decode cX6_hall 22 = .ok (.iconst 0, 1) := by decide +kernel
theorem dX6_hall_23 : decode cX6_hall 23 = .ok (.istore_n 1, 1) := by decide +kernel
theorem dX6_hall_24 : decode cX6_hall 24 = .ok (.iload_n 1, 1) := by decide +kernel
theorem dX6_hall_25 : decode cX6_hall 25 = .ok (.bipush 24, 2) := by decide +kernel
theorem dX6_hall_27 : decode cX6_hall 27 = .ok (.if_icmp .ge 21, 3) := by decide +kernel
theorem dX6_hall_30 : decode cX6_hall 30 = .ok (.aload_n 0, 1) := by decide +kernel
theorem dX6_hall_31 : decode cX6_hall 31 = .ok (.getfield 16, 3) := by decide +kernel
theorem dX6_hall_34 : decode cX6_hall 34 = .ok (.iload_n 1, 1) := by decide +kernel
theorem dX6_hall_35 : decode cX6_hall 35 = .ok (.aload_n 0, 1) := by decide +kernel
theorem dX6_hall_36 : decode cX6_hall 36 = .ok (.getfield 13, 3) := by decide +kernel
theorem dX6_hall_39 : decode cX6_hall 39 = .ok (.iload_n 1, 1) := by decide +kernel
theorem dX6_hall_40 : decode cX6_hall 40 = .ok (.iaload, 1) := by decide +kernel
theorem dX6_hall_41 : decode cX6_hall 41 = .ok (.iastore, 1) := by decide +kernel
theorem dX6_hall_42 : decode cX6_hall 42 = .ok (.iinc 1 1, 3) := by decide +kernel
theorem dX6_hall_45 : decode cX6_hall 45 = .ok (.goto (-21), 3) := by decide +kernel
theorem dX6_hall_48 : decode cX6_hall 48 = .ok (.iconst 0, 1) := by decide +kernel
theorem dX6_hall_49 : decode cX6_hall 49 = .ok (.istore_n 1, 1) := by decide +kernel
theorem dX6_hall_50 : decode cX6_hall 50 = .ok (.iload_n 1, 1) := by decide +kernel
theorem dX6_hall_51 : decode cX6_hall 51 = .ok (.bipush 8, 2) := by decide +kernel
theorem dX6_hall_53 : decode cX6_hall 53 = .ok (.if_icmp .ge 23, 3) := by decide +kernel
theorem dX6_hall_56 : decode cX6_hall 56 = .ok (.aload_n 0, 1) := by decide +kernel
theorem dX6_hall_57 : decode cX6_hall 57 = .ok (.getfield 19, 3) := by decide +kernel
theorem dX6_hall_60 : decode cX6_hall 60 = .ok (.iload_n 1, 1) := by decide +kernel
theorem dX6_hall_61 : decode cX6_hall 61 = .ok (.iconst 3, 1) := by decide +kernel
theorem dX6_hall_62 : decode cX6_hall 62 = .ok (.iastore, 1) := by decide +kernel
theorem dX6_hall_63 : decode cX6_hall 63 = .ok (.aload_n 0, 1) := by decide +kernel
theorem dX6_hall_64 : decode cX6_hall 64 = .ok (.getfield 22, 3) := by decide +kernel
theorem dX6_hall_67 : decode cX6_hall 67 = .ok (.iload_n 1, 1) := by decide +kernel
theorem dX6_hall_68 : decode cX6_hall 68 = .ok (.iconst 0, 1) := by decide +kernel
theorem dX6_hall_69 : decode cX6_hall 69 = .ok (.iastore, 1) := by decide +kernel
theorem dX6_hall_70 : decode cX6_hall 70 = .ok (.iinc 1 1, 3) := by decide +kernel
theorem dX6_hall_73 : decode cX6_hall 73 = .ok (.goto (-23), 3) := by decide +kernel
theorem dX6_hall_76 : decode cX6_hall 76 = .ok (.aload_n 0, 1) := by decide +kernel
theorem dX6_hall_77 : decode cX6_hall 77 = .ok (.aload_n 0, 1) := by decide +kernel
theorem dX6_hall_78 : decode cX6_hall 78 = .ok (.getfield 62, 3) := by decide +kernel
theorem dX6_hall_81 : decode cX6_hall 81 = .ok (.putfield 84, 3) := by decide +kernel
theorem dX6_hall_84 : decode cX6_hall 84 = .ok (.aload_n 0, 1) := by decide +kernel
theorem dX6_hall_85 : decode cX6_hall 85 = .ok (.aload_n 0, 1) := by decide +kernel
theorem dX6_hall_86 : decode cX6_hall 86 = .ok (.getfield 71, 3) := by decide +kernel
theorem dX6_hall_89 : decode cX6_hall 89 = .ok (.putfield 87, 3) := by decide +kernel
theorem dX6_hall_92 : decode cX6_hall 92 = .ok (.aload_n 0, 1) := by decide +kernel
theorem dX6_hall_93 : decode cX6_hall 93 = .ok (.iconst 0, 1) := by decide +kernel
theorem dX6_hall_94 : decode cX6_hall 94 = .ok (.putfield 90, 3) := by decide +kernel
theorem dX6_hall_97 : decode cX6_hall 97 = .ok (.aload_n 0, 1) := by decide +kernel
theorem dX6_hall_98 : decode cX6_hall 98 = .ok (.iconst 0, 1) := by decide +kernel
theorem dX6_hall_99 : decode cX6_hall 99 = .ok (.putfield 93, 3) := by decide +kernel
theorem dX6_hall_102 : decode cX6_hall 102 = .ok (.aload_n 0, 1) := by decide +kernel
theorem dX6_hall_103 : decode cX6_hall 103 = .ok (.iconst 0, 1) := by decide +kernel
theorem dX6_hall_104 : decode cX6_hall 104 = .ok (.putfield 96, 3) := by decide +kernel
theorem dX6_hall_107 : decode cX6_hall 107 = .ok (.aload_n 0, 1) := by decide +kernel
theorem dX6_hall_108 : decode cX6_hall 108 = .ok (.iconst 0, 1) := by decide +kernel
theorem dX6_hall_109 : decode cX6_hall 109 = .ok (.putfield 99, 3) := by decide +kernel
theorem dX6_hall_112 : decode cX6_hall 112 = .ok (.aload_n 0, 1) := by decide +kernel
theorem dX6_hall_113 : decode cX6_hall 113 = .ok (.dup, 1) := by decide +kernel
theorem dX6_hall_114 : decode cX6_hall 114 = .ok (.getfield 102, 3) := by decide +kernel
theorem dX6_hall_117 : decode cX6_hall 117 = .ok (.iconst 1, 1) := by decide +kernel
theorem dX6_hall_118 : decode cX6_hall 118 = .ok (.iadd, 1) := by decide +kernel
theorem dX6_hall_119 : decode cX6_hall 119 = .ok (.putfield 102, 3) := by decide +kernel
theorem dX6_hall_122 : decode cX6_hall 122 = .ok (.aload_n 0, 1) := by decide +kernel
theorem dX6_hall_123 : decode cX6_hall 123 = .ok (.iconst 0, 1) := by decide +kernel
theorem dX6_hall_124 : decode cX6_hall 124 = .ok (.putfield 56, 3) := by decide +kernel
theorem dX6_hall_127 : decode cX6_hall 127 = .ok (.aload_n 0, 1) := by decide +kernel
theorem dX6_hall_128 : decode cX6_hall 128 = .ok (.getfield 84, 3) := by decide +kernel
theorem dX6_hall_131 : decode cX6_hall 131 = .ok (.ireturn, 1) := by decide +kernel
theorem dX6_lacks_0 : decode cX6_lacks 0 = .ok (.aload_n 0, 1) := by decide +kernel
theorem dX6_lacks_1 : decode cX6_lacks 1 = .ok (.getfield 84, 3) := by decide +kernel
theorem dX6_lacks_4 : decode cX6_lacks 4 = .ok (.ifCond .ne 7, 3) := by decide +kernel
theorem dX6_lacks_7 : decode cX6_lacks 7 = .ok (.iconst 1, 1) := by decide +kernel
theorem dX6_lacks_8 : decode cX6_lacks 8 = .ok (.goto 4, 3) := by decide +kernel
theorem dX6_lacks_11 : decode cX6_lacks 11 = .ok (.iconst 0, 1) := by decide +kernel
theorem dX6_lacks_12 : decode cX6_lacks 12 = .ok (.ireturn, 1) := by decide +kernel
set_option maxRecDepth 20000 in
theorem ggX6_isRow_X6_in : GoodIn wsX6_isRow wsX6_in := goodIn_r _ [5] (by decide +kernel) (by decide +kernel)
set_option maxRecDepth 20000 in
theorem gX6_isRow_X6_in : GoodIn wsX6_isRow (va_wsS RX6 52 yX6_in wsX6_in) := goodIn_app (goodIn_of _ (by decide +kernel)) ggX6_isRow_X6_in
theorem dX6_isRow_0 : decode cX6_isRow 0 = .ok (.iload_n 1, 1) := by decide +kernel
theorem dX6_isRow_1 : decode cX6_isRow 1 = .ok (.i2l, 1) := by decide +kernel
theorem dX6_isRow_2 : decode cX6_isRow 2 = .ok (.lconst 0, 1) := by decide +kernel
theorem dX6_isRow_3 : decode cX6_isRow 3 = .ok (.aload_n 0, 1) := by decide +kernel
theorem dX6_isRow_4 : decode cX6_isRow 4 = .ok (.getfield 84, 3) := by decide +kernel
theorem dX6_isRow_7 : decode cX6_isRow 7 = .ok (.iconst 1, 1) := by decide +kernel
theorem dX6_isRow_8 : decode cX6_isRow 8 = .ok (.isub, 1) := by decide +kernel
theorem dX6_isRow_9 : decode cX6_isRow 9 = .ok (.i2l, 1) := by decide +kernel
theorem dX6_isRow_10 : decode cX6_isRow 10 = .ok (.invokestatic 52, 3) := by decide +kernel
theorem dX6_isRow_13 : decode cX6_isRow 13 = .ok (.ireturn, 1) := by decide +kernel
theorem dX6_lagOf_0 : decode cX6_lagOf 0 = .ok (.aload_n 0, 1) := by decide +kernel
theorem dX6_lagOf_1 : decode cX6_lagOf 1 = .ok (.getfield 87, 3) := by decide +kernel
theorem dX6_lagOf_4 : decode cX6_lagOf 4 = .ok (.ifCond .ne 7, 3) := by decide +kernel
theorem dX6_lagOf_7 : decode cX6_lagOf 7 = .ok (.iconst 0, 1) := by decide +kernel
theorem dX6_lagOf_8 : decode cX6_lagOf 8 = .ok (.goto 9, 3) := by decide +kernel
theorem dX6_lagOf_11 : decode cX6_lagOf 11 = .ok (.iload_n 1, 1) := by decide +kernel
theorem dX6_lagOf_12 : decode cX6_lagOf 12 = .ok (.aload_n 0, 1) := by decide +kernel
theorem dX6_lagOf_13 : decode cX6_lagOf 13 = .ok (.getfield 87, 3) := by decide +kernel
theorem dX6_lagOf_16 : decode cX6_lagOf 16 = .ok (.idiv, 1) := by decide +kernel
theorem dX6_lagOf_17 : decode cX6_lagOf 17 = .ok (.ireturn, 1) := by decide +kernel
set_option maxRecDepth 20000 in
theorem ggX6_byLag_X6_lagOf : GoodIn wsX6_byLag wsX6_lagOf := goodIn_r _ [5, 6, 7, 8, 9, 10, 11, 12, 13, 14, 15, 16, 17, 18, 19, 20, 21, 22, 23, 24, 25, 26, 27, 28, 29, 30, 31, 32, 33, 34, 35, 36, 37, 38, 39] (by decide +kernel) (by decide +kernel)
set_option maxRecDepth 20000 in
theorem gX6_byLag_X6_lagOf : GoodIn wsX6_byLag (wsV RX6 105 RX6 yX6_lagOf wsX6_lagOf) := goodIn_app (goodIn_of _ (by decide +kernel)) ggX6_byLag_X6_lagOf
theorem dX6_byLag_0 : decode cX6_byLag 0 = .ok (.aload_n 0, 1) := by decide +kernel
theorem dX6_byLag_1 : decode cX6_byLag 1 = .ok (.iload_n 1, 1) := by decide +kernel
theorem dX6_byLag_2 : decode cX6_byLag 2 = .ok (.invokevirtual 105, 3) := by decide +kernel
theorem dX6_byLag_5 : decode cX6_byLag 5 = .ok (.iconst 2, 1) := by decide +kernel
theorem dX6_byLag_6 : decode cX6_byLag 6 = .ok (.irem, 1) := by decide +kernel
theorem dX6_byLag_7 : decode cX6_byLag 7 = .ok (.iconst 1, 1) := by decide +kernel
theorem dX6_byLag_8 : decode cX6_byLag 8 = .ok (.if_icmp .ne 7, 3) := by decide +kernel
theorem dX6_byLag_11 : decode cX6_byLag 11 = .ok (.iconst 1, 1) := by decide +kernel
theorem dX6_byLag_12 : decode cX6_byLag 12 = .ok (.goto 4, 3) := by decide +kernel
theorem dX6_byLag_15 : decode cX6_byLag 15 = .ok (.iconst 0, 1) := by decide +kernel
theorem dX6_byLag_16 : decode cX6_byLag 16 = .ok (.istore_n 3, 1) := by decide +kernel
theorem dX6_byLag_17 : decode cX6_byLag 17 = .ok (.iload_n 3, 1) := by decide +kernel
theorem dX6_byLag_18 : decode cX6_byLag 18 = .ok (.ifCond .eq 12, 3) := by decide +kernel
theorem dX6_byLag_21 : decode cX6_byLag 21 = .ok (.iload_n 2, 1) := by decide +kernel
theorem dX6_byLag_22 : decode cX6_byLag 22 = .ok (.iconst 1, 1) := by decide +kernel
theorem dX6_byLag_23 : decode cX6_byLag 23 = .ok (.if_icmp .ne 7, 3) := by decide +kernel
theorem dX6_byLag_26 : decode cX6_byLag 26 = .ok (.iconst 2, 1) := by decide +kernel
theorem dX6_byLag_27 : decode cX6_byLag 27 = .ok (.goto 17, 3) := by decide +kernel
theorem dX6_byLag_30 : decode cX6_byLag 30 = .ok (.iload_n 3, 1) := by decide +kernel
theorem dX6_byLag_31 : decode cX6_byLag 31 = .ok (.ifCond .eq 12, 3) := by decide +kernel
theorem dX6_byLag_34 : decode cX6_byLag 34 = .ok (.iload_n 2, 1) := by decide +kernel
theorem dX6_byLag_35 : decode cX6_byLag 35 = .ok (.iconst 2, 1) := by decide +kernel
theorem dX6_byLag_36 : decode cX6_byLag 36 = .ok (.if_icmp .ne 7, 3) := by decide +kernel
theorem dX6_byLag_39 : decode cX6_byLag 39 = .ok (.iconst 1, 1) := by decide +kernel
theorem dX6_byLag_40 : decode cX6_byLag 40 = .ok (.goto 4, 3) := by decide +kernel
theorem dX6_byLag_43 : decode cX6_byLag 43 = .ok (.iload_n 2, 1) := by decide +kernel
theorem dX6_byLag_44 : decode cX6_byLag 44 = .ok (.ireturn, 1) := by decide +kernel
theorem dX6_isTired_0 : decode cX6_isTired 0 = .ok (.aload_n 0, 1) := by decide +kernel
theorem dX6_isTired_1 : decode cX6_isTired 1 = .ok (.getfield 16, 3) := by decide +kernel
theorem dX6_isTired_4 : decode cX6_isTired 4 = .ok (.iconst 3, 1) := by decide +kernel
theorem dX6_isTired_5 : decode cX6_isTired 5 = .ok (.iload_n 2, 1) := by decide +kernel
theorem dX6_isTired_6 : decode cX6_isTired 6 = .ok (.imul, 1) := by decide +kernel
theorem dX6_isTired_7 : decode cX6_isTired 7 = .ok (.iconst 2, 1) := by decide +kernel
theorem dX6_isTired_8 : decode cX6_isTired 8 = .ok (.iadd, 1) := by decide +kernel
theorem dX6_isTired_9 : decode cX6_isTired 9 = .ok (.iaload, 1) := by decide +kernel
theorem dX6_isTired_10 : decode cX6_isTired 10 = .ok (.ifCond .le 23, 3) := by decide +kernel
theorem dX6_isTired_13 : decode cX6_isTired 13 = .ok (.aload_n 1, 1) := by decide +kernel
theorem dX6_isTired_14 : decode cX6_isTired 14 = .ok (.iload_n 2, 1) := by decide +kernel
theorem dX6_isTired_15 : decode cX6_isTired 15 = .ok (.iaload, 1) := by decide +kernel
theorem dX6_isTired_16 : decode cX6_isTired 16 = .ok (.aload_n 0, 1) := by decide +kernel
theorem dX6_isTired_17 : decode cX6_isTired 17 = .ok (.getfield 16, 3) := by decide +kernel
theorem dX6_isTired_20 : decode cX6_isTired 20 = .ok (.iconst 3, 1) := by decide +kernel
theorem dX6_isTired_21 : decode cX6_isTired 21 = .ok (.iload_n 2, 1) := by decide +kernel
theorem dX6_isTired_22 : decode cX6_isTired 22 = .ok (.imul, 1) := by decide +kernel
theorem dX6_isTired_23 : decode cX6_isTired 23 = .ok (.iconst 2, 1) := by decide +kernel
theorem dX6_isTired_24 : decode cX6_isTired 24 = .ok (.iadd, 1) := by decide +kernel
theorem dX6_isTired_25 : decode cX6_isTired 25 = .ok (.iaload, 1) := by decide +kernel
theorem dX6_isTired_26 : decode cX6_isTired 26 = .ok (.if_icmp .lt 7, 3) := by decide +kernel
theorem dX6_isTired_29 : decode cX6_isTired 29 = .ok (.iconst 1, 1) := by decide +kernel
theorem dX6_isTired_30 : decode cX6_isTired 30 = .ok (.goto 4, 3) := by decide +kernel
theorem dX6_isTired_33 : decode cX6_isTired 33 = .ok (.iconst 0, 1) := by decide +kernel
theorem dX6_isTired_34 : decode cX6_isTired 34 = .ok (.ireturn, 1) := by decide +kernel
set_option maxRecDepth 20000 in
theorem ggX6_tell_X6_lagOf : GoodIn wsX6_tell wsX6_lagOf := goodIn_r _ [9, 10, 19, 20, 21, 22, 23, 24, 25, 26, 27, 28, 29, 30, 31, 32, 33, 34, 35, 36, 37, 38, 39, 40, 41, 42, 43, 44, 45, 46, 47, 48, 49, 50, 51] (by decide +kernel) (by decide +kernel)
set_option maxRecDepth 20000 in
theorem gX6_tell_X6_lagOf : GoodIn wsX6_tell (wsV RX6 105 RX6 yX6_lagOf wsX6_lagOf) := goodIn_app (goodIn_of _ (by decide +kernel)) ggX6_tell_X6_lagOf
set_option maxRecDepth 20000 in
theorem ggX6_tell_X6_byLag : GoodIn wsX6_tell wsX6_byLag := goodIn_r _ [14, 5, 6, 7, 8, 9, 10, 19, 20, 21, 22, 23, 24, 25, 26, 27, 28, 29, 30, 31, 32, 33, 34, 35, 36, 37, 38, 39, 40, 41, 42, 43, 44, 45, 46, 47, 48, 49, 50, 51] (by decide +kernel) (by decide +kernel)
set_option maxRecDepth 20000 in
theorem gX6_tell_X6_byLag : GoodIn wsX6_tell (wsV RX6 108 RX6 yX6_byLag wsX6_byLag) := goodIn_app (goodIn_of _ (by decide +kernel)) ggX6_tell_X6_byLag
set_option maxRecDepth 20000 in
theorem ggX6_tell_X6_isTired : GoodIn wsX6_tell wsX6_isTired := goodIn_r _ [18, 1, 19, 20, 21, 22, 23, 24, 25, 26, 27, 28, 29, 30, 31, 32, 33, 34, 35, 36, 37, 38, 39, 40, 41, 42, 43, 44, 45, 46, 47, 48, 49, 50, 51] (by decide +kernel) (by decide +kernel)
set_option maxRecDepth 20000 in
theorem gX6_tell_X6_isTired : GoodIn wsX6_tell (wsV RX6 112 RX6 yX6_isTired wsX6_isTired) := goodIn_app (goodIn_of _ (by decide +kernel)) ggX6_tell_X6_isTired
theorem dX6_tell_0 : decode cX6_tell 0 = .ok (.iload_n 2, 1) := by decide +kernel
theorem dX6_tell_1 : decode cX6_tell 1 = .ok (.tableswitch 126 0 8 #[51, 51, 51, 62, 68, 75, 87, 94, 112], 51) := by decide +kernel
theorem dX6_tell_52 : decode cX6_tell 52 = .ok (.aload_n 0, 1) := by decide +kernel
theorem dX6_tell_53 : decode cX6_tell 53 = .ok (.getfield 16, 3) := by decide +kernel
theorem dX6_tell_56 : decode cX6_tell 56 = .ok (.iconst 3, 1) := by decide +kernel
theorem dX6_tell_57 : decode cX6_tell 57 = .ok (.iload_n 1, 1) := by decide +kernel
theorem dX6_tell_58 : decode cX6_tell 58 = .ok (.imul, 1) := by decide +kernel
theorem dX6_tell_59 : decode cX6_tell 59 = .ok (.iload_n 2, 1) := by decide +kernel
theorem dX6_tell_60 : decode cX6_tell 60 = .ok (.iadd, 1) := by decide +kernel
theorem dX6_tell_61 : decode cX6_tell 61 = .ok (.iaload, 1) := by decide +kernel
theorem dX6_tell_62 : decode cX6_tell 62 = .ok (.ireturn, 1) := by decide +kernel
theorem dX6_tell_63 : decode cX6_tell 63 = .ok (.aload_n 0, 1) := by decide +kernel
theorem dX6_tell_64 : decode cX6_tell 64 = .ok (.iload_n 1, 1) := by decide +kernel
theorem dX6_tell_65 : decode cX6_tell 65 = .ok (.invokevirtual 105, 3) := by decide +kernel
theorem dX6_tell_68 : decode cX6_tell 68 = .ok (.ireturn, 1) := by decide +kernel
theorem dX6_tell_69 : decode cX6_tell 69 = .ok (.aload_n 0, 1) := by decide +kernel
theorem dX6_tell_70 : decode cX6_tell 70 = .ok (.getfield 19, 3) := by decide +kernel
theorem dX6_tell_73 : decode cX6_tell 73 = .ok (.iload_n 1, 1) := by decide +kernel
theorem dX6_tell_74 : decode cX6_tell 74 = .ok (.iaload, 1) := by decide +kernel
theorem dX6_tell_75 : decode cX6_tell 75 = .ok (.ireturn, 1) := by decide +kernel
theorem dX6_tell_76 : decode cX6_tell 76 = .ok (.aload_n 0, 1) := by decide +kernel
theorem dX6_tell_77 : decode cX6_tell 77 = .ok (.iload_n 1, 1) := by decide +kernel
theorem dX6_tell_78 : decode cX6_tell 78 = .ok (.aload_n 0, 1) := by decide +kernel
theorem dX6_tell_79 : decode cX6_tell 79 = .ok (.getfield 19, 3) := by decide +kernel
theorem dX6_tell_82 : decode cX6_tell 82 = .ok (.iload_n 1, 1) := by decide +kernel
theorem dX6_tell_83 : decode cX6_tell 83 = .ok (.iaload, 1) := by decide +kernel
theorem dX6_tell_84 : decode cX6_tell 84 = .ok (.invokevirtual 108, 3) := by decide +kernel
theorem dX6_tell_87 : decode cX6_tell 87 = .ok (.ireturn, 1) := by decide +kernel
theorem dX6_tell_88 : decode cX6_tell 88 = .ok (.aload_n 0, 1) := by decide +kernel
theorem dX6_tell_89 : decode cX6_tell 89 = .ok (.getfield 22, 3) := by decide +kernel
theorem dX6_tell_92 : decode cX6_tell 92 = .ok (.iload_n 1, 1) := by decide +kernel
theorem dX6_tell_93 : decode cX6_tell 93 = .ok (.iaload, 1) := by decide +kernel
theorem dX6_tell_94 : decode cX6_tell 94 = .ok (.ireturn, 1) := by decide +kernel
theorem dX6_tell_95 : decode cX6_tell 95 = .ok (.aload_n 0, 1) := by decide +kernel
theorem dX6_tell_96 : decode cX6_tell 96 = .ok (.aload_n 0, 1) := by decide +kernel
theorem dX6_tell_97 : decode cX6_tell 97 = .ok (.getfield 22, 3) := by decide +kernel
theorem dX6_tell_100 : decode cX6_tell 100 = .ok (.iload_n 1, 1) := by decide +kernel
theorem dX6_tell_101 : decode cX6_tell 101 = .ok (.invokevirtual 112, 3) := by decide +kernel
theorem dX6_tell_104 : decode cX6_tell 104 = .ok (.ifCond .eq 7, 3) := by decide +kernel
theorem dX6_tell_107 : decode cX6_tell 107 = .ok (.iconst 1, 1) := by decide +kernel
theorem dX6_tell_108 : decode cX6_tell 108 = .ok (.goto 4, 3) := by decide +kernel
theorem dX6_tell_111 : decode cX6_tell 111 = .ok (.iconst 0, 1) := by decide +kernel
theorem dX6_tell_112 : decode cX6_tell 112 = .ok (.ireturn, 1) := by decide +kernel
theorem dX6_tell_113 : decode cX6_tell 113 = .ok (.iload_n 1, 1) := by decide +kernel
theorem dX6_tell_114 : decode cX6_tell 114 = .ok (.aload_n 0, 1) := by decide +kernel
theorem dX6_tell_115 : decode cX6_tell 115 = .ok (.getfield 90, 3) := by decide +kernel
theorem dX6_tell_118 : decode cX6_tell 118 = .ok (.if_icmp .ge 7, 3) := by decide +kernel
theorem dX6_tell_121 : decode cX6_tell 121 = .ok (.iconst 1, 1) := by decide +kernel
theorem dX6_tell_122 : decode cX6_tell 122 = .ok (.goto 4, 3) := by decide +kernel
theorem dX6_tell_125 : decode cX6_tell 125 = .ok (.iconst 0, 1) := by decide +kernel
theorem dX6_tell_126 : decode cX6_tell 126 = .ok (.ireturn, 1) := by decide +kernel
theorem dX6_tell_127 : decode cX6_tell 127 = .ok (.bipush (-102), 2) := by decide +kernel
theorem dX6_tell_129 : decode cX6_tell 129 = .ok (.ireturn, 1) := by decide +kernel
set_option maxRecDepth 20000 in
theorem ggX6_about_X6_isRow : GoodIn wsX6_about wsX6_isRow := goodIn_r _ [5, 6, 7, 8, 4, 9, 31, 32, 33, 34, 35, 36, 37, 38, 39, 40, 41, 42, 43, 44, 45, 46, 47, 48, 49, 50, 51, 52, 53, 54, 55, 56, 57, 58, 59, 60, 61, 62, 63] (by decide +kernel) (by decide +kernel)
set_option maxRecDepth 20000 in
theorem gX6_about_X6_isRow : GoodIn wsX6_about (wsV RX6 116 RX6 yX6_isRow wsX6_isRow) := goodIn_app (goodIn_of _ (by decide +kernel)) ggX6_about_X6_isRow
set_option maxRecDepth 20000 in
theorem ggX6_about_X6_tell : GoodIn wsX6_about wsX6_tell := goodIn_r _ [13, 14, 15, 16, 17, 18, 19, 20, 4, 21, 22, 23, 24, 25, 26, 27, 28, 29, 30, 31, 32, 33, 34, 35, 36, 37, 38, 39, 40, 41, 42, 43, 44, 45, 46, 47, 48, 49, 50, 51, 52, 53, 54, 55, 56, 57, 58, 59, 60, 61, 62, 63] (by decide +kernel) (by decide +kernel)
set_option maxRecDepth 20000 in
theorem gX6_about_X6_tell : GoodIn wsX6_about (wsV RX6 119 RX6 yX6_tell wsX6_tell) := goodIn_app (goodIn_of _ (by decide +kernel)) ggX6_about_X6_tell
theorem dX6_about_0 : decode cX6_about 0 = .ok (.aload_n 0, 1) := by decide +kernel
theorem dX6_about_1 : decode cX6_about 1 = .ok (.iload_n 1, 1) := by decide +kernel
theorem dX6_about_2 : decode cX6_about 2 = .ok (.invokevirtual 116, 3) := by decide +kernel
theorem dX6_about_5 : decode cX6_about 5 = .ok (.ifCond .eq 12, 3) := by decide +kernel
theorem dX6_about_8 : decode cX6_about 8 = .ok (.aload_n 0, 1) := by decide +kernel
theorem dX6_about_9 : decode cX6_about 9 = .ok (.iload_n 1, 1) := by decide +kernel
theorem dX6_about_10 : decode cX6_about 10 = .ok (.iload_n 2, 1) := by decide +kernel
theorem dX6_about_11 : decode cX6_about 11 = .ok (.invokevirtual 119, 3) := by decide +kernel
theorem dX6_about_14 : decode cX6_about 14 = .ok (.goto 5, 3) := by decide +kernel
theorem dX6_about_17 : decode cX6_about 17 = .ok (.bipush (-101), 2) := by decide +kernel
theorem dX6_about_19 : decode cX6_about 19 = .ok (.ireturn, 1) := by decide +kernel
set_option maxRecDepth 20000 in
theorem ggX6_as_X6_isRow : GoodIn wsX6_as wsX6_isRow := goodIn_r _ [7, 8, 9, 10, 6, 11, 12, 13, 14, 15, 16, 17, 18, 19, 20, 21, 22, 23, 24, 25, 26, 27, 28, 29, 30, 31, 32, 33, 34, 35, 36, 37, 38, 39, 40, 41, 42, 43, 44] (by decide +kernel) (by decide +kernel)
set_option maxRecDepth 20000 in
theorem gX6_as_X6_isRow : GoodIn wsX6_as (wsV RX6 116 RX6 yX6_isRow wsX6_isRow) := goodIn_app (goodIn_of _ (by decide +kernel)) ggX6_as_X6_isRow
set_option maxRecDepth 20000 in
theorem ggX6_as_X6_in : GoodIn wsX6_as wsX6_in := goodIn_r _ [11] (by decide +kernel) (by decide +kernel)
set_option maxRecDepth 20000 in
theorem gX6_as_X6_in : GoodIn wsX6_as (va_wsS RX6 52 yX6_in wsX6_in) := goodIn_app (goodIn_of _ (by decide +kernel)) ggX6_as_X6_in
theorem dX6_as_0 : decode cX6_as 0 = .ok (.aload_n 0, 1) := by decide +kernel
theorem dX6_as_1 : decode cX6_as 1 = .ok (.iload_n 1, 1) := by decide +kernel
theorem dX6_as_2 : decode cX6_as 2 = .ok (.invokevirtual 116, 3) := by decide +kernel
theorem dX6_as_5 : decode cX6_as 5 = .ok (.ifCond .ne 6, 3) := by decide +kernel
theorem dX6_as_8 : decode cX6_as 8 = .ok (.bipush (-101), 2) := by decide +kernel
theorem dX6_as_10 : decode cX6_as 10 = .ok (.ireturn, 1) := by decide +kernel
theorem dX6_as_11 : decode cX6_as 11 = .ok (.iload_n 2, 1) := by decide +kernel
theorem dX6_as_12 : decode cX6_as 12 = .ok (.i2l, 1) := by decide +kernel
theorem dX6_as_13 : decode cX6_as 13 = .ok (.lconst 0, 1) := by decide +kernel
theorem dX6_as_14 : decode cX6_as 14 = .ok (.ldc2_w 122, 3) := by decide +kernel
theorem dX6_as_17 : decode cX6_as 17 = .ok (.invokestatic 52, 3) := by decide +kernel
theorem dX6_as_20 : decode cX6_as 20 = .ok (.ifCond .ne 6, 3) := by decide +kernel
theorem dX6_as_23 : decode cX6_as 23 = .ok (.bipush (-102), 2) := by decide +kernel
theorem dX6_as_25 : decode cX6_as 25 = .ok (.ireturn, 1) := by decide +kernel
theorem dX6_as_26 : decode cX6_as 26 = .ok (.aload_n 0, 1) := by decide +kernel
theorem dX6_as_27 : decode cX6_as 27 = .ok (.getfield 16, 3) := by decide +kernel
theorem dX6_as_30 : decode cX6_as 30 = .ok (.iconst 3, 1) := by decide +kernel
theorem dX6_as_31 : decode cX6_as 31 = .ok (.iload_n 1, 1) := by decide +kernel
theorem dX6_as_32 : decode cX6_as 32 = .ok (.imul, 1) := by decide +kernel
theorem dX6_as_33 : decode cX6_as 33 = .ok (.iaload, 1) := by decide +kernel
theorem dX6_as_34 : decode cX6_as 34 = .ok (.istore_n 3, 1) := by decide +kernel
theorem dX6_as_35 : decode cX6_as 35 = .ok (.iload_n 2, 1) := by decide +kernel
theorem dX6_as_36 : decode cX6_as 36 = .ok (.ifCond .eq 18, 3) := by decide +kernel
theorem dX6_as_39 : decode cX6_as 39 = .ok (.iload_n 2, 1) := by decide +kernel
theorem dX6_as_40 : decode cX6_as 40 = .ok (.iload_n 3, 1) := by decide +kernel
theorem dX6_as_41 : decode cX6_as 41 = .ok (.if_icmp .eq 13, 3) := by decide +kernel
theorem dX6_as_44 : decode cX6_as 44 = .ok (.iload_n 2, 1) := by decide +kernel
theorem dX6_as_45 : decode cX6_as 45 = .ok (.iconst 1, 1) := by decide +kernel
theorem dX6_as_46 : decode cX6_as 46 = .ok (.if_icmp .ne 12, 3) := by decide +kernel
theorem dX6_as_49 : decode cX6_as 49 = .ok (.iload_n 3, 1) := by decide +kernel
theorem dX6_as_50 : decode cX6_as 50 = .ok (.iconst 4, 1) := by decide +kernel
theorem dX6_as_51 : decode cX6_as 51 = .ok (.if_icmp .ne 7, 3) := by decide +kernel
theorem dX6_as_54 : decode cX6_as 54 = .ok (.iconst 1, 1) := by decide +kernel
theorem dX6_as_55 : decode cX6_as 55 = .ok (.goto 4, 3) := by decide +kernel
theorem dX6_as_58 : decode cX6_as 58 = .ok (.iconst 0, 1) := by decide +kernel
theorem dX6_as_59 : decode cX6_as 59 = .ok (.istore 4, 2) := by decide +kernel
theorem dX6_as_61 : decode cX6_as 61 = .ok (.iload 4, 2) := by decide +kernel
theorem dX6_as_63 : decode cX6_as 63 = .ok (.ifCond .eq 7, 3) := by decide +kernel
theorem dX6_as_66 : decode cX6_as 66 = .ok (.iload_n 1, 1) := by decide +kernel
theorem dX6_as_67 : decode cX6_as 67 = .ok (.goto 4, 3) := by decide +kernel
theorem dX6_as_70 : decode cX6_as 70 = .ok (.iconst (-1), 1) := by decide +kernel
theorem dX6_as_71 : decode cX6_as 71 = .ok (.ireturn, 1) := by decide +kernel
theorem dX6_asItIs_0 : decode cX6_asItIs 0 = .ok (.iconst 0, 1) := by decide +kernel
theorem dX6_asItIs_1 : decode cX6_asItIs 1 = .ok (.istore_n 1, 1) := by decide +kernel
theorem dX6_asItIs_2 : decode cX6_asItIs 2 = .ok (.iload_n 1, 1) := by decide +kernel
theorem dX6_asItIs_3 : decode cX6_asItIs 3 = .ok (.bipush 8, 2) := by decide +kernel
theorem dX6_asItIs_5 : decode cX6_asItIs 5 = .ok (.if_icmp .ge 33, 3) := by decide +kernel
theorem dX6_asItIs_8 : decode cX6_asItIs 8 = .ok (.aload_n 0, 1) := by decide +kernel
theorem dX6_asItIs_9 : decode cX6_asItIs 9 = .ok (.getfield 25, 3) := by decide +kernel
theorem dX6_asItIs_12 : decode cX6_asItIs 12 = .ok (.iload_n 1, 1) := by decide +kernel
theorem dX6_asItIs_13 : decode cX6_asItIs 13 = .ok (.aload_n 0, 1) := by decide +kernel
theorem dX6_asItIs_14 : decode cX6_asItIs 14 = .ok (.getfield 19, 3) := by decide +kernel
theorem dX6_asItIs_17 : decode cX6_asItIs 17 = .ok (.iload_n 1, 1) := by decide +kernel
theorem dX6_asItIs_18 : decode cX6_asItIs 18 = .ok (.iaload, 1) := by decide +kernel
theorem dX6_asItIs_19 : decode cX6_asItIs 19 = .ok (.iastore, 1) := by decide +kernel
theorem dX6_asItIs_20 : decode cX6_asItIs 20 = .ok (.aload_n 0, 1) := by decide +kernel
theorem dX6_asItIs_21 : decode cX6_asItIs 21 = .ok (.getfield 28, 3) := by decide +kernel
theorem dX6_asItIs_24 : decode cX6_asItIs 24 = .ok (.iload_n 1, 1) := by decide +kernel
theorem dX6_asItIs_25 : decode cX6_asItIs 25 = .ok (.aload_n 0, 1) := by decide +kernel
theorem dX6_asItIs_26 : decode cX6_asItIs 26 = .ok (.getfield 22, 3) := by decide +kernel
theorem dX6_asItIs_29 : decode cX6_asItIs 29 = .ok (.iload_n 1, 1) := by decide +kernel
theorem dX6_asItIs_30 : decode cX6_asItIs 30 = .ok (.iaload, 1) := by decide +kernel
theorem dX6_asItIs_31 : decode cX6_asItIs 31 = .ok (.iastore, 1) := by decide +kernel
theorem dX6_asItIs_32 : decode cX6_asItIs 32 = .ok (.iinc 1 1, 3) := by decide +kernel
theorem dX6_asItIs_35 : decode cX6_asItIs 35 = .ok (.goto (-33), 3) := by decide +kernel
theorem dX6_asItIs_38 : decode cX6_asItIs 38 = .ok (.aload_n 0, 1) := by decide +kernel
theorem dX6_asItIs_39 : decode cX6_asItIs 39 = .ok (.aload_n 0, 1) := by decide +kernel
theorem dX6_asItIs_40 : decode cX6_asItIs 40 = .ok (.getfield 90, 3) := by decide +kernel
theorem dX6_asItIs_43 : decode cX6_asItIs 43 = .ok (.putfield 124, 3) := by decide +kernel
theorem dX6_asItIs_46 : decode cX6_asItIs 46 = .ok (.return_, 1) := by decide +kernel
theorem dX6_isStubborn_0 : decode cX6_isStubborn 0 = .ok (.aload_n 0, 1) := by decide +kernel
theorem dX6_isStubborn_1 : decode cX6_isStubborn 1 = .ok (.getfield 16, 3) := by decide +kernel
theorem dX6_isStubborn_4 : decode cX6_isStubborn 4 = .ok (.iconst 3, 1) := by decide +kernel
theorem dX6_isStubborn_5 : decode cX6_isStubborn 5 = .ok (.iload_n 1, 1) := by decide +kernel
theorem dX6_isStubborn_6 : decode cX6_isStubborn 6 = .ok (.imul, 1) := by decide +kernel
theorem dX6_isStubborn_7 : decode cX6_isStubborn 7 = .ok (.iaload, 1) := by decide +kernel
theorem dX6_isStubborn_8 : decode cX6_isStubborn 8 = .ok (.iconst 1, 1) := by decide +kernel
theorem dX6_isStubborn_9 : decode cX6_isStubborn 9 = .ok (.if_icmp .eq 15, 3) := by decide +kernel
theorem dX6_isStubborn_12 : decode cX6_isStubborn 12 = .ok (.aload_n 0, 1) := by decide +kernel
theorem dX6_isStubborn_13 : decode cX6_isStubborn 13 = .ok (.getfield 16, 3) := by decide +kernel
theorem dX6_isStubborn_16 : decode cX6_isStubborn 16 = .ok (.iconst 3, 1) := by decide +kernel
theorem dX6_isStubborn_17 : decode cX6_isStubborn 17 = .ok (.iload_n 1, 1) := by decide +kernel
theorem dX6_isStubborn_18 : decode cX6_isStubborn 18 = .ok (.imul, 1) := by decide +kernel
theorem dX6_isStubborn_19 : decode cX6_isStubborn 19 = .ok (.iaload, 1) := by decide +kernel
theorem dX6_isStubborn_20 : decode cX6_isStubborn 20 = .ok (.iconst 4, 1) := by decide +kernel
theorem dX6_isStubborn_21 : decode cX6_isStubborn 21 = .ok (.if_icmp .ne 7, 3) := by decide +kernel
theorem dX6_isStubborn_24 : decode cX6_isStubborn 24 = .ok (.iconst 1, 1) := by decide +kernel
theorem dX6_isStubborn_25 : decode cX6_isStubborn 25 = .ok (.goto 4, 3) := by decide +kernel
theorem dX6_isStubborn_28 : decode cX6_isStubborn 28 = .ok (.iconst 0, 1) := by decide +kernel
theorem dX6_isStubborn_29 : decode cX6_isStubborn 29 = .ok (.ireturn, 1) := by decide +kernel
set_option maxRecDepth 20000 in
theorem ggX6_palmsBy_X6_isRow : GoodIn wsX6_palmsBy wsX6_isRow := goodIn_r _ [7, 8, 9, 10, 6, 11, 12, 13, 14, 15, 16, 17, 18, 19, 20, 21, 22, 23, 24, 25, 26, 27, 28, 29, 30, 31, 32, 33, 34, 35, 36, 37, 38, 39, 40, 41, 42, 43, 44] (by decide +kernel) (by decide +kernel)
set_option maxRecDepth 20000 in
theorem gX6_palmsBy_X6_isRow : GoodIn wsX6_palmsBy (wsV RX6 116 RX6 yX6_isRow wsX6_isRow) := goodIn_app (goodIn_of _ (by decide +kernel)) ggX6_palmsBy_X6_isRow
theorem dX6_palmsBy_0 : decode cX6_palmsBy 0 = .ok (.iconst 0, 1) := by decide +kernel
theorem dX6_palmsBy_1 : decode cX6_palmsBy 1 = .ok (.istore_n 3, 1) := by decide +kernel
theorem dX6_palmsBy_2 : decode cX6_palmsBy 2 = .ok (.iload_n 1, 1) := by decide +kernel
theorem dX6_palmsBy_3 : decode cX6_palmsBy 3 = .ok (.iconst 1, 1) := by decide +kernel
theorem dX6_palmsBy_4 : decode cX6_palmsBy 4 = .ok (.isub, 1) := by decide +kernel
theorem dX6_palmsBy_5 : decode cX6_palmsBy 5 = .ok (.istore 4, 2) := by decide +kernel
theorem dX6_palmsBy_7 : decode cX6_palmsBy 7 = .ok (.iload 4, 2) := by decide +kernel
theorem dX6_palmsBy_9 : decode cX6_palmsBy 9 = .ok (.iload_n 1, 1) := by decide +kernel
theorem dX6_palmsBy_10 : decode cX6_palmsBy 10 = .ok (.iconst 1, 1) := by decide +kernel
theorem dX6_palmsBy_11 : decode cX6_palmsBy 11 = .ok (.iadd, 1) := by decide +kernel
theorem dX6_palmsBy_12 : decode cX6_palmsBy 12 = .ok (.if_icmp .gt 51, 3) := by decide +kernel
theorem dX6_palmsBy_15 : decode cX6_palmsBy 15 = .ok (.iload_n 3, 1) := by decide +kernel
theorem dX6_palmsBy_16 : decode cX6_palmsBy 16 = .ok (.aload_n 0, 1) := by decide +kernel
theorem dX6_palmsBy_17 : decode cX6_palmsBy 17 = .ok (.iload 4, 2) := by decide +kernel
theorem dX6_palmsBy_19 : decode cX6_palmsBy 19 = .ok (.invokevirtual 116, 3) := by decide +kernel
theorem dX6_palmsBy_22 : decode cX6_palmsBy 22 = .ok (.ifCond .eq 32, 3) := by decide +kernel
theorem dX6_palmsBy_25 : decode cX6_palmsBy 25 = .ok (.aload_n 0, 1) := by decide +kernel
theorem dX6_palmsBy_26 : decode cX6_palmsBy 26 = .ok (.getfield 31, 3) := by decide +kernel
theorem dX6_palmsBy_29 : decode cX6_palmsBy 29 = .ok (.iload 4, 2) := by decide +kernel
theorem dX6_palmsBy_31 : decode cX6_palmsBy 31 = .ok (.iaload, 1) := by decide +kernel
theorem dX6_palmsBy_32 : decode cX6_palmsBy 32 = .ok (.iload_n 2, 1) := by decide +kernel
theorem dX6_palmsBy_33 : decode cX6_palmsBy 33 = .ok (.ishr, 1) := by decide +kernel
theorem dX6_palmsBy_34 : decode cX6_palmsBy 34 = .ok (.iconst 1, 1) := by decide +kernel
theorem dX6_palmsBy_35 : decode cX6_palmsBy 35 = .ok (.iand, 1) := by decide +kernel
theorem dX6_palmsBy_36 : decode cX6_palmsBy 36 = .ok (.iconst 1, 1) := by decide +kernel
theorem dX6_palmsBy_37 : decode cX6_palmsBy 37 = .ok (.if_icmp .ne 17, 3) := by decide +kernel
theorem dX6_palmsBy_40 : decode cX6_palmsBy 40 = .ok (.aload_n 0, 1) := by decide +kernel
theorem dX6_palmsBy_41 : decode cX6_palmsBy 41 = .ok (.getfield 16, 3) := by decide +kernel
theorem dX6_palmsBy_44 : decode cX6_palmsBy 44 = .ok (.iconst 3, 1) := by decide +kernel
theorem dX6_palmsBy_45 : decode cX6_palmsBy 45 = .ok (.iload 4, 2) := by decide +kernel
theorem dX6_palmsBy_47 : decode cX6_palmsBy 47 = .ok (.imul, 1) := by decide +kernel
theorem dX6_palmsBy_48 : decode cX6_palmsBy 48 = .ok (.iconst 1, 1) := by decide +kernel
theorem dX6_palmsBy_49 : decode cX6_palmsBy 49 = .ok (.iadd, 1) := by decide +kernel
theorem dX6_palmsBy_50 : decode cX6_palmsBy 50 = .ok (.iaload, 1) := by decide +kernel
theorem dX6_palmsBy_51 : decode cX6_palmsBy 51 = .ok (.goto 4, 3) := by decide +kernel
theorem dX6_palmsBy_54 : decode cX6_palmsBy 54 = .ok (.iconst 0, 1) := by decide +kernel
theorem dX6_palmsBy_55 : decode cX6_palmsBy 55 = .ok (.iadd, 1) := by decide +kernel
theorem dX6_palmsBy_56 : decode cX6_palmsBy 56 = .ok (.istore_n 3, 1) := by decide +kernel
theorem dX6_palmsBy_57 : decode cX6_palmsBy 57 = .ok (.iinc 4 1, 3) := by decide +kernel
theorem dX6_palmsBy_60 : decode cX6_palmsBy 60 = .ok (.goto (-53), 3) := by decide +kernel
theorem dX6_palmsBy_63 : decode cX6_palmsBy 63 = .ok (.iload_n 3, 1) := by decide +kernel
theorem dX6_palmsBy_64 : decode cX6_palmsBy 64 = .ok (.ireturn, 1) := by decide +kernel
set_option maxRecDepth 20000 in
theorem ggX6_nextOf_X6_isTired : GoodIn wsX6_nextOf wsX6_isTired := goodIn_r _ [9, 3, 26, 27, 28, 29, 30, 31, 32, 33, 34, 35, 36, 37, 38, 39, 40, 41, 42, 43, 44, 45, 46, 47, 48, 49, 50, 51, 52, 53, 54, 55, 56, 57, 58] (by decide +kernel) (by decide +kernel)
set_option maxRecDepth 20000 in
theorem gX6_nextOf_X6_isTired : GoodIn wsX6_nextOf (wsV RX6 112 RX6 yX6_isTired wsX6_isTired) := goodIn_app (goodIn_of _ (by decide +kernel)) ggX6_nextOf_X6_isTired
set_option maxRecDepth 20000 in
theorem ggX6_nextOf_X6_isStubborn : GoodIn wsX6_nextOf wsX6_isStubborn := goodIn_r _ [13, 3, 26, 27, 28, 29, 30, 31, 32, 33, 34, 35, 36, 37, 38, 39, 40, 41, 42, 43, 44, 45, 46, 47, 48, 49, 50, 51, 52, 53, 54, 55, 56, 57, 58] (by decide +kernel) (by decide +kernel)
set_option maxRecDepth 20000 in
theorem gX6_nextOf_X6_isStubborn : GoodIn wsX6_nextOf (wsV RX6 127 RX6 yX6_isStubborn wsX6_isStubborn) := goodIn_app (goodIn_of _ (by decide +kernel)) ggX6_nextOf_X6_isStubborn
set_option maxRecDepth 20000 in
theorem ggX6_nextOf_X6_palmsBy : GoodIn wsX6_nextOf wsX6_palmsBy := goodIn_r _ [17, 2, 3, 18, 19, 20, 8, 21, 22, 23, 24, 25, 26, 27, 28, 29, 30, 31, 32, 33, 34, 35, 36, 37, 38, 39, 40, 41, 42, 43, 44, 45, 46, 47, 48, 49, 50, 51, 52, 53, 54, 55, 56, 57, 58] (by decide +kernel) (by decide +kernel)
set_option maxRecDepth 20000 in
theorem gX6_nextOf_X6_palmsBy : GoodIn wsX6_nextOf (wsV RX6 130 RX6 yX6_palmsBy wsX6_palmsBy) := goodIn_app (goodIn_of _ (by decide +kernel)) ggX6_nextOf_X6_palmsBy
theorem dX6_nextOf_0 : decode cX6_nextOf 0 = .ok (.aload_n 0, 1) := by decide +kernel
theorem dX6_nextOf_1 : decode cX6_nextOf 1 = .ok (.aload_n 0, 1) := by decide +kernel
theorem dX6_nextOf_2 : decode cX6_nextOf 2 = .ok (.getfield 28, 3) := by decide +kernel
theorem dX6_nextOf_5 : decode cX6_nextOf 5 = .ok (.iload_n 1, 1) := by decide +kernel
theorem dX6_nextOf_6 : decode cX6_nextOf 6 = .ok (.invokevirtual 112, 3) := by decide +kernel
theorem dX6_nextOf_9 : decode cX6_nextOf 9 = .ok (.ifCond .eq 5, 3) := by decide +kernel
theorem dX6_nextOf_12 : decode cX6_nextOf 12 = .ok (.iconst 0, 1) := by decide +kernel
theorem dX6_nextOf_13 : decode cX6_nextOf 13 = .ok (.ireturn, 1) := by decide +kernel
theorem dX6_nextOf_14 : decode cX6_nextOf 14 = .ok (.aload_n 0, 1) := by decide +kernel
theorem dX6_nextOf_15 : decode cX6_nextOf 15 = .ok (.getfield 31, 3) := by decide +kernel
theorem dX6_nextOf_18 : decode cX6_nextOf 18 = .ok (.iload_n 1, 1) := by decide +kernel
theorem dX6_nextOf_19 : decode cX6_nextOf 19 = .ok (.iaload, 1) := by decide +kernel
theorem dX6_nextOf_20 : decode cX6_nextOf 20 = .ok (.ifCond .ne 5, 3) := by decide +kernel
theorem dX6_nextOf_23 : decode cX6_nextOf 23 = .ok (.iconst 3, 1) := by decide +kernel
theorem dX6_nextOf_24 : decode cX6_nextOf 24 = .ok (.ireturn, 1) := by decide +kernel
theorem dX6_nextOf_25 : decode cX6_nextOf 25 = .ok (.aload_n 0, 1) := by decide +kernel
theorem dX6_nextOf_26 : decode cX6_nextOf 26 = .ok (.iload_n 1, 1) := by decide +kernel
theorem dX6_nextOf_27 : decode cX6_nextOf 27 = .ok (.invokevirtual 127, 3) := by decide +kernel
theorem dX6_nextOf_30 : decode cX6_nextOf 30 = .ok (.ifCond .eq 10, 3) := by decide +kernel
theorem dX6_nextOf_33 : decode cX6_nextOf 33 = .ok (.aload_n 0, 1) := by decide +kernel
theorem dX6_nextOf_34 : decode cX6_nextOf 34 = .ok (.getfield 31, 3) := by decide +kernel
theorem dX6_nextOf_37 : decode cX6_nextOf 37 = .ok (.iload_n 1, 1) := by decide +kernel
theorem dX6_nextOf_38 : decode cX6_nextOf 38 = .ok (.iaload, 1) := by decide +kernel
theorem dX6_nextOf_39 : decode cX6_nextOf 39 = .ok (.ireturn, 1) := by decide +kernel
theorem dX6_nextOf_40 : decode cX6_nextOf 40 = .ok (.aload_n 0, 1) := by decide +kernel
theorem dX6_nextOf_41 : decode cX6_nextOf 41 = .ok (.getfield 16, 3) := by decide +kernel
theorem dX6_nextOf_44 : decode cX6_nextOf 44 = .ok (.iconst 3, 1) := by decide +kernel
theorem dX6_nextOf_45 : decode cX6_nextOf 45 = .ok (.iload_n 1, 1) := by decide +kernel
theorem dX6_nextOf_46 : decode cX6_nextOf 46 = .ok (.imul, 1) := by decide +kernel
theorem dX6_nextOf_47 : decode cX6_nextOf 47 = .ok (.iaload, 1) := by decide +kernel
theorem dX6_nextOf_48 : decode cX6_nextOf 48 = .ok (.iconst 2, 1) := by decide +kernel
theorem dX6_nextOf_49 : decode cX6_nextOf 49 = .ok (.if_icmp .ne 13, 3) := by decide +kernel
theorem dX6_nextOf_52 : decode cX6_nextOf 52 = .ok (.iload_n 1, 1) := by decide +kernel
theorem dX6_nextOf_53 : decode cX6_nextOf 53 = .ok (.aload_n 0, 1) := by decide +kernel
theorem dX6_nextOf_54 : decode cX6_nextOf 54 = .ok (.getfield 124, 3) := by decide +kernel
theorem dX6_nextOf_57 : decode cX6_nextOf 57 = .ok (.if_icmp .ge 5, 3) := by decide +kernel
theorem dX6_nextOf_60 : decode cX6_nextOf 60 = .ok (.iconst 2, 1) := by decide +kernel
theorem dX6_nextOf_61 : decode cX6_nextOf 61 = .ok (.ireturn, 1) := by decide +kernel
theorem dX6_nextOf_62 : decode cX6_nextOf 62 = .ok (.aload_n 0, 1) := by decide +kernel
theorem dX6_nextOf_63 : decode cX6_nextOf 63 = .ok (.iload_n 1, 1) := by decide +kernel
theorem dX6_nextOf_64 : decode cX6_nextOf 64 = .ok (.iconst 0, 1) := by decide +kernel
theorem dX6_nextOf_65 : decode cX6_nextOf 65 = .ok (.invokevirtual 130, 3) := by decide +kernel
theorem dX6_nextOf_68 : decode cX6_nextOf 68 = .ok (.istore_n 2, 1) := by decide +kernel
theorem dX6_nextOf_69 : decode cX6_nextOf 69 = .ok (.aload_n 0, 1) := by decide +kernel
theorem dX6_nextOf_70 : decode cX6_nextOf 70 = .ok (.iload_n 1, 1) := by decide +kernel
theorem dX6_nextOf_71 : decode cX6_nextOf 71 = .ok (.iconst 1, 1) := by decide +kernel
theorem dX6_nextOf_72 : decode cX6_nextOf 72 = .ok (.invokevirtual 130, 3) := by decide +kernel
theorem dX6_nextOf_75 : decode cX6_nextOf 75 = .ok (.istore_n 3, 1) := by decide +kernel
theorem dX6_nextOf_76 : decode cX6_nextOf 76 = .ok (.iload_n 2, 1) := by decide +kernel
theorem dX6_nextOf_77 : decode cX6_nextOf 77 = .ok (.iload_n 3, 1) := by decide +kernel
theorem dX6_nextOf_78 : decode cX6_nextOf 78 = .ok (.if_icmp .le 7, 3) := by decide +kernel
theorem dX6_nextOf_81 : decode cX6_nextOf 81 = .ok (.iconst 1, 1) := by decide +kernel
theorem dX6_nextOf_82 : decode cX6_nextOf 82 = .ok (.goto 34, 3) := by decide +kernel
theorem dX6_nextOf_85 : decode cX6_nextOf 85 = .ok (.iload_n 3, 1) := by decide +kernel
theorem dX6_nextOf_86 : decode cX6_nextOf 86 = .ok (.iload_n 2, 1) := by decide +kernel
theorem dX6_nextOf_87 : decode cX6_nextOf 87 = .ok (.if_icmp .le 7, 3) := by decide +kernel
theorem dX6_nextOf_90 : decode cX6_nextOf 90 = .ok (.iconst 2, 1) := by decide +kernel
theorem dX6_nextOf_91 : decode cX6_nextOf 91 = .ok (.goto 25, 3) := by decide +kernel
theorem dX6_nextOf_94 : decode cX6_nextOf 94 = .ok (.aload_n 0, 1) := by decide +kernel
theorem dX6_nextOf_95 : decode cX6_nextOf 95 = .ok (.getfield 16, 3) := by decide +kernel
theorem dX6_nextOf_98 : decode cX6_nextOf 98 = .ok (.iconst 3, 1) := by decide +kernel
theorem dX6_nextOf_99 : decode cX6_nextOf 99 = .ok (.iload_n 1, 1) := by decide +kernel
theorem dX6_nextOf_100 : decode cX6_nextOf 100 = .ok (.imul, 1) := by decide +kernel
theorem dX6_nextOf_101 : decode cX6_nextOf 101 = .ok (.iaload, 1) := by decide +kernel
theorem dX6_nextOf_102 : decode cX6_nextOf 102 = .ok (.iconst 3, 1) := by decide +kernel
theorem dX6_nextOf_103 : decode cX6_nextOf 103 = .ok (.if_icmp .ne 7, 3) := by decide +kernel
theorem dX6_nextOf_106 : decode cX6_nextOf 106 = .ok (.iconst 3, 1) := by decide +kernel
theorem dX6_nextOf_107 : decode cX6_nextOf 107 = .ok (.goto 9, 3) := by decide +kernel
theorem dX6_nextOf_110 : decode cX6_nextOf 110 = .ok (.aload_n 0, 1) := by decide +kernel
theorem dX6_nextOf_111 : decode cX6_nextOf 111 = .ok (.getfield 31, 3) := by decide +kernel
theorem dX6_nextOf_114 : decode cX6_nextOf 114 = .ok (.iload_n 1, 1) := by decide +kernel
theorem dX6_nextOf_115 : decode cX6_nextOf 115 = .ok (.iaload, 1) := by decide +kernel
theorem dX6_nextOf_116 : decode cX6_nextOf 116 = .ok (.ireturn, 1) := by decide +kernel
set_option maxRecDepth 20000 in
theorem ggX6_pass_X6_nextOf : GoodIn wsX6_pass wsX6_nextOf := goodIn_r _ [9, 4, 1, 10, 11, 12, 13, 14, 8, 15, 16, 17, 18, 19, 20, 21, 22, 23, 24, 25, 26, 27, 3, 28, 29, 30, 31, 32, 33, 34, 35, 36, 37, 38, 39, 40, 41, 42, 43, 44, 45, 46, 47, 48, 49, 50, 51, 52, 53, 54, 55, 56, 57, 58, 59, 60, 61, 62, 63] (by decide +kernel) (by decide +kernel)
set_option maxRecDepth 20000 in
theorem gX6_pass_X6_nextOf : GoodIn wsX6_pass (wsV RX6 133 RX6 yX6_nextOf wsX6_nextOf) := goodIn_app (goodIn_of _ (by decide +kernel)) ggX6_pass_X6_nextOf
theorem dX6_pass_0 : decode cX6_pass 0 = .ok (.iconst 0, 1) := by decide +kernel
theorem dX6_pass_1 : decode cX6_pass 1 = .ok (.istore_n 1, 1) := by decide +kernel
theorem dX6_pass_2 : decode cX6_pass 2 = .ok (.iload_n 1, 1) := by decide +kernel
theorem dX6_pass_3 : decode cX6_pass 3 = .ok (.bipush 8, 2) := by decide +kernel
theorem dX6_pass_5 : decode cX6_pass 5 = .ok (.if_icmp .ge 21, 3) := by decide +kernel
theorem dX6_pass_8 : decode cX6_pass 8 = .ok (.aload_n 0, 1) := by decide +kernel
theorem dX6_pass_9 : decode cX6_pass 9 = .ok (.getfield 31, 3) := by decide +kernel
theorem dX6_pass_12 : decode cX6_pass 12 = .ok (.iload_n 1, 1) := by decide +kernel
theorem dX6_pass_13 : decode cX6_pass 13 = .ok (.aload_n 0, 1) := by decide +kernel
theorem dX6_pass_14 : decode cX6_pass 14 = .ok (.getfield 25, 3) := by decide +kernel
theorem dX6_pass_17 : decode cX6_pass 17 = .ok (.iload_n 1, 1) := by decide +kernel
theorem dX6_pass_18 : decode cX6_pass 18 = .ok (.iaload, 1) := by decide +kernel
theorem dX6_pass_19 : decode cX6_pass 19 = .ok (.iastore, 1) := by decide +kernel
theorem dX6_pass_20 : decode cX6_pass 20 = .ok (.iinc 1 1, 3) := by decide +kernel
theorem dX6_pass_23 : decode cX6_pass 23 = .ok (.goto (-21), 3) := by decide +kernel
theorem dX6_pass_26 : decode cX6_pass 26 = .ok (.iconst 0, 1) := by decide +kernel
theorem dX6_pass_27 : decode cX6_pass 27 = .ok (.istore_n 1, 1) := by decide +kernel
theorem dX6_pass_28 : decode cX6_pass 28 = .ok (.iload_n 1, 1) := by decide +kernel
theorem dX6_pass_29 : decode cX6_pass 29 = .ok (.aload_n 0, 1) := by decide +kernel
theorem dX6_pass_30 : decode cX6_pass 30 = .ok (.getfield 84, 3) := by decide +kernel
theorem dX6_pass_33 : decode cX6_pass 33 = .ok (.if_icmp .ge 20, 3) := by decide +kernel
theorem dX6_pass_36 : decode cX6_pass 36 = .ok (.aload_n 0, 1) := by decide +kernel
theorem dX6_pass_37 : decode cX6_pass 37 = .ok (.getfield 25, 3) := by decide +kernel
theorem dX6_pass_40 : decode cX6_pass 40 = .ok (.iload_n 1, 1) := by decide +kernel
theorem dX6_pass_41 : decode cX6_pass 41 = .ok (.aload_n 0, 1) := by decide +kernel
theorem dX6_pass_42 : decode cX6_pass 42 = .ok (.iload_n 1, 1) := by decide +kernel
theorem dX6_pass_43 : decode cX6_pass 43 = .ok (.invokevirtual 133, 3) := by decide +kernel
theorem dX6_pass_46 : decode cX6_pass 46 = .ok (.iastore, 1) := by decide +kernel
theorem dX6_pass_47 : decode cX6_pass 47 = .ok (.iinc 1 1, 3) := by decide +kernel
theorem dX6_pass_50 : decode cX6_pass 50 = .ok (.goto (-22), 3) := by decide +kernel
theorem dX6_pass_53 : decode cX6_pass 53 = .ok (.iconst 0, 1) := by decide +kernel
theorem dX6_pass_54 : decode cX6_pass 54 = .ok (.istore_n 1, 1) := by decide +kernel
theorem dX6_pass_55 : decode cX6_pass 55 = .ok (.iload_n 1, 1) := by decide +kernel
theorem dX6_pass_56 : decode cX6_pass 56 = .ok (.aload_n 0, 1) := by decide +kernel
theorem dX6_pass_57 : decode cX6_pass 57 = .ok (.getfield 84, 3) := by decide +kernel
theorem dX6_pass_60 : decode cX6_pass 60 = .ok (.if_icmp .ge 36, 3) := by decide +kernel
theorem dX6_pass_63 : decode cX6_pass 63 = .ok (.aload_n 0, 1) := by decide +kernel
theorem dX6_pass_64 : decode cX6_pass 64 = .ok (.getfield 28, 3) := by decide +kernel
theorem dX6_pass_67 : decode cX6_pass 67 = .ok (.iload_n 1, 1) := by decide +kernel
theorem dX6_pass_68 : decode cX6_pass 68 = .ok (.aload_n 0, 1) := by decide +kernel
theorem dX6_pass_69 : decode cX6_pass 69 = .ok (.getfield 25, 3) := by decide +kernel
theorem dX6_pass_72 : decode cX6_pass 72 = .ok (.iload_n 1, 1) := by decide +kernel
theorem dX6_pass_73 : decode cX6_pass 73 = .ok (.iaload, 1) := by decide +kernel
theorem dX6_pass_74 : decode cX6_pass 74 = .ok (.ifCond .ne 7, 3) := by decide +kernel
theorem dX6_pass_77 : decode cX6_pass 77 = .ok (.iconst 0, 1) := by decide +kernel
theorem dX6_pass_78 : decode cX6_pass 78 = .ok (.goto 11, 3) := by decide +kernel
theorem dX6_pass_81 : decode cX6_pass 81 = .ok (.aload_n 0, 1) := by decide +kernel
theorem dX6_pass_82 : decode cX6_pass 82 = .ok (.getfield 28, 3) := by decide +kernel
theorem dX6_pass_85 : decode cX6_pass 85 = .ok (.iload_n 1, 1) := by decide +kernel
theorem dX6_pass_86 : decode cX6_pass 86 = .ok (.iaload, 1) := by decide +kernel
theorem dX6_pass_87 : decode cX6_pass 87 = .ok (.iconst 1, 1) := by decide +kernel
theorem dX6_pass_88 : decode cX6_pass 88 = .ok (.iadd, 1) := by decide +kernel
theorem dX6_pass_89 : decode cX6_pass 89 = .ok (.iastore, 1) := by decide +kernel
theorem dX6_pass_90 : decode cX6_pass 90 = .ok (.iinc 1 1, 3) := by decide +kernel
theorem dX6_pass_93 : decode cX6_pass 93 = .ok (.goto (-38), 3) := by decide +kernel
theorem dX6_pass_96 : decode cX6_pass 96 = .ok (.return_, 1) := by decide +kernel
set_option maxRecDepth 20000 in
theorem ggX6_passAll_X6_pass : GoodIn wsX6_passAll wsX6_pass := goodIn_r _ [5, 6, 7, 8, 9, 10, 11, 12, 4, 13, 14, 15, 16, 17, 18, 19, 20, 21, 22, 23, 24, 25, 26, 27, 28, 29, 30, 31, 32, 33, 34, 35, 36, 37, 38, 39, 40, 41, 42, 43, 44, 45, 46, 47, 48, 49, 50, 51, 52, 53, 54, 55, 56, 57, 58, 59, 60, 61, 62, 63, 64, 65, 66, 67] (by decide +kernel) (by decide +kernel)
set_option maxRecDepth 20000 in
theorem gX6_passAll_X6_pass : GoodIn wsX6_passAll (wsV RX6 136 RX6 yX6_pass wsX6_pass) := goodIn_app (goodIn_of _ (by decide +kernel)) ggX6_passAll_X6_pass
theorem dX6_passAll_0 : decode cX6_passAll 0 = .ok (.iconst 0, 1) := by decide +kernel
theorem dX6_passAll_1 : decode cX6_passAll 1 = .ok (.istore_n 2, 1) := by decide +kernel
theorem dX6_passAll_2 : decode cX6_passAll 2 = .ok (.iload_n 2, 1) := by decide +kernel
theorem dX6_passAll_3 : decode cX6_passAll 3 = .ok (.iload_n 1, 1) := by decide +kernel
theorem dX6_passAll_4 : decode cX6_passAll 4 = .ok (.if_icmp .ge 13, 3) := by decide +kernel
theorem dX6_passAll_7 : decode cX6_passAll 7 = .ok (.aload_n 0, 1) := by decide +kernel
theorem dX6_passAll_8 : decode cX6_passAll 8 = .ok (.invokevirtual 136, 3) := by decide +kernel
theorem dX6_passAll_11 : decode cX6_passAll 11 = .ok (.iinc 2 1, 3) := by decide +kernel
theorem dX6_passAll_14 : decode cX6_passAll 14 = .ok (.goto (-12), 3) := by decide +kernel
theorem dX6_passAll_17 : decode cX6_passAll 17 = .ok (.return_, 1) := by decide +kernel
theorem dX6_leaveOut_0 : decode cX6_leaveOut 0 = .ok (.iconst 0, 1) := by decide +kernel
theorem dX6_leaveOut_1 : decode cX6_leaveOut 1 = .ok (.istore_n 1, 1) := by decide +kernel
theorem dX6_leaveOut_2 : decode cX6_leaveOut 2 = .ok (.iload_n 1, 1) := by decide +kernel
theorem dX6_leaveOut_3 : decode cX6_leaveOut 3 = .ok (.aload_n 0, 1) := by decide +kernel
theorem dX6_leaveOut_4 : decode cX6_leaveOut 4 = .ok (.getfield 84, 3) := by decide +kernel
theorem dX6_leaveOut_7 : decode cX6_leaveOut 7 = .ok (.if_icmp .ge 61, 3) := by decide +kernel
theorem dX6_leaveOut_10 : decode cX6_leaveOut 10 = .ok (.aload_n 0, 1) := by decide +kernel
theorem dX6_leaveOut_11 : decode cX6_leaveOut 11 = .ok (.getfield 16, 3) := by decide +kernel
theorem dX6_leaveOut_14 : decode cX6_leaveOut 14 = .ok (.iconst 3, 1) := by decide +kernel
theorem dX6_leaveOut_15 : decode cX6_leaveOut 15 = .ok (.iload_n 1, 1) := by decide +kernel
theorem dX6_leaveOut_16 : decode cX6_leaveOut 16 = .ok (.imul, 1) := by decide +kernel
theorem dX6_leaveOut_17 : decode cX6_leaveOut 17 = .ok (.iaload, 1) := by decide +kernel
theorem dX6_leaveOut_18 : decode cX6_leaveOut 18 = .ok (.iconst 1, 1) := by decide +kernel
theorem dX6_leaveOut_19 : decode cX6_leaveOut 19 = .ok (.if_icmp .eq 43, 3) := by decide +kernel
theorem dX6_leaveOut_22 : decode cX6_leaveOut 22 = .ok (.aload_n 0, 1) := by decide +kernel
theorem dX6_leaveOut_23 : decode cX6_leaveOut 23 = .ok (.getfield 25, 3) := by decide +kernel
theorem dX6_leaveOut_26 : decode cX6_leaveOut 26 = .ok (.iload_n 1, 1) := by decide +kernel
theorem dX6_leaveOut_27 : decode cX6_leaveOut 27 = .ok (.aload_n 0, 1) := by decide +kernel
theorem dX6_leaveOut_28 : decode cX6_leaveOut 28 = .ok (.getfield 25, 3) := by decide +kernel
theorem dX6_leaveOut_31 : decode cX6_leaveOut 31 = .ok (.iload_n 1, 1) := by decide +kernel
theorem dX6_leaveOut_32 : decode cX6_leaveOut 32 = .ok (.iaload, 1) := by decide +kernel
theorem dX6_leaveOut_33 : decode cX6_leaveOut 33 = .ok (.iconst 1, 1) := by decide +kernel
theorem dX6_leaveOut_34 : decode cX6_leaveOut 34 = .ok (.if_icmp .ne 7, 3) := by decide +kernel
theorem dX6_leaveOut_37 : decode cX6_leaveOut 37 = .ok (.iconst 2, 1) := by decide +kernel
theorem dX6_leaveOut_38 : decode cX6_leaveOut 38 = .ok (.goto 23, 3) := by decide +kernel
theorem dX6_leaveOut_41 : decode cX6_leaveOut 41 = .ok (.aload_n 0, 1) := by decide +kernel
theorem dX6_leaveOut_42 : decode cX6_leaveOut 42 = .ok (.getfield 25, 3) := by decide +kernel
theorem dX6_leaveOut_45 : decode cX6_leaveOut 45 = .ok (.iload_n 1, 1) := by decide +kernel
theorem dX6_leaveOut_46 : decode cX6_leaveOut 46 = .ok (.iaload, 1) := by decide +kernel
theorem dX6_leaveOut_47 : decode cX6_leaveOut 47 = .ok (.iconst 2, 1) := by decide +kernel
theorem dX6_leaveOut_48 : decode cX6_leaveOut 48 = .ok (.if_icmp .ne 7, 3) := by decide +kernel
theorem dX6_leaveOut_51 : decode cX6_leaveOut 51 = .ok (.iconst 1, 1) := by decide +kernel
theorem dX6_leaveOut_52 : decode cX6_leaveOut 52 = .ok (.goto 9, 3) := by decide +kernel
theorem dX6_leaveOut_55 : decode cX6_leaveOut 55 = .ok (.aload_n 0, 1) := by decide +kernel
theorem dX6_leaveOut_56 : decode cX6_leaveOut 56 = .ok (.getfield 25, 3) := by decide +kernel
theorem dX6_leaveOut_59 : decode cX6_leaveOut 59 = .ok (.iload_n 1, 1) := by decide +kernel
theorem dX6_leaveOut_60 : decode cX6_leaveOut 60 = .ok (.iaload, 1) := by decide +kernel
theorem dX6_leaveOut_61 : decode cX6_leaveOut 61 = .ok (.iastore, 1) := by decide +kernel
theorem dX6_leaveOut_62 : decode cX6_leaveOut 62 = .ok (.iinc 1 1, 3) := by decide +kernel
theorem dX6_leaveOut_65 : decode cX6_leaveOut 65 = .ok (.goto (-63), 3) := by decide +kernel
theorem dX6_leaveOut_68 : decode cX6_leaveOut 68 = .ok (.return_, 1) := by decide +kernel
theorem dX6_makes_0 : decode cX6_makes 0 = .ok (.aload_n 0, 1) := by decide +kernel
theorem dX6_makes_1 : decode cX6_makes 1 = .ok (.getfield 25, 3) := by decide +kernel
theorem dX6_makes_4 : decode cX6_makes 4 = .ok (.iload_n 1, 1) := by decide +kernel
theorem dX6_makes_5 : decode cX6_makes 5 = .ok (.iload_n 2, 1) := by decide +kernel
theorem dX6_makes_6 : decode cX6_makes 6 = .ok (.iastore, 1) := by decide +kernel
theorem dX6_makes_7 : decode cX6_makes 7 = .ok (.aload_n 0, 1) := by decide +kernel
theorem dX6_makes_8 : decode cX6_makes 8 = .ok (.getfield 28, 3) := by decide +kernel
theorem dX6_makes_11 : decode cX6_makes 11 = .ok (.iload_n 1, 1) := by decide +kernel
theorem dX6_makes_12 : decode cX6_makes 12 = .ok (.iload_n 2, 1) := by decide +kernel
theorem dX6_makes_13 : decode cX6_makes 13 = .ok (.ifCond .ne 7, 3) := by decide +kernel
theorem dX6_makes_16 : decode cX6_makes 16 = .ok (.iconst 0, 1) := by decide +kernel
theorem dX6_makes_17 : decode cX6_makes 17 = .ok (.goto 9, 3) := by decide +kernel
theorem dX6_makes_20 : decode cX6_makes 20 = .ok (.aload_n 0, 1) := by decide +kernel
theorem dX6_makes_21 : decode cX6_makes 21 = .ok (.getfield 28, 3) := by decide +kernel
theorem dX6_makes_24 : decode cX6_makes 24 = .ok (.iload_n 1, 1) := by decide +kernel
theorem dX6_makes_25 : decode cX6_makes 25 = .ok (.iaload, 1) := by decide +kernel
theorem dX6_makes_26 : decode cX6_makes 26 = .ok (.iastore, 1) := by decide +kernel
theorem dX6_makes_27 : decode cX6_makes 27 = .ok (.return_, 1) := by decide +kernel
theorem dX6_rightNow_0 : decode cX6_rightNow 0 = .ok (.iconst 0, 1) := by decide +kernel
theorem dX6_rightNow_1 : decode cX6_rightNow 1 = .ok (.istore_n 1, 1) := by decide +kernel
theorem dX6_rightNow_2 : decode cX6_rightNow 2 = .ok (.iconst 0, 1) := by decide +kernel
theorem dX6_rightNow_3 : decode cX6_rightNow 3 = .ok (.istore_n 2, 1) := by decide +kernel
theorem dX6_rightNow_4 : decode cX6_rightNow 4 = .ok (.iload_n 2, 1) := by decide +kernel
theorem dX6_rightNow_5 : decode cX6_rightNow 5 = .ok (.aload_n 0, 1) := by decide +kernel
theorem dX6_rightNow_6 : decode cX6_rightNow 6 = .ok (.getfield 84, 3) := by decide +kernel
theorem dX6_rightNow_9 : decode cX6_rightNow 9 = .ok (.if_icmp .ge 36, 3) := by decide +kernel
