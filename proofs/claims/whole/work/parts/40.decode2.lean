theorem d_Md_init_0 : decode c_Md_init 0 = .ok (.aload_n 0, 1) := by decide +kernel
theorem d_Md_init_1 : decode c_Md_init 1 = .ok (.invokespecial 1, 3) := by decide +kernel
theorem d_Md_init_4 : decode c_Md_init 4 = .ok (.aload_n 0, 1) := by decide +kernel
theorem d_Md_init_5 : decode c_Md_init 5 = .ok (.bipush 40, 2) := by decide +kernel
theorem d_Md_init_7 : decode c_Md_init 7 = .ok (.newarray .char, 2) := by decide +kernel
theorem d_Md_init_9 : decode c_Md_init 9 = .ok (.putfield 7, 3) := by decide +kernel
theorem d_Md_init_12 : decode c_Md_init 12 = .ok (.aload_n 0, 1) := by decide +kernel
theorem d_Md_init_13 : decode c_Md_init 13 = .ok (.iconst (-1), 1) := by decide +kernel
theorem d_Md_init_14 : decode c_Md_init 14 = .ok (.putfield 13, 3) := by decide +kernel
theorem d_Md_init_17 : decode c_Md_init 17 = .ok (.aload_n 0, 1) := by decide +kernel
theorem d_Md_init_18 : decode c_Md_init 18 = .ok (.bipush 16, 2) := by decide +kernel
theorem d_Md_init_20 : decode c_Md_init 20 = .ok (.newarray .char, 2) := by decide +kernel
theorem d_Md_init_22 : decode c_Md_init 22 = .ok (.putfield 17, 3) := by decide +kernel
theorem d_Md_init_25 : decode c_Md_init 25 = .ok (.aload_n 0, 1) := by decide +kernel
theorem d_Md_init_26 : decode c_Md_init 26 = .ok (.bipush 16, 2) := by decide +kernel
theorem d_Md_init_28 : decode c_Md_init 28 = .ok (.newarray .boolean, 2) := by decide +kernel
theorem d_Md_init_30 : decode c_Md_init 30 = .ok (.putfield 20, 3) := by decide +kernel
theorem d_Md_init_33 : decode c_Md_init 33 = .ok (.aload_n 0, 1) := by decide +kernel
theorem d_Md_init_34 : decode c_Md_init 34 = .ok (.bipush 16, 2) := by decide +kernel
theorem d_Md_init_36 : decode c_Md_init 36 = .ok (.newarray .boolean, 2) := by decide +kernel
theorem d_Md_init_38 : decode c_Md_init 38 = .ok (.putfield 24, 3) := by decide +kernel
theorem d_Md_init_41 : decode c_Md_init 41 = .ok (.aload_n 0, 1) := by decide +kernel
theorem d_Md_init_42 : decode c_Md_init 42 = .ok (.bipush 16, 2) := by decide +kernel
theorem d_Md_init_44 : decode c_Md_init 44 = .ok (.newarray .int, 2) := by decide +kernel
theorem d_Md_init_46 : decode c_Md_init 46 = .ok (.putfield 27, 3) := by decide +kernel
theorem d_Md_init_49 : decode c_Md_init 49 = .ok (.aload_n 0, 1) := by decide +kernel
theorem d_Md_init_50 : decode c_Md_init 50 = .ok (.bipush 16, 2) := by decide +kernel
theorem d_Md_init_52 : decode c_Md_init 52 = .ok (.newarray .boolean, 2) := by decide +kernel
theorem d_Md_init_54 : decode c_Md_init 54 = .ok (.putfield 31, 3) := by decide +kernel
theorem d_Md_init_57 : decode c_Md_init 57 = .ok (.aload_n 0, 1) := by decide +kernel
theorem d_Md_init_58 : decode c_Md_init 58 = .ok (.bipush 16, 2) := by decide +kernel
theorem d_Md_init_60 : decode c_Md_init 60 = .ok (.newarray .int, 2) := by decide +kernel
theorem d_Md_init_62 : decode c_Md_init 62 = .ok (.putfield 34, 3) := by decide +kernel
theorem d_Md_init_65 : decode c_Md_init 65 = .ok (.aload_n 0, 1) := by decide +kernel
theorem d_Md_init_66 : decode c_Md_init 66 = .ok (.bipush 8, 2) := by decide +kernel
theorem d_Md_init_68 : decode c_Md_init 68 = .ok (.newarray .int, 2) := by decide +kernel
theorem d_Md_init_70 : decode c_Md_init 70 = .ok (.putfield 37, 3) := by decide +kernel
theorem d_Md_init_73 : decode c_Md_init 73 = .ok (.aload_n 0, 1) := by decide +kernel
theorem d_Md_init_74 : decode c_Md_init 74 = .ok (.sipush 520, 3) := by decide +kernel
theorem d_Md_init_77 : decode c_Md_init 77 = .ok (.newarray .char, 2) := by decide +kernel
theorem d_Md_init_79 : decode c_Md_init 79 = .ok (.putfield 40, 3) := by decide +kernel
theorem d_Md_init_82 : decode c_Md_init 82 = .ok (.aload_n 0, 1) := by decide +kernel
theorem d_Md_init_83 : decode c_Md_init 83 = .ok (.sipush 520, 3) := by decide +kernel
theorem d_Md_init_86 : decode c_Md_init 86 = .ok (.newarray .int, 2) := by decide +kernel
theorem d_Md_init_88 : decode c_Md_init 88 = .ok (.putfield 43, 3) := by decide +kernel
theorem d_Md_init_91 : decode c_Md_init 91 = .ok (.aload_n 0, 1) := by decide +kernel
theorem d_Md_init_92 : decode c_Md_init 92 = .ok (.sipush 520, 3) := by decide +kernel
theorem d_Md_init_95 : decode c_Md_init 95 = .ok (.newarray .int, 2) := by decide +kernel
theorem d_Md_init_97 : decode c_Md_init 97 = .ok (.putfield 46, 3) := by decide +kernel
theorem d_Md_init_100 : decode c_Md_init 100 = .ok (.aload_n 0, 1) := by decide +kernel
theorem d_Md_init_101 : decode c_Md_init 101 = .ok (.sipush 520, 3) := by decide +kernel
theorem d_Md_init_104 : decode c_Md_init 104 = .ok (.newarray .int, 2) := by decide +kernel
theorem d_Md_init_106 : decode c_Md_init 106 = .ok (.putfield 49, 3) := by decide +kernel
theorem d_Md_init_109 : decode c_Md_init 109 = .ok (.aload_n 0, 1) := by decide +kernel
theorem d_Md_init_110 : decode c_Md_init 110 = .ok (.bipush 75, 2) := by decide +kernel
theorem d_Md_init_112 : decode c_Md_init 112 = .ok (.newarray .int, 2) := by decide +kernel
theorem d_Md_init_114 : decode c_Md_init 114 = .ok (.putfield 52, 3) := by decide +kernel
theorem d_Md_init_117 : decode c_Md_init 117 = .ok (.aload_n 0, 1) := by decide +kernel
theorem d_Md_init_118 : decode c_Md_init 118 = .ok (.bipush 75, 2) := by decide +kernel
theorem d_Md_init_120 : decode c_Md_init 120 = .ok (.newarray .int, 2) := by decide +kernel
theorem d_Md_init_122 : decode c_Md_init 122 = .ok (.putfield 55, 3) := by decide +kernel
theorem d_Md_init_125 : decode c_Md_init 125 = .ok (.aload_n 0, 1) := by decide +kernel
theorem d_Md_init_126 : decode c_Md_init 126 = .ok (.sipush 1800, 3) := by decide +kernel
theorem d_Md_init_129 : decode c_Md_init 129 = .ok (.newarray .int, 2) := by decide +kernel
theorem d_Md_init_131 : decode c_Md_init 131 = .ok (.putfield 58, 3) := by decide +kernel
theorem d_Md_init_134 : decode c_Md_init 134 = .ok (.aload_n 0, 1) := by decide +kernel
theorem d_Md_init_135 : decode c_Md_init 135 = .ok (.bipush 26, 2) := by decide +kernel
theorem d_Md_init_137 : decode c_Md_init 137 = .ok (.newarray .int, 2) := by decide +kernel
theorem d_Md_init_139 : decode c_Md_init 139 = .ok (.putfield 61, 3) := by decide +kernel
theorem d_Md_init_142 : decode c_Md_init 142 = .ok (.aload_n 0, 1) := by decide +kernel
theorem d_Md_init_143 : decode c_Md_init 143 = .ok (.sipush 624, 3) := by decide +kernel
theorem d_Md_init_146 : decode c_Md_init 146 = .ok (.newarray .int, 2) := by decide +kernel
theorem d_Md_init_148 : decode c_Md_init 148 = .ok (.putfield 64, 3) := by decide +kernel
theorem d_Md_init_151 : decode c_Md_init 151 = .ok (.return_, 1) := by decide +kernel
theorem d_Md_thrown_0 : decode c_Md_thrown 0 = .ok (.aload_n 0, 1) := by decide +kernel
theorem d_Md_thrown_1 : decode c_Md_thrown 1 = .ok (.getfield 67, 3) := by decide +kernel
theorem d_Md_thrown_4 : decode c_Md_thrown 4 = .ok (.ireturn, 1) := by decide +kernel
theorem d_Md_type_0 : decode c_Md_type 0 = .ok (.aload_n 0, 1) := by decide +kernel
theorem d_Md_type_1 : decode c_Md_type 1 = .ok (.iconst 0, 1) := by decide +kernel
theorem d_Md_type_2 : decode c_Md_type 2 = .ok (.putfield 67, 3) := by decide +kernel
theorem d_Md_type_5 : decode c_Md_type 5 = .ok (.iload_n 1, 1) := by decide +kernel
theorem d_Md_type_6 : decode c_Md_type 6 = .ok (.bipush 33, 2) := by decide +kernel
theorem d_Md_type_8 : decode c_Md_type 8 = .ok (.if_icmp .lt 18, 3) := by decide +kernel
theorem d_Md_type_11 : decode c_Md_type 11 = .ok (.iload_n 1, 1) := by decide +kernel
theorem d_Md_type_12 : decode c_Md_type 12 = .ok (.bipush 126, 2) := by decide +kernel
theorem d_Md_type_14 : decode c_Md_type 14 = .ok (.if_icmp .gt 12, 3) := by decide +kernel
theorem d_Md_type_17 : decode c_Md_type 17 = .ok (.aload_n 0, 1) := by decide +kernel
theorem d_Md_type_18 : decode c_Md_type 18 = .ok (.getfield 70, 3) := by decide +kernel
theorem d_Md_type_21 : decode c_Md_type 21 = .ok (.bipush 40, 2) := by decide +kernel
theorem d_Md_type_23 : decode c_Md_type 23 = .ok (.if_icmp .ne 5, 3) := by decide +kernel
theorem d_Md_type_26 : decode c_Md_type 26 = .ok (.iconst 0, 1) := by decide +kernel
theorem d_Md_type_27 : decode c_Md_type 27 = .ok (.ireturn, 1) := by decide +kernel
theorem d_Md_type_28 : decode c_Md_type 28 = .ok (.aload_n 0, 1) := by decide +kernel
theorem d_Md_type_29 : decode c_Md_type 29 = .ok (.getfield 7, 3) := by decide +kernel
theorem d_Md_type_32 : decode c_Md_type 32 = .ok (.aload_n 0, 1) := by decide +kernel
theorem d_Md_type_33 : decode c_Md_type 33 = .ok (.getfield 70, 3) := by decide +kernel
theorem d_Md_type_36 : decode c_Md_type 36 = .ok (.iload_n 1, 1) := by decide +kernel
theorem d_Md_type_37 : decode c_Md_type 37 = .ok (.castore, 1) := by decide +kernel
theorem d_Md_type_38 : decode c_Md_type 38 = .ok (.aload_n 0, 1) := by decide +kernel
theorem d_Md_type_39 : decode c_Md_type 39 = .ok (.dup, 1) := by decide +kernel
theorem d_Md_type_40 : decode c_Md_type 40 = .ok (.getfield 70, 3) := by decide +kernel
theorem d_Md_type_43 : decode c_Md_type 43 = .ok (.iconst 1, 1) := by decide +kernel
theorem d_Md_type_44 : decode c_Md_type 44 = .ok (.iadd, 1) := by decide +kernel
theorem d_Md_type_45 : decode c_Md_type 45 = .ok (.putfield 70, 3) := by decide +kernel
theorem d_Md_type_48 : decode c_Md_type 48 = .ok (.iconst 1, 1) := by decide +kernel
theorem d_Md_type_49 : decode c_Md_type 49 = .ok (.ireturn, 1) := by decide +kernel
theorem d_Md_wipe_0 : decode c_Md_wipe 0 = .ok (.aload_n 0, 1) := by decide +kernel
theorem d_Md_wipe_1 : decode c_Md_wipe 1 = .ok (.iconst 0, 1) := by decide +kernel
theorem d_Md_wipe_2 : decode c_Md_wipe 2 = .ok (.putfield 67, 3) := by decide +kernel
theorem d_Md_wipe_5 : decode c_Md_wipe 5 = .ok (.aload_n 0, 1) := by decide +kernel
theorem d_Md_wipe_6 : decode c_Md_wipe 6 = .ok (.iconst 0, 1) := by decide +kernel
theorem d_Md_wipe_7 : decode c_Md_wipe 7 = .ok (.putfield 70, 3) := by decide +kernel
theorem d_Md_wipe_10 : decode c_Md_wipe 10 = .ok (.return_, 1) := by decide +kernel
theorem d_Md_digit_0 : decode c_Md_digit 0 = .ok (.iload_n 0, 1) := by decide +kernel
theorem d_Md_digit_1 : decode c_Md_digit 1 = .ok (.bipush 48, 2) := by decide +kernel
theorem d_Md_digit_3 : decode c_Md_digit 3 = .ok (.if_icmp .lt 13, 3) := by decide +kernel
theorem d_Md_digit_6 : decode c_Md_digit 6 = .ok (.iload_n 0, 1) := by decide +kernel
theorem d_Md_digit_7 : decode c_Md_digit 7 = .ok (.bipush 57, 2) := by decide +kernel
theorem d_Md_digit_9 : decode c_Md_digit 9 = .ok (.if_icmp .gt 7, 3) := by decide +kernel
theorem d_Md_digit_12 : decode c_Md_digit 12 = .ok (.iconst 1, 1) := by decide +kernel
theorem d_Md_digit_13 : decode c_Md_digit 13 = .ok (.goto 4, 3) := by decide +kernel
theorem d_Md_digit_16 : decode c_Md_digit 16 = .ok (.iconst 0, 1) := by decide +kernel
theorem d_Md_digit_17 : decode c_Md_digit 17 = .ok (.ireturn, 1) := by decide +kernel
theorem d_Md_begin_0 : decode c_Md_begin 0 = .ok (.iload_n 1, 1) := by decide +kernel
theorem d_Md_begin_1 : decode c_Md_begin 1 = .ok (.bipush 65, 2) := by decide +kernel
theorem d_Md_begin_3 : decode c_Md_begin 3 = .ok (.if_icmp .lt 9, 3) := by decide +kernel
theorem d_Md_begin_6 : decode c_Md_begin 6 = .ok (.iload_n 1, 1) := by decide +kernel
theorem d_Md_begin_7 : decode c_Md_begin 7 = .ok (.bipush 70, 2) := by decide +kernel
theorem d_Md_begin_9 : decode c_Md_begin 9 = .ok (.if_icmp .le 9, 3) := by decide +kernel
theorem d_Md_begin_12 : decode c_Md_begin 12 = .ok (.iload_n 1, 1) := by decide +kernel
theorem d_Md_begin_13 : decode c_Md_begin 13 = .ok (.bipush 42, 2) := by decide +kernel
theorem d_Md_begin_15 : decode c_Md_begin 15 = .ok (.if_icmp .ne 7, 3) := by decide +kernel
theorem d_Md_begin_18 : decode c_Md_begin 18 = .ok (.iconst 1, 1) := by decide +kernel
theorem d_Md_begin_19 : decode c_Md_begin 19 = .ok (.goto 4, 3) := by decide +kernel
theorem d_Md_begin_22 : decode c_Md_begin 22 = .ok (.iconst 0, 1) := by decide +kernel
theorem d_Md_begin_23 : decode c_Md_begin 23 = .ok (.istore_n 3, 1) := by decide +kernel
theorem d_Md_begin_24 : decode c_Md_begin 24 = .ok (.iload_n 3, 1) := by decide +kernel
theorem d_Md_begin_25 : decode c_Md_begin 25 = .ok (.ifCond .ne 5, 3) := by decide +kernel
theorem d_Md_begin_28 : decode c_Md_begin 28 = .ok (.iconst 0, 1) := by decide +kernel
theorem d_Md_begin_29 : decode c_Md_begin 29 = .ok (.ireturn, 1) := by decide +kernel
theorem d_Md_begin_30 : decode c_Md_begin 30 = .ok (.bipush 8, 2) := by decide +kernel
theorem d_Md_begin_32 : decode c_Md_begin 32 = .ok (.aload_n 0, 1) := by decide +kernel
theorem d_Md_begin_33 : decode c_Md_begin 33 = .ok (.getfield 73, 3) := by decide +kernel
theorem d_Md_begin_36 : decode c_Md_begin 36 = .ok (.iadd, 1) := by decide +kernel
theorem d_Md_begin_37 : decode c_Md_begin 37 = .ok (.istore 4, 2) := by decide +kernel
theorem d_Md_begin_39 : decode c_Md_begin 39 = .ok (.aload_n 0, 1) := by decide +kernel
theorem d_Md_begin_40 : decode c_Md_begin 40 = .ok (.dup, 1) := by decide +kernel
theorem d_Md_begin_41 : decode c_Md_begin 41 = .ok (.getfield 73, 3) := by decide +kernel
theorem d_Md_begin_44 : decode c_Md_begin 44 = .ok (.iconst 1, 1) := by decide +kernel
theorem d_Md_begin_45 : decode c_Md_begin 45 = .ok (.iadd, 1) := by decide +kernel
theorem d_Md_begin_46 : decode c_Md_begin 46 = .ok (.putfield 73, 3) := by decide +kernel
theorem d_Md_begin_49 : decode c_Md_begin 49 = .ok (.aload_n 0, 1) := by decide +kernel
theorem d_Md_begin_50 : decode c_Md_begin 50 = .ok (.getfield 17, 3) := by decide +kernel
theorem d_Md_begin_53 : decode c_Md_begin 53 = .ok (.iload 4, 2) := by decide +kernel
theorem d_Md_begin_55 : decode c_Md_begin 55 = .ok (.iload_n 1, 1) := by decide +kernel
theorem d_Md_begin_56 : decode c_Md_begin 56 = .ok (.castore, 1) := by decide +kernel
theorem d_Md_begin_57 : decode c_Md_begin 57 = .ok (.aload_n 0, 1) := by decide +kernel
theorem d_Md_begin_58 : decode c_Md_begin 58 = .ok (.getfield 20, 3) := by decide +kernel
theorem d_Md_begin_61 : decode c_Md_begin 61 = .ok (.iload 4, 2) := by decide +kernel
theorem d_Md_begin_63 : decode c_Md_begin 63 = .ok (.iload_n 2, 1) := by decide +kernel
theorem d_Md_begin_64 : decode c_Md_begin 64 = .ok (.bastore, 1) := by decide +kernel
theorem d_Md_begin_65 : decode c_Md_begin 65 = .ok (.aload_n 0, 1) := by decide +kernel
theorem d_Md_begin_66 : decode c_Md_begin 66 = .ok (.getfield 24, 3) := by decide +kernel
theorem d_Md_begin_69 : decode c_Md_begin 69 = .ok (.iload 4, 2) := by decide +kernel
theorem d_Md_begin_71 : decode c_Md_begin 71 = .ok (.iconst 0, 1) := by decide +kernel
theorem d_Md_begin_72 : decode c_Md_begin 72 = .ok (.bastore, 1) := by decide +kernel
theorem d_Md_begin_73 : decode c_Md_begin 73 = .ok (.aload_n 0, 1) := by decide +kernel
theorem d_Md_begin_74 : decode c_Md_begin 74 = .ok (.getfield 27, 3) := by decide +kernel
theorem d_Md_begin_77 : decode c_Md_begin 77 = .ok (.iload 4, 2) := by decide +kernel
theorem d_Md_begin_79 : decode c_Md_begin 79 = .ok (.iconst 0, 1) := by decide +kernel
theorem d_Md_begin_80 : decode c_Md_begin 80 = .ok (.iastore, 1) := by decide +kernel
theorem d_Md_begin_81 : decode c_Md_begin 81 = .ok (.aload_n 0, 1) := by decide +kernel
theorem d_Md_begin_82 : decode c_Md_begin 82 = .ok (.getfield 31, 3) := by decide +kernel
theorem d_Md_begin_85 : decode c_Md_begin 85 = .ok (.iload 4, 2) := by decide +kernel
theorem d_Md_begin_87 : decode c_Md_begin 87 = .ok (.iconst 0, 1) := by decide +kernel
theorem d_Md_begin_88 : decode c_Md_begin 88 = .ok (.bastore, 1) := by decide +kernel
theorem d_Md_begin_89 : decode c_Md_begin 89 = .ok (.aload_n 0, 1) := by decide +kernel
theorem d_Md_begin_90 : decode c_Md_begin 90 = .ok (.getfield 34, 3) := by decide +kernel
theorem d_Md_begin_93 : decode c_Md_begin 93 = .ok (.iload 4, 2) := by decide +kernel
theorem d_Md_begin_95 : decode c_Md_begin 95 = .ok (.iconst 0, 1) := by decide +kernel
theorem d_Md_begin_96 : decode c_Md_begin 96 = .ok (.iastore, 1) := by decide +kernel
theorem d_Md_begin_97 : decode c_Md_begin 97 = .ok (.iconst 2, 1) := by decide +kernel
theorem d_Md_begin_98 : decode c_Md_begin 98 = .ok (.ireturn, 1) := by decide +kernel
theorem d_Md_after_0 : decode c_Md_after 0 = .ok (.bipush 7, 2) := by decide +kernel
theorem d_Md_after_2 : decode c_Md_after 2 = .ok (.aload_n 0, 1) := by decide +kernel
theorem d_Md_after_3 : decode c_Md_after 3 = .ok (.getfield 73, 3) := by decide +kernel
theorem d_Md_after_6 : decode c_Md_after 6 = .ok (.iadd, 1) := by decide +kernel
theorem d_Md_after_7 : decode c_Md_after 7 = .ok (.istore_n 2, 1) := by decide +kernel
theorem d_Md_after_8 : decode c_Md_after 8 = .ok (.aload_n 0, 1) := by decide +kernel
theorem d_Md_after_9 : decode c_Md_after 9 = .ok (.getfield 20, 3) := by decide +kernel
theorem d_Md_after_12 : decode c_Md_after 12 = .ok (.iload_n 2, 1) := by decide +kernel
theorem d_Md_after_13 : decode c_Md_after 13 = .ok (.baload, 1) := by decide +kernel
theorem d_Md_after_14 : decode c_Md_after 14 = .ok (.ifCond .ne 16, 3) := by decide +kernel
theorem d_Md_after_17 : decode c_Md_after 17 = .ok (.aload_n 0, 1) := by decide +kernel
theorem d_Md_after_18 : decode c_Md_after 18 = .ok (.getfield 24, 3) := by decide +kernel
theorem d_Md_after_21 : decode c_Md_after 21 = .ok (.iload_n 2, 1) := by decide +kernel
theorem d_Md_after_22 : decode c_Md_after 22 = .ok (.baload, 1) := by decide +kernel
theorem d_Md_after_23 : decode c_Md_after 23 = .ok (.ifCond .ne 7, 3) := by decide +kernel
theorem d_Md_after_26 : decode c_Md_after 26 = .ok (.iconst 1, 1) := by decide +kernel
theorem d_Md_after_27 : decode c_Md_after 27 = .ok (.goto 4, 3) := by decide +kernel
theorem d_Md_after_30 : decode c_Md_after 30 = .ok (.iconst 0, 1) := by decide +kernel
theorem d_Md_after_31 : decode c_Md_after 31 = .ok (.istore_n 3, 1) := by decide +kernel
theorem d_Md_after_32 : decode c_Md_after 32 = .ok (.iload_n 1, 1) := by decide +kernel
theorem d_Md_after_33 : decode c_Md_after 33 = .ok (.bipush 35, 2) := by decide +kernel
theorem d_Md_after_35 : decode c_Md_after 35 = .ok (.if_icmp .ne 19, 3) := by decide +kernel
theorem d_Md_after_38 : decode c_Md_after 38 = .ok (.aload_n 0, 1) := by decide +kernel
theorem d_Md_after_39 : decode c_Md_after 39 = .ok (.iload_n 3, 1) := by decide +kernel
theorem d_Md_after_40 : decode c_Md_after 40 = .ok (.putfield 76, 3) := by decide +kernel
theorem d_Md_after_43 : decode c_Md_after 43 = .ok (.iload_n 3, 1) := by decide +kernel
theorem d_Md_after_44 : decode c_Md_after 44 = .ok (.ifCond .eq 8, 3) := by decide +kernel
theorem d_Md_after_47 : decode c_Md_after 47 = .ok (.bipush 9, 2) := by decide +kernel
theorem d_Md_after_49 : decode c_Md_after 49 = .ok (.goto 4, 3) := by decide +kernel
theorem d_Md_after_52 : decode c_Md_after 52 = .ok (.iconst 0, 1) := by decide +kernel
theorem d_Md_after_53 : decode c_Md_after 53 = .ok (.ireturn, 1) := by decide +kernel
theorem d_Md_after_54 : decode c_Md_after 54 = .ok (.iload_n 1, 1) := by decide +kernel
theorem d_Md_after_55 : decode c_Md_after 55 = .ok (.bipush 64, 2) := by decide +kernel
theorem d_Md_after_57 : decode c_Md_after 57 = .ok (.if_icmp .ne 14, 3) := by decide +kernel
theorem d_Md_after_60 : decode c_Md_after 60 = .ok (.iload_n 3, 1) := by decide +kernel
theorem d_Md_after_61 : decode c_Md_after 61 = .ok (.ifCond .eq 8, 3) := by decide +kernel
theorem d_Md_after_64 : decode c_Md_after 64 = .ok (.bipush 10, 2) := by decide +kernel
theorem d_Md_after_66 : decode c_Md_after 66 = .ok (.goto 4, 3) := by decide +kernel
theorem d_Md_after_69 : decode c_Md_after 69 = .ok (.iconst 0, 1) := by decide +kernel
theorem d_Md_after_70 : decode c_Md_after 70 = .ok (.ireturn, 1) := by decide +kernel
theorem d_Md_after_71 : decode c_Md_after 71 = .ok (.aload_n 0, 1) := by decide +kernel
theorem d_Md_after_72 : decode c_Md_after 72 = .ok (.getfield 73, 3) := by decide +kernel
theorem d_Md_after_75 : decode c_Md_after 75 = .ok (.bipush 8, 2) := by decide +kernel
theorem d_Md_after_77 : decode c_Md_after 77 = .ok (.if_icmp .ne 5, 3) := by decide +kernel
theorem d_Md_after_80 : decode c_Md_after 80 = .ok (.iconst 0, 1) := by decide +kernel
theorem d_Md_after_81 : decode c_Md_after 81 = .ok (.ireturn, 1) := by decide +kernel
theorem d_Md_after_82 : decode c_Md_after 82 = .ok (.iload_n 1, 1) := by decide +kernel
theorem d_Md_after_83 : decode c_Md_after 83 = .ok (.bipush 33, 2) := by decide +kernel
theorem d_Md_after_85 : decode c_Md_after 85 = .ok (.if_icmp .ne 20, 3) := by decide +kernel
theorem d_Md_after_88 : decode c_Md_after 88 = .ok (.aload_n 0, 1) := by decide +kernel
theorem d_Md_after_89 : decode c_Md_after 89 = .ok (.getfield 73, 3) := by decide +kernel
theorem d_Md_after_92 : decode c_Md_after 92 = .ok (.bipush 7, 2) := by decide +kernel
theorem d_Md_after_94 : decode c_Md_after 94 = .ok (.if_icmp .ge 7, 3) := by decide +kernel
theorem d_Md_after_97 : decode c_Md_after 97 = .ok (.iconst 1, 1) := by decide +kernel
theorem d_Md_after_98 : decode c_Md_after 98 = .ok (.goto 13, 3) := by decide +kernel
theorem d_Md_after_101 : decode c_Md_after 101 = .ok (.iconst 0, 1) := by decide +kernel
theorem d_Md_after_102 : decode c_Md_after 102 = .ok (.goto 9, 3) := by decide +kernel
theorem d_Md_after_105 : decode c_Md_after 105 = .ok (.aload_n 0, 1) := by decide +kernel
theorem d_Md_after_106 : decode c_Md_after 106 = .ok (.iload_n 1, 1) := by decide +kernel
theorem d_Md_after_107 : decode c_Md_after 107 = .ok (.iconst 0, 1) := by decide +kernel
theorem d_Md_after_108 : decode c_Md_after 108 = .ok (.invokevirtual 80, 3) := by decide +kernel
theorem d_Md_after_111 : decode c_Md_after 111 = .ok (.ireturn, 1) := by decide +kernel
theorem d_Md_compare_0 : decode c_Md_compare 0 = .ok (.bipush 7, 2) := by decide +kernel
theorem d_Md_compare_2 : decode c_Md_compare 2 = .ok (.aload_n 0, 1) := by decide +kernel
theorem d_Md_compare_3 : decode c_Md_compare 3 = .ok (.getfield 73, 3) := by decide +kernel
theorem d_Md_compare_6 : decode c_Md_compare 6 = .ok (.iadd, 1) := by decide +kernel
theorem d_Md_compare_7 : decode c_Md_compare 7 = .ok (.istore_n 2, 1) := by decide +kernel
theorem d_Md_compare_8 : decode c_Md_compare 8 = .ok (.aload_n 0, 1) := by decide +kernel
theorem d_Md_compare_9 : decode c_Md_compare 9 = .ok (.getfield 27, 3) := by decide +kernel
theorem d_Md_compare_12 : decode c_Md_compare 12 = .ok (.iload_n 2, 1) := by decide +kernel
theorem d_Md_compare_13 : decode c_Md_compare 13 = .ok (.iload_n 1, 1) := by decide +kernel
theorem d_Md_compare_14 : decode c_Md_compare 14 = .ok (.bipush 60, 2) := by decide +kernel
theorem d_Md_compare_16 : decode c_Md_compare 16 = .ok (.if_icmp .ne 7, 3) := by decide +kernel
theorem d_Md_compare_19 : decode c_Md_compare 19 = .ok (.iconst 1, 1) := by decide +kernel
theorem d_Md_compare_20 : decode c_Md_compare 20 = .ok (.goto 24, 3) := by decide +kernel
theorem d_Md_compare_23 : decode c_Md_compare 23 = .ok (.iload_n 1, 1) := by decide +kernel
theorem d_Md_compare_24 : decode c_Md_compare 24 = .ok (.bipush 61, 2) := by decide +kernel
theorem d_Md_compare_26 : decode c_Md_compare 26 = .ok (.if_icmp .ne 7, 3) := by decide +kernel
theorem d_Md_compare_29 : decode c_Md_compare 29 = .ok (.iconst 2, 1) := by decide +kernel
theorem d_Md_compare_30 : decode c_Md_compare 30 = .ok (.goto 14, 3) := by decide +kernel
theorem d_Md_compare_33 : decode c_Md_compare 33 = .ok (.iload_n 1, 1) := by decide +kernel
theorem d_Md_compare_34 : decode c_Md_compare 34 = .ok (.bipush 62, 2) := by decide +kernel
theorem d_Md_compare_36 : decode c_Md_compare 36 = .ok (.if_icmp .ne 7, 3) := by decide +kernel
theorem d_Md_compare_39 : decode c_Md_compare 39 = .ok (.iconst 3, 1) := by decide +kernel
theorem d_Md_compare_40 : decode c_Md_compare 40 = .ok (.goto 4, 3) := by decide +kernel
theorem d_Md_compare_43 : decode c_Md_compare 43 = .ok (.iconst 0, 1) := by decide +kernel
theorem d_Md_compare_44 : decode c_Md_compare 44 = .ok (.iastore, 1) := by decide +kernel
theorem d_Md_compare_45 : decode c_Md_compare 45 = .ok (.aload_n 0, 1) := by decide +kernel
theorem d_Md_compare_46 : decode c_Md_compare 46 = .ok (.getfield 27, 3) := by decide +kernel
theorem d_Md_compare_49 : decode c_Md_compare 49 = .ok (.iload_n 2, 1) := by decide +kernel
theorem d_Md_compare_50 : decode c_Md_compare 50 = .ok (.iaload, 1) := by decide +kernel
theorem d_Md_compare_51 : decode c_Md_compare 51 = .ok (.ifCond .le 7, 3) := by decide +kernel
theorem d_Md_compare_54 : decode c_Md_compare 54 = .ok (.iconst 4, 1) := by decide +kernel
theorem d_Md_compare_55 : decode c_Md_compare 55 = .ok (.goto 8, 3) := by decide +kernel
theorem d_Md_compare_58 : decode c_Md_compare 58 = .ok (.aload_n 0, 1) := by decide +kernel
theorem d_Md_compare_59 : decode c_Md_compare 59 = .ok (.iload_n 1, 1) := by decide +kernel
theorem d_Md_compare_60 : decode c_Md_compare 60 = .ok (.invokevirtual 84, 3) := by decide +kernel
theorem d_Md_compare_63 : decode c_Md_compare 63 = .ok (.ireturn, 1) := by decide +kernel
theorem d_Md_figures_0 : decode c_Md_figures 0 = .ok (.bipush 7, 2) := by decide +kernel
theorem d_Md_figures_2 : decode c_Md_figures 2 = .ok (.aload_n 0, 1) := by decide +kernel
theorem d_Md_figures_3 : decode c_Md_figures 3 = .ok (.getfield 73, 3) := by decide +kernel
theorem d_Md_figures_6 : decode c_Md_figures 6 = .ok (.iadd, 1) := by decide +kernel
theorem d_Md_figures_7 : decode c_Md_figures 7 = .ok (.istore_n 2, 1) := by decide +kernel
theorem d_Md_figures_8 : decode c_Md_figures 8 = .ok (.bipush 10, 2) := by decide +kernel
theorem d_Md_figures_10 : decode c_Md_figures 10 = .ok (.aload_n 0, 1) := by decide +kernel
theorem d_Md_figures_11 : decode c_Md_figures 11 = .ok (.getfield 34, 3) := by decide +kernel
theorem d_Md_figures_14 : decode c_Md_figures 14 = .ok (.iload_n 2, 1) := by decide +kernel
theorem d_Md_figures_15 : decode c_Md_figures 15 = .ok (.iaload, 1) := by decide +kernel
theorem d_Md_figures_16 : decode c_Md_figures 16 = .ok (.ifCond .ge 13, 3) := by decide +kernel
theorem d_Md_figures_19 : decode c_Md_figures 19 = .ok (.aload_n 0, 1) := by decide +kernel
theorem d_Md_figures_20 : decode c_Md_figures 20 = .ok (.getfield 34, 3) := by decide +kernel
theorem d_Md_figures_23 : decode c_Md_figures 23 = .ok (.iload_n 2, 1) := by decide +kernel
theorem d_Md_figures_24 : decode c_Md_figures 24 = .ok (.iaload, 1) := by decide +kernel
theorem d_Md_figures_25 : decode c_Md_figures 25 = .ok (.ineg, 1) := by decide +kernel
theorem d_Md_figures_26 : decode c_Md_figures 26 = .ok (.goto 9, 3) := by decide +kernel
theorem d_Md_figures_29 : decode c_Md_figures 29 = .ok (.aload_n 0, 1) := by decide +kernel
theorem d_Md_figures_30 : decode c_Md_figures 30 = .ok (.getfield 34, 3) := by decide +kernel
theorem d_Md_figures_33 : decode c_Md_figures 33 = .ok (.iload_n 2, 1) := by decide +kernel
theorem d_Md_figures_34 : decode c_Md_figures 34 = .ok (.iaload, 1) := by decide +kernel
theorem d_Md_figures_35 : decode c_Md_figures 35 = .ok (.imul, 1) := by decide +kernel
theorem d_Md_figures_36 : decode c_Md_figures 36 = .ok (.iload_n 1, 1) := by decide +kernel
theorem d_Md_figures_37 : decode c_Md_figures 37 = .ok (.iadd, 1) := by decide +kernel
theorem d_Md_figures_38 : decode c_Md_figures 38 = .ok (.bipush 48, 2) := by decide +kernel
theorem d_Md_figures_40 : decode c_Md_figures 40 = .ok (.isub, 1) := by decide +kernel
theorem d_Md_figures_41 : decode c_Md_figures 41 = .ok (.istore_n 3, 1) := by decide +kernel
theorem d_Md_figures_42 : decode c_Md_figures 42 = .ok (.aload_n 0, 1) := by decide +kernel
theorem d_Md_figures_43 : decode c_Md_figures 43 = .ok (.getfield 34, 3) := by decide +kernel
theorem d_Md_figures_46 : decode c_Md_figures 46 = .ok (.iload_n 2, 1) := by decide +kernel
theorem d_Md_figures_47 : decode c_Md_figures 47 = .ok (.iload_n 3, 1) := by decide +kernel
theorem d_Md_figures_48 : decode c_Md_figures 48 = .ok (.iastore, 1) := by decide +kernel
theorem d_Md_figures_49 : decode c_Md_figures 49 = .ok (.iconst 0, 1) := by decide +kernel
theorem d_Md_figures_50 : decode c_Md_figures 50 = .ok (.ireturn, 1) := by decide +kernel
theorem d_Md_next_0 : decode c_Md_next 0 = .ok (.bipush 7, 2) := by decide +kernel
theorem d_Md_next_2 : decode c_Md_next 2 = .ok (.aload_n 0, 1) := by decide +kernel
theorem d_Md_next_3 : decode c_Md_next 3 = .ok (.getfield 73, 3) := by decide +kernel
theorem d_Md_next_6 : decode c_Md_next 6 = .ok (.iadd, 1) := by decide +kernel
theorem d_Md_next_7 : decode c_Md_next 7 = .ok (.istore_n 3, 1) := by decide +kernel
theorem d_Md_next_8 : decode c_Md_next 8 = .ok (.iload_n 1, 1) := by decide +kernel
theorem d_Md_next_9 : decode c_Md_next 9 = .ok (.tableswitch 355 0 14 #[75, 82, 89, 145, 151, 230, 262, 355, 355, 295, 308, 308, 308, 353, 262], 75) := by decide +kernel
theorem d_Md_next_84 : decode c_Md_next 84 = .ok (.aload_n 0, 1) := by decide +kernel
theorem d_Md_next_85 : decode c_Md_next 85 = .ok (.iload_n 2, 1) := by decide +kernel
theorem d_Md_next_86 : decode c_Md_next 86 = .ok (.iconst 0, 1) := by decide +kernel
theorem d_Md_next_87 : decode c_Md_next 87 = .ok (.invokevirtual 80, 3) := by decide +kernel
theorem d_Md_next_90 : decode c_Md_next 90 = .ok (.ireturn, 1) := by decide +kernel
theorem d_Md_next_91 : decode c_Md_next 91 = .ok (.aload_n 0, 1) := by decide +kernel
theorem d_Md_next_92 : decode c_Md_next 92 = .ok (.iload_n 2, 1) := by decide +kernel
theorem d_Md_next_93 : decode c_Md_next 93 = .ok (.iconst 1, 1) := by decide +kernel
theorem d_Md_next_94 : decode c_Md_next 94 = .ok (.invokevirtual 80, 3) := by decide +kernel
theorem d_Md_next_97 : decode c_Md_next 97 = .ok (.ireturn, 1) := by decide +kernel
theorem d_Md_next_98 : decode c_Md_next 98 = .ok (.iload_n 2, 1) := by decide +kernel
theorem d_Md_next_99 : decode c_Md_next 99 = .ok (.bipush 43, 2) := by decide +kernel
theorem d_Md_next_101 : decode c_Md_next 101 = .ok (.if_icmp .ne 47, 3) := by decide +kernel
theorem d_Md_next_104 : decode c_Md_next 104 = .ok (.aload_n 0, 1) := by decide +kernel
theorem d_Md_next_105 : decode c_Md_next 105 = .ok (.getfield 24, 3) := by decide +kernel
theorem d_Md_next_108 : decode c_Md_next 108 = .ok (.iload_n 3, 1) := by decide +kernel
theorem d_Md_next_109 : decode c_Md_next 109 = .ok (.aload_n 0, 1) := by decide +kernel
theorem d_Md_next_110 : decode c_Md_next 110 = .ok (.getfield 20, 3) := by decide +kernel
theorem d_Md_next_113 : decode c_Md_next 113 = .ok (.iload_n 3, 1) := by decide +kernel
theorem d_Md_next_114 : decode c_Md_next 114 = .ok (.baload, 1) := by decide +kernel
theorem d_Md_next_115 : decode c_Md_next 115 = .ok (.ifCond .ne 16, 3) := by decide +kernel
theorem d_Md_next_118 : decode c_Md_next 118 = .ok (.aload_n 0, 1) := by decide +kernel
theorem d_Md_next_119 : decode c_Md_next 119 = .ok (.getfield 73, 3) := by decide +kernel
theorem d_Md_next_122 : decode c_Md_next 122 = .ok (.bipush 8, 2) := by decide +kernel
theorem d_Md_next_124 : decode c_Md_next 124 = .ok (.if_icmp .ge 7, 3) := by decide +kernel
theorem d_Md_next_127 : decode c_Md_next 127 = .ok (.iconst 1, 1) := by decide +kernel
theorem d_Md_next_128 : decode c_Md_next 128 = .ok (.goto 4, 3) := by decide +kernel
theorem d_Md_next_131 : decode c_Md_next 131 = .ok (.iconst 0, 1) := by decide +kernel
theorem d_Md_next_132 : decode c_Md_next 132 = .ok (.bastore, 1) := by decide +kernel
theorem d_Md_next_133 : decode c_Md_next 133 = .ok (.aload_n 0, 1) := by decide +kernel
theorem d_Md_next_134 : decode c_Md_next 134 = .ok (.getfield 24, 3) := by decide +kernel
theorem d_Md_next_137 : decode c_Md_next 137 = .ok (.iload_n 3, 1) := by decide +kernel
theorem d_Md_next_138 : decode c_Md_next 138 = .ok (.baload, 1) := by decide +kernel
theorem d_Md_next_139 : decode c_Md_next 139 = .ok (.ifCond .eq 7, 3) := by decide +kernel
theorem d_Md_next_142 : decode c_Md_next 142 = .ok (.iconst 3, 1) := by decide +kernel
theorem d_Md_next_143 : decode c_Md_next 143 = .ok (.goto 4, 3) := by decide +kernel
theorem d_Md_next_146 : decode c_Md_next 146 = .ok (.iconst 0, 1) := by decide +kernel
theorem d_Md_next_147 : decode c_Md_next 147 = .ok (.ireturn, 1) := by decide +kernel
theorem d_Md_next_148 : decode c_Md_next 148 = .ok (.aload_n 0, 1) := by decide +kernel
theorem d_Md_next_149 : decode c_Md_next 149 = .ok (.iload_n 2, 1) := by decide +kernel
theorem d_Md_next_150 : decode c_Md_next 150 = .ok (.invokevirtual 88, 3) := by decide +kernel
theorem d_Md_next_153 : decode c_Md_next 153 = .ok (.ireturn, 1) := by decide +kernel
theorem d_Md_next_154 : decode c_Md_next 154 = .ok (.aload_n 0, 1) := by decide +kernel
theorem d_Md_next_155 : decode c_Md_next 155 = .ok (.iload_n 2, 1) := by decide +kernel
theorem d_Md_next_156 : decode c_Md_next 156 = .ok (.invokevirtual 88, 3) := by decide +kernel
theorem d_Md_next_159 : decode c_Md_next 159 = .ok (.ireturn, 1) := by decide +kernel
theorem d_Md_next_160 : decode c_Md_next 160 = .ok (.aload_n 0, 1) := by decide +kernel
theorem d_Md_next_161 : decode c_Md_next 161 = .ok (.getfield 31, 3) := by decide +kernel
theorem d_Md_next_164 : decode c_Md_next 164 = .ok (.iload_n 3, 1) := by decide +kernel
theorem d_Md_next_165 : decode c_Md_next 165 = .ok (.iload_n 2, 1) := by decide +kernel
theorem d_Md_next_166 : decode c_Md_next 166 = .ok (.bipush 112, 2) := by decide +kernel
theorem d_Md_next_168 : decode c_Md_next 168 = .ok (.if_icmp .ne 15, 3) := by decide +kernel
theorem d_Md_next_171 : decode c_Md_next 171 = .ok (.aload_n 0, 1) := by decide +kernel
theorem d_Md_next_172 : decode c_Md_next 172 = .ok (.getfield 73, 3) := by decide +kernel
theorem d_Md_next_175 : decode c_Md_next 175 = .ok (.iconst 1, 1) := by decide +kernel
theorem d_Md_next_176 : decode c_Md_next 176 = .ok (.if_icmp .le 7, 3) := by decide +kernel
theorem d_Md_next_179 : decode c_Md_next 179 = .ok (.iconst 1, 1) := by decide +kernel
theorem d_Md_next_180 : decode c_Md_next 180 = .ok (.goto 4, 3) := by decide +kernel
theorem d_Md_next_183 : decode c_Md_next 183 = .ok (.iconst 0, 1) := by decide +kernel
theorem d_Md_next_184 : decode c_Md_next 184 = .ok (.bastore, 1) := by decide +kernel
theorem d_Md_next_185 : decode c_Md_next 185 = .ok (.aload_n 0, 1) := by decide +kernel
theorem d_Md_next_186 : decode c_Md_next 186 = .ok (.getfield 31, 3) := by decide +kernel
theorem d_Md_next_189 : decode c_Md_next 189 = .ok (.iload_n 3, 1) := by decide +kernel
theorem d_Md_next_190 : decode c_Md_next 190 = .ok (.baload, 1) := by decide +kernel
theorem d_Md_next_191 : decode c_Md_next 191 = .ok (.ifCond .eq 6, 3) := by decide +kernel
theorem d_Md_next_194 : decode c_Md_next 194 = .ok (.bipush 8, 2) := by decide +kernel
theorem d_Md_next_196 : decode c_Md_next 196 = .ok (.ireturn, 1) := by decide +kernel
theorem d_Md_next_197 : decode c_Md_next 197 = .ok (.aload_n 0, 1) := by decide +kernel
theorem d_Md_next_198 : decode c_Md_next 198 = .ok (.iload_n 2, 1) := by decide +kernel
theorem d_Md_next_199 : decode c_Md_next 199 = .ok (.invokestatic 91, 3) := by decide +kernel
theorem d_Md_next_202 : decode c_Md_next 202 = .ok (.ifCond .eq 7, 3) := by decide +kernel
theorem d_Md_next_205 : decode c_Md_next 205 = .ok (.iload_n 2, 1) := by decide +kernel
theorem d_Md_next_206 : decode c_Md_next 206 = .ok (.goto 5, 3) := by decide +kernel
theorem d_Md_next_209 : decode c_Md_next 209 = .ok (.bipush 48, 2) := by decide +kernel
theorem d_Md_next_211 : decode c_Md_next 211 = .ok (.invokevirtual 95, 3) := by decide +kernel
theorem d_Md_next_214 : decode c_Md_next 214 = .ok (.pop, 1) := by decide +kernel
theorem d_Md_next_215 : decode c_Md_next 215 = .ok (.iload_n 2, 1) := by decide +kernel
theorem d_Md_next_216 : decode c_Md_next 216 = .ok (.bipush 45, 2) := by decide +kernel
theorem d_Md_next_218 : decode c_Md_next 218 = .ok (.if_icmp .ne 7, 3) := by decide +kernel
theorem d_Md_next_221 : decode c_Md_next 221 = .ok (.iconst 5, 1) := by decide +kernel
theorem d_Md_next_222 : decode c_Md_next 222 = .ok (.goto 16, 3) := by decide +kernel
theorem d_Md_next_225 : decode c_Md_next 225 = .ok (.iload_n 2, 1) := by decide +kernel
theorem d_Md_next_226 : decode c_Md_next 226 = .ok (.invokestatic 91, 3) := by decide +kernel
theorem d_Md_next_229 : decode c_Md_next 229 = .ok (.ifCond .eq 8, 3) := by decide +kernel
theorem d_Md_next_232 : decode c_Md_next 232 = .ok (.bipush 6, 2) := by decide +kernel
theorem d_Md_next_234 : decode c_Md_next 234 = .ok (.goto 4, 3) := by decide +kernel
theorem d_Md_next_237 : decode c_Md_next 237 = .ok (.iconst 0, 1) := by decide +kernel
theorem d_Md_next_238 : decode c_Md_next 238 = .ok (.ireturn, 1) := by decide +kernel
theorem d_Md_next_239 : decode c_Md_next 239 = .ok (.aload_n 0, 1) := by decide +kernel
theorem d_Md_next_240 : decode c_Md_next 240 = .ok (.iload_n 2, 1) := by decide +kernel
theorem d_Md_next_241 : decode c_Md_next 241 = .ok (.invokestatic 91, 3) := by decide +kernel
theorem d_Md_next_244 : decode c_Md_next 244 = .ok (.ifCond .eq 7, 3) := by decide +kernel
theorem d_Md_next_247 : decode c_Md_next 247 = .ok (.iload_n 2, 1) := by decide +kernel
theorem d_Md_next_248 : decode c_Md_next 248 = .ok (.goto 5, 3) := by decide +kernel
theorem d_Md_next_251 : decode c_Md_next 251 = .ok (.bipush 48, 2) := by decide +kernel
theorem d_Md_next_253 : decode c_Md_next 253 = .ok (.invokevirtual 95, 3) := by decide +kernel
theorem d_Md_next_256 : decode c_Md_next 256 = .ok (.pop, 1) := by decide +kernel
theorem d_Md_next_257 : decode c_Md_next 257 = .ok (.iload_n 2, 1) := by decide +kernel
theorem d_Md_next_258 : decode c_Md_next 258 = .ok (.invokestatic 91, 3) := by decide +kernel
theorem d_Md_next_261 : decode c_Md_next 261 = .ok (.ifCond .eq 8, 3) := by decide +kernel
theorem d_Md_next_264 : decode c_Md_next 264 = .ok (.bipush 14, 2) := by decide +kernel
theorem d_Md_next_266 : decode c_Md_next 266 = .ok (.goto 4, 3) := by decide +kernel
theorem d_Md_next_269 : decode c_Md_next 269 = .ok (.iconst 0, 1) := by decide +kernel
theorem d_Md_next_270 : decode c_Md_next 270 = .ok (.ireturn, 1) := by decide +kernel
theorem d_Md_next_271 : decode c_Md_next 271 = .ok (.iload_n 2, 1) := by decide +kernel
theorem d_Md_next_272 : decode c_Md_next 272 = .ok (.invokestatic 91, 3) := by decide +kernel
theorem d_Md_next_275 : decode c_Md_next 275 = .ok (.ifCond .eq 23, 3) := by decide +kernel
theorem d_Md_next_278 : decode c_Md_next 278 = .ok (.aload_n 0, 1) := by decide +kernel
theorem d_Md_next_279 : decode c_Md_next 279 = .ok (.iload_n 2, 1) := by decide +kernel
theorem d_Md_next_280 : decode c_Md_next 280 = .ok (.invokevirtual 95, 3) := by decide +kernel
theorem d_Md_next_283 : decode c_Md_next 283 = .ok (.pop, 1) := by decide +kernel
theorem d_Md_next_284 : decode c_Md_next 284 = .ok (.iload_n 1, 1) := by decide +kernel
theorem d_Md_next_285 : decode c_Md_next 285 = .ok (.bipush 6, 2) := by decide +kernel
theorem d_Md_next_287 : decode c_Md_next 287 = .ok (.if_icmp .ne 8, 3) := by decide +kernel
theorem d_Md_next_290 : decode c_Md_next 290 = .ok (.bipush 7, 2) := by decide +kernel
theorem d_Md_next_292 : decode c_Md_next 292 = .ok (.goto 5, 3) := by decide +kernel
theorem d_Md_next_295 : decode c_Md_next 295 = .ok (.bipush 15, 2) := by decide +kernel
theorem d_Md_next_297 : decode c_Md_next 297 = .ok (.ireturn, 1) := by decide +kernel
theorem d_Md_next_298 : decode c_Md_next 298 = .ok (.aload_n 0, 1) := by decide +kernel
theorem d_Md_next_299 : decode c_Md_next 299 = .ok (.iload_n 2, 1) := by decide +kernel
theorem d_Md_next_300 : decode c_Md_next 300 = .ok (.invokevirtual 84, 3) := by decide +kernel
theorem d_Md_next_303 : decode c_Md_next 303 = .ok (.ireturn, 1) := by decide +kernel
theorem d_Md_next_304 : decode c_Md_next 304 = .ok (.iload_n 2, 1) := by decide +kernel
theorem d_Md_next_305 : decode c_Md_next 305 = .ok (.bipush 64, 2) := by decide +kernel
theorem d_Md_next_307 : decode c_Md_next 307 = .ok (.if_icmp .ne 8, 3) := by decide +kernel
theorem d_Md_next_310 : decode c_Md_next 310 = .ok (.bipush 10, 2) := by decide +kernel
theorem d_Md_next_312 : decode c_Md_next 312 = .ok (.goto 4, 3) := by decide +kernel
theorem d_Md_next_315 : decode c_Md_next 315 = .ok (.iconst 0, 1) := by decide +kernel
theorem d_Md_next_316 : decode c_Md_next 316 = .ok (.ireturn, 1) := by decide +kernel
theorem d_Md_next_317 : decode c_Md_next 317 = .ok (.aload_n 0, 1) := by decide +kernel
theorem d_Md_next_318 : decode c_Md_next 318 = .ok (.iload_n 2, 1) := by decide +kernel
theorem d_Md_next_319 : decode c_Md_next 319 = .ok (.invokestatic 91, 3) := by decide +kernel
theorem d_Md_next_322 : decode c_Md_next 322 = .ok (.ifCond .eq 18, 3) := by decide +kernel
theorem d_Md_next_325 : decode c_Md_next 325 = .ok (.bipush 10, 2) := by decide +kernel
theorem d_Md_next_327 : decode c_Md_next 327 = .ok (.aload_n 0, 1) := by decide +kernel
theorem d_Md_next_328 : decode c_Md_next 328 = .ok (.getfield 98, 3) := by decide +kernel
theorem d_Md_next_331 : decode c_Md_next 331 = .ok (.imul, 1) := by decide +kernel
theorem d_Md_next_332 : decode c_Md_next 332 = .ok (.iload_n 2, 1) := by decide +kernel
theorem d_Md_next_333 : decode c_Md_next 333 = .ok (.iadd, 1) := by decide +kernel
theorem d_Md_next_334 : decode c_Md_next 334 = .ok (.bipush 48, 2) := by decide +kernel
theorem d_Md_next_336 : decode c_Md_next 336 = .ok (.isub, 1) := by decide +kernel
theorem d_Md_next_337 : decode c_Md_next 337 = .ok (.goto 7, 3) := by decide +kernel
theorem d_Md_next_340 : decode c_Md_next 340 = .ok (.aload_n 0, 1) := by decide +kernel
theorem d_Md_next_341 : decode c_Md_next 341 = .ok (.getfield 98, 3) := by decide +kernel
theorem d_Md_next_344 : decode c_Md_next 344 = .ok (.putfield 98, 3) := by decide +kernel
theorem d_Md_next_347 : decode c_Md_next 347 = .ok (.iload_n 2, 1) := by decide +kernel
theorem d_Md_next_348 : decode c_Md_next 348 = .ok (.invokestatic 91, 3) := by decide +kernel
theorem d_Md_next_351 : decode c_Md_next 351 = .ok (.ifCond .eq 9, 3) := by decide +kernel
theorem d_Md_next_354 : decode c_Md_next 354 = .ok (.iload_n 1, 1) := by decide +kernel
theorem d_Md_next_355 : decode c_Md_next 355 = .ok (.iconst 1, 1) := by decide +kernel
theorem d_Md_next_356 : decode c_Md_next 356 = .ok (.iadd, 1) := by decide +kernel
theorem d_Md_next_357 : decode c_Md_next 357 = .ok (.goto 4, 3) := by decide +kernel
theorem d_Md_next_360 : decode c_Md_next 360 = .ok (.iconst 0, 1) := by decide +kernel
theorem d_Md_next_361 : decode c_Md_next 361 = .ok (.ireturn, 1) := by decide +kernel
theorem d_Md_next_362 : decode c_Md_next 362 = .ok (.iconst 0, 1) := by decide +kernel
theorem d_Md_next_363 : decode c_Md_next 363 = .ok (.ireturn, 1) := by decide +kernel
theorem d_Md_next_364 : decode c_Md_next 364 = .ok (.aload_n 0, 1) := by decide +kernel
theorem d_Md_next_365 : decode c_Md_next 365 = .ok (.iload_n 2, 1) := by decide +kernel
theorem d_Md_next_366 : decode c_Md_next 366 = .ok (.invokevirtual 84, 3) := by decide +kernel
theorem d_Md_next_369 : decode c_Md_next 369 = .ok (.ireturn, 1) := by decide +kernel
theorem d_Md_good_0 : decode c_Md_good 0 = .ok (.aload_n 0, 1) := by decide +kernel
theorem d_Md_good_1 : decode c_Md_good 1 = .ok (.iconst 0, 1) := by decide +kernel
theorem d_Md_good_2 : decode c_Md_good 2 = .ok (.putfield 73, 3) := by decide +kernel
theorem d_Md_good_5 : decode c_Md_good 5 = .ok (.aload_n 0, 1) := by decide +kernel
theorem d_Md_good_6 : decode c_Md_good 6 = .ok (.iconst 0, 1) := by decide +kernel
theorem d_Md_good_7 : decode c_Md_good 7 = .ok (.putfield 76, 3) := by decide +kernel
theorem d_Md_good_10 : decode c_Md_good 10 = .ok (.aload_n 0, 1) := by decide +kernel
theorem d_Md_good_11 : decode c_Md_good 11 = .ok (.iconst 0, 1) := by decide +kernel
theorem d_Md_good_12 : decode c_Md_good 12 = .ok (.putfield 98, 3) := by decide +kernel
theorem d_Md_good_15 : decode c_Md_good 15 = .ok (.iconst 0, 1) := by decide +kernel
theorem d_Md_good_16 : decode c_Md_good 16 = .ok (.istore_n 1, 1) := by decide +kernel
theorem d_Md_good_17 : decode c_Md_good 17 = .ok (.iconst 0, 1) := by decide +kernel
theorem d_Md_good_18 : decode c_Md_good 18 = .ok (.istore_n 2, 1) := by decide +kernel
theorem d_Md_good_19 : decode c_Md_good 19 = .ok (.iload_n 2, 1) := by decide +kernel
theorem d_Md_good_20 : decode c_Md_good 20 = .ok (.aload_n 0, 1) := by decide +kernel
theorem d_Md_good_21 : decode c_Md_good 21 = .ok (.getfield 70, 3) := by decide +kernel
theorem d_Md_good_24 : decode c_Md_good 24 = .ok (.if_icmp .ge 87, 3) := by decide +kernel
theorem d_Md_good_27 : decode c_Md_good 27 = .ok (.aload_n 0, 1) := by decide +kernel
theorem d_Md_good_28 : decode c_Md_good 28 = .ok (.getfield 73, 3) := by decide +kernel
theorem d_Md_good_31 : decode c_Md_good 31 = .ok (.istore_n 3, 1) := by decide +kernel
theorem d_Md_good_32 : decode c_Md_good 32 = .ok (.iload_n 1, 1) := by decide +kernel
theorem d_Md_good_33 : decode c_Md_good 33 = .ok (.bipush 14, 2) := by decide +kernel
theorem d_Md_good_35 : decode c_Md_good 35 = .ok (.if_icmp .eq 9, 3) := by decide +kernel
theorem d_Md_good_38 : decode c_Md_good 38 = .ok (.iload_n 1, 1) := by decide +kernel
theorem d_Md_good_39 : decode c_Md_good 39 = .ok (.bipush 15, 2) := by decide +kernel
theorem d_Md_good_41 : decode c_Md_good 41 = .ok (.if_icmp .ne 7, 3) := by decide +kernel
theorem d_Md_good_44 : decode c_Md_good 44 = .ok (.iconst 1, 1) := by decide +kernel
theorem d_Md_good_45 : decode c_Md_good 45 = .ok (.goto 4, 3) := by decide +kernel
theorem d_Md_good_48 : decode c_Md_good 48 = .ok (.iconst 0, 1) := by decide +kernel
theorem d_Md_good_49 : decode c_Md_good 49 = .ok (.istore 4, 2) := by decide +kernel
theorem d_Md_good_51 : decode c_Md_good 51 = .ok (.aload_n 0, 1) := by decide +kernel
theorem d_Md_good_52 : decode c_Md_good 52 = .ok (.iload_n 1, 1) := by decide +kernel
theorem d_Md_good_53 : decode c_Md_good 53 = .ok (.aload_n 0, 1) := by decide +kernel
theorem d_Md_good_54 : decode c_Md_good 54 = .ok (.getfield 7, 3) := by decide +kernel
theorem d_Md_good_57 : decode c_Md_good 57 = .ok (.iload_n 2, 1) := by decide +kernel
theorem d_Md_good_58 : decode c_Md_good 58 = .ok (.caload, 1) := by decide +kernel
theorem d_Md_good_59 : decode c_Md_good 59 = .ok (.invokevirtual 101, 3) := by decide +kernel
theorem d_Md_good_62 : decode c_Md_good 62 = .ok (.istore 5, 2) := by decide +kernel
theorem d_Md_good_64 : decode c_Md_good 64 = .ok (.iload 5, 2) := by decide +kernel
theorem d_Md_good_66 : decode c_Md_good 66 = .ok (.ifCond .ne 5, 3) := by decide +kernel
theorem d_Md_good_69 : decode c_Md_good 69 = .ok (.iload_n 2, 1) := by decide +kernel
theorem d_Md_good_70 : decode c_Md_good 70 = .ok (.ireturn, 1) := by decide +kernel
theorem d_Md_good_71 : decode c_Md_good 71 = .ok (.iload 4, 2) := by decide +kernel
theorem d_Md_good_73 : decode c_Md_good 73 = .ok (.ifCond .eq 29, 3) := by decide +kernel
theorem d_Md_good_76 : decode c_Md_good 76 = .ok (.iload 5, 2) := by decide +kernel
theorem d_Md_good_78 : decode c_Md_good 78 = .ok (.bipush 15, 2) := by decide +kernel
theorem d_Md_good_80 : decode c_Md_good 80 = .ok (.if_icmp .eq 22, 3) := by decide +kernel
theorem d_Md_good_83 : decode c_Md_good 83 = .ok (.aload_n 0, 1) := by decide +kernel
theorem d_Md_good_84 : decode c_Md_good 84 = .ok (.getfield 34, 3) := by decide +kernel
theorem d_Md_good_87 : decode c_Md_good 87 = .ok (.bipush 7, 2) := by decide +kernel
theorem d_Md_good_89 : decode c_Md_good 89 = .ok (.iload_n 3, 1) := by decide +kernel
theorem d_Md_good_90 : decode c_Md_good 90 = .ok (.iadd, 1) := by decide +kernel
theorem d_Md_good_91 : decode c_Md_good 91 = .ok (.aload_n 0, 1) := by decide +kernel
theorem d_Md_good_92 : decode c_Md_good 92 = .ok (.getfield 34, 3) := by decide +kernel
theorem d_Md_good_95 : decode c_Md_good 95 = .ok (.bipush 7, 2) := by decide +kernel
theorem d_Md_good_97 : decode c_Md_good 97 = .ok (.iload_n 3, 1) := by decide +kernel
theorem d_Md_good_98 : decode c_Md_good 98 = .ok (.iadd, 1) := by decide +kernel
theorem d_Md_good_99 : decode c_Md_good 99 = .ok (.iaload, 1) := by decide +kernel
theorem d_Md_good_100 : decode c_Md_good 100 = .ok (.ineg, 1) := by decide +kernel
theorem d_Md_good_101 : decode c_Md_good 101 = .ok (.iastore, 1) := by decide +kernel
theorem d_Md_good_102 : decode c_Md_good 102 = .ok (.iload 5, 2) := by decide +kernel
theorem d_Md_good_104 : decode c_Md_good 104 = .ok (.istore_n 1, 1) := by decide +kernel
theorem d_Md_good_105 : decode c_Md_good 105 = .ok (.iinc 2 1, 3) := by decide +kernel
theorem d_Md_good_108 : decode c_Md_good 108 = .ok (.goto (-89), 3) := by decide +kernel
theorem d_Md_good_111 : decode c_Md_good 111 = .ok (.iload_n 1, 1) := by decide +kernel
theorem d_Md_good_112 : decode c_Md_good 112 = .ok (.bipush 10, 2) := by decide +kernel
theorem d_Md_good_114 : decode c_Md_good 114 = .ok (.if_icmp .le 16, 3) := by decide +kernel
theorem d_Md_good_117 : decode c_Md_good 117 = .ok (.iload_n 1, 1) := by decide +kernel
theorem d_Md_good_118 : decode c_Md_good 118 = .ok (.bipush 14, 2) := by decide +kernel
theorem d_Md_good_120 : decode c_Md_good 120 = .ok (.if_icmp .ge 10, 3) := by decide +kernel
theorem d_Md_good_123 : decode c_Md_good 123 = .ok (.aload_n 0, 1) := by decide +kernel
theorem d_Md_good_124 : decode c_Md_good 124 = .ok (.getfield 70, 3) := by decide +kernel
theorem d_Md_good_127 : decode c_Md_good 127 = .ok (.goto 9, 3) := by decide +kernel
theorem d_Md_good_130 : decode c_Md_good 130 = .ok (.iconst (-1), 1) := by decide +kernel
theorem d_Md_good_131 : decode c_Md_good 131 = .ok (.aload_n 0, 1) := by decide +kernel
theorem d_Md_good_132 : decode c_Md_good 132 = .ok (.getfield 70, 3) := by decide +kernel
theorem d_Md_good_135 : decode c_Md_good 135 = .ok (.isub, 1) := by decide +kernel
theorem d_Md_good_136 : decode c_Md_good 136 = .ok (.ireturn, 1) := by decide +kernel
theorem d_Md_adopt_0 : decode c_Md_adopt 0 = .ok (.aload_n 0, 1) := by decide +kernel
theorem d_Md_adopt_1 : decode c_Md_adopt 1 = .ok (.aload_n 0, 1) := by decide +kernel
theorem d_Md_adopt_2 : decode c_Md_adopt 2 = .ok (.getfield 73, 3) := by decide +kernel
theorem d_Md_adopt_5 : decode c_Md_adopt 5 = .ok (.putfield 105, 3) := by decide +kernel
theorem d_Md_adopt_8 : decode c_Md_adopt 8 = .ok (.aload_n 0, 1) := by decide +kernel
theorem d_Md_adopt_9 : decode c_Md_adopt 9 = .ok (.iconst 0, 1) := by decide +kernel
theorem d_Md_adopt_10 : decode c_Md_adopt 10 = .ok (.putfield 108, 3) := by decide +kernel
theorem d_Md_adopt_13 : decode c_Md_adopt 13 = .ok (.iconst 0, 1) := by decide +kernel
theorem d_Md_adopt_14 : decode c_Md_adopt 14 = .ok (.istore_n 1, 1) := by decide +kernel
theorem d_Md_adopt_15 : decode c_Md_adopt 15 = .ok (.iload_n 1, 1) := by decide +kernel
theorem d_Md_adopt_16 : decode c_Md_adopt 16 = .ok (.aload_n 0, 1) := by decide +kernel
theorem d_Md_adopt_17 : decode c_Md_adopt 17 = .ok (.getfield 105, 3) := by decide +kernel
theorem d_Md_adopt_20 : decode c_Md_adopt 20 = .ok (.if_icmp .ge 128, 3) := by decide +kernel
theorem d_Md_adopt_23 : decode c_Md_adopt 23 = .ok (.aload_n 0, 1) := by decide +kernel
theorem d_Md_adopt_24 : decode c_Md_adopt 24 = .ok (.getfield 17, 3) := by decide +kernel
theorem d_Md_adopt_27 : decode c_Md_adopt 27 = .ok (.iload_n 1, 1) := by decide +kernel
theorem d_Md_adopt_28 : decode c_Md_adopt 28 = .ok (.aload_n 0, 1) := by decide +kernel
theorem d_Md_adopt_29 : decode c_Md_adopt 29 = .ok (.getfield 17, 3) := by decide +kernel
theorem d_Md_adopt_32 : decode c_Md_adopt 32 = .ok (.bipush 8, 2) := by decide +kernel
theorem d_Md_adopt_34 : decode c_Md_adopt 34 = .ok (.iload_n 1, 1) := by decide +kernel
theorem d_Md_adopt_35 : decode c_Md_adopt 35 = .ok (.iadd, 1) := by decide +kernel
theorem d_Md_adopt_36 : decode c_Md_adopt 36 = .ok (.caload, 1) := by decide +kernel
theorem d_Md_adopt_37 : decode c_Md_adopt 37 = .ok (.castore, 1) := by decide +kernel
theorem d_Md_adopt_38 : decode c_Md_adopt 38 = .ok (.aload_n 0, 1) := by decide +kernel
theorem d_Md_adopt_39 : decode c_Md_adopt 39 = .ok (.getfield 20, 3) := by decide +kernel
theorem d_Md_adopt_42 : decode c_Md_adopt 42 = .ok (.iload_n 1, 1) := by decide +kernel
theorem d_Md_adopt_43 : decode c_Md_adopt 43 = .ok (.aload_n 0, 1) := by decide +kernel
theorem d_Md_adopt_44 : decode c_Md_adopt 44 = .ok (.getfield 20, 3) := by decide +kernel
theorem d_Md_adopt_47 : decode c_Md_adopt 47 = .ok (.bipush 8, 2) := by decide +kernel
theorem d_Md_adopt_49 : decode c_Md_adopt 49 = .ok (.iload_n 1, 1) := by decide +kernel
theorem d_Md_adopt_50 : decode c_Md_adopt 50 = .ok (.iadd, 1) := by decide +kernel
theorem d_Md_adopt_51 : decode c_Md_adopt 51 = .ok (.baload, 1) := by decide +kernel
theorem d_Md_adopt_52 : decode c_Md_adopt 52 = .ok (.bastore, 1) := by decide +kernel
theorem d_Md_adopt_53 : decode c_Md_adopt 53 = .ok (.aload_n 0, 1) := by decide +kernel
theorem d_Md_adopt_54 : decode c_Md_adopt 54 = .ok (.getfield 24, 3) := by decide +kernel
theorem d_Md_adopt_57 : decode c_Md_adopt 57 = .ok (.iload_n 1, 1) := by decide +kernel
theorem d_Md_adopt_58 : decode c_Md_adopt 58 = .ok (.aload_n 0, 1) := by decide +kernel
theorem d_Md_adopt_59 : decode c_Md_adopt 59 = .ok (.getfield 24, 3) := by decide +kernel
theorem d_Md_adopt_62 : decode c_Md_adopt 62 = .ok (.bipush 8, 2) := by decide +kernel
theorem d_Md_adopt_64 : decode c_Md_adopt 64 = .ok (.iload_n 1, 1) := by decide +kernel
theorem d_Md_adopt_65 : decode c_Md_adopt 65 = .ok (.iadd, 1) := by decide +kernel
theorem d_Md_adopt_66 : decode c_Md_adopt 66 = .ok (.baload, 1) := by decide +kernel
theorem d_Md_adopt_67 : decode c_Md_adopt 67 = .ok (.bastore, 1) := by decide +kernel
theorem d_Md_adopt_68 : decode c_Md_adopt 68 = .ok (.aload_n 0, 1) := by decide +kernel
theorem d_Md_adopt_69 : decode c_Md_adopt 69 = .ok (.getfield 27, 3) := by decide +kernel
theorem d_Md_adopt_72 : decode c_Md_adopt 72 = .ok (.iload_n 1, 1) := by decide +kernel
theorem d_Md_adopt_73 : decode c_Md_adopt 73 = .ok (.aload_n 0, 1) := by decide +kernel
theorem d_Md_adopt_74 : decode c_Md_adopt 74 = .ok (.getfield 27, 3) := by decide +kernel
theorem d_Md_adopt_77 : decode c_Md_adopt 77 = .ok (.bipush 8, 2) := by decide +kernel
theorem d_Md_adopt_79 : decode c_Md_adopt 79 = .ok (.iload_n 1, 1) := by decide +kernel
theorem d_Md_adopt_80 : decode c_Md_adopt 80 = .ok (.iadd, 1) := by decide +kernel
theorem d_Md_adopt_81 : decode c_Md_adopt 81 = .ok (.iaload, 1) := by decide +kernel
theorem d_Md_adopt_82 : decode c_Md_adopt 82 = .ok (.iastore, 1) := by decide +kernel
theorem d_Md_adopt_83 : decode c_Md_adopt 83 = .ok (.aload_n 0, 1) := by decide +kernel
theorem d_Md_adopt_84 : decode c_Md_adopt 84 = .ok (.getfield 31, 3) := by decide +kernel
theorem d_Md_adopt_87 : decode c_Md_adopt 87 = .ok (.iload_n 1, 1) := by decide +kernel
theorem d_Md_adopt_88 : decode c_Md_adopt 88 = .ok (.aload_n 0, 1) := by decide +kernel
theorem d_Md_adopt_89 : decode c_Md_adopt 89 = .ok (.getfield 31, 3) := by decide +kernel
theorem d_Md_adopt_92 : decode c_Md_adopt 92 = .ok (.bipush 8, 2) := by decide +kernel
theorem d_Md_adopt_94 : decode c_Md_adopt 94 = .ok (.iload_n 1, 1) := by decide +kernel
theorem d_Md_adopt_95 : decode c_Md_adopt 95 = .ok (.iadd, 1) := by decide +kernel
theorem d_Md_adopt_96 : decode c_Md_adopt 96 = .ok (.baload, 1) := by decide +kernel
theorem d_Md_adopt_97 : decode c_Md_adopt 97 = .ok (.bastore, 1) := by decide +kernel
theorem d_Md_adopt_98 : decode c_Md_adopt 98 = .ok (.aload_n 0, 1) := by decide +kernel
theorem d_Md_adopt_99 : decode c_Md_adopt 99 = .ok (.getfield 34, 3) := by decide +kernel
theorem d_Md_adopt_102 : decode c_Md_adopt 102 = .ok (.iload_n 1, 1) := by decide +kernel
theorem d_Md_adopt_103 : decode c_Md_adopt 103 = .ok (.aload_n 0, 1) := by decide +kernel
theorem d_Md_adopt_104 : decode c_Md_adopt 104 = .ok (.getfield 34, 3) := by decide +kernel
theorem d_Md_adopt_107 : decode c_Md_adopt 107 = .ok (.bipush 8, 2) := by decide +kernel
theorem d_Md_adopt_109 : decode c_Md_adopt 109 = .ok (.iload_n 1, 1) := by decide +kernel
theorem d_Md_adopt_110 : decode c_Md_adopt 110 = .ok (.iadd, 1) := by decide +kernel
theorem d_Md_adopt_111 : decode c_Md_adopt 111 = .ok (.iaload, 1) := by decide +kernel
theorem d_Md_adopt_112 : decode c_Md_adopt 112 = .ok (.iastore, 1) := by decide +kernel
theorem d_Md_adopt_113 : decode c_Md_adopt 113 = .ok (.aload_n 0, 1) := by decide +kernel
theorem d_Md_adopt_114 : decode c_Md_adopt 114 = .ok (.getfield 20, 3) := by decide +kernel
theorem d_Md_adopt_117 : decode c_Md_adopt 117 = .ok (.iload_n 1, 1) := by decide +kernel
theorem d_Md_adopt_118 : decode c_Md_adopt 118 = .ok (.baload, 1) := by decide +kernel
theorem d_Md_adopt_119 : decode c_Md_adopt 119 = .ok (.ifCond .ne 23, 3) := by decide +kernel
theorem d_Md_adopt_122 : decode c_Md_adopt 122 = .ok (.aload_n 0, 1) := by decide +kernel
theorem d_Md_adopt_123 : decode c_Md_adopt 123 = .ok (.getfield 37, 3) := by decide +kernel
theorem d_Md_adopt_126 : decode c_Md_adopt 126 = .ok (.aload_n 0, 1) := by decide +kernel
theorem d_Md_adopt_127 : decode c_Md_adopt 127 = .ok (.getfield 108, 3) := by decide +kernel
theorem d_Md_adopt_130 : decode c_Md_adopt 130 = .ok (.iload_n 1, 1) := by decide +kernel
theorem d_Md_adopt_131 : decode c_Md_adopt 131 = .ok (.iastore, 1) := by decide +kernel
theorem d_Md_adopt_132 : decode c_Md_adopt 132 = .ok (.aload_n 0, 1) := by decide +kernel
theorem d_Md_adopt_133 : decode c_Md_adopt 133 = .ok (.dup, 1) := by decide +kernel
theorem d_Md_adopt_134 : decode c_Md_adopt 134 = .ok (.getfield 108, 3) := by decide +kernel
theorem d_Md_adopt_137 : decode c_Md_adopt 137 = .ok (.iconst 1, 1) := by decide +kernel
theorem d_Md_adopt_138 : decode c_Md_adopt 138 = .ok (.iadd, 1) := by decide +kernel
theorem d_Md_adopt_139 : decode c_Md_adopt 139 = .ok (.putfield 108, 3) := by decide +kernel
theorem d_Md_adopt_142 : decode c_Md_adopt 142 = .ok (.iinc 1 1, 3) := by decide +kernel
theorem d_Md_adopt_145 : decode c_Md_adopt 145 = .ok (.goto (-130), 3) := by decide +kernel
theorem d_Md_adopt_148 : decode c_Md_adopt 148 = .ok (.aload_n 0, 1) := by decide +kernel
theorem d_Md_adopt_149 : decode c_Md_adopt 149 = .ok (.aload_n 0, 1) := by decide +kernel
theorem d_Md_adopt_150 : decode c_Md_adopt 150 = .ok (.getfield 76, 3) := by decide +kernel
theorem d_Md_adopt_153 : decode c_Md_adopt 153 = .ok (.putfield 111, 3) := by decide +kernel
theorem d_Md_adopt_156 : decode c_Md_adopt 156 = .ok (.aload_n 0, 1) := by decide +kernel
theorem d_Md_adopt_157 : decode c_Md_adopt 157 = .ok (.aload_n 0, 1) := by decide +kernel
theorem d_Md_adopt_158 : decode c_Md_adopt 158 = .ok (.getfield 98, 3) := by decide +kernel
theorem d_Md_adopt_161 : decode c_Md_adopt 161 = .ok (.putfield 114, 3) := by decide +kernel
theorem d_Md_adopt_164 : decode c_Md_adopt 164 = .ok (.aload_n 0, 1) := by decide +kernel
theorem d_Md_adopt_165 : decode c_Md_adopt 165 = .ok (.iconst 0, 1) := by decide +kernel
theorem d_Md_adopt_166 : decode c_Md_adopt 166 = .ok (.putfield 117, 3) := by decide +kernel
theorem d_Md_adopt_169 : decode c_Md_adopt 169 = .ok (.aload_n 0, 1) := by decide +kernel
theorem d_Md_adopt_170 : decode c_Md_adopt 170 = .ok (.iconst 0, 1) := by decide +kernel
theorem d_Md_adopt_171 : decode c_Md_adopt 171 = .ok (.putfield 120, 3) := by decide +kernel
theorem d_Md_adopt_174 : decode c_Md_adopt 174 = .ok (.aload_n 0, 1) := by decide +kernel
theorem d_Md_adopt_175 : decode c_Md_adopt 175 = .ok (.iconst 0, 1) := by decide +kernel
theorem d_Md_adopt_176 : decode c_Md_adopt 176 = .ok (.putfield 123, 3) := by decide +kernel
theorem d_Md_adopt_179 : decode c_Md_adopt 179 = .ok (.aload_n 0, 1) := by decide +kernel
theorem d_Md_adopt_180 : decode c_Md_adopt 180 = .ok (.iconst 0, 1) := by decide +kernel
theorem d_Md_adopt_181 : decode c_Md_adopt 181 = .ok (.putfield 126, 3) := by decide +kernel
theorem d_Md_adopt_184 : decode c_Md_adopt 184 = .ok (.aload_n 0, 1) := by decide +kernel
theorem d_Md_adopt_185 : decode c_Md_adopt 185 = .ok (.iconst 0, 1) := by decide +kernel
theorem d_Md_adopt_186 : decode c_Md_adopt 186 = .ok (.putfield 129, 3) := by decide +kernel
theorem d_Md_adopt_189 : decode c_Md_adopt 189 = .ok (.aload_n 0, 1) := by decide +kernel
theorem d_Md_adopt_190 : decode c_Md_adopt 190 = .ok (.iconst 0, 1) := by decide +kernel
theorem d_Md_adopt_191 : decode c_Md_adopt 191 = .ok (.putfield 132, 3) := by decide +kernel
theorem d_Md_adopt_194 : decode c_Md_adopt 194 = .ok (.aload_n 0, 1) := by decide +kernel
theorem d_Md_adopt_195 : decode c_Md_adopt 195 = .ok (.iconst 0, 1) := by decide +kernel
theorem d_Md_adopt_196 : decode c_Md_adopt 196 = .ok (.putfield 135, 3) := by decide +kernel
theorem d_Md_adopt_199 : decode c_Md_adopt 199 = .ok (.aload_n 0, 1) := by decide +kernel
theorem d_Md_adopt_200 : decode c_Md_adopt 200 = .ok (.iconst 0, 1) := by decide +kernel
theorem d_Md_adopt_201 : decode c_Md_adopt 201 = .ok (.putfield 138, 3) := by decide +kernel
theorem d_Md_adopt_204 : decode c_Md_adopt 204 = .ok (.return_, 1) := by decide +kernel
theorem d_Md_load_0 : decode c_Md_load 0 = .ok (.aload_n 0, 1) := by decide +kernel
theorem d_Md_load_1 : decode c_Md_load 1 = .ok (.invokevirtual 141, 3) := by decide +kernel
theorem d_Md_load_4 : decode c_Md_load 4 = .ok (.istore_n 1, 1) := by decide +kernel
theorem d_Md_load_5 : decode c_Md_load 5 = .ok (.iload_n 1, 1) := by decide +kernel
theorem d_Md_load_6 : decode c_Md_load 6 = .ok (.aload_n 0, 1) := by decide +kernel
theorem d_Md_load_7 : decode c_Md_load 7 = .ok (.getfield 70, 3) := by decide +kernel
theorem d_Md_load_10 : decode c_Md_load 10 = .ok (.if_icmp .ne 14, 3) := by decide +kernel
theorem d_Md_load_13 : decode c_Md_load 13 = .ok (.aload_n 0, 1) := by decide +kernel
theorem d_Md_load_14 : decode c_Md_load 14 = .ok (.getfield 70, 3) := by decide +kernel
theorem d_Md_load_17 : decode c_Md_load 17 = .ok (.ifCond .le 7, 3) := by decide +kernel
theorem d_Md_load_20 : decode c_Md_load 20 = .ok (.iconst 1, 1) := by decide +kernel
theorem d_Md_load_21 : decode c_Md_load 21 = .ok (.goto 4, 3) := by decide +kernel
theorem d_Md_load_24 : decode c_Md_load 24 = .ok (.iconst 0, 1) := by decide +kernel
theorem d_Md_load_25 : decode c_Md_load 25 = .ok (.istore_n 2, 1) := by decide +kernel
theorem d_Md_load_26 : decode c_Md_load 26 = .ok (.aload_n 0, 1) := by decide +kernel
theorem d_Md_load_27 : decode c_Md_load 27 = .ok (.iload_n 2, 1) := by decide +kernel
theorem d_Md_load_28 : decode c_Md_load 28 = .ok (.ifCond .eq 7, 3) := by decide +kernel
theorem d_Md_load_31 : decode c_Md_load 31 = .ok (.iconst 0, 1) := by decide +kernel
theorem d_Md_load_32 : decode c_Md_load 32 = .ok (.goto 4, 3) := by decide +kernel
theorem d_Md_load_35 : decode c_Md_load 35 = .ok (.iconst 1, 1) := by decide +kernel
theorem d_Md_load_36 : decode c_Md_load 36 = .ok (.putfield 67, 3) := by decide +kernel
theorem d_Md_load_39 : decode c_Md_load 39 = .ok (.aload_n 0, 1) := by decide +kernel
theorem d_Md_load_40 : decode c_Md_load 40 = .ok (.iload_n 2, 1) := by decide +kernel
theorem d_Md_load_41 : decode c_Md_load 41 = .ok (.ifCond .eq 7, 3) := by decide +kernel
theorem d_Md_load_44 : decode c_Md_load 44 = .ok (.iconst (-1), 1) := by decide +kernel
theorem d_Md_load_45 : decode c_Md_load 45 = .ok (.goto 14, 3) := by decide +kernel
theorem d_Md_load_48 : decode c_Md_load 48 = .ok (.iload_n 1, 1) := by decide +kernel
theorem d_Md_load_49 : decode c_Md_load 49 = .ok (.ifCond .ge 9, 3) := by decide +kernel
theorem d_Md_load_52 : decode c_Md_load 52 = .ok (.iconst (-1), 1) := by decide +kernel
theorem d_Md_load_53 : decode c_Md_load 53 = .ok (.iload_n 1, 1) := by decide +kernel
theorem d_Md_load_54 : decode c_Md_load 54 = .ok (.isub, 1) := by decide +kernel
theorem d_Md_load_55 : decode c_Md_load 55 = .ok (.goto 4, 3) := by decide +kernel
theorem d_Md_load_58 : decode c_Md_load 58 = .ok (.iload_n 1, 1) := by decide +kernel
theorem d_Md_load_59 : decode c_Md_load 59 = .ok (.putfield 13, 3) := by decide +kernel
theorem d_Md_load_62 : decode c_Md_load 62 = .ok (.iload_n 2, 1) := by decide +kernel
theorem d_Md_load_63 : decode c_Md_load 63 = .ok (.ifCond .ne 5, 3) := by decide +kernel
theorem d_Md_load_66 : decode c_Md_load 66 = .ok (.iconst 0, 1) := by decide +kernel
theorem d_Md_load_67 : decode c_Md_load 67 = .ok (.ireturn, 1) := by decide +kernel
theorem d_Md_load_68 : decode c_Md_load 68 = .ok (.aload_n 0, 1) := by decide +kernel
theorem d_Md_load_69 : decode c_Md_load 69 = .ok (.invokevirtual 145, 3) := by decide +kernel
theorem d_Md_load_72 : decode c_Md_load 72 = .ok (.aload_n 0, 1) := by decide +kernel
theorem d_Md_load_73 : decode c_Md_load 73 = .ok (.getfield 108, 3) := by decide +kernel
theorem d_Md_load_76 : decode c_Md_load 76 = .ok (.ireturn, 1) := by decide +kernel
theorem d_Md_fault_0 : decode c_Md_fault 0 = .ok (.aload_n 0, 1) := by decide +kernel
theorem d_Md_fault_1 : decode c_Md_fault 1 = .ok (.iconst 0, 1) := by decide +kernel
theorem d_Md_fault_2 : decode c_Md_fault 2 = .ok (.putfield 67, 3) := by decide +kernel
theorem d_Md_fault_5 : decode c_Md_fault 5 = .ok (.aload_n 0, 1) := by decide +kernel
theorem d_Md_fault_6 : decode c_Md_fault 6 = .ok (.getfield 13, 3) := by decide +kernel
theorem d_Md_fault_9 : decode c_Md_fault 9 = .ok (.ireturn, 1) := by decide +kernel
theorem d_Md_fits_0 : decode c_Md_fits 0 = .ok (.aload_n 0, 1) := by decide +kernel
theorem d_Md_fits_1 : decode c_Md_fits 1 = .ok (.getfield 17, 3) := by decide +kernel
theorem d_Md_fits_4 : decode c_Md_fits 4 = .ok (.iload_n 1, 1) := by decide +kernel
theorem d_Md_fits_5 : decode c_Md_fits 5 = .ok (.caload, 1) := by decide +kernel
theorem d_Md_fits_6 : decode c_Md_fits 6 = .ok (.bipush 42, 2) := by decide +kernel
theorem d_Md_fits_8 : decode c_Md_fits 8 = .ok (.if_icmp .eq 18, 3) := by decide +kernel
theorem d_Md_fits_11 : decode c_Md_fits 11 = .ok (.aload_n 0, 1) := by decide +kernel
theorem d_Md_fits_12 : decode c_Md_fits 12 = .ok (.getfield 17, 3) := by decide +kernel
theorem d_Md_fits_15 : decode c_Md_fits 15 = .ok (.iload_n 1, 1) := by decide +kernel
theorem d_Md_fits_16 : decode c_Md_fits 16 = .ok (.caload, 1) := by decide +kernel
theorem d_Md_fits_17 : decode c_Md_fits 17 = .ok (.aload_n 0, 1) := by decide +kernel
theorem d_Md_fits_18 : decode c_Md_fits 18 = .ok (.getfield 40, 3) := by decide +kernel
theorem d_Md_fits_21 : decode c_Md_fits 21 = .ok (.iload_n 3, 1) := by decide +kernel
theorem d_Md_fits_22 : decode c_Md_fits 22 = .ok (.caload, 1) := by decide +kernel
theorem d_Md_fits_23 : decode c_Md_fits 23 = .ok (.if_icmp .ne 7, 3) := by decide +kernel
theorem d_Md_fits_26 : decode c_Md_fits 26 = .ok (.iconst 1, 1) := by decide +kernel
theorem d_Md_fits_27 : decode c_Md_fits 27 = .ok (.goto 4, 3) := by decide +kernel
theorem d_Md_fits_30 : decode c_Md_fits 30 = .ok (.iconst 0, 1) := by decide +kernel
theorem d_Md_fits_31 : decode c_Md_fits 31 = .ok (.istore 4, 2) := by decide +kernel
theorem d_Md_fits_33 : decode c_Md_fits 33 = .ok (.iload_n 2, 1) := by decide +kernel
theorem d_Md_fits_34 : decode c_Md_fits 34 = .ok (.ifCond .lt 49, 3) := by decide +kernel
theorem d_Md_fits_37 : decode c_Md_fits 37 = .ok (.aload_n 0, 1) := by decide +kernel
theorem d_Md_fits_38 : decode c_Md_fits 38 = .ok (.getfield 58, 3) := by decide +kernel
theorem d_Md_fits_41 : decode c_Md_fits 41 = .ok (.bipush 24, 2) := by decide +kernel
theorem d_Md_fits_43 : decode c_Md_fits 43 = .ok (.iload_n 2, 1) := by decide +kernel
theorem d_Md_fits_44 : decode c_Md_fits 44 = .ok (.imul, 1) := by decide +kernel
theorem d_Md_fits_45 : decode c_Md_fits 45 = .ok (.iaload, 1) := by decide +kernel
theorem d_Md_fits_46 : decode c_Md_fits 46 = .ok (.istore 5, 2) := by decide +kernel
theorem d_Md_fits_48 : decode c_Md_fits 48 = .ok (.iload 4, 2) := by decide +kernel
theorem d_Md_fits_50 : decode c_Md_fits 50 = .ok (.ifCond .eq 30, 3) := by decide +kernel
theorem d_Md_fits_53 : decode c_Md_fits 53 = .ok (.aload_n 0, 1) := by decide +kernel
theorem d_Md_fits_54 : decode c_Md_fits 54 = .ok (.getfield 111, 3) := by decide +kernel
theorem d_Md_fits_57 : decode c_Md_fits 57 = .ok (.ifCond .eq 19, 3) := by decide +kernel
theorem d_Md_fits_60 : decode c_Md_fits 60 = .ok (.aload_n 0, 1) := by decide +kernel
theorem d_Md_fits_61 : decode c_Md_fits 61 = .ok (.getfield 43, 3) := by decide +kernel
theorem d_Md_fits_64 : decode c_Md_fits 64 = .ok (.iload_n 3, 1) := by decide +kernel
theorem d_Md_fits_65 : decode c_Md_fits 65 = .ok (.iaload, 1) := by decide +kernel
theorem d_Md_fits_66 : decode c_Md_fits 66 = .ok (.aload_n 0, 1) := by decide +kernel
theorem d_Md_fits_67 : decode c_Md_fits 67 = .ok (.getfield 43, 3) := by decide +kernel
theorem d_Md_fits_70 : decode c_Md_fits 70 = .ok (.iload 5, 2) := by decide +kernel
theorem d_Md_fits_72 : decode c_Md_fits 72 = .ok (.iaload, 1) := by decide +kernel
theorem d_Md_fits_73 : decode c_Md_fits 73 = .ok (.if_icmp .ne 7, 3) := by decide +kernel
theorem d_Md_fits_76 : decode c_Md_fits 76 = .ok (.iconst 1, 1) := by decide +kernel
theorem d_Md_fits_77 : decode c_Md_fits 77 = .ok (.goto 4, 3) := by decide +kernel
theorem d_Md_fits_80 : decode c_Md_fits 80 = .ok (.iconst 0, 1) := by decide +kernel
theorem d_Md_fits_81 : decode c_Md_fits 81 = .ok (.istore 4, 2) := by decide +kernel
theorem d_Md_fits_83 : decode c_Md_fits 83 = .ok (.aload_n 0, 1) := by decide +kernel
theorem d_Md_fits_84 : decode c_Md_fits 84 = .ok (.getfield 31, 3) := by decide +kernel
theorem d_Md_fits_87 : decode c_Md_fits 87 = .ok (.iload_n 1, 1) := by decide +kernel
theorem d_Md_fits_88 : decode c_Md_fits 88 = .ok (.baload, 1) := by decide +kernel
theorem d_Md_fits_89 : decode c_Md_fits 89 = .ok (.ifCond .eq 33, 3) := by decide +kernel
theorem d_Md_fits_92 : decode c_Md_fits 92 = .ok (.iload_n 2, 1) := by decide +kernel
theorem d_Md_fits_93 : decode c_Md_fits 93 = .ok (.ifCond .lt 29, 3) := by decide +kernel
theorem d_Md_fits_96 : decode c_Md_fits 96 = .ok (.aload_n 0, 1) := by decide +kernel
theorem d_Md_fits_97 : decode c_Md_fits 97 = .ok (.getfield 46, 3) := by decide +kernel
theorem d_Md_fits_100 : decode c_Md_fits 100 = .ok (.aload_n 0, 1) := by decide +kernel
theorem d_Md_fits_101 : decode c_Md_fits 101 = .ok (.getfield 58, 3) := by decide +kernel
theorem d_Md_fits_104 : decode c_Md_fits 104 = .ok (.bipush 24, 2) := by decide +kernel
theorem d_Md_fits_106 : decode c_Md_fits 106 = .ok (.iload_n 2, 1) := by decide +kernel
theorem d_Md_fits_107 : decode c_Md_fits 107 = .ok (.imul, 1) := by decide +kernel
theorem d_Md_fits_108 : decode c_Md_fits 108 = .ok (.aload_n 0, 1) := by decide +kernel
theorem d_Md_fits_109 : decode c_Md_fits 109 = .ok (.getfield 55, 3) := by decide +kernel
theorem d_Md_fits_112 : decode c_Md_fits 112 = .ok (.iload_n 2, 1) := by decide +kernel
theorem d_Md_fits_113 : decode c_Md_fits 113 = .ok (.iaload, 1) := by decide +kernel
theorem d_Md_fits_114 : decode c_Md_fits 114 = .ok (.iadd, 1) := by decide +kernel
theorem d_Md_fits_115 : decode c_Md_fits 115 = .ok (.iconst 1, 1) := by decide +kernel
theorem d_Md_fits_116 : decode c_Md_fits 116 = .ok (.isub, 1) := by decide +kernel
theorem d_Md_fits_117 : decode c_Md_fits 117 = .ok (.iaload, 1) := by decide +kernel
theorem d_Md_fits_118 : decode c_Md_fits 118 = .ok (.iaload, 1) := by decide +kernel
theorem d_Md_fits_119 : decode c_Md_fits 119 = .ok (.goto 9, 3) := by decide +kernel
theorem d_Md_fits_122 : decode c_Md_fits 122 = .ok (.aload_n 0, 1) := by decide +kernel
theorem d_Md_fits_123 : decode c_Md_fits 123 = .ok (.getfield 34, 3) := by decide +kernel
theorem d_Md_fits_126 : decode c_Md_fits 126 = .ok (.iload_n 1, 1) := by decide +kernel
theorem d_Md_fits_127 : decode c_Md_fits 127 = .ok (.iaload, 1) := by decide +kernel
theorem d_Md_fits_128 : decode c_Md_fits 128 = .ok (.istore 5, 2) := by decide +kernel
theorem d_Md_fits_130 : decode c_Md_fits 130 = .ok (.aload_n 0, 1) := by decide +kernel
theorem d_Md_fits_131 : decode c_Md_fits 131 = .ok (.getfield 46, 3) := by decide +kernel
theorem d_Md_fits_134 : decode c_Md_fits 134 = .ok (.iload_n 3, 1) := by decide +kernel
theorem d_Md_fits_135 : decode c_Md_fits 135 = .ok (.iaload, 1) := by decide +kernel
theorem d_Md_fits_136 : decode c_Md_fits 136 = .ok (.iload 5, 2) := by decide +kernel
theorem d_Md_fits_138 : decode c_Md_fits 138 = .ok (.isub, 1) := by decide +kernel
theorem d_Md_fits_139 : decode c_Md_fits 139 = .ok (.istore 6, 2) := by decide +kernel
theorem d_Md_fits_141 : decode c_Md_fits 141 = .ok (.iload 4, 2) := by decide +kernel
theorem d_Md_fits_143 : decode c_Md_fits 143 = .ok (.ifCond .eq 61, 3) := by decide +kernel
theorem d_Md_fits_146 : decode c_Md_fits 146 = .ok (.aload_n 0, 1) := by decide +kernel
theorem d_Md_fits_147 : decode c_Md_fits 147 = .ok (.getfield 27, 3) := by decide +kernel
theorem d_Md_fits_150 : decode c_Md_fits 150 = .ok (.iload_n 1, 1) := by decide +kernel
theorem d_Md_fits_151 : decode c_Md_fits 151 = .ok (.iaload, 1) := by decide +kernel
theorem d_Md_fits_152 : decode c_Md_fits 152 = .ok (.ifCond .eq 48, 3) := by decide +kernel
theorem d_Md_fits_155 : decode c_Md_fits 155 = .ok (.aload_n 0, 1) := by decide +kernel
theorem d_Md_fits_156 : decode c_Md_fits 156 = .ok (.getfield 27, 3) := by decide +kernel
theorem d_Md_fits_159 : decode c_Md_fits 159 = .ok (.iload_n 1, 1) := by decide +kernel
theorem d_Md_fits_160 : decode c_Md_fits 160 = .ok (.iaload, 1) := by decide +kernel
theorem d_Md_fits_161 : decode c_Md_fits 161 = .ok (.iconst 1, 1) := by decide +kernel
theorem d_Md_fits_162 : decode c_Md_fits 162 = .ok (.if_icmp .ne 8, 3) := by decide +kernel
theorem d_Md_fits_165 : decode c_Md_fits 165 = .ok (.iload 6, 2) := by decide +kernel
theorem d_Md_fits_167 : decode c_Md_fits 167 = .ok (.ifCond .lt 33, 3) := by decide +kernel
theorem d_Md_fits_170 : decode c_Md_fits 170 = .ok (.aload_n 0, 1) := by decide +kernel
theorem d_Md_fits_171 : decode c_Md_fits 171 = .ok (.getfield 27, 3) := by decide +kernel
theorem d_Md_fits_174 : decode c_Md_fits 174 = .ok (.iload_n 1, 1) := by decide +kernel
theorem d_Md_fits_175 : decode c_Md_fits 175 = .ok (.iaload, 1) := by decide +kernel
theorem d_Md_fits_176 : decode c_Md_fits 176 = .ok (.iconst 2, 1) := by decide +kernel
theorem d_Md_fits_177 : decode c_Md_fits 177 = .ok (.if_icmp .ne 8, 3) := by decide +kernel
theorem d_Md_fits_180 : decode c_Md_fits 180 = .ok (.iload 6, 2) := by decide +kernel
theorem d_Md_fits_182 : decode c_Md_fits 182 = .ok (.ifCond .eq 18, 3) := by decide +kernel
theorem d_Md_fits_185 : decode c_Md_fits 185 = .ok (.aload_n 0, 1) := by decide +kernel
theorem d_Md_fits_186 : decode c_Md_fits 186 = .ok (.getfield 27, 3) := by decide +kernel
theorem d_Md_fits_189 : decode c_Md_fits 189 = .ok (.iload_n 1, 1) := by decide +kernel
theorem d_Md_fits_190 : decode c_Md_fits 190 = .ok (.iaload, 1) := by decide +kernel
theorem d_Md_fits_191 : decode c_Md_fits 191 = .ok (.iconst 3, 1) := by decide +kernel
theorem d_Md_fits_192 : decode c_Md_fits 192 = .ok (.if_icmp .ne 12, 3) := by decide +kernel
theorem d_Md_fits_195 : decode c_Md_fits 195 = .ok (.iload 6, 2) := by decide +kernel
theorem d_Md_fits_197 : decode c_Md_fits 197 = .ok (.ifCond .le 7, 3) := by decide +kernel
theorem d_Md_fits_200 : decode c_Md_fits 200 = .ok (.iconst 1, 1) := by decide +kernel
theorem d_Md_fits_201 : decode c_Md_fits 201 = .ok (.goto 4, 3) := by decide +kernel
theorem d_Md_fits_204 : decode c_Md_fits 204 = .ok (.iconst 0, 1) := by decide +kernel
theorem d_Md_fits_205 : decode c_Md_fits 205 = .ok (.ireturn, 1) := by decide +kernel
theorem d_Md_isBarred_0 : decode c_Md_isBarred 0 = .ok (.iconst 0, 1) := by decide +kernel
theorem d_Md_isBarred_1 : decode c_Md_isBarred 1 = .ok (.istore_n 3, 1) := by decide +kernel
theorem d_Md_isBarred_2 : decode c_Md_isBarred 2 = .ok (.aload_n 0, 1) := by decide +kernel
theorem d_Md_isBarred_3 : decode c_Md_isBarred 3 = .ok (.getfield 37, 3) := by decide +kernel
theorem d_Md_isBarred_6 : decode c_Md_isBarred 6 = .ok (.aload_n 0, 1) := by decide +kernel
theorem d_Md_isBarred_7 : decode c_Md_isBarred 7 = .ok (.getfield 52, 3) := by decide +kernel
theorem d_Md_isBarred_10 : decode c_Md_isBarred 10 = .ok (.iload_n 1, 1) := by decide +kernel
theorem d_Md_isBarred_11 : decode c_Md_isBarred 11 = .ok (.iaload, 1) := by decide +kernel
theorem d_Md_isBarred_12 : decode c_Md_isBarred 12 = .ok (.iaload, 1) := by decide +kernel
theorem d_Md_isBarred_13 : decode c_Md_isBarred 13 = .ok (.iconst 1, 1) := by decide +kernel
theorem d_Md_isBarred_14 : decode c_Md_isBarred 14 = .ok (.iadd, 1) := by decide +kernel
theorem d_Md_isBarred_15 : decode c_Md_isBarred 15 = .ok (.istore 4, 2) := by decide +kernel
theorem d_Md_isBarred_17 : decode c_Md_isBarred 17 = .ok (.iload 4, 2) := by decide +kernel
theorem d_Md_isBarred_19 : decode c_Md_isBarred 19 = .ok (.aload_n 0, 1) := by decide +kernel
theorem d_Md_isBarred_20 : decode c_Md_isBarred 20 = .ok (.getfield 37, 3) := by decide +kernel
theorem d_Md_isBarred_23 : decode c_Md_isBarred 23 = .ok (.aload_n 0, 1) := by decide +kernel
theorem d_Md_isBarred_24 : decode c_Md_isBarred 24 = .ok (.getfield 52, 3) := by decide +kernel
theorem d_Md_isBarred_27 : decode c_Md_isBarred 27 = .ok (.iload_n 1, 1) := by decide +kernel
theorem d_Md_isBarred_28 : decode c_Md_isBarred 28 = .ok (.iaload, 1) := by decide +kernel
theorem d_Md_isBarred_29 : decode c_Md_isBarred 29 = .ok (.iconst 1, 1) := by decide +kernel
theorem d_Md_isBarred_30 : decode c_Md_isBarred 30 = .ok (.iadd, 1) := by decide +kernel
theorem d_Md_isBarred_31 : decode c_Md_isBarred 31 = .ok (.iaload, 1) := by decide +kernel
theorem d_Md_isBarred_32 : decode c_Md_isBarred 32 = .ok (.if_icmp .ge 30, 3) := by decide +kernel
theorem d_Md_isBarred_35 : decode c_Md_isBarred 35 = .ok (.iload_n 3, 1) := by decide +kernel
theorem d_Md_isBarred_36 : decode c_Md_isBarred 36 = .ok (.ifCond .ne 14, 3) := by decide +kernel
theorem d_Md_isBarred_39 : decode c_Md_isBarred 39 = .ok (.aload_n 0, 1) := by decide +kernel
theorem d_Md_isBarred_40 : decode c_Md_isBarred 40 = .ok (.iload 4, 2) := by decide +kernel
theorem d_Md_isBarred_42 : decode c_Md_isBarred 42 = .ok (.iload_n 1, 1) := by decide +kernel
theorem d_Md_isBarred_43 : decode c_Md_isBarred 43 = .ok (.iload_n 2, 1) := by decide +kernel
theorem d_Md_isBarred_44 : decode c_Md_isBarred 44 = .ok (.invokevirtual 148, 3) := by decide +kernel
theorem d_Md_isBarred_47 : decode c_Md_isBarred 47 = .ok (.ifCond .eq 7, 3) := by decide +kernel
theorem d_Md_isBarred_50 : decode c_Md_isBarred 50 = .ok (.iconst 1, 1) := by decide +kernel
theorem d_Md_isBarred_51 : decode c_Md_isBarred 51 = .ok (.goto 4, 3) := by decide +kernel
theorem d_Md_isBarred_54 : decode c_Md_isBarred 54 = .ok (.iconst 0, 1) := by decide +kernel
theorem d_Md_isBarred_55 : decode c_Md_isBarred 55 = .ok (.istore_n 3, 1) := by decide +kernel
theorem d_Md_isBarred_56 : decode c_Md_isBarred 56 = .ok (.iinc 4 1, 3) := by decide +kernel
theorem d_Md_isBarred_59 : decode c_Md_isBarred 59 = .ok (.goto (-42), 3) := by decide +kernel
theorem d_Md_isBarred_62 : decode c_Md_isBarred 62 = .ok (.iload_n 3, 1) := by decide +kernel
theorem d_Md_isBarred_63 : decode c_Md_isBarred 63 = .ok (.ireturn, 1) := by decide +kernel
theorem d_Md_copy_0 : decode c_Md_copy 0 = .ok (.aload_n 0, 1) := by decide +kernel
theorem d_Md_copy_1 : decode c_Md_copy 1 = .ok (.getfield 52, 3) := by decide +kernel
theorem d_Md_copy_4 : decode c_Md_copy 4 = .ok (.iload_n 2, 1) := by decide +kernel
theorem d_Md_copy_5 : decode c_Md_copy 5 = .ok (.aload_n 0, 1) := by decide +kernel
theorem d_Md_copy_6 : decode c_Md_copy 6 = .ok (.getfield 52, 3) := by decide +kernel
theorem d_Md_copy_9 : decode c_Md_copy 9 = .ok (.iload_n 1, 1) := by decide +kernel
theorem d_Md_copy_10 : decode c_Md_copy 10 = .ok (.iaload, 1) := by decide +kernel
theorem d_Md_copy_11 : decode c_Md_copy 11 = .ok (.iastore, 1) := by decide +kernel
theorem d_Md_copy_12 : decode c_Md_copy 12 = .ok (.aload_n 0, 1) := by decide +kernel
theorem d_Md_copy_13 : decode c_Md_copy 13 = .ok (.getfield 55, 3) := by decide +kernel
theorem d_Md_copy_16 : decode c_Md_copy 16 = .ok (.iload_n 2, 1) := by decide +kernel
theorem d_Md_copy_17 : decode c_Md_copy 17 = .ok (.aload_n 0, 1) := by decide +kernel
theorem d_Md_copy_18 : decode c_Md_copy 18 = .ok (.getfield 55, 3) := by decide +kernel
theorem d_Md_copy_21 : decode c_Md_copy 21 = .ok (.iload_n 1, 1) := by decide +kernel
theorem d_Md_copy_22 : decode c_Md_copy 22 = .ok (.iaload, 1) := by decide +kernel
theorem d_Md_copy_23 : decode c_Md_copy 23 = .ok (.iastore, 1) := by decide +kernel
theorem d_Md_copy_24 : decode c_Md_copy 24 = .ok (.iconst 0, 1) := by decide +kernel
theorem d_Md_copy_25 : decode c_Md_copy 25 = .ok (.istore_n 3, 1) := by decide +kernel
theorem d_Md_copy_26 : decode c_Md_copy 26 = .ok (.iload_n 3, 1) := by decide +kernel
theorem d_Md_copy_27 : decode c_Md_copy 27 = .ok (.aload_n 0, 1) := by decide +kernel
theorem d_Md_copy_28 : decode c_Md_copy 28 = .ok (.getfield 55, 3) := by decide +kernel
theorem d_Md_copy_31 : decode c_Md_copy 31 = .ok (.iload_n 1, 1) := by decide +kernel
theorem d_Md_copy_32 : decode c_Md_copy 32 = .ok (.iaload, 1) := by decide +kernel
theorem d_Md_copy_33 : decode c_Md_copy 33 = .ok (.if_icmp .ge 31, 3) := by decide +kernel
theorem d_Md_copy_36 : decode c_Md_copy 36 = .ok (.aload_n 0, 1) := by decide +kernel
theorem d_Md_copy_37 : decode c_Md_copy 37 = .ok (.getfield 58, 3) := by decide +kernel
theorem d_Md_copy_40 : decode c_Md_copy 40 = .ok (.bipush 24, 2) := by decide +kernel
theorem d_Md_copy_42 : decode c_Md_copy 42 = .ok (.iload_n 2, 1) := by decide +kernel
theorem d_Md_copy_43 : decode c_Md_copy 43 = .ok (.imul, 1) := by decide +kernel
theorem d_Md_copy_44 : decode c_Md_copy 44 = .ok (.iload_n 3, 1) := by decide +kernel
theorem d_Md_copy_45 : decode c_Md_copy 45 = .ok (.iadd, 1) := by decide +kernel
theorem d_Md_copy_46 : decode c_Md_copy 46 = .ok (.aload_n 0, 1) := by decide +kernel
theorem d_Md_copy_47 : decode c_Md_copy 47 = .ok (.getfield 58, 3) := by decide +kernel
theorem d_Md_copy_50 : decode c_Md_copy 50 = .ok (.bipush 24, 2) := by decide +kernel
theorem d_Md_copy_52 : decode c_Md_copy 52 = .ok (.iload_n 1, 1) := by decide +kernel
theorem d_Md_copy_53 : decode c_Md_copy 53 = .ok (.imul, 1) := by decide +kernel
theorem d_Md_copy_54 : decode c_Md_copy 54 = .ok (.iload_n 3, 1) := by decide +kernel
theorem d_Md_copy_55 : decode c_Md_copy 55 = .ok (.iadd, 1) := by decide +kernel
theorem d_Md_copy_56 : decode c_Md_copy 56 = .ok (.iaload, 1) := by decide +kernel
theorem d_Md_copy_57 : decode c_Md_copy 57 = .ok (.iastore, 1) := by decide +kernel
theorem d_Md_copy_58 : decode c_Md_copy 58 = .ok (.iinc 3 1, 3) := by decide +kernel
theorem d_Md_copy_61 : decode c_Md_copy 61 = .ok (.goto (-35), 3) := by decide +kernel
theorem d_Md_copy_64 : decode c_Md_copy 64 = .ok (.return_, 1) := by decide +kernel
theorem d_Md_take_0 : decode c_Md_take 0 = .ok (.aload_n 0, 1) := by decide +kernel
theorem d_Md_take_1 : decode c_Md_take 1 = .ok (.getfield 58, 3) := by decide +kernel
theorem d_Md_take_4 : decode c_Md_take 4 = .ok (.bipush 24, 2) := by decide +kernel
theorem d_Md_take_6 : decode c_Md_take 6 = .ok (.iload_n 1, 1) := by decide +kernel
theorem d_Md_take_7 : decode c_Md_take 7 = .ok (.imul, 1) := by decide +kernel
theorem d_Md_take_8 : decode c_Md_take 8 = .ok (.aload_n 0, 1) := by decide +kernel
theorem d_Md_take_9 : decode c_Md_take 9 = .ok (.getfield 55, 3) := by decide +kernel
theorem d_Md_take_12 : decode c_Md_take 12 = .ok (.iload_n 1, 1) := by decide +kernel
theorem d_Md_take_13 : decode c_Md_take 13 = .ok (.iaload, 1) := by decide +kernel
theorem d_Md_take_14 : decode c_Md_take 14 = .ok (.iadd, 1) := by decide +kernel
theorem d_Md_take_15 : decode c_Md_take 15 = .ok (.iload_n 2, 1) := by decide +kernel
theorem d_Md_take_16 : decode c_Md_take 16 = .ok (.iastore, 1) := by decide +kernel
theorem d_Md_take_17 : decode c_Md_take 17 = .ok (.aload_n 0, 1) := by decide +kernel
theorem d_Md_take_18 : decode c_Md_take 18 = .ok (.getfield 55, 3) := by decide +kernel
theorem d_Md_take_21 : decode c_Md_take 21 = .ok (.iload_n 1, 1) := by decide +kernel
theorem d_Md_take_22 : decode c_Md_take 22 = .ok (.dup2, 1) := by decide +kernel
theorem d_Md_take_23 : decode c_Md_take 23 = .ok (.iaload, 1) := by decide +kernel
theorem d_Md_take_24 : decode c_Md_take 24 = .ok (.iconst 1, 1) := by decide +kernel
theorem d_Md_take_25 : decode c_Md_take 25 = .ok (.iadd, 1) := by decide +kernel
theorem d_Md_take_26 : decode c_Md_take 26 = .ok (.iastore, 1) := by decide +kernel
theorem d_Md_take_27 : decode c_Md_take 27 = .ok (.aload_n 0, 1) := by decide +kernel
theorem d_Md_take_28 : decode c_Md_take 28 = .ok (.getfield 52, 3) := by decide +kernel
theorem d_Md_take_31 : decode c_Md_take 31 = .ok (.iload_n 1, 1) := by decide +kernel
theorem d_Md_take_32 : decode c_Md_take 32 = .ok (.dup2, 1) := by decide +kernel
theorem d_Md_take_33 : decode c_Md_take 33 = .ok (.iaload, 1) := by decide +kernel
theorem d_Md_take_34 : decode c_Md_take 34 = .ok (.iload_n 3, 1) := by decide +kernel
theorem d_Md_take_35 : decode c_Md_take 35 = .ok (.iadd, 1) := by decide +kernel
theorem d_Md_take_36 : decode c_Md_take 36 = .ok (.iastore, 1) := by decide +kernel
theorem d_Md_take_37 : decode c_Md_take 37 = .ok (.return_, 1) := by decide +kernel
theorem d_Md_complete_0 : decode c_Md_complete 0 = .ok (.iload_n 1, 1) := by decide +kernel
theorem d_Md_complete_1 : decode c_Md_complete 1 = .ok (.ifCond .ge 7, 3) := by decide +kernel
theorem d_Md_complete_4 : decode c_Md_complete 4 = .ok (.iconst 0, 1) := by decide +kernel
theorem d_Md_complete_5 : decode c_Md_complete 5 = .ok (.goto 9, 3) := by decide +kernel
theorem d_Md_complete_8 : decode c_Md_complete 8 = .ok (.aload_n 0, 1) := by decide +kernel
theorem d_Md_complete_9 : decode c_Md_complete 9 = .ok (.getfield 55, 3) := by decide +kernel
theorem d_Md_complete_12 : decode c_Md_complete 12 = .ok (.iload_n 1, 1) := by decide +kernel
theorem d_Md_complete_13 : decode c_Md_complete 13 = .ok (.iaload, 1) := by decide +kernel
theorem d_Md_complete_14 : decode c_Md_complete 14 = .ok (.istore_n 3, 1) := by decide +kernel
theorem d_Md_complete_15 : decode c_Md_complete 15 = .ok (.iconst 0, 1) := by decide +kernel
theorem d_Md_complete_16 : decode c_Md_complete 16 = .ok (.istore 4, 2) := by decide +kernel
theorem d_Md_complete_18 : decode c_Md_complete 18 = .ok (.iload 4, 2) := by decide +kernel
theorem d_Md_complete_20 : decode c_Md_complete 20 = .ok (.iload_n 3, 1) := by decide +kernel
theorem d_Md_complete_21 : decode c_Md_complete 21 = .ok (.if_icmp .ge 36, 3) := by decide +kernel
theorem d_Md_complete_24 : decode c_Md_complete 24 = .ok (.aload_n 0, 1) := by decide +kernel
theorem d_Md_complete_25 : decode c_Md_complete 25 = .ok (.getfield 64, 3) := by decide +kernel
theorem d_Md_complete_28 : decode c_Md_complete 28 = .ok (.bipush 24, 2) := by decide +kernel
theorem d_Md_complete_30 : decode c_Md_complete 30 = .ok (.aload_n 0, 1) := by decide +kernel
theorem d_Md_complete_31 : decode c_Md_complete 31 = .ok (.getfield 126, 3) := by decide +kernel
theorem d_Md_complete_34 : decode c_Md_complete 34 = .ok (.imul, 1) := by decide +kernel
theorem d_Md_complete_35 : decode c_Md_complete 35 = .ok (.iload 4, 2) := by decide +kernel
theorem d_Md_complete_37 : decode c_Md_complete 37 = .ok (.iadd, 1) := by decide +kernel
theorem d_Md_complete_38 : decode c_Md_complete 38 = .ok (.aload_n 0, 1) := by decide +kernel
theorem d_Md_complete_39 : decode c_Md_complete 39 = .ok (.getfield 58, 3) := by decide +kernel
theorem d_Md_complete_42 : decode c_Md_complete 42 = .ok (.bipush 24, 2) := by decide +kernel
theorem d_Md_complete_44 : decode c_Md_complete 44 = .ok (.iload_n 1, 1) := by decide +kernel
theorem d_Md_complete_45 : decode c_Md_complete 45 = .ok (.imul, 1) := by decide +kernel
theorem d_Md_complete_46 : decode c_Md_complete 46 = .ok (.iload 4, 2) := by decide +kernel
theorem d_Md_complete_48 : decode c_Md_complete 48 = .ok (.iadd, 1) := by decide +kernel
theorem d_Md_complete_49 : decode c_Md_complete 49 = .ok (.iaload, 1) := by decide +kernel
theorem d_Md_complete_50 : decode c_Md_complete 50 = .ok (.iastore, 1) := by decide +kernel
theorem d_Md_complete_51 : decode c_Md_complete 51 = .ok (.iinc 4 1, 3) := by decide +kernel
theorem d_Md_complete_54 : decode c_Md_complete 54 = .ok (.goto (-36), 3) := by decide +kernel
theorem d_Md_complete_57 : decode c_Md_complete 57 = .ok (.aload_n 0, 1) := by decide +kernel
theorem d_Md_complete_58 : decode c_Md_complete 58 = .ok (.getfield 64, 3) := by decide +kernel
theorem d_Md_complete_61 : decode c_Md_complete 61 = .ok (.bipush 24, 2) := by decide +kernel
theorem d_Md_complete_63 : decode c_Md_complete 63 = .ok (.aload_n 0, 1) := by decide +kernel
theorem d_Md_complete_64 : decode c_Md_complete 64 = .ok (.getfield 126, 3) := by decide +kernel
theorem d_Md_complete_67 : decode c_Md_complete 67 = .ok (.imul, 1) := by decide +kernel
theorem d_Md_complete_68 : decode c_Md_complete 68 = .ok (.iload_n 3, 1) := by decide +kernel
theorem d_Md_complete_69 : decode c_Md_complete 69 = .ok (.iadd, 1) := by decide +kernel
theorem d_Md_complete_70 : decode c_Md_complete 70 = .ok (.iload_n 2, 1) := by decide +kernel
theorem d_Md_complete_71 : decode c_Md_complete 71 = .ok (.iastore, 1) := by decide +kernel
theorem d_Md_complete_72 : decode c_Md_complete 72 = .ok (.aload_n 0, 1) := by decide +kernel
theorem d_Md_complete_73 : decode c_Md_complete 73 = .ok (.getfield 61, 3) := by decide +kernel
theorem d_Md_complete_76 : decode c_Md_complete 76 = .ok (.aload_n 0, 1) := by decide +kernel
theorem d_Md_complete_77 : decode c_Md_complete 77 = .ok (.getfield 126, 3) := by decide +kernel
theorem d_Md_complete_80 : decode c_Md_complete 80 = .ok (.iload_n 3, 1) := by decide +kernel
theorem d_Md_complete_81 : decode c_Md_complete 81 = .ok (.iconst 1, 1) := by decide +kernel
theorem d_Md_complete_82 : decode c_Md_complete 82 = .ok (.iadd, 1) := by decide +kernel
theorem d_Md_complete_83 : decode c_Md_complete 83 = .ok (.iastore, 1) := by decide +kernel
theorem d_Md_complete_84 : decode c_Md_complete 84 = .ok (.aload_n 0, 1) := by decide +kernel
theorem d_Md_complete_85 : decode c_Md_complete 85 = .ok (.dup, 1) := by decide +kernel
theorem d_Md_complete_86 : decode c_Md_complete 86 = .ok (.getfield 126, 3) := by decide +kernel
theorem d_Md_complete_89 : decode c_Md_complete 89 = .ok (.iconst 1, 1) := by decide +kernel
theorem d_Md_complete_90 : decode c_Md_complete 90 = .ok (.iadd, 1) := by decide +kernel
theorem d_Md_complete_91 : decode c_Md_complete 91 = .ok (.putfield 126, 3) := by decide +kernel
theorem d_Md_complete_94 : decode c_Md_complete 94 = .ok (.aload_n 0, 1) := by decide +kernel
theorem d_Md_complete_95 : decode c_Md_complete 95 = .ok (.dup, 1) := by decide +kernel
theorem d_Md_complete_96 : decode c_Md_complete 96 = .ok (.getfield 129, 3) := by decide +kernel
theorem d_Md_complete_99 : decode c_Md_complete 99 = .ok (.iconst 1, 1) := by decide +kernel
theorem d_Md_complete_100 : decode c_Md_complete 100 = .ok (.iadd, 1) := by decide +kernel
theorem d_Md_complete_101 : decode c_Md_complete 101 = .ok (.putfield 129, 3) := by decide +kernel
theorem d_Md_complete_104 : decode c_Md_complete 104 = .ok (.return_, 1) := by decide +kernel
theorem d_Md_proceed_0 : decode c_Md_proceed 0 = .ok (.aload_n 0, 1) := by decide +kernel
theorem d_Md_proceed_1 : decode c_Md_proceed 1 = .ok (.getfield 24, 3) := by decide +kernel
theorem d_Md_proceed_4 : decode c_Md_proceed 4 = .ok (.aload_n 0, 1) := by decide +kernel
theorem d_Md_proceed_5 : decode c_Md_proceed 5 = .ok (.getfield 37, 3) := by decide +kernel
theorem d_Md_proceed_8 : decode c_Md_proceed 8 = .ok (.aload_n 0, 1) := by decide +kernel
theorem d_Md_proceed_9 : decode c_Md_proceed 9 = .ok (.getfield 52, 3) := by decide +kernel
theorem d_Md_proceed_12 : decode c_Md_proceed 12 = .ok (.iload_n 1, 1) := by decide +kernel
theorem d_Md_proceed_13 : decode c_Md_proceed 13 = .ok (.iaload, 1) := by decide +kernel
theorem d_Md_proceed_14 : decode c_Md_proceed 14 = .ok (.iaload, 1) := by decide +kernel
theorem d_Md_proceed_15 : decode c_Md_proceed 15 = .ok (.baload, 1) := by decide +kernel
theorem d_Md_proceed_16 : decode c_Md_proceed 16 = .ok (.ifCond .eq 38, 3) := by decide +kernel
theorem d_Md_proceed_19 : decode c_Md_proceed 19 = .ok (.aload_n 0, 1) := by decide +kernel
theorem d_Md_proceed_20 : decode c_Md_proceed 20 = .ok (.aload_n 0, 1) := by decide +kernel
theorem d_Md_proceed_21 : decode c_Md_proceed 21 = .ok (.getfield 37, 3) := by decide +kernel
theorem d_Md_proceed_24 : decode c_Md_proceed 24 = .ok (.aload_n 0, 1) := by decide +kernel
theorem d_Md_proceed_25 : decode c_Md_proceed 25 = .ok (.getfield 52, 3) := by decide +kernel
theorem d_Md_proceed_28 : decode c_Md_proceed 28 = .ok (.iload_n 1, 1) := by decide +kernel
theorem d_Md_proceed_29 : decode c_Md_proceed 29 = .ok (.iaload, 1) := by decide +kernel
theorem d_Md_proceed_30 : decode c_Md_proceed 30 = .ok (.iaload, 1) := by decide +kernel
theorem d_Md_proceed_31 : decode c_Md_proceed 31 = .ok (.iload_n 1, 1) := by decide +kernel
theorem d_Md_proceed_32 : decode c_Md_proceed 32 = .ok (.iload_n 2, 1) := by decide +kernel
theorem d_Md_proceed_33 : decode c_Md_proceed 33 = .ok (.invokevirtual 148, 3) := by decide +kernel
theorem d_Md_proceed_36 : decode c_Md_proceed 36 = .ok (.ifCond .eq 18, 3) := by decide +kernel
theorem d_Md_proceed_39 : decode c_Md_proceed 39 = .ok (.aload_n 0, 1) := by decide +kernel
theorem d_Md_proceed_40 : decode c_Md_proceed 40 = .ok (.getfield 55, 3) := by decide +kernel
theorem d_Md_proceed_43 : decode c_Md_proceed 43 = .ok (.iload_n 1, 1) := by decide +kernel
theorem d_Md_proceed_44 : decode c_Md_proceed 44 = .ok (.iaload, 1) := by decide +kernel
theorem d_Md_proceed_45 : decode c_Md_proceed 45 = .ok (.bipush 12, 2) := by decide +kernel
theorem d_Md_proceed_47 : decode c_Md_proceed 47 = .ok (.if_icmp .ge 7, 3) := by decide +kernel
theorem d_Md_proceed_50 : decode c_Md_proceed 50 = .ok (.iconst 1, 1) := by decide +kernel
theorem d_Md_proceed_51 : decode c_Md_proceed 51 = .ok (.goto 4, 3) := by decide +kernel
theorem d_Md_proceed_54 : decode c_Md_proceed 54 = .ok (.iconst 0, 1) := by decide +kernel
theorem d_Md_proceed_55 : decode c_Md_proceed 55 = .ok (.istore 4, 2) := by decide +kernel
theorem d_Md_proceed_57 : decode c_Md_proceed 57 = .ok (.aload_n 0, 1) := by decide +kernel
theorem d_Md_proceed_58 : decode c_Md_proceed 58 = .ok (.aload_n 0, 1) := by decide +kernel
theorem d_Md_proceed_59 : decode c_Md_proceed 59 = .ok (.getfield 37, 3) := by decide +kernel
theorem d_Md_proceed_62 : decode c_Md_proceed 62 = .ok (.aload_n 0, 1) := by decide +kernel
theorem d_Md_proceed_63 : decode c_Md_proceed 63 = .ok (.getfield 52, 3) := by decide +kernel
theorem d_Md_proceed_66 : decode c_Md_proceed 66 = .ok (.iload_n 1, 1) := by decide +kernel
theorem d_Md_proceed_67 : decode c_Md_proceed 67 = .ok (.iaload, 1) := by decide +kernel
theorem d_Md_proceed_68 : decode c_Md_proceed 68 = .ok (.iconst 1, 1) := by decide +kernel
theorem d_Md_proceed_69 : decode c_Md_proceed 69 = .ok (.iadd, 1) := by decide +kernel
theorem d_Md_proceed_70 : decode c_Md_proceed 70 = .ok (.iaload, 1) := by decide +kernel
theorem d_Md_proceed_71 : decode c_Md_proceed 71 = .ok (.iload_n 1, 1) := by decide +kernel
theorem d_Md_proceed_72 : decode c_Md_proceed 72 = .ok (.iload_n 2, 1) := by decide +kernel
theorem d_Md_proceed_73 : decode c_Md_proceed 73 = .ok (.invokevirtual 148, 3) := by decide +kernel
theorem d_Md_proceed_76 : decode c_Md_proceed 76 = .ok (.istore 5, 2) := by decide +kernel
theorem d_Md_proceed_78 : decode c_Md_proceed 78 = .ok (.iload 5, 2) := by decide +kernel
theorem d_Md_proceed_80 : decode c_Md_proceed 80 = .ok (.ifCond .eq 22, 3) := by decide +kernel
theorem d_Md_proceed_83 : decode c_Md_proceed 83 = .ok (.aload_n 0, 1) := by decide +kernel
theorem d_Md_proceed_84 : decode c_Md_proceed 84 = .ok (.getfield 52, 3) := by decide +kernel
theorem d_Md_proceed_87 : decode c_Md_proceed 87 = .ok (.iload_n 1, 1) := by decide +kernel
theorem d_Md_proceed_88 : decode c_Md_proceed 88 = .ok (.iaload, 1) := by decide +kernel
theorem d_Md_proceed_89 : decode c_Md_proceed 89 = .ok (.iconst 2, 1) := by decide +kernel
theorem d_Md_proceed_90 : decode c_Md_proceed 90 = .ok (.iadd, 1) := by decide +kernel
theorem d_Md_proceed_91 : decode c_Md_proceed 91 = .ok (.aload_n 0, 1) := by decide +kernel
theorem d_Md_proceed_92 : decode c_Md_proceed 92 = .ok (.getfield 108, 3) := by decide +kernel
theorem d_Md_proceed_95 : decode c_Md_proceed 95 = .ok (.if_icmp .ne 7, 3) := by decide +kernel
theorem d_Md_proceed_98 : decode c_Md_proceed 98 = .ok (.iconst 1, 1) := by decide +kernel
theorem d_Md_proceed_99 : decode c_Md_proceed 99 = .ok (.goto 4, 3) := by decide +kernel
theorem d_Md_proceed_102 : decode c_Md_proceed 102 = .ok (.iconst 0, 1) := by decide +kernel
theorem d_Md_proceed_103 : decode c_Md_proceed 103 = .ok (.istore 6, 2) := by decide +kernel
theorem d_Md_proceed_105 : decode c_Md_proceed 105 = .ok (.iload 4, 2) := by decide +kernel
theorem d_Md_proceed_107 : decode c_Md_proceed 107 = .ok (.ifCond .ne 8, 3) := by decide +kernel
theorem d_Md_proceed_110 : decode c_Md_proceed 110 = .ok (.iload 5, 2) := by decide +kernel
theorem d_Md_proceed_112 : decode c_Md_proceed 112 = .ok (.ifCond .ne 43, 3) := by decide +kernel
theorem d_Md_proceed_115 : decode c_Md_proceed 115 = .ok (.aload_n 0, 1) := by decide +kernel
theorem d_Md_proceed_116 : decode c_Md_proceed 116 = .ok (.iload_n 1, 1) := by decide +kernel
theorem d_Md_proceed_117 : decode c_Md_proceed 117 = .ok (.bipush 25, 2) := by decide +kernel
theorem d_Md_proceed_119 : decode c_Md_proceed 119 = .ok (.aload_n 0, 1) := by decide +kernel
theorem d_Md_proceed_120 : decode c_Md_proceed 120 = .ok (.getfield 152, 3) := by decide +kernel
theorem d_Md_proceed_123 : decode c_Md_proceed 123 = .ok (.iadd, 1) := by decide +kernel
theorem d_Md_proceed_124 : decode c_Md_proceed 124 = .ok (.invokevirtual 155, 3) := by decide +kernel
theorem d_Md_proceed_127 : decode c_Md_proceed 127 = .ok (.iload 4, 2) := by decide +kernel
theorem d_Md_proceed_129 : decode c_Md_proceed 129 = .ok (.ifCond .eq 16, 3) := by decide +kernel
theorem d_Md_proceed_132 : decode c_Md_proceed 132 = .ok (.aload_n 0, 1) := by decide +kernel
theorem d_Md_proceed_133 : decode c_Md_proceed 133 = .ok (.bipush 25, 2) := by decide +kernel
theorem d_Md_proceed_135 : decode c_Md_proceed 135 = .ok (.aload_n 0, 1) := by decide +kernel
theorem d_Md_proceed_136 : decode c_Md_proceed 136 = .ok (.getfield 152, 3) := by decide +kernel
theorem d_Md_proceed_139 : decode c_Md_proceed 139 = .ok (.iadd, 1) := by decide +kernel
theorem d_Md_proceed_140 : decode c_Md_proceed 140 = .ok (.iload_n 2, 1) := by decide +kernel
theorem d_Md_proceed_141 : decode c_Md_proceed 141 = .ok (.iconst 0, 1) := by decide +kernel
theorem d_Md_proceed_142 : decode c_Md_proceed 142 = .ok (.invokevirtual 159, 3) := by decide +kernel
theorem d_Md_proceed_145 : decode c_Md_proceed 145 = .ok (.aload_n 0, 1) := by decide +kernel
theorem d_Md_proceed_146 : decode c_Md_proceed 146 = .ok (.dup, 1) := by decide +kernel
theorem d_Md_proceed_147 : decode c_Md_proceed 147 = .ok (.getfield 152, 3) := by decide +kernel
theorem d_Md_proceed_150 : decode c_Md_proceed 150 = .ok (.iconst 1, 1) := by decide +kernel
theorem d_Md_proceed_151 : decode c_Md_proceed 151 = .ok (.iadd, 1) := by decide +kernel
theorem d_Md_proceed_152 : decode c_Md_proceed 152 = .ok (.putfield 152, 3) := by decide +kernel
theorem d_Md_proceed_155 : decode c_Md_proceed 155 = .ok (.iload 6, 2) := by decide +kernel
theorem d_Md_proceed_157 : decode c_Md_proceed 157 = .ok (.ifCond .eq 20, 3) := by decide +kernel
theorem d_Md_proceed_160 : decode c_Md_proceed 160 = .ok (.aload_n 0, 1) := by decide +kernel
theorem d_Md_proceed_161 : decode c_Md_proceed 161 = .ok (.iload_n 1, 1) := by decide +kernel
theorem d_Md_proceed_162 : decode c_Md_proceed 162 = .ok (.iload_n 2, 1) := by decide +kernel
theorem d_Md_proceed_163 : decode c_Md_proceed 163 = .ok (.invokevirtual 163, 3) := by decide +kernel
theorem d_Md_proceed_166 : decode c_Md_proceed 166 = .ok (.iload 4, 2) := by decide +kernel
theorem d_Md_proceed_168 : decode c_Md_proceed 168 = .ok (.ifCond .eq 7, 3) := by decide +kernel
theorem d_Md_proceed_171 : decode c_Md_proceed 171 = .ok (.iconst 0, 1) := by decide +kernel
theorem d_Md_proceed_172 : decode c_Md_proceed 172 = .ok (.goto 4, 3) := by decide +kernel
theorem d_Md_proceed_175 : decode c_Md_proceed 175 = .ok (.iconst (-1), 1) := by decide +kernel
theorem d_Md_proceed_176 : decode c_Md_proceed 176 = .ok (.ireturn, 1) := by decide +kernel
theorem d_Md_proceed_177 : decode c_Md_proceed 177 = .ok (.iload 5, 2) := by decide +kernel
theorem d_Md_proceed_179 : decode c_Md_proceed 179 = .ok (.ifCond .ne 5, 3) := by decide +kernel
theorem d_Md_proceed_182 : decode c_Md_proceed 182 = .ok (.iconst 0, 1) := by decide +kernel
theorem d_Md_proceed_183 : decode c_Md_proceed 183 = .ok (.ireturn, 1) := by decide +kernel
theorem d_Md_proceed_184 : decode c_Md_proceed 184 = .ok (.iload 4, 2) := by decide +kernel
theorem d_Md_proceed_186 : decode c_Md_proceed 186 = .ok (.ifCond .ne 40, 3) := by decide +kernel
theorem d_Md_proceed_189 : decode c_Md_proceed 189 = .ok (.aload_n 0, 1) := by decide +kernel
theorem d_Md_proceed_190 : decode c_Md_proceed 190 = .ok (.iload_n 1, 1) := by decide +kernel
theorem d_Md_proceed_191 : decode c_Md_proceed 191 = .ok (.bipush 25, 2) := by decide +kernel
theorem d_Md_proceed_193 : decode c_Md_proceed 193 = .ok (.aload_n 0, 1) := by decide +kernel
theorem d_Md_proceed_194 : decode c_Md_proceed 194 = .ok (.getfield 152, 3) := by decide +kernel
theorem d_Md_proceed_197 : decode c_Md_proceed 197 = .ok (.iadd, 1) := by decide +kernel
theorem d_Md_proceed_198 : decode c_Md_proceed 198 = .ok (.invokevirtual 155, 3) := by decide +kernel
theorem d_Md_proceed_201 : decode c_Md_proceed 201 = .ok (.aload_n 0, 1) := by decide +kernel
theorem d_Md_proceed_202 : decode c_Md_proceed 202 = .ok (.bipush 25, 2) := by decide +kernel
theorem d_Md_proceed_204 : decode c_Md_proceed 204 = .ok (.aload_n 0, 1) := by decide +kernel
theorem d_Md_proceed_205 : decode c_Md_proceed 205 = .ok (.getfield 152, 3) := by decide +kernel
theorem d_Md_proceed_208 : decode c_Md_proceed 208 = .ok (.iadd, 1) := by decide +kernel
theorem d_Md_proceed_209 : decode c_Md_proceed 209 = .ok (.iload_n 2, 1) := by decide +kernel
theorem d_Md_proceed_210 : decode c_Md_proceed 210 = .ok (.iconst 1, 1) := by decide +kernel
theorem d_Md_proceed_211 : decode c_Md_proceed 211 = .ok (.invokevirtual 159, 3) := by decide +kernel
theorem d_Md_proceed_214 : decode c_Md_proceed 214 = .ok (.aload_n 0, 1) := by decide +kernel
theorem d_Md_proceed_215 : decode c_Md_proceed 215 = .ok (.dup, 1) := by decide +kernel
theorem d_Md_proceed_216 : decode c_Md_proceed 216 = .ok (.getfield 152, 3) := by decide +kernel
theorem d_Md_proceed_219 : decode c_Md_proceed 219 = .ok (.iconst 1, 1) := by decide +kernel
theorem d_Md_proceed_220 : decode c_Md_proceed 220 = .ok (.iadd, 1) := by decide +kernel
theorem d_Md_proceed_221 : decode c_Md_proceed 221 = .ok (.putfield 152, 3) := by decide +kernel
theorem d_Md_proceed_224 : decode c_Md_proceed 224 = .ok (.iconst 0, 1) := by decide +kernel
theorem d_Md_proceed_225 : decode c_Md_proceed 225 = .ok (.ireturn, 1) := by decide +kernel
theorem d_Md_proceed_226 : decode c_Md_proceed 226 = .ok (.iload_n 3, 1) := by decide +kernel
theorem d_Md_proceed_227 : decode c_Md_proceed 227 = .ok (.bipush 24, 2) := by decide +kernel
theorem d_Md_proceed_229 : decode c_Md_proceed 229 = .ok (.if_icmp .ne 15, 3) := by decide +kernel
theorem d_Md_proceed_232 : decode c_Md_proceed 232 = .ok (.aload_n 0, 1) := by decide +kernel
theorem d_Md_proceed_233 : decode c_Md_proceed 233 = .ok (.dup, 1) := by decide +kernel
theorem d_Md_proceed_234 : decode c_Md_proceed 234 = .ok (.getfield 132, 3) := by decide +kernel
theorem d_Md_proceed_237 : decode c_Md_proceed 237 = .ok (.iconst 1, 1) := by decide +kernel
theorem d_Md_proceed_238 : decode c_Md_proceed 238 = .ok (.iadd, 1) := by decide +kernel
theorem d_Md_proceed_239 : decode c_Md_proceed 239 = .ok (.putfield 132, 3) := by decide +kernel
theorem d_Md_proceed_242 : decode c_Md_proceed 242 = .ok (.iconst 0, 1) := by decide +kernel
theorem d_Md_proceed_243 : decode c_Md_proceed 243 = .ok (.ireturn, 1) := by decide +kernel
theorem d_Md_proceed_244 : decode c_Md_proceed 244 = .ok (.aload_n 0, 1) := by decide +kernel
theorem d_Md_proceed_245 : decode c_Md_proceed 245 = .ok (.iload_n 1, 1) := by decide +kernel
theorem d_Md_proceed_246 : decode c_Md_proceed 246 = .ok (.bipush 50, 2) := by decide +kernel
theorem d_Md_proceed_248 : decode c_Md_proceed 248 = .ok (.aload_n 0, 1) := by decide +kernel
theorem d_Md_proceed_249 : decode c_Md_proceed 249 = .ok (.getfield 166, 3) := by decide +kernel
theorem d_Md_proceed_252 : decode c_Md_proceed 252 = .ok (.iadd, 1) := by decide +kernel
theorem d_Md_proceed_253 : decode c_Md_proceed 253 = .ok (.invokevirtual 155, 3) := by decide +kernel
theorem d_Md_proceed_256 : decode c_Md_proceed 256 = .ok (.aload_n 0, 1) := by decide +kernel
theorem d_Md_proceed_257 : decode c_Md_proceed 257 = .ok (.bipush 50, 2) := by decide +kernel
theorem d_Md_proceed_259 : decode c_Md_proceed 259 = .ok (.aload_n 0, 1) := by decide +kernel
theorem d_Md_proceed_260 : decode c_Md_proceed 260 = .ok (.getfield 166, 3) := by decide +kernel
theorem d_Md_proceed_263 : decode c_Md_proceed 263 = .ok (.iadd, 1) := by decide +kernel
theorem d_Md_proceed_264 : decode c_Md_proceed 264 = .ok (.iload_n 2, 1) := by decide +kernel
theorem d_Md_proceed_265 : decode c_Md_proceed 265 = .ok (.iconst 1, 1) := by decide +kernel
theorem d_Md_proceed_266 : decode c_Md_proceed 266 = .ok (.invokevirtual 159, 3) := by decide +kernel
theorem d_Md_proceed_269 : decode c_Md_proceed 269 = .ok (.aload_n 0, 1) := by decide +kernel
theorem d_Md_proceed_270 : decode c_Md_proceed 270 = .ok (.dup, 1) := by decide +kernel
theorem d_Md_proceed_271 : decode c_Md_proceed 271 = .ok (.getfield 166, 3) := by decide +kernel
theorem d_Md_proceed_274 : decode c_Md_proceed 274 = .ok (.iconst 1, 1) := by decide +kernel
theorem d_Md_proceed_275 : decode c_Md_proceed 275 = .ok (.iadd, 1) := by decide +kernel
theorem d_Md_proceed_276 : decode c_Md_proceed 276 = .ok (.putfield 166, 3) := by decide +kernel
theorem d_Md_proceed_279 : decode c_Md_proceed 279 = .ok (.iconst 1, 1) := by decide +kernel
theorem d_Md_proceed_280 : decode c_Md_proceed 280 = .ok (.ireturn, 1) := by decide +kernel
theorem d_Md_start_0 : decode c_Md_start 0 = .ok (.aload_n 0, 1) := by decide +kernel
theorem d_Md_start_1 : decode c_Md_start 1 = .ok (.iconst 0, 1) := by decide +kernel
theorem d_Md_start_2 : decode c_Md_start 2 = .ok (.iconst (-1), 1) := by decide +kernel
theorem d_Md_start_3 : decode c_Md_start 3 = .ok (.iload_n 1, 1) := by decide +kernel
theorem d_Md_start_4 : decode c_Md_start 4 = .ok (.invokevirtual 148, 3) := by decide +kernel
theorem d_Md_start_7 : decode c_Md_start 7 = .ok (.ifCond .ne 4, 3) := by decide +kernel
theorem d_Md_start_10 : decode c_Md_start 10 = .ok (.return_, 1) := by decide +kernel
theorem d_Md_start_11 : decode c_Md_start 11 = .ok (.aload_n 0, 1) := by decide +kernel
theorem d_Md_start_12 : decode c_Md_start 12 = .ok (.getfield 108, 3) := by decide +kernel
theorem d_Md_start_15 : decode c_Md_start 15 = .ok (.iconst 1, 1) := by decide +kernel
theorem d_Md_start_16 : decode c_Md_start 16 = .ok (.if_icmp .ne 12, 3) := by decide +kernel
theorem d_Md_start_19 : decode c_Md_start 19 = .ok (.aload_n 0, 1) := by decide +kernel
theorem d_Md_start_20 : decode c_Md_start 20 = .ok (.iconst (-1), 1) := by decide +kernel
theorem d_Md_start_21 : decode c_Md_start 21 = .ok (.iload_n 1, 1) := by decide +kernel
theorem d_Md_start_22 : decode c_Md_start 22 = .ok (.invokevirtual 163, 3) := by decide +kernel
theorem d_Md_start_25 : decode c_Md_start 25 = .ok (.goto 71, 3) := by decide +kernel
theorem d_Md_start_28 : decode c_Md_start 28 = .ok (.iload_n 2, 1) := by decide +kernel
theorem d_Md_start_29 : decode c_Md_start 29 = .ok (.bipush 24, 2) := by decide +kernel
theorem d_Md_start_31 : decode c_Md_start 31 = .ok (.if_icmp .ne 16, 3) := by decide +kernel
theorem d_Md_start_34 : decode c_Md_start 34 = .ok (.aload_n 0, 1) := by decide +kernel
theorem d_Md_start_35 : decode c_Md_start 35 = .ok (.dup, 1) := by decide +kernel
theorem d_Md_start_36 : decode c_Md_start 36 = .ok (.getfield 132, 3) := by decide +kernel
theorem d_Md_start_39 : decode c_Md_start 39 = .ok (.iconst 1, 1) := by decide +kernel
theorem d_Md_start_40 : decode c_Md_start 40 = .ok (.iadd, 1) := by decide +kernel
theorem d_Md_start_41 : decode c_Md_start 41 = .ok (.putfield 132, 3) := by decide +kernel
theorem d_Md_start_44 : decode c_Md_start 44 = .ok (.goto 52, 3) := by decide +kernel
theorem d_Md_start_47 : decode c_Md_start 47 = .ok (.aload_n 0, 1) := by decide +kernel
theorem d_Md_start_48 : decode c_Md_start 48 = .ok (.getfield 55, 3) := by decide +kernel
theorem d_Md_start_51 : decode c_Md_start 51 = .ok (.bipush 50, 2) := by decide +kernel
theorem d_Md_start_53 : decode c_Md_start 53 = .ok (.aload_n 0, 1) := by decide +kernel
theorem d_Md_start_54 : decode c_Md_start 54 = .ok (.getfield 166, 3) := by decide +kernel
theorem d_Md_start_57 : decode c_Md_start 57 = .ok (.iadd, 1) := by decide +kernel
theorem d_Md_start_58 : decode c_Md_start 58 = .ok (.iconst 0, 1) := by decide +kernel
theorem d_Md_start_59 : decode c_Md_start 59 = .ok (.iastore, 1) := by decide +kernel
theorem d_Md_start_60 : decode c_Md_start 60 = .ok (.aload_n 0, 1) := by decide +kernel
theorem d_Md_start_61 : decode c_Md_start 61 = .ok (.getfield 52, 3) := by decide +kernel
theorem d_Md_start_64 : decode c_Md_start 64 = .ok (.bipush 50, 2) := by decide +kernel
theorem d_Md_start_66 : decode c_Md_start 66 = .ok (.aload_n 0, 1) := by decide +kernel
theorem d_Md_start_67 : decode c_Md_start 67 = .ok (.getfield 166, 3) := by decide +kernel
theorem d_Md_start_70 : decode c_Md_start 70 = .ok (.iadd, 1) := by decide +kernel
theorem d_Md_start_71 : decode c_Md_start 71 = .ok (.iconst 0, 1) := by decide +kernel
theorem d_Md_start_72 : decode c_Md_start 72 = .ok (.iastore, 1) := by decide +kernel
theorem d_Md_start_73 : decode c_Md_start 73 = .ok (.aload_n 0, 1) := by decide +kernel
theorem d_Md_start_74 : decode c_Md_start 74 = .ok (.bipush 50, 2) := by decide +kernel
theorem d_Md_start_76 : decode c_Md_start 76 = .ok (.aload_n 0, 1) := by decide +kernel
theorem d_Md_start_77 : decode c_Md_start 77 = .ok (.getfield 166, 3) := by decide +kernel
theorem d_Md_start_80 : decode c_Md_start 80 = .ok (.iadd, 1) := by decide +kernel
theorem d_Md_start_81 : decode c_Md_start 81 = .ok (.iload_n 1, 1) := by decide +kernel
theorem d_Md_start_82 : decode c_Md_start 82 = .ok (.iconst 0, 1) := by decide +kernel
theorem d_Md_start_83 : decode c_Md_start 83 = .ok (.invokevirtual 159, 3) := by decide +kernel
theorem d_Md_start_86 : decode c_Md_start 86 = .ok (.aload_n 0, 1) := by decide +kernel
theorem d_Md_start_87 : decode c_Md_start 87 = .ok (.dup, 1) := by decide +kernel
theorem d_Md_start_88 : decode c_Md_start 88 = .ok (.getfield 166, 3) := by decide +kernel
theorem d_Md_start_91 : decode c_Md_start 91 = .ok (.iconst 1, 1) := by decide +kernel
theorem d_Md_start_92 : decode c_Md_start 92 = .ok (.iadd, 1) := by decide +kernel
theorem d_Md_start_93 : decode c_Md_start 93 = .ok (.putfield 166, 3) := by decide +kernel
theorem d_Md_start_96 : decode c_Md_start 96 = .ok (.return_, 1) := by decide +kernel
theorem d_Md_event_0 : decode c_Md_event 0 = .ok (.iload_n 1, 1) := by decide +kernel
theorem d_Md_event_1 : decode c_Md_event 1 = .ok (.bipush 65, 2) := by decide +kernel
theorem d_Md_event_3 : decode c_Md_event 3 = .ok (.if_icmp .lt 48, 3) := by decide +kernel
theorem d_Md_event_6 : decode c_Md_event 6 = .ok (.iload_n 1, 1) := by decide +kernel
theorem d_Md_event_7 : decode c_Md_event 7 = .ok (.bipush 70, 2) := by decide +kernel
theorem d_Md_event_9 : decode c_Md_event 9 = .ok (.if_icmp .gt 42, 3) := by decide +kernel
theorem d_Md_event_12 : decode c_Md_event 12 = .ok (.iload_n 2, 1) := by decide +kernel
theorem d_Md_event_13 : decode c_Md_event 13 = .ok (.ifCond .lt 38, 3) := by decide +kernel
theorem d_Md_event_16 : decode c_Md_event 16 = .ok (.iload_n 2, 1) := by decide +kernel
theorem d_Md_event_17 : decode c_Md_event 17 = .ok (.bipush 9, 2) := by decide +kernel
theorem d_Md_event_19 : decode c_Md_event 19 = .ok (.if_icmp .gt 32, 3) := by decide +kernel
theorem d_Md_event_22 : decode c_Md_event 22 = .ok (.iload_n 3, 1) := by decide +kernel
theorem d_Md_event_23 : decode c_Md_event 23 = .ok (.bipush (-100), 2) := by decide +kernel
theorem d_Md_event_25 : decode c_Md_event 25 = .ok (.if_icmp .lt 26, 3) := by decide +kernel
theorem d_Md_event_28 : decode c_Md_event 28 = .ok (.iload_n 3, 1) := by decide +kernel
theorem d_Md_event_29 : decode c_Md_event 29 = .ok (.bipush 100, 2) := by decide +kernel
theorem d_Md_event_31 : decode c_Md_event 31 = .ok (.if_icmp .gt 20, 3) := by decide +kernel
theorem d_Md_event_34 : decode c_Md_event 34 = .ok (.iload 4, 2) := by decide +kernel
theorem d_Md_event_36 : decode c_Md_event 36 = .ok (.ifCond .lt 15, 3) := by decide +kernel
theorem d_Md_event_39 : decode c_Md_event 39 = .ok (.iload 4, 2) := by decide +kernel
theorem d_Md_event_41 : decode c_Md_event 41 = .ok (.sipush 1000, 3) := by decide +kernel
theorem d_Md_event_44 : decode c_Md_event 44 = .ok (.if_icmp .gt 7, 3) := by decide +kernel
theorem d_Md_event_47 : decode c_Md_event 47 = .ok (.iconst 1, 1) := by decide +kernel
theorem d_Md_event_48 : decode c_Md_event 48 = .ok (.goto 4, 3) := by decide +kernel
theorem d_Md_event_51 : decode c_Md_event 51 = .ok (.iconst 0, 1) := by decide +kernel
theorem d_Md_event_52 : decode c_Md_event 52 = .ok (.istore 5, 2) := by decide +kernel
theorem d_Md_event_54 : decode c_Md_event 54 = .ok (.aload_n 0, 1) := by decide +kernel
theorem d_Md_event_55 : decode c_Md_event 55 = .ok (.aload_n 0, 1) := by decide +kernel
theorem d_Md_event_56 : decode c_Md_event 56 = .ok (.getfield 108, 3) := by decide +kernel
theorem d_Md_event_59 : decode c_Md_event 59 = .ok (.ifCond .ne 7, 3) := by decide +kernel
theorem d_Md_event_62 : decode c_Md_event 62 = .ok (.iconst 1, 1) := by decide +kernel
theorem d_Md_event_63 : decode c_Md_event 63 = .ok (.goto 13, 3) := by decide +kernel
theorem d_Md_event_66 : decode c_Md_event 66 = .ok (.iload 5, 2) := by decide +kernel
theorem d_Md_event_68 : decode c_Md_event 68 = .ok (.ifCond .ne 7, 3) := by decide +kernel
theorem d_Md_event_71 : decode c_Md_event 71 = .ok (.iconst 2, 1) := by decide +kernel
theorem d_Md_event_72 : decode c_Md_event 72 = .ok (.goto 4, 3) := by decide +kernel
theorem d_Md_event_75 : decode c_Md_event 75 = .ok (.iconst 0, 1) := by decide +kernel
theorem d_Md_event_76 : decode c_Md_event 76 = .ok (.putfield 67, 3) := by decide +kernel
theorem d_Md_event_79 : decode c_Md_event 79 = .ok (.aload_n 0, 1) := by decide +kernel
theorem d_Md_event_80 : decode c_Md_event 80 = .ok (.getfield 67, 3) := by decide +kernel
theorem d_Md_event_83 : decode c_Md_event 83 = .ok (.ifCond .le 5, 3) := by decide +kernel
theorem d_Md_event_86 : decode c_Md_event 86 = .ok (.iconst 0, 1) := by decide +kernel
theorem d_Md_event_87 : decode c_Md_event 87 = .ok (.ireturn, 1) := by decide +kernel
theorem d_Md_event_88 : decode c_Md_event 88 = .ok (.aload_n 0, 1) := by decide +kernel
theorem d_Md_event_89 : decode c_Md_event 89 = .ok (.getfield 117, 3) := by decide +kernel
theorem d_Md_event_92 : decode c_Md_event 92 = .ok (.istore 6, 2) := by decide +kernel
theorem d_Md_event_94 : decode c_Md_event 94 = .ok (.aload_n 0, 1) := by decide +kernel
theorem d_Md_event_95 : decode c_Md_event 95 = .ok (.dup, 1) := by decide +kernel
theorem d_Md_event_96 : decode c_Md_event 96 = .ok (.getfield 117, 3) := by decide +kernel
theorem d_Md_event_99 : decode c_Md_event 99 = .ok (.iconst 1, 1) := by decide +kernel
theorem d_Md_event_100 : decode c_Md_event 100 = .ok (.iadd, 1) := by decide +kernel
theorem d_Md_event_101 : decode c_Md_event 101 = .ok (.putfield 117, 3) := by decide +kernel
theorem d_Md_event_104 : decode c_Md_event 104 = .ok (.aload_n 0, 1) := by decide +kernel
theorem d_Md_event_105 : decode c_Md_event 105 = .ok (.dup, 1) := by decide +kernel
theorem d_Md_event_106 : decode c_Md_event 106 = .ok (.getfield 120, 3) := by decide +kernel
theorem d_Md_event_109 : decode c_Md_event 109 = .ok (.iload 4, 2) := by decide +kernel
theorem d_Md_event_111 : decode c_Md_event 111 = .ok (.iadd, 1) := by decide +kernel
theorem d_Md_event_112 : decode c_Md_event 112 = .ok (.putfield 120, 3) := by decide +kernel
theorem d_Md_event_115 : decode c_Md_event 115 = .ok (.aload_n 0, 1) := by decide +kernel
theorem d_Md_event_116 : decode c_Md_event 116 = .ok (.getfield 40, 3) := by decide +kernel
theorem d_Md_event_119 : decode c_Md_event 119 = .ok (.iload 6, 2) := by decide +kernel
theorem d_Md_event_121 : decode c_Md_event 121 = .ok (.iload_n 1, 1) := by decide +kernel
theorem d_Md_event_122 : decode c_Md_event 122 = .ok (.castore, 1) := by decide +kernel
theorem d_Md_event_123 : decode c_Md_event 123 = .ok (.aload_n 0, 1) := by decide +kernel
theorem d_Md_event_124 : decode c_Md_event 124 = .ok (.getfield 43, 3) := by decide +kernel
theorem d_Md_event_127 : decode c_Md_event 127 = .ok (.iload 6, 2) := by decide +kernel
theorem d_Md_event_129 : decode c_Md_event 129 = .ok (.iload_n 2, 1) := by decide +kernel
theorem d_Md_event_130 : decode c_Md_event 130 = .ok (.iastore, 1) := by decide +kernel
theorem d_Md_event_131 : decode c_Md_event 131 = .ok (.aload_n 0, 1) := by decide +kernel
theorem d_Md_event_132 : decode c_Md_event 132 = .ok (.getfield 46, 3) := by decide +kernel
theorem d_Md_event_135 : decode c_Md_event 135 = .ok (.iload 6, 2) := by decide +kernel
theorem d_Md_event_137 : decode c_Md_event 137 = .ok (.iload_n 3, 1) := by decide +kernel
theorem d_Md_event_138 : decode c_Md_event 138 = .ok (.iastore, 1) := by decide +kernel
theorem d_Md_event_139 : decode c_Md_event 139 = .ok (.aload_n 0, 1) := by decide +kernel
theorem d_Md_event_140 : decode c_Md_event 140 = .ok (.getfield 49, 3) := by decide +kernel
theorem d_Md_event_143 : decode c_Md_event 143 = .ok (.iload 6, 2) := by decide +kernel
theorem d_Md_event_145 : decode c_Md_event 145 = .ok (.aload_n 0, 1) := by decide +kernel
theorem d_Md_event_146 : decode c_Md_event 146 = .ok (.getfield 120, 3) := by decide +kernel
theorem d_Md_event_149 : decode c_Md_event 149 = .ok (.iastore, 1) := by decide +kernel
theorem d_Md_event_150 : decode c_Md_event 150 = .ok (.aload_n 0, 1) := by decide +kernel
theorem d_Md_event_151 : decode c_Md_event 151 = .ok (.iconst 0, 1) := by decide +kernel
theorem d_Md_event_152 : decode c_Md_event 152 = .ok (.putfield 126, 3) := by decide +kernel
theorem d_Md_event_155 : decode c_Md_event 155 = .ok (.aload_n 0, 1) := by decide +kernel
theorem d_Md_event_156 : decode c_Md_event 156 = .ok (.iconst 0, 1) := by decide +kernel
theorem d_Md_event_157 : decode c_Md_event 157 = .ok (.putfield 152, 3) := by decide +kernel
theorem d_Md_event_160 : decode c_Md_event 160 = .ok (.aload_n 0, 1) := by decide +kernel
theorem d_Md_event_161 : decode c_Md_event 161 = .ok (.iconst 0, 1) := by decide +kernel
theorem d_Md_event_162 : decode c_Md_event 162 = .ok (.putfield 166, 3) := by decide +kernel
theorem d_Md_event_165 : decode c_Md_event 165 = .ok (.aload_n 0, 1) := by decide +kernel
theorem d_Md_event_166 : decode c_Md_event 166 = .ok (.getfield 123, 3) := by decide +kernel
theorem d_Md_event_169 : decode c_Md_event 169 = .ok (.istore 7, 2) := by decide +kernel
theorem d_Md_event_171 : decode c_Md_event 171 = .ok (.iconst 0, 1) := by decide +kernel
theorem d_Md_event_172 : decode c_Md_event 172 = .ok (.istore 8, 2) := by decide +kernel
theorem d_Md_event_174 : decode c_Md_event 174 = .ok (.iload 8, 2) := by decide +kernel
theorem d_Md_event_176 : decode c_Md_event 176 = .ok (.aload_n 0, 1) := by decide +kernel
theorem d_Md_event_177 : decode c_Md_event 177 = .ok (.getfield 123, 3) := by decide +kernel
theorem d_Md_event_180 : decode c_Md_event 180 = .ok (.if_icmp .ge 94, 3) := by decide +kernel
theorem d_Md_event_183 : decode c_Md_event 183 = .ok (.aload_n 0, 1) := by decide +kernel
theorem d_Md_event_184 : decode c_Md_event 184 = .ok (.getfield 120, 3) := by decide +kernel
theorem d_Md_event_187 : decode c_Md_event 187 = .ok (.aload_n 0, 1) := by decide +kernel
theorem d_Md_event_188 : decode c_Md_event 188 = .ok (.getfield 49, 3) := by decide +kernel
theorem d_Md_event_191 : decode c_Md_event 191 = .ok (.aload_n 0, 1) := by decide +kernel
theorem d_Md_event_192 : decode c_Md_event 192 = .ok (.getfield 58, 3) := by decide +kernel
theorem d_Md_event_195 : decode c_Md_event 195 = .ok (.bipush 24, 2) := by decide +kernel
theorem d_Md_event_197 : decode c_Md_event 197 = .ok (.iload 8, 2) := by decide +kernel
theorem d_Md_event_199 : decode c_Md_event 199 = .ok (.imul, 1) := by decide +kernel
theorem d_Md_event_200 : decode c_Md_event 200 = .ok (.iaload, 1) := by decide +kernel
theorem d_Md_event_201 : decode c_Md_event 201 = .ok (.iaload, 1) := by decide +kernel
theorem d_Md_event_202 : decode c_Md_event 202 = .ok (.isub, 1) := by decide +kernel
theorem d_Md_event_203 : decode c_Md_event 203 = .ok (.aload_n 0, 1) := by decide +kernel
theorem d_Md_event_204 : decode c_Md_event 204 = .ok (.getfield 114, 3) := by decide +kernel
theorem d_Md_event_207 : decode c_Md_event 207 = .ok (.if_icmp .le 19, 3) := by decide +kernel
theorem d_Md_event_210 : decode c_Md_event 210 = .ok (.aload_n 0, 1) := by decide +kernel
theorem d_Md_event_211 : decode c_Md_event 211 = .ok (.dup, 1) := by decide +kernel
theorem d_Md_event_212 : decode c_Md_event 212 = .ok (.getfield 135, 3) := by decide +kernel
theorem d_Md_event_215 : decode c_Md_event 215 = .ok (.iconst 1, 1) := by decide +kernel
theorem d_Md_event_216 : decode c_Md_event 216 = .ok (.iadd, 1) := by decide +kernel
theorem d_Md_event_217 : decode c_Md_event 217 = .ok (.putfield 135, 3) := by decide +kernel
theorem d_Md_event_220 : decode c_Md_event 220 = .ok (.iinc 7 (-1), 3) := by decide +kernel
theorem d_Md_event_223 : decode c_Md_event 223 = .ok (.goto 45, 3) := by decide +kernel
theorem d_Md_event_226 : decode c_Md_event 226 = .ok (.aload_n 0, 1) := by decide +kernel
theorem d_Md_event_227 : decode c_Md_event 227 = .ok (.iload 8, 2) := by decide +kernel
theorem d_Md_event_229 : decode c_Md_event 229 = .ok (.iload 6, 2) := by decide +kernel
theorem d_Md_event_231 : decode c_Md_event 231 = .ok (.invokevirtual 169, 3) := by decide +kernel
theorem d_Md_event_234 : decode c_Md_event 234 = .ok (.ifCond .eq 19, 3) := by decide +kernel
theorem d_Md_event_237 : decode c_Md_event 237 = .ok (.aload_n 0, 1) := by decide +kernel
theorem d_Md_event_238 : decode c_Md_event 238 = .ok (.dup, 1) := by decide +kernel
theorem d_Md_event_239 : decode c_Md_event 239 = .ok (.getfield 138, 3) := by decide +kernel
theorem d_Md_event_242 : decode c_Md_event 242 = .ok (.iconst 1, 1) := by decide +kernel
theorem d_Md_event_243 : decode c_Md_event 243 = .ok (.iadd, 1) := by decide +kernel
theorem d_Md_event_244 : decode c_Md_event 244 = .ok (.putfield 138, 3) := by decide +kernel
theorem d_Md_event_247 : decode c_Md_event 247 = .ok (.iinc 7 (-1), 3) := by decide +kernel
theorem d_Md_event_250 : decode c_Md_event 250 = .ok (.goto 18, 3) := by decide +kernel
theorem d_Md_event_253 : decode c_Md_event 253 = .ok (.iload 7, 2) := by decide +kernel
theorem d_Md_event_255 : decode c_Md_event 255 = .ok (.aload_n 0, 1) := by decide +kernel
theorem d_Md_event_256 : decode c_Md_event 256 = .ok (.iload 8, 2) := by decide +kernel
theorem d_Md_event_258 : decode c_Md_event 258 = .ok (.iload 6, 2) := by decide +kernel
theorem d_Md_event_260 : decode c_Md_event 260 = .ok (.iload 7, 2) := by decide +kernel
theorem d_Md_event_262 : decode c_Md_event 262 = .ok (.invokevirtual 173, 3) := by decide +kernel
theorem d_Md_event_265 : decode c_Md_event 265 = .ok (.iadd, 1) := by decide +kernel
theorem d_Md_event_266 : decode c_Md_event 266 = .ok (.istore 7, 2) := by decide +kernel
theorem d_Md_event_268 : decode c_Md_event 268 = .ok (.iinc 8 1, 3) := by decide +kernel
theorem d_Md_event_271 : decode c_Md_event 271 = .ok (.goto (-97), 3) := by decide +kernel
theorem d_Md_event_274 : decode c_Md_event 274 = .ok (.aload_n 0, 1) := by decide +kernel
theorem d_Md_event_275 : decode c_Md_event 275 = .ok (.iload 6, 2) := by decide +kernel
theorem d_Md_event_277 : decode c_Md_event 277 = .ok (.iload 7, 2) := by decide +kernel
theorem d_Md_event_279 : decode c_Md_event 279 = .ok (.invokevirtual 177, 3) := by decide +kernel
theorem d_Md_event_282 : decode c_Md_event 282 = .ok (.iconst 0, 1) := by decide +kernel
theorem d_Md_event_283 : decode c_Md_event 283 = .ok (.istore 8, 2) := by decide +kernel
theorem d_Md_event_285 : decode c_Md_event 285 = .ok (.iload 8, 2) := by decide +kernel
theorem d_Md_event_287 : decode c_Md_event 287 = .ok (.aload_n 0, 1) := by decide +kernel
theorem d_Md_event_288 : decode c_Md_event 288 = .ok (.getfield 152, 3) := by decide +kernel
theorem d_Md_event_291 : decode c_Md_event 291 = .ok (.if_icmp .ge 20, 3) := by decide +kernel
theorem d_Md_event_294 : decode c_Md_event 294 = .ok (.aload_n 0, 1) := by decide +kernel
theorem d_Md_event_295 : decode c_Md_event 295 = .ok (.bipush 25, 2) := by decide +kernel
theorem d_Md_event_297 : decode c_Md_event 297 = .ok (.iload 8, 2) := by decide +kernel
theorem d_Md_event_299 : decode c_Md_event 299 = .ok (.iadd, 1) := by decide +kernel
theorem d_Md_event_300 : decode c_Md_event 300 = .ok (.iload 8, 2) := by decide +kernel
theorem d_Md_event_302 : decode c_Md_event 302 = .ok (.invokevirtual 155, 3) := by decide +kernel
theorem d_Md_event_305 : decode c_Md_event 305 = .ok (.iinc 8 1, 3) := by decide +kernel
theorem d_Md_event_308 : decode c_Md_event 308 = .ok (.goto (-23), 3) := by decide +kernel
theorem d_Md_event_311 : decode c_Md_event 311 = .ok (.iconst 0, 1) := by decide +kernel
theorem d_Md_event_312 : decode c_Md_event 312 = .ok (.istore 8, 2) := by decide +kernel
theorem d_Md_event_314 : decode c_Md_event 314 = .ok (.iload 8, 2) := by decide +kernel
theorem d_Md_event_316 : decode c_Md_event 316 = .ok (.aload_n 0, 1) := by decide +kernel
theorem d_Md_event_317 : decode c_Md_event 317 = .ok (.getfield 166, 3) := by decide +kernel
theorem d_Md_event_320 : decode c_Md_event 320 = .ok (.if_icmp .ge 25, 3) := by decide +kernel
theorem d_Md_event_323 : decode c_Md_event 323 = .ok (.aload_n 0, 1) := by decide +kernel
theorem d_Md_event_324 : decode c_Md_event 324 = .ok (.bipush 50, 2) := by decide +kernel
theorem d_Md_event_326 : decode c_Md_event 326 = .ok (.iload 8, 2) := by decide +kernel
theorem d_Md_event_328 : decode c_Md_event 328 = .ok (.iadd, 1) := by decide +kernel
theorem d_Md_event_329 : decode c_Md_event 329 = .ok (.aload_n 0, 1) := by decide +kernel
theorem d_Md_event_330 : decode c_Md_event 330 = .ok (.getfield 152, 3) := by decide +kernel
theorem d_Md_event_333 : decode c_Md_event 333 = .ok (.iload 8, 2) := by decide +kernel
theorem d_Md_event_335 : decode c_Md_event 335 = .ok (.iadd, 1) := by decide +kernel
theorem d_Md_event_336 : decode c_Md_event 336 = .ok (.invokevirtual 155, 3) := by decide +kernel
theorem d_Md_event_339 : decode c_Md_event 339 = .ok (.iinc 8 1, 3) := by decide +kernel
theorem d_Md_event_342 : decode c_Md_event 342 = .ok (.goto (-28), 3) := by decide +kernel
theorem d_Md_event_345 : decode c_Md_event 345 = .ok (.aload_n 0, 1) := by decide +kernel
theorem d_Md_event_346 : decode c_Md_event 346 = .ok (.aload_n 0, 1) := by decide +kernel
theorem d_Md_event_347 : decode c_Md_event 347 = .ok (.getfield 152, 3) := by decide +kernel
theorem d_Md_event_350 : decode c_Md_event 350 = .ok (.aload_n 0, 1) := by decide +kernel
theorem d_Md_event_351 : decode c_Md_event 351 = .ok (.getfield 166, 3) := by decide +kernel
theorem d_Md_event_354 : decode c_Md_event 354 = .ok (.iadd, 1) := by decide +kernel
theorem d_Md_event_355 : decode c_Md_event 355 = .ok (.putfield 123, 3) := by decide +kernel
theorem d_Md_event_358 : decode c_Md_event 358 = .ok (.aload_n 0, 1) := by decide +kernel
theorem d_Md_event_359 : decode c_Md_event 359 = .ok (.getfield 126, 3) := by decide +kernel
theorem d_Md_event_362 : decode c_Md_event 362 = .ok (.ireturn, 1) := by decide +kernel
theorem d_Md_size_0 : decode c_Md_size 0 = .ok (.aload_n 0, 1) := by decide +kernel
theorem d_Md_size_1 : decode c_Md_size 1 = .ok (.iload_n 1, 1) := by decide +kernel
theorem d_Md_size_2 : decode c_Md_size 2 = .ok (.ifCond .lt 11, 3) := by decide +kernel
theorem d_Md_size_5 : decode c_Md_size 5 = .ok (.iload_n 1, 1) := by decide +kernel
theorem d_Md_size_6 : decode c_Md_size 6 = .ok (.aload_n 0, 1) := by decide +kernel
theorem d_Md_size_7 : decode c_Md_size 7 = .ok (.getfield 126, 3) := by decide +kernel
theorem d_Md_size_10 : decode c_Md_size 10 = .ok (.if_icmp .lt 7, 3) := by decide +kernel
theorem d_Md_size_13 : decode c_Md_size 13 = .ok (.iconst 1, 1) := by decide +kernel
theorem d_Md_size_14 : decode c_Md_size 14 = .ok (.goto 4, 3) := by decide +kernel
theorem d_Md_size_17 : decode c_Md_size 17 = .ok (.iconst 0, 1) := by decide +kernel
theorem d_Md_size_18 : decode c_Md_size 18 = .ok (.putfield 67, 3) := by decide +kernel
theorem d_Md_size_21 : decode c_Md_size 21 = .ok (.aload_n 0, 1) := by decide +kernel
theorem d_Md_size_22 : decode c_Md_size 22 = .ok (.getfield 67, 3) := by decide +kernel
theorem d_Md_size_25 : decode c_Md_size 25 = .ok (.ifCond .ne 12, 3) := by decide +kernel
theorem d_Md_size_28 : decode c_Md_size 28 = .ok (.aload_n 0, 1) := by decide +kernel
theorem d_Md_size_29 : decode c_Md_size 29 = .ok (.getfield 61, 3) := by decide +kernel
theorem d_Md_size_32 : decode c_Md_size 32 = .ok (.iload_n 1, 1) := by decide +kernel
theorem d_Md_size_33 : decode c_Md_size 33 = .ok (.iaload, 1) := by decide +kernel
theorem d_Md_size_34 : decode c_Md_size 34 = .ok (.goto 4, 3) := by decide +kernel
theorem d_Md_size_37 : decode c_Md_size 37 = .ok (.iconst 0, 1) := by decide +kernel
theorem d_Md_size_38 : decode c_Md_size 38 = .ok (.ireturn, 1) := by decide +kernel
theorem d_Md_at_0 : decode c_Md_at 0 = .ok (.aload_n 0, 1) := by decide +kernel
theorem d_Md_at_1 : decode c_Md_at 1 = .ok (.iload_n 1, 1) := by decide +kernel
theorem d_Md_at_2 : decode c_Md_at 2 = .ok (.ifCond .lt 11, 3) := by decide +kernel
theorem d_Md_at_5 : decode c_Md_at 5 = .ok (.iload_n 1, 1) := by decide +kernel
theorem d_Md_at_6 : decode c_Md_at 6 = .ok (.aload_n 0, 1) := by decide +kernel
theorem d_Md_at_7 : decode c_Md_at 7 = .ok (.getfield 126, 3) := by decide +kernel
theorem d_Md_at_10 : decode c_Md_at 10 = .ok (.if_icmp .lt 7, 3) := by decide +kernel
theorem d_Md_at_13 : decode c_Md_at 13 = .ok (.iconst 1, 1) := by decide +kernel
theorem d_Md_at_14 : decode c_Md_at 14 = .ok (.goto 22, 3) := by decide +kernel
theorem d_Md_at_17 : decode c_Md_at 17 = .ok (.iload_n 2, 1) := by decide +kernel
theorem d_Md_at_18 : decode c_Md_at 18 = .ok (.ifCond .lt 13, 3) := by decide +kernel
theorem d_Md_at_21 : decode c_Md_at 21 = .ok (.iload_n 2, 1) := by decide +kernel
theorem d_Md_at_22 : decode c_Md_at 22 = .ok (.aload_n 0, 1) := by decide +kernel
theorem d_Md_at_23 : decode c_Md_at 23 = .ok (.getfield 61, 3) := by decide +kernel
theorem d_Md_at_26 : decode c_Md_at 26 = .ok (.iload_n 1, 1) := by decide +kernel
theorem d_Md_at_27 : decode c_Md_at 27 = .ok (.iaload, 1) := by decide +kernel
theorem d_Md_at_28 : decode c_Md_at 28 = .ok (.if_icmp .lt 7, 3) := by decide +kernel
theorem d_Md_at_31 : decode c_Md_at 31 = .ok (.iconst 1, 1) := by decide +kernel
theorem d_Md_at_32 : decode c_Md_at 32 = .ok (.goto 4, 3) := by decide +kernel
theorem d_Md_at_35 : decode c_Md_at 35 = .ok (.iconst 0, 1) := by decide +kernel
theorem d_Md_at_36 : decode c_Md_at 36 = .ok (.putfield 67, 3) := by decide +kernel
theorem d_Md_at_39 : decode c_Md_at 39 = .ok (.aload_n 0, 1) := by decide +kernel
theorem d_Md_at_40 : decode c_Md_at 40 = .ok (.getfield 67, 3) := by decide +kernel
theorem d_Md_at_43 : decode c_Md_at 43 = .ok (.ifCond .ne 17, 3) := by decide +kernel
theorem d_Md_at_46 : decode c_Md_at 46 = .ok (.aload_n 0, 1) := by decide +kernel
theorem d_Md_at_47 : decode c_Md_at 47 = .ok (.getfield 64, 3) := by decide +kernel
theorem d_Md_at_50 : decode c_Md_at 50 = .ok (.bipush 24, 2) := by decide +kernel
theorem d_Md_at_52 : decode c_Md_at 52 = .ok (.iload_n 1, 1) := by decide +kernel
theorem d_Md_at_53 : decode c_Md_at 53 = .ok (.imul, 1) := by decide +kernel
theorem d_Md_at_54 : decode c_Md_at 54 = .ok (.iload_n 2, 1) := by decide +kernel
theorem d_Md_at_55 : decode c_Md_at 55 = .ok (.iadd, 1) := by decide +kernel
theorem d_Md_at_56 : decode c_Md_at 56 = .ok (.iaload, 1) := by decide +kernel
theorem d_Md_at_57 : decode c_Md_at 57 = .ok (.goto 4, 3) := by decide +kernel
theorem d_Md_at_60 : decode c_Md_at 60 = .ok (.iconst 0, 1) := by decide +kernel
theorem d_Md_at_61 : decode c_Md_at 61 = .ok (.ireturn, 1) := by decide +kernel
theorem d_Md_runs_0 : decode c_Md_runs 0 = .ok (.aload_n 0, 1) := by decide +kernel
theorem d_Md_runs_1 : decode c_Md_runs 1 = .ok (.iconst 0, 1) := by decide +kernel
theorem d_Md_runs_2 : decode c_Md_runs 2 = .ok (.putfield 67, 3) := by decide +kernel
theorem d_Md_runs_5 : decode c_Md_runs 5 = .ok (.aload_n 0, 1) := by decide +kernel
theorem d_Md_runs_6 : decode c_Md_runs 6 = .ok (.getfield 123, 3) := by decide +kernel
theorem d_Md_runs_9 : decode c_Md_runs 9 = .ok (.ireturn, 1) := by decide +kernel
theorem d_Md_run_0 : decode c_Md_run 0 = .ok (.aload_n 0, 1) := by decide +kernel
theorem d_Md_run_1 : decode c_Md_run 1 = .ok (.iload_n 1, 1) := by decide +kernel
theorem d_Md_run_2 : decode c_Md_run 2 = .ok (.ifCond .lt 11, 3) := by decide +kernel
theorem d_Md_run_5 : decode c_Md_run 5 = .ok (.iload_n 1, 1) := by decide +kernel
theorem d_Md_run_6 : decode c_Md_run 6 = .ok (.aload_n 0, 1) := by decide +kernel
theorem d_Md_run_7 : decode c_Md_run 7 = .ok (.getfield 123, 3) := by decide +kernel
theorem d_Md_run_10 : decode c_Md_run 10 = .ok (.if_icmp .lt 7, 3) := by decide +kernel
theorem d_Md_run_13 : decode c_Md_run 13 = .ok (.iconst 1, 1) := by decide +kernel
theorem d_Md_run_14 : decode c_Md_run 14 = .ok (.goto 17, 3) := by decide +kernel
theorem d_Md_run_17 : decode c_Md_run 17 = .ok (.iload_n 2, 1) := by decide +kernel
theorem d_Md_run_18 : decode c_Md_run 18 = .ok (.ifCond .lt 8, 3) := by decide +kernel
theorem d_Md_run_21 : decode c_Md_run 21 = .ok (.iload_n 2, 1) := by decide +kernel
theorem d_Md_run_22 : decode c_Md_run 22 = .ok (.iconst 3, 1) := by decide +kernel
theorem d_Md_run_23 : decode c_Md_run 23 = .ok (.if_icmp .le 7, 3) := by decide +kernel
theorem d_Md_run_26 : decode c_Md_run 26 = .ok (.iconst 2, 1) := by decide +kernel
theorem d_Md_run_27 : decode c_Md_run 27 = .ok (.goto 4, 3) := by decide +kernel
theorem d_Md_run_30 : decode c_Md_run 30 = .ok (.iconst 0, 1) := by decide +kernel
theorem d_Md_run_31 : decode c_Md_run 31 = .ok (.putfield 67, 3) := by decide +kernel
theorem d_Md_run_34 : decode c_Md_run 34 = .ok (.aload_n 0, 1) := by decide +kernel
theorem d_Md_run_35 : decode c_Md_run 35 = .ok (.getfield 67, 3) := by decide +kernel
theorem d_Md_run_38 : decode c_Md_run 38 = .ok (.ifCond .le 5, 3) := by decide +kernel
theorem d_Md_run_41 : decode c_Md_run 41 = .ok (.iconst 0, 1) := by decide +kernel
theorem d_Md_run_42 : decode c_Md_run 42 = .ok (.ireturn, 1) := by decide +kernel
theorem d_Md_run_43 : decode c_Md_run 43 = .ok (.iload_n 2, 1) := by decide +kernel
theorem d_Md_run_44 : decode c_Md_run 44 = .ok (.ifCond .ne 12, 3) := by decide +kernel
theorem d_Md_run_47 : decode c_Md_run 47 = .ok (.aload_n 0, 1) := by decide +kernel
theorem d_Md_run_48 : decode c_Md_run 48 = .ok (.getfield 52, 3) := by decide +kernel
theorem d_Md_run_51 : decode c_Md_run 51 = .ok (.iload_n 1, 1) := by decide +kernel
theorem d_Md_run_52 : decode c_Md_run 52 = .ok (.iaload, 1) := by decide +kernel
theorem d_Md_run_53 : decode c_Md_run 53 = .ok (.goto 52, 3) := by decide +kernel
theorem d_Md_run_56 : decode c_Md_run 56 = .ok (.iload_n 2, 1) := by decide +kernel
theorem d_Md_run_57 : decode c_Md_run 57 = .ok (.iconst 1, 1) := by decide +kernel
theorem d_Md_run_58 : decode c_Md_run 58 = .ok (.if_icmp .ne 12, 3) := by decide +kernel
theorem d_Md_run_61 : decode c_Md_run 61 = .ok (.aload_n 0, 1) := by decide +kernel
theorem d_Md_run_62 : decode c_Md_run 62 = .ok (.getfield 55, 3) := by decide +kernel
theorem d_Md_run_65 : decode c_Md_run 65 = .ok (.iload_n 1, 1) := by decide +kernel
theorem d_Md_run_66 : decode c_Md_run 66 = .ok (.iaload, 1) := by decide +kernel
theorem d_Md_run_67 : decode c_Md_run 67 = .ok (.goto 38, 3) := by decide +kernel
theorem d_Md_run_70 : decode c_Md_run 70 = .ok (.iload_n 2, 1) := by decide +kernel
theorem d_Md_run_71 : decode c_Md_run 71 = .ok (.iconst 2, 1) := by decide +kernel
theorem d_Md_run_72 : decode c_Md_run 72 = .ok (.if_icmp .ne 15, 3) := by decide +kernel
theorem d_Md_run_75 : decode c_Md_run 75 = .ok (.aload_n 0, 1) := by decide +kernel
theorem d_Md_run_76 : decode c_Md_run 76 = .ok (.getfield 58, 3) := by decide +kernel
theorem d_Md_run_79 : decode c_Md_run 79 = .ok (.bipush 24, 2) := by decide +kernel
theorem d_Md_run_81 : decode c_Md_run 81 = .ok (.iload_n 1, 1) := by decide +kernel
theorem d_Md_run_82 : decode c_Md_run 82 = .ok (.imul, 1) := by decide +kernel
theorem d_Md_run_83 : decode c_Md_run 83 = .ok (.iaload, 1) := by decide +kernel
theorem d_Md_run_84 : decode c_Md_run 84 = .ok (.goto 21, 3) := by decide +kernel
theorem d_Md_run_87 : decode c_Md_run 87 = .ok (.aload_n 0, 1) := by decide +kernel
theorem d_Md_run_88 : decode c_Md_run 88 = .ok (.getfield 58, 3) := by decide +kernel
theorem d_Md_run_91 : decode c_Md_run 91 = .ok (.bipush 24, 2) := by decide +kernel
theorem d_Md_run_93 : decode c_Md_run 93 = .ok (.iload_n 1, 1) := by decide +kernel
theorem d_Md_run_94 : decode c_Md_run 94 = .ok (.imul, 1) := by decide +kernel
theorem d_Md_run_95 : decode c_Md_run 95 = .ok (.aload_n 0, 1) := by decide +kernel
theorem d_Md_run_96 : decode c_Md_run 96 = .ok (.getfield 55, 3) := by decide +kernel
theorem d_Md_run_99 : decode c_Md_run 99 = .ok (.iload_n 1, 1) := by decide +kernel
theorem d_Md_run_100 : decode c_Md_run 100 = .ok (.iaload, 1) := by decide +kernel
theorem d_Md_run_101 : decode c_Md_run 101 = .ok (.iadd, 1) := by decide +kernel
theorem d_Md_run_102 : decode c_Md_run 102 = .ok (.iconst 1, 1) := by decide +kernel
theorem d_Md_run_103 : decode c_Md_run 103 = .ok (.isub, 1) := by decide +kernel
theorem d_Md_run_104 : decode c_Md_run 104 = .ok (.iaload, 1) := by decide +kernel
theorem d_Md_run_105 : decode c_Md_run 105 = .ok (.ireturn, 1) := by decide +kernel
theorem d_Md_figure_0 : decode c_Md_figure 0 = .ok (.aload_n 0, 1) := by decide +kernel
theorem d_Md_figure_1 : decode c_Md_figure 1 = .ok (.iload_n 1, 1) := by decide +kernel
theorem d_Md_figure_2 : decode c_Md_figure 2 = .ok (.ifCond .lt 9, 3) := by decide +kernel
theorem d_Md_figure_5 : decode c_Md_figure 5 = .ok (.iload_n 1, 1) := by decide +kernel
theorem d_Md_figure_6 : decode c_Md_figure 6 = .ok (.bipush 7, 2) := by decide +kernel
theorem d_Md_figure_8 : decode c_Md_figure 8 = .ok (.if_icmp .le 7, 3) := by decide +kernel
theorem d_Md_figure_11 : decode c_Md_figure 11 = .ok (.iconst 1, 1) := by decide +kernel
theorem d_Md_figure_12 : decode c_Md_figure 12 = .ok (.goto 4, 3) := by decide +kernel
theorem d_Md_figure_15 : decode c_Md_figure 15 = .ok (.iconst 0, 1) := by decide +kernel
theorem d_Md_figure_16 : decode c_Md_figure 16 = .ok (.putfield 67, 3) := by decide +kernel
theorem d_Md_figure_19 : decode c_Md_figure 19 = .ok (.iload_n 1, 1) := by decide +kernel
theorem d_Md_figure_20 : decode c_Md_figure 20 = .ok (.tableswitch 88 0 7 #[48, 53, 58, 63, 68, 73, 78, 83], 48) := by decide +kernel
theorem d_Md_figure_68 : decode c_Md_figure 68 = .ok (.aload_n 0, 1) := by decide +kernel
theorem d_Md_figure_69 : decode c_Md_figure 69 = .ok (.getfield 120, 3) := by decide +kernel
theorem d_Md_figure_72 : decode c_Md_figure 72 = .ok (.ireturn, 1) := by decide +kernel
theorem d_Md_figure_73 : decode c_Md_figure 73 = .ok (.aload_n 0, 1) := by decide +kernel
theorem d_Md_figure_74 : decode c_Md_figure 74 = .ok (.getfield 117, 3) := by decide +kernel
theorem d_Md_figure_77 : decode c_Md_figure 77 = .ok (.ireturn, 1) := by decide +kernel
theorem d_Md_figure_78 : decode c_Md_figure 78 = .ok (.aload_n 0, 1) := by decide +kernel
theorem d_Md_figure_79 : decode c_Md_figure 79 = .ok (.getfield 129, 3) := by decide +kernel
theorem d_Md_figure_82 : decode c_Md_figure 82 = .ok (.ireturn, 1) := by decide +kernel
theorem d_Md_figure_83 : decode c_Md_figure 83 = .ok (.aload_n 0, 1) := by decide +kernel
theorem d_Md_figure_84 : decode c_Md_figure 84 = .ok (.getfield 132, 3) := by decide +kernel
theorem d_Md_figure_87 : decode c_Md_figure 87 = .ok (.ireturn, 1) := by decide +kernel
theorem d_Md_figure_88 : decode c_Md_figure 88 = .ok (.aload_n 0, 1) := by decide +kernel
theorem d_Md_figure_89 : decode c_Md_figure 89 = .ok (.getfield 135, 3) := by decide +kernel
theorem d_Md_figure_92 : decode c_Md_figure 92 = .ok (.ireturn, 1) := by decide +kernel
theorem d_Md_figure_93 : decode c_Md_figure 93 = .ok (.aload_n 0, 1) := by decide +kernel
theorem d_Md_figure_94 : decode c_Md_figure 94 = .ok (.getfield 138, 3) := by decide +kernel
theorem d_Md_figure_97 : decode c_Md_figure 97 = .ok (.ireturn, 1) := by decide +kernel
theorem d_Md_figure_98 : decode c_Md_figure 98 = .ok (.aload_n 0, 1) := by decide +kernel
theorem d_Md_figure_99 : decode c_Md_figure 99 = .ok (.getfield 108, 3) := by decide +kernel
theorem d_Md_figure_102 : decode c_Md_figure 102 = .ok (.ireturn, 1) := by decide +kernel
theorem d_Md_figure_103 : decode c_Md_figure 103 = .ok (.aload_n 0, 1) := by decide +kernel
theorem d_Md_figure_104 : decode c_Md_figure 104 = .ok (.getfield 114, 3) := by decide +kernel
theorem d_Md_figure_107 : decode c_Md_figure 107 = .ok (.ireturn, 1) := by decide +kernel
theorem d_Md_figure_108 : decode c_Md_figure 108 = .ok (.iconst 0, 1) := by decide +kernel
theorem d_Md_figure_109 : decode c_Md_figure 109 = .ok (.ireturn, 1) := by decide +kernel
