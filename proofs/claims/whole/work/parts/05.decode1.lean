theorem d_Pw_init_0 : decode c_Pw_init 0 = .ok (.aload_n 0, 1) := by decide +kernel
theorem d_Pw_init_1 : decode c_Pw_init 1 = .ok (.invokespecial 3, 3) := by decide +kernel
theorem d_Pw_init_4 : decode c_Pw_init 4 = .ok (.aload_n 0, 1) := by decide +kernel
theorem d_Pw_init_5 : decode c_Pw_init 5 = .ok (.new 9, 3) := by decide +kernel
theorem d_Pw_init_8 : decode c_Pw_init 8 = .ok (.dup, 1) := by decide +kernel
theorem d_Pw_init_9 : decode c_Pw_init 9 = .ok (.invokespecial 11, 3) := by decide +kernel
theorem d_Pw_init_12 : decode c_Pw_init 12 = .ok (.putfield 12, 3) := by decide +kernel
theorem d_Pw_init_15 : decode c_Pw_init 15 = .ok (.aload_n 0, 1) := by decide +kernel
theorem d_Pw_init_16 : decode c_Pw_init 16 = .ok (.new 16, 3) := by decide +kernel
theorem d_Pw_init_19 : decode c_Pw_init 19 = .ok (.dup, 1) := by decide +kernel
theorem d_Pw_init_20 : decode c_Pw_init 20 = .ok (.invokespecial 18, 3) := by decide +kernel
theorem d_Pw_init_23 : decode c_Pw_init 23 = .ok (.putfield 19, 3) := by decide +kernel
theorem d_Pw_init_26 : decode c_Pw_init 26 = .ok (.aload_n 0, 1) := by decide +kernel
theorem d_Pw_init_27 : decode c_Pw_init 27 = .ok (.new 16, 3) := by decide +kernel
theorem d_Pw_init_30 : decode c_Pw_init 30 = .ok (.dup, 1) := by decide +kernel
theorem d_Pw_init_31 : decode c_Pw_init 31 = .ok (.invokespecial 18, 3) := by decide +kernel
theorem d_Pw_init_34 : decode c_Pw_init 34 = .ok (.putfield 23, 3) := by decide +kernel
theorem d_Pw_init_37 : decode c_Pw_init 37 = .ok (.aload_n 0, 1) := by decide +kernel
theorem d_Pw_init_38 : decode c_Pw_init 38 = .ok (.new 26, 3) := by decide +kernel
theorem d_Pw_init_41 : decode c_Pw_init 41 = .ok (.dup, 1) := by decide +kernel
theorem d_Pw_init_42 : decode c_Pw_init 42 = .ok (.invokespecial 28, 3) := by decide +kernel
theorem d_Pw_init_45 : decode c_Pw_init 45 = .ok (.putfield 29, 3) := by decide +kernel
theorem d_Pw_init_48 : decode c_Pw_init 48 = .ok (.aload_n 0, 1) := by decide +kernel
theorem d_Pw_init_49 : decode c_Pw_init 49 = .ok (.new 33, 3) := by decide +kernel
theorem d_Pw_init_52 : decode c_Pw_init 52 = .ok (.dup, 1) := by decide +kernel
theorem d_Pw_init_53 : decode c_Pw_init 53 = .ok (.invokespecial 35, 3) := by decide +kernel
theorem d_Pw_init_56 : decode c_Pw_init 56 = .ok (.putfield 36, 3) := by decide +kernel
theorem d_Pw_init_59 : decode c_Pw_init 59 = .ok (.aload_n 0, 1) := by decide +kernel
theorem d_Pw_init_60 : decode c_Pw_init 60 = .ok (.new 33, 3) := by decide +kernel
theorem d_Pw_init_63 : decode c_Pw_init 63 = .ok (.dup, 1) := by decide +kernel
theorem d_Pw_init_64 : decode c_Pw_init 64 = .ok (.invokespecial 35, 3) := by decide +kernel
theorem d_Pw_init_67 : decode c_Pw_init 67 = .ok (.putfield 40, 3) := by decide +kernel
theorem d_Pw_init_70 : decode c_Pw_init 70 = .ok (.aload_n 0, 1) := by decide +kernel
theorem d_Pw_init_71 : decode c_Pw_init 71 = .ok (.iconst (-1), 1) := by decide +kernel
theorem d_Pw_init_72 : decode c_Pw_init 72 = .ok (.putfield 43, 3) := by decide +kernel
theorem d_Pw_init_75 : decode c_Pw_init 75 = .ok (.return_, 1) := by decide +kernel
theorem d_Pw_type_0 : decode c_Pw_type 0 = .ok (.aload_n 0, 1) := by decide +kernel
theorem d_Pw_type_1 : decode c_Pw_type 1 = .ok (.getfield 12, 3) := by decide +kernel
theorem d_Pw_type_4 : decode c_Pw_type 4 = .ok (.iload_n 1, 1) := by decide +kernel
theorem d_Pw_type_5 : decode c_Pw_type 5 = .ok (.invokevirtual 47, 3) := by decide +kernel
theorem d_Pw_type_8 : decode c_Pw_type 8 = .ok (.ireturn, 1) := by decide +kernel
theorem d_Pw_wipe_0 : decode c_Pw_wipe 0 = .ok (.aload_n 0, 1) := by decide +kernel
theorem d_Pw_wipe_1 : decode c_Pw_wipe 1 = .ok (.getfield 12, 3) := by decide +kernel
theorem d_Pw_wipe_4 : decode c_Pw_wipe 4 = .ok (.invokevirtual 51, 3) := by decide +kernel
theorem d_Pw_wipe_7 : decode c_Pw_wipe 7 = .ok (.return_, 1) := by decide +kernel
theorem d_Pw_load_0 : decode c_Pw_load 0 = .ok (.aload_n 0, 1) := by decide +kernel
theorem d_Pw_load_1 : decode c_Pw_load 1 = .ok (.getfield 12, 3) := by decide +kernel
theorem d_Pw_load_4 : decode c_Pw_load 4 = .ok (.aload_n 0, 1) := by decide +kernel
theorem d_Pw_load_5 : decode c_Pw_load 5 = .ok (.getfield 40, 3) := by decide +kernel
theorem d_Pw_load_8 : decode c_Pw_load 8 = .ok (.invokevirtual 54, 3) := by decide +kernel
theorem d_Pw_load_11 : decode c_Pw_load 11 = .ok (.ifCond .ne 24, 3) := by decide +kernel
theorem d_Pw_load_14 : decode c_Pw_load 14 = .ok (.aload_n 0, 1) := by decide +kernel
theorem d_Pw_load_15 : decode c_Pw_load 15 = .ok (.aload_n 0, 1) := by decide +kernel
theorem d_Pw_load_16 : decode c_Pw_load 16 = .ok (.getfield 12, 3) := by decide +kernel
theorem d_Pw_load_19 : decode c_Pw_load 19 = .ok (.getfield 58, 3) := by decide +kernel
theorem d_Pw_load_22 : decode c_Pw_load 22 = .ok (.putfield 43, 3) := by decide +kernel
theorem d_Pw_load_25 : decode c_Pw_load 25 = .ok (.new 61, 3) := by decide +kernel
theorem d_Pw_load_28 : decode c_Pw_load 28 = .ok (.dup, 1) := by decide +kernel
theorem d_Pw_load_29 : decode c_Pw_load 29 = .ok (.ldc 63, 2) := by decide +kernel
theorem d_Pw_load_31 : decode c_Pw_load 31 = .ok (.invokespecial 65, 3) := by decide +kernel
theorem d_Pw_load_34 : decode c_Pw_load 34 = .ok (.athrow, 1) := by decide +kernel
theorem d_Pw_load_35 : decode c_Pw_load 35 = .ok (.aload_n 0, 1) := by decide +kernel
theorem d_Pw_load_36 : decode c_Pw_load 36 = .ok (.getfield 36, 3) := by decide +kernel
theorem d_Pw_load_39 : decode c_Pw_load 39 = .ok (.astore_n 1, 1) := by decide +kernel
theorem d_Pw_load_40 : decode c_Pw_load 40 = .ok (.aload_n 0, 1) := by decide +kernel
theorem d_Pw_load_41 : decode c_Pw_load 41 = .ok (.aload_n 0, 1) := by decide +kernel
theorem d_Pw_load_42 : decode c_Pw_load 42 = .ok (.getfield 40, 3) := by decide +kernel
theorem d_Pw_load_45 : decode c_Pw_load 45 = .ok (.putfield 36, 3) := by decide +kernel
theorem d_Pw_load_48 : decode c_Pw_load 48 = .ok (.aload_n 0, 1) := by decide +kernel
theorem d_Pw_load_49 : decode c_Pw_load 49 = .ok (.aload_n 1, 1) := by decide +kernel
theorem d_Pw_load_50 : decode c_Pw_load 50 = .ok (.putfield 40, 3) := by decide +kernel
theorem d_Pw_load_53 : decode c_Pw_load 53 = .ok (.aload_n 0, 1) := by decide +kernel
theorem d_Pw_load_54 : decode c_Pw_load 54 = .ok (.iconst (-1), 1) := by decide +kernel
theorem d_Pw_load_55 : decode c_Pw_load 55 = .ok (.putfield 43, 3) := by decide +kernel
theorem d_Pw_load_58 : decode c_Pw_load 58 = .ok (.aload_n 0, 1) := by decide +kernel
theorem d_Pw_load_59 : decode c_Pw_load 59 = .ok (.invokevirtual 68, 3) := by decide +kernel
theorem d_Pw_load_62 : decode c_Pw_load 62 = .ok (.aload_n 0, 1) := by decide +kernel
theorem d_Pw_load_63 : decode c_Pw_load 63 = .ok (.getfield 36, 3) := by decide +kernel
theorem d_Pw_load_66 : decode c_Pw_load 66 = .ok (.getfield 71, 3) := by decide +kernel
theorem d_Pw_load_69 : decode c_Pw_load 69 = .ok (.ireturn, 1) := by decide +kernel
theorem d_Pw_fault_0 : decode c_Pw_fault 0 = .ok (.aload_n 0, 1) := by decide +kernel
theorem d_Pw_fault_1 : decode c_Pw_fault 1 = .ok (.getfield 43, 3) := by decide +kernel
theorem d_Pw_fault_4 : decode c_Pw_fault 4 = .ok (.ireturn, 1) := by decide +kernel
theorem d_Pw_event_0 : decode c_Pw_event 0 = .ok (.aload_n 0, 1) := by decide +kernel
theorem d_Pw_event_1 : decode c_Pw_event 1 = .ok (.getfield 36, 3) := by decide +kernel
theorem d_Pw_event_4 : decode c_Pw_event 4 = .ok (.getfield 71, 3) := by decide +kernel
theorem d_Pw_event_7 : decode c_Pw_event 7 = .ok (.ifCond .ne 13, 3) := by decide +kernel
theorem d_Pw_event_10 : decode c_Pw_event 10 = .ok (.new 74, 3) := by decide +kernel
theorem d_Pw_event_13 : decode c_Pw_event 13 = .ok (.dup, 1) := by decide +kernel
theorem d_Pw_event_14 : decode c_Pw_event 14 = .ok (.ldc 76, 2) := by decide +kernel
theorem d_Pw_event_16 : decode c_Pw_event 16 = .ok (.invokespecial 78, 3) := by decide +kernel
theorem d_Pw_event_19 : decode c_Pw_event 19 = .ok (.athrow, 1) := by decide +kernel
theorem d_Pw_event_20 : decode c_Pw_event 20 = .ok (.iload_n 1, 1) := by decide +kernel
theorem d_Pw_event_21 : decode c_Pw_event 21 = .ok (.invokestatic 79, 3) := by decide +kernel
theorem d_Pw_event_24 : decode c_Pw_event 24 = .ok (.ifCond .eq 36, 3) := by decide +kernel
theorem d_Pw_event_27 : decode c_Pw_event 27 = .ok (.iload_n 2, 1) := by decide +kernel
theorem d_Pw_event_28 : decode c_Pw_event 28 = .ok (.iconst 0, 1) := by decide +kernel
theorem d_Pw_event_29 : decode c_Pw_event 29 = .ok (.bipush 9, 2) := by decide +kernel
theorem d_Pw_event_31 : decode c_Pw_event 31 = .ok (.invokestatic 82, 3) := by decide +kernel
theorem d_Pw_event_34 : decode c_Pw_event 34 = .ok (.ifCond .eq 26, 3) := by decide +kernel
theorem d_Pw_event_37 : decode c_Pw_event 37 = .ok (.iload_n 3, 1) := by decide +kernel
theorem d_Pw_event_38 : decode c_Pw_event 38 = .ok (.bipush (-100), 2) := by decide +kernel
theorem d_Pw_event_40 : decode c_Pw_event 40 = .ok (.bipush 100, 2) := by decide +kernel
theorem d_Pw_event_42 : decode c_Pw_event 42 = .ok (.invokestatic 82, 3) := by decide +kernel
theorem d_Pw_event_45 : decode c_Pw_event 45 = .ok (.ifCond .eq 15, 3) := by decide +kernel
theorem d_Pw_event_48 : decode c_Pw_event 48 = .ok (.iload 4, 2) := by decide +kernel
theorem d_Pw_event_50 : decode c_Pw_event 50 = .ok (.iconst 0, 1) := by decide +kernel
theorem d_Pw_event_51 : decode c_Pw_event 51 = .ok (.sipush 1000, 3) := by decide +kernel
theorem d_Pw_event_54 : decode c_Pw_event 54 = .ok (.invokestatic 82, 3) := by decide +kernel
theorem d_Pw_event_57 : decode c_Pw_event 57 = .ok (.ifCond .ne 13, 3) := by decide +kernel
theorem d_Pw_event_60 : decode c_Pw_event 60 = .ok (.new 61, 3) := by decide +kernel
theorem d_Pw_event_63 : decode c_Pw_event 63 = .ok (.dup, 1) := by decide +kernel
theorem d_Pw_event_64 : decode c_Pw_event 64 = .ok (.ldc 86, 2) := by decide +kernel
theorem d_Pw_event_66 : decode c_Pw_event 66 = .ok (.invokespecial 65, 3) := by decide +kernel
theorem d_Pw_event_69 : decode c_Pw_event 69 = .ok (.athrow, 1) := by decide +kernel
theorem d_Pw_event_70 : decode c_Pw_event 70 = .ok (.aload_n 0, 1) := by decide +kernel
theorem d_Pw_event_71 : decode c_Pw_event 71 = .ok (.getfield 29, 3) := by decide +kernel
theorem d_Pw_event_74 : decode c_Pw_event 74 = .ok (.aload_n 0, 1) := by decide +kernel
theorem d_Pw_event_75 : decode c_Pw_event 75 = .ok (.getfield 88, 3) := by decide +kernel
theorem d_Pw_event_78 : decode c_Pw_event 78 = .ok (.putfield 91, 3) := by decide +kernel
theorem d_Pw_event_81 : decode c_Pw_event 81 = .ok (.aload_n 0, 1) := by decide +kernel
theorem d_Pw_event_82 : decode c_Pw_event 82 = .ok (.getfield 29, 3) := by decide +kernel
theorem d_Pw_event_85 : decode c_Pw_event 85 = .ok (.iload_n 1, 1) := by decide +kernel
theorem d_Pw_event_86 : decode c_Pw_event 86 = .ok (.putfield 94, 3) := by decide +kernel
theorem d_Pw_event_89 : decode c_Pw_event 89 = .ok (.aload_n 0, 1) := by decide +kernel
theorem d_Pw_event_90 : decode c_Pw_event 90 = .ok (.getfield 29, 3) := by decide +kernel
theorem d_Pw_event_93 : decode c_Pw_event 93 = .ok (.iload_n 2, 1) := by decide +kernel
theorem d_Pw_event_94 : decode c_Pw_event 94 = .ok (.putfield 98, 3) := by decide +kernel
theorem d_Pw_event_97 : decode c_Pw_event 97 = .ok (.aload_n 0, 1) := by decide +kernel
theorem d_Pw_event_98 : decode c_Pw_event 98 = .ok (.getfield 29, 3) := by decide +kernel
theorem d_Pw_event_101 : decode c_Pw_event 101 = .ok (.iload_n 3, 1) := by decide +kernel
theorem d_Pw_event_102 : decode c_Pw_event 102 = .ok (.putfield 101, 3) := by decide +kernel
theorem d_Pw_event_105 : decode c_Pw_event 105 = .ok (.aload_n 0, 1) := by decide +kernel
theorem d_Pw_event_106 : decode c_Pw_event 106 = .ok (.getfield 29, 3) := by decide +kernel
theorem d_Pw_event_109 : decode c_Pw_event 109 = .ok (.dup, 1) := by decide +kernel
theorem d_Pw_event_110 : decode c_Pw_event 110 = .ok (.getfield 104, 3) := by decide +kernel
theorem d_Pw_event_113 : decode c_Pw_event 113 = .ok (.iload 4, 2) := by decide +kernel
theorem d_Pw_event_115 : decode c_Pw_event 115 = .ok (.iadd, 1) := by decide +kernel
theorem d_Pw_event_116 : decode c_Pw_event 116 = .ok (.putfield 104, 3) := by decide +kernel
theorem d_Pw_event_119 : decode c_Pw_event 119 = .ok (.aload_n 0, 1) := by decide +kernel
theorem d_Pw_event_120 : decode c_Pw_event 120 = .ok (.dup, 1) := by decide +kernel
theorem d_Pw_event_121 : decode c_Pw_event 121 = .ok (.getfield 88, 3) := by decide +kernel
theorem d_Pw_event_124 : decode c_Pw_event 124 = .ok (.iconst 1, 1) := by decide +kernel
theorem d_Pw_event_125 : decode c_Pw_event 125 = .ok (.iadd, 1) := by decide +kernel
theorem d_Pw_event_126 : decode c_Pw_event 126 = .ok (.putfield 88, 3) := by decide +kernel
theorem d_Pw_event_129 : decode c_Pw_event 129 = .ok (.aload_n 0, 1) := by decide +kernel
theorem d_Pw_event_130 : decode c_Pw_event 130 = .ok (.getfield 23, 3) := by decide +kernel
theorem d_Pw_event_133 : decode c_Pw_event 133 = .ok (.invokevirtual 107, 3) := by decide +kernel
theorem d_Pw_event_136 : decode c_Pw_event 136 = .ok (.aload_n 0, 1) := by decide +kernel
theorem d_Pw_event_137 : decode c_Pw_event 137 = .ok (.invokevirtual 110, 3) := by decide +kernel
theorem d_Pw_event_140 : decode c_Pw_event 140 = .ok (.aload_n 0, 1) := by decide +kernel
theorem d_Pw_event_141 : decode c_Pw_event 141 = .ok (.invokevirtual 113, 3) := by decide +kernel
theorem d_Pw_event_144 : decode c_Pw_event 144 = .ok (.aload_n 0, 1) := by decide +kernel
theorem d_Pw_event_145 : decode c_Pw_event 145 = .ok (.dup, 1) := by decide +kernel
theorem d_Pw_event_146 : decode c_Pw_event 146 = .ok (.getfield 116, 3) := by decide +kernel
theorem d_Pw_event_149 : decode c_Pw_event 149 = .ok (.aload_n 0, 1) := by decide +kernel
theorem d_Pw_event_150 : decode c_Pw_event 150 = .ok (.getfield 23, 3) := by decide +kernel
theorem d_Pw_event_153 : decode c_Pw_event 153 = .ok (.getfield 119, 3) := by decide +kernel
theorem d_Pw_event_156 : decode c_Pw_event 156 = .ok (.iadd, 1) := by decide +kernel
theorem d_Pw_event_157 : decode c_Pw_event 157 = .ok (.putfield 116, 3) := by decide +kernel
theorem d_Pw_event_160 : decode c_Pw_event 160 = .ok (.aload_n 0, 1) := by decide +kernel
theorem d_Pw_event_161 : decode c_Pw_event 161 = .ok (.getfield 23, 3) := by decide +kernel
theorem d_Pw_event_164 : decode c_Pw_event 164 = .ok (.getfield 119, 3) := by decide +kernel
theorem d_Pw_event_167 : decode c_Pw_event 167 = .ok (.ireturn, 1) := by decide +kernel
theorem d_Pw_size_0 : decode c_Pw_size 0 = .ok (.aload_n 0, 1) := by decide +kernel
theorem d_Pw_size_1 : decode c_Pw_size 1 = .ok (.getfield 23, 3) := by decide +kernel
theorem d_Pw_size_4 : decode c_Pw_size 4 = .ok (.iload_n 1, 1) := by decide +kernel
theorem d_Pw_size_5 : decode c_Pw_size 5 = .ok (.invokevirtual 122, 3) := by decide +kernel
theorem d_Pw_size_8 : decode c_Pw_size 8 = .ok (.ifCond .ne 13, 3) := by decide +kernel
theorem d_Pw_size_11 : decode c_Pw_size 11 = .ok (.new 126, 3) := by decide +kernel
theorem d_Pw_size_14 : decode c_Pw_size 14 = .ok (.dup, 1) := by decide +kernel
theorem d_Pw_size_15 : decode c_Pw_size 15 = .ok (.ldc 128, 2) := by decide +kernel
theorem d_Pw_size_17 : decode c_Pw_size 17 = .ok (.invokespecial 130, 3) := by decide +kernel
theorem d_Pw_size_20 : decode c_Pw_size 20 = .ok (.athrow, 1) := by decide +kernel
theorem d_Pw_size_21 : decode c_Pw_size 21 = .ok (.aload_n 0, 1) := by decide +kernel
theorem d_Pw_size_22 : decode c_Pw_size 22 = .ok (.getfield 23, 3) := by decide +kernel
theorem d_Pw_size_25 : decode c_Pw_size 25 = .ok (.getfield 131, 3) := by decide +kernel
theorem d_Pw_size_28 : decode c_Pw_size 28 = .ok (.iload_n 1, 1) := by decide +kernel
theorem d_Pw_size_29 : decode c_Pw_size 29 = .ok (.aaload, 1) := by decide +kernel
theorem d_Pw_size_30 : decode c_Pw_size 30 = .ok (.getfield 135, 3) := by decide +kernel
theorem d_Pw_size_33 : decode c_Pw_size 33 = .ok (.ireturn, 1) := by decide +kernel
theorem d_Pw_at_0 : decode c_Pw_at 0 = .ok (.aload_n 0, 1) := by decide +kernel
theorem d_Pw_at_1 : decode c_Pw_at 1 = .ok (.getfield 23, 3) := by decide +kernel
theorem d_Pw_at_4 : decode c_Pw_at 4 = .ok (.iload_n 1, 1) := by decide +kernel
theorem d_Pw_at_5 : decode c_Pw_at 5 = .ok (.invokevirtual 122, 3) := by decide +kernel
theorem d_Pw_at_8 : decode c_Pw_at 8 = .ok (.ifCond .eq 25, 3) := by decide +kernel
theorem d_Pw_at_11 : decode c_Pw_at 11 = .ok (.iload_n 2, 1) := by decide +kernel
theorem d_Pw_at_12 : decode c_Pw_at 12 = .ok (.iconst 0, 1) := by decide +kernel
theorem d_Pw_at_13 : decode c_Pw_at 13 = .ok (.aload_n 0, 1) := by decide +kernel
theorem d_Pw_at_14 : decode c_Pw_at 14 = .ok (.getfield 23, 3) := by decide +kernel
theorem d_Pw_at_17 : decode c_Pw_at 17 = .ok (.getfield 131, 3) := by decide +kernel
theorem d_Pw_at_20 : decode c_Pw_at 20 = .ok (.iload_n 1, 1) := by decide +kernel
theorem d_Pw_at_21 : decode c_Pw_at 21 = .ok (.aaload, 1) := by decide +kernel
theorem d_Pw_at_22 : decode c_Pw_at 22 = .ok (.getfield 135, 3) := by decide +kernel
theorem d_Pw_at_25 : decode c_Pw_at 25 = .ok (.iconst 1, 1) := by decide +kernel
theorem d_Pw_at_26 : decode c_Pw_at 26 = .ok (.isub, 1) := by decide +kernel
theorem d_Pw_at_27 : decode c_Pw_at 27 = .ok (.invokestatic 82, 3) := by decide +kernel
theorem d_Pw_at_30 : decode c_Pw_at 30 = .ok (.ifCond .ne 13, 3) := by decide +kernel
theorem d_Pw_at_33 : decode c_Pw_at 33 = .ok (.new 126, 3) := by decide +kernel
theorem d_Pw_at_36 : decode c_Pw_at 36 = .ok (.dup, 1) := by decide +kernel
theorem d_Pw_at_37 : decode c_Pw_at 37 = .ok (.ldc 138, 2) := by decide +kernel
theorem d_Pw_at_39 : decode c_Pw_at 39 = .ok (.invokespecial 130, 3) := by decide +kernel
theorem d_Pw_at_42 : decode c_Pw_at 42 = .ok (.athrow, 1) := by decide +kernel
theorem d_Pw_at_43 : decode c_Pw_at 43 = .ok (.aload_n 0, 1) := by decide +kernel
theorem d_Pw_at_44 : decode c_Pw_at 44 = .ok (.getfield 23, 3) := by decide +kernel
theorem d_Pw_at_47 : decode c_Pw_at 47 = .ok (.getfield 131, 3) := by decide +kernel
theorem d_Pw_at_50 : decode c_Pw_at 50 = .ok (.iload_n 1, 1) := by decide +kernel
theorem d_Pw_at_51 : decode c_Pw_at 51 = .ok (.aaload, 1) := by decide +kernel
theorem d_Pw_at_52 : decode c_Pw_at 52 = .ok (.getfield 140, 3) := by decide +kernel
theorem d_Pw_at_55 : decode c_Pw_at 55 = .ok (.iload_n 2, 1) := by decide +kernel
theorem d_Pw_at_56 : decode c_Pw_at 56 = .ok (.iaload, 1) := by decide +kernel
theorem d_Pw_at_57 : decode c_Pw_at 57 = .ok (.ireturn, 1) := by decide +kernel
theorem d_Pw_runs_0 : decode c_Pw_runs 0 = .ok (.aload_n 0, 1) := by decide +kernel
theorem d_Pw_runs_1 : decode c_Pw_runs 1 = .ok (.getfield 19, 3) := by decide +kernel
theorem d_Pw_runs_4 : decode c_Pw_runs 4 = .ok (.getfield 119, 3) := by decide +kernel
theorem d_Pw_runs_7 : decode c_Pw_runs 7 = .ok (.ireturn, 1) := by decide +kernel
theorem d_Pw_run_0 : decode c_Pw_run 0 = .ok (.aload_n 0, 1) := by decide +kernel
theorem d_Pw_run_1 : decode c_Pw_run 1 = .ok (.getfield 19, 3) := by decide +kernel
theorem d_Pw_run_4 : decode c_Pw_run 4 = .ok (.iload_n 1, 1) := by decide +kernel
theorem d_Pw_run_5 : decode c_Pw_run 5 = .ok (.invokevirtual 122, 3) := by decide +kernel
theorem d_Pw_run_8 : decode c_Pw_run 8 = .ok (.ifCond .ne 13, 3) := by decide +kernel
theorem d_Pw_run_11 : decode c_Pw_run 11 = .ok (.new 126, 3) := by decide +kernel
theorem d_Pw_run_14 : decode c_Pw_run 14 = .ok (.dup, 1) := by decide +kernel
theorem d_Pw_run_15 : decode c_Pw_run 15 = .ok (.ldc 144, 2) := by decide +kernel
theorem d_Pw_run_17 : decode c_Pw_run 17 = .ok (.invokespecial 130, 3) := by decide +kernel
theorem d_Pw_run_20 : decode c_Pw_run 20 = .ok (.athrow, 1) := by decide +kernel
theorem d_Pw_run_21 : decode c_Pw_run 21 = .ok (.aload_n 0, 1) := by decide +kernel
theorem d_Pw_run_22 : decode c_Pw_run 22 = .ok (.getfield 19, 3) := by decide +kernel
theorem d_Pw_run_25 : decode c_Pw_run 25 = .ok (.getfield 131, 3) := by decide +kernel
theorem d_Pw_run_28 : decode c_Pw_run 28 = .ok (.iload_n 1, 1) := by decide +kernel
theorem d_Pw_run_29 : decode c_Pw_run 29 = .ok (.aaload, 1) := by decide +kernel
theorem d_Pw_run_30 : decode c_Pw_run 30 = .ok (.astore_n 3, 1) := by decide +kernel
theorem d_Pw_run_31 : decode c_Pw_run 31 = .ok (.iload_n 2, 1) := by decide +kernel
theorem d_Pw_run_32 : decode c_Pw_run 32 = .ok (.tableswitch 52 0 3 #[32, 37, 42, 47], 32) := by decide +kernel
theorem d_Pw_run_64 : decode c_Pw_run 64 = .ok (.aload_n 3, 1) := by decide +kernel
theorem d_Pw_run_65 : decode c_Pw_run 65 = .ok (.getfield 146, 3) := by decide +kernel
theorem d_Pw_run_68 : decode c_Pw_run 68 = .ok (.ireturn, 1) := by decide +kernel
theorem d_Pw_run_69 : decode c_Pw_run 69 = .ok (.aload_n 3, 1) := by decide +kernel
theorem d_Pw_run_70 : decode c_Pw_run 70 = .ok (.getfield 135, 3) := by decide +kernel
theorem d_Pw_run_73 : decode c_Pw_run 73 = .ok (.ireturn, 1) := by decide +kernel
theorem d_Pw_run_74 : decode c_Pw_run 74 = .ok (.aload_n 3, 1) := by decide +kernel
theorem d_Pw_run_75 : decode c_Pw_run 75 = .ok (.getfield 149, 3) := by decide +kernel
theorem d_Pw_run_78 : decode c_Pw_run 78 = .ok (.ireturn, 1) := by decide +kernel
theorem d_Pw_run_79 : decode c_Pw_run 79 = .ok (.aload_n 3, 1) := by decide +kernel
theorem d_Pw_run_80 : decode c_Pw_run 80 = .ok (.getfield 152, 3) := by decide +kernel
theorem d_Pw_run_83 : decode c_Pw_run 83 = .ok (.ireturn, 1) := by decide +kernel
theorem d_Pw_run_84 : decode c_Pw_run 84 = .ok (.new 61, 3) := by decide +kernel
theorem d_Pw_run_87 : decode c_Pw_run 87 = .ok (.dup, 1) := by decide +kernel
theorem d_Pw_run_88 : decode c_Pw_run 88 = .ok (.ldc 155, 2) := by decide +kernel
theorem d_Pw_run_90 : decode c_Pw_run 90 = .ok (.invokespecial 65, 3) := by decide +kernel
theorem d_Pw_run_93 : decode c_Pw_run 93 = .ok (.athrow, 1) := by decide +kernel
theorem d_Pw_figure_0 : decode c_Pw_figure 0 = .ok (.iload_n 1, 1) := by decide +kernel
theorem d_Pw_figure_1 : decode c_Pw_figure 1 = .ok (.tableswitch 96 0 7 #[47, 55, 60, 65, 70, 75, 80, 88], 47) := by decide +kernel
theorem d_Pw_figure_48 : decode c_Pw_figure 48 = .ok (.aload_n 0, 1) := by decide +kernel
theorem d_Pw_figure_49 : decode c_Pw_figure 49 = .ok (.getfield 29, 3) := by decide +kernel
theorem d_Pw_figure_52 : decode c_Pw_figure 52 = .ok (.getfield 104, 3) := by decide +kernel
theorem d_Pw_figure_55 : decode c_Pw_figure 55 = .ok (.ireturn, 1) := by decide +kernel
theorem d_Pw_figure_56 : decode c_Pw_figure 56 = .ok (.aload_n 0, 1) := by decide +kernel
theorem d_Pw_figure_57 : decode c_Pw_figure 57 = .ok (.getfield 88, 3) := by decide +kernel
theorem d_Pw_figure_60 : decode c_Pw_figure 60 = .ok (.ireturn, 1) := by decide +kernel
theorem d_Pw_figure_61 : decode c_Pw_figure 61 = .ok (.aload_n 0, 1) := by decide +kernel
theorem d_Pw_figure_62 : decode c_Pw_figure 62 = .ok (.getfield 116, 3) := by decide +kernel
theorem d_Pw_figure_65 : decode c_Pw_figure 65 = .ok (.ireturn, 1) := by decide +kernel
theorem d_Pw_figure_66 : decode c_Pw_figure 66 = .ok (.aload_n 0, 1) := by decide +kernel
theorem d_Pw_figure_67 : decode c_Pw_figure 67 = .ok (.getfield 157, 3) := by decide +kernel
theorem d_Pw_figure_70 : decode c_Pw_figure 70 = .ok (.ireturn, 1) := by decide +kernel
theorem d_Pw_figure_71 : decode c_Pw_figure 71 = .ok (.aload_n 0, 1) := by decide +kernel
theorem d_Pw_figure_72 : decode c_Pw_figure 72 = .ok (.getfield 160, 3) := by decide +kernel
theorem d_Pw_figure_75 : decode c_Pw_figure 75 = .ok (.ireturn, 1) := by decide +kernel
theorem d_Pw_figure_76 : decode c_Pw_figure 76 = .ok (.aload_n 0, 1) := by decide +kernel
theorem d_Pw_figure_77 : decode c_Pw_figure 77 = .ok (.getfield 163, 3) := by decide +kernel
theorem d_Pw_figure_80 : decode c_Pw_figure 80 = .ok (.ireturn, 1) := by decide +kernel
theorem d_Pw_figure_81 : decode c_Pw_figure 81 = .ok (.aload_n 0, 1) := by decide +kernel
theorem d_Pw_figure_82 : decode c_Pw_figure 82 = .ok (.getfield 36, 3) := by decide +kernel
theorem d_Pw_figure_85 : decode c_Pw_figure 85 = .ok (.getfield 71, 3) := by decide +kernel
theorem d_Pw_figure_88 : decode c_Pw_figure 88 = .ok (.ireturn, 1) := by decide +kernel
theorem d_Pw_figure_89 : decode c_Pw_figure 89 = .ok (.aload_n 0, 1) := by decide +kernel
theorem d_Pw_figure_90 : decode c_Pw_figure 90 = .ok (.getfield 36, 3) := by decide +kernel
theorem d_Pw_figure_93 : decode c_Pw_figure 93 = .ok (.getfield 166, 3) := by decide +kernel
theorem d_Pw_figure_96 : decode c_Pw_figure 96 = .ok (.ireturn, 1) := by decide +kernel
theorem d_Pw_figure_97 : decode c_Pw_figure 97 = .ok (.new 61, 3) := by decide +kernel
theorem d_Pw_figure_100 : decode c_Pw_figure 100 = .ok (.dup, 1) := by decide +kernel
theorem d_Pw_figure_101 : decode c_Pw_figure 101 = .ok (.ldc 169, 2) := by decide +kernel
theorem d_Pw_figure_103 : decode c_Pw_figure 103 = .ok (.invokespecial 65, 3) := by decide +kernel
theorem d_Pw_figure_106 : decode c_Pw_figure 106 = .ok (.athrow, 1) := by decide +kernel
theorem d_Pw_startAnew_0 : decode c_Pw_startAnew 0 = .ok (.aload_n 0, 1) := by decide +kernel
theorem d_Pw_startAnew_1 : decode c_Pw_startAnew 1 = .ok (.getfield 19, 3) := by decide +kernel
theorem d_Pw_startAnew_4 : decode c_Pw_startAnew 4 = .ok (.invokevirtual 107, 3) := by decide +kernel
theorem d_Pw_startAnew_7 : decode c_Pw_startAnew 7 = .ok (.aload_n 0, 1) := by decide +kernel
theorem d_Pw_startAnew_8 : decode c_Pw_startAnew 8 = .ok (.getfield 23, 3) := by decide +kernel
theorem d_Pw_startAnew_11 : decode c_Pw_startAnew 11 = .ok (.invokevirtual 107, 3) := by decide +kernel
theorem d_Pw_startAnew_14 : decode c_Pw_startAnew 14 = .ok (.aload_n 0, 1) := by decide +kernel
theorem d_Pw_startAnew_15 : decode c_Pw_startAnew 15 = .ok (.getfield 29, 3) := by decide +kernel
theorem d_Pw_startAnew_18 : decode c_Pw_startAnew 18 = .ok (.iconst 0, 1) := by decide +kernel
theorem d_Pw_startAnew_19 : decode c_Pw_startAnew 19 = .ok (.putfield 104, 3) := by decide +kernel
theorem d_Pw_startAnew_22 : decode c_Pw_startAnew 22 = .ok (.aload_n 0, 1) := by decide +kernel
theorem d_Pw_startAnew_23 : decode c_Pw_startAnew 23 = .ok (.iconst 0, 1) := by decide +kernel
theorem d_Pw_startAnew_24 : decode c_Pw_startAnew 24 = .ok (.putfield 88, 3) := by decide +kernel
theorem d_Pw_startAnew_27 : decode c_Pw_startAnew 27 = .ok (.aload_n 0, 1) := by decide +kernel
theorem d_Pw_startAnew_28 : decode c_Pw_startAnew 28 = .ok (.iconst 0, 1) := by decide +kernel
theorem d_Pw_startAnew_29 : decode c_Pw_startAnew 29 = .ok (.putfield 116, 3) := by decide +kernel
theorem d_Pw_startAnew_32 : decode c_Pw_startAnew 32 = .ok (.aload_n 0, 1) := by decide +kernel
theorem d_Pw_startAnew_33 : decode c_Pw_startAnew 33 = .ok (.iconst 0, 1) := by decide +kernel
theorem d_Pw_startAnew_34 : decode c_Pw_startAnew 34 = .ok (.putfield 157, 3) := by decide +kernel
theorem d_Pw_startAnew_37 : decode c_Pw_startAnew 37 = .ok (.aload_n 0, 1) := by decide +kernel
theorem d_Pw_startAnew_38 : decode c_Pw_startAnew 38 = .ok (.iconst 0, 1) := by decide +kernel
theorem d_Pw_startAnew_39 : decode c_Pw_startAnew 39 = .ok (.putfield 160, 3) := by decide +kernel
theorem d_Pw_startAnew_42 : decode c_Pw_startAnew 42 = .ok (.aload_n 0, 1) := by decide +kernel
theorem d_Pw_startAnew_43 : decode c_Pw_startAnew 43 = .ok (.iconst 0, 1) := by decide +kernel
theorem d_Pw_startAnew_44 : decode c_Pw_startAnew 44 = .ok (.putfield 163, 3) := by decide +kernel
theorem d_Pw_startAnew_47 : decode c_Pw_startAnew 47 = .ok (.return_, 1) := by decide +kernel
theorem d_Pw_lookAtRuns_0 : decode c_Pw_lookAtRuns 0 = .ok (.aload_n 0, 1) := by decide +kernel
theorem d_Pw_lookAtRuns_1 : decode c_Pw_lookAtRuns 1 = .ok (.getfield 19, 3) := by decide +kernel
theorem d_Pw_lookAtRuns_4 : decode c_Pw_lookAtRuns 4 = .ok (.getfield 119, 3) := by decide +kernel
theorem d_Pw_lookAtRuns_7 : decode c_Pw_lookAtRuns 7 = .ok (.istore_n 1, 1) := by decide +kernel
theorem d_Pw_lookAtRuns_8 : decode c_Pw_lookAtRuns 8 = .ok (.iconst 0, 1) := by decide +kernel
theorem d_Pw_lookAtRuns_9 : decode c_Pw_lookAtRuns 9 = .ok (.istore_n 2, 1) := by decide +kernel
theorem d_Pw_lookAtRuns_10 : decode c_Pw_lookAtRuns 10 = .ok (.iconst 0, 1) := by decide +kernel
theorem d_Pw_lookAtRuns_11 : decode c_Pw_lookAtRuns 11 = .ok (.istore_n 3, 1) := by decide +kernel
theorem d_Pw_lookAtRuns_12 : decode c_Pw_lookAtRuns 12 = .ok (.iload_n 3, 1) := by decide +kernel
theorem d_Pw_lookAtRuns_13 : decode c_Pw_lookAtRuns 13 = .ok (.iload_n 1, 1) := by decide +kernel
theorem d_Pw_lookAtRuns_14 : decode c_Pw_lookAtRuns 14 = .ok (.if_icmp .ge 39, 3) := by decide +kernel
theorem d_Pw_lookAtRuns_17 : decode c_Pw_lookAtRuns 17 = .ok (.aload_n 0, 1) := by decide +kernel
theorem d_Pw_lookAtRuns_18 : decode c_Pw_lookAtRuns 18 = .ok (.aload_n 0, 1) := by decide +kernel
theorem d_Pw_lookAtRuns_19 : decode c_Pw_lookAtRuns 19 = .ok (.getfield 19, 3) := by decide +kernel
theorem d_Pw_lookAtRuns_22 : decode c_Pw_lookAtRuns 22 = .ok (.getfield 131, 3) := by decide +kernel
theorem d_Pw_lookAtRuns_25 : decode c_Pw_lookAtRuns 25 = .ok (.iload_n 2, 1) := by decide +kernel
theorem d_Pw_lookAtRuns_26 : decode c_Pw_lookAtRuns 26 = .ok (.aaload, 1) := by decide +kernel
theorem d_Pw_lookAtRuns_27 : decode c_Pw_lookAtRuns 27 = .ok (.invokevirtual 171, 3) := by decide +kernel
theorem d_Pw_lookAtRuns_30 : decode c_Pw_lookAtRuns 30 = .ok (.ifCond .eq 9, 3) := by decide +kernel
theorem d_Pw_lookAtRuns_33 : decode c_Pw_lookAtRuns 33 = .ok (.iinc 2 1, 3) := by decide +kernel
theorem d_Pw_lookAtRuns_36 : decode c_Pw_lookAtRuns 36 = .ok (.goto 11, 3) := by decide +kernel
theorem d_Pw_lookAtRuns_39 : decode c_Pw_lookAtRuns 39 = .ok (.aload_n 0, 1) := by decide +kernel
theorem d_Pw_lookAtRuns_40 : decode c_Pw_lookAtRuns 40 = .ok (.getfield 19, 3) := by decide +kernel
theorem d_Pw_lookAtRuns_43 : decode c_Pw_lookAtRuns 43 = .ok (.iload_n 2, 1) := by decide +kernel
theorem d_Pw_lookAtRuns_44 : decode c_Pw_lookAtRuns 44 = .ok (.invokevirtual 175, 3) := by decide +kernel
theorem d_Pw_lookAtRuns_47 : decode c_Pw_lookAtRuns 47 = .ok (.iinc 3 1, 3) := by decide +kernel
theorem d_Pw_lookAtRuns_50 : decode c_Pw_lookAtRuns 50 = .ok (.goto (-38), 3) := by decide +kernel
theorem d_Pw_lookAtRuns_53 : decode c_Pw_lookAtRuns 53 = .ok (.return_, 1) := by decide +kernel
theorem d_Pw_staysInList_0 : decode c_Pw_staysInList 0 = .ok (.aload_n 0, 1) := by decide +kernel
theorem d_Pw_staysInList_1 : decode c_Pw_staysInList 1 = .ok (.getfield 29, 3) := by decide +kernel
theorem d_Pw_staysInList_4 : decode c_Pw_staysInList 4 = .ok (.getfield 104, 3) := by decide +kernel
theorem d_Pw_staysInList_7 : decode c_Pw_staysInList 7 = .ok (.aload_n 1, 1) := by decide +kernel
theorem d_Pw_staysInList_8 : decode c_Pw_staysInList 8 = .ok (.getfield 179, 3) := by decide +kernel
theorem d_Pw_staysInList_11 : decode c_Pw_staysInList 11 = .ok (.isub, 1) := by decide +kernel
theorem d_Pw_staysInList_12 : decode c_Pw_staysInList 12 = .ok (.aload_n 0, 1) := by decide +kernel
theorem d_Pw_staysInList_13 : decode c_Pw_staysInList 13 = .ok (.getfield 36, 3) := by decide +kernel
theorem d_Pw_staysInList_16 : decode c_Pw_staysInList 16 = .ok (.getfield 166, 3) := by decide +kernel
theorem d_Pw_staysInList_19 : decode c_Pw_staysInList 19 = .ok (.if_icmp .le 15, 3) := by decide +kernel
theorem d_Pw_staysInList_22 : decode c_Pw_staysInList 22 = .ok (.aload_n 0, 1) := by decide +kernel
theorem d_Pw_staysInList_23 : decode c_Pw_staysInList 23 = .ok (.dup, 1) := by decide +kernel
theorem d_Pw_staysInList_24 : decode c_Pw_staysInList 24 = .ok (.getfield 160, 3) := by decide +kernel
theorem d_Pw_staysInList_27 : decode c_Pw_staysInList 27 = .ok (.iconst 1, 1) := by decide +kernel
theorem d_Pw_staysInList_28 : decode c_Pw_staysInList 28 = .ok (.iadd, 1) := by decide +kernel
theorem d_Pw_staysInList_29 : decode c_Pw_staysInList 29 = .ok (.putfield 160, 3) := by decide +kernel
theorem d_Pw_staysInList_32 : decode c_Pw_staysInList 32 = .ok (.iconst 0, 1) := by decide +kernel
theorem d_Pw_staysInList_33 : decode c_Pw_staysInList 33 = .ok (.ireturn, 1) := by decide +kernel
theorem d_Pw_staysInList_34 : decode c_Pw_staysInList 34 = .ok (.aload_n 0, 1) := by decide +kernel
theorem d_Pw_staysInList_35 : decode c_Pw_staysInList 35 = .ok (.aload_n 1, 1) := by decide +kernel
theorem d_Pw_staysInList_36 : decode c_Pw_staysInList 36 = .ok (.invokevirtual 182, 3) := by decide +kernel
theorem d_Pw_staysInList_39 : decode c_Pw_staysInList 39 = .ok (.ifCond .eq 15, 3) := by decide +kernel
theorem d_Pw_staysInList_42 : decode c_Pw_staysInList 42 = .ok (.aload_n 0, 1) := by decide +kernel
theorem d_Pw_staysInList_43 : decode c_Pw_staysInList 43 = .ok (.dup, 1) := by decide +kernel
theorem d_Pw_staysInList_44 : decode c_Pw_staysInList 44 = .ok (.getfield 163, 3) := by decide +kernel
theorem d_Pw_staysInList_47 : decode c_Pw_staysInList 47 = .ok (.iconst 1, 1) := by decide +kernel
theorem d_Pw_staysInList_48 : decode c_Pw_staysInList 48 = .ok (.iadd, 1) := by decide +kernel
theorem d_Pw_staysInList_49 : decode c_Pw_staysInList 49 = .ok (.putfield 163, 3) := by decide +kernel
theorem d_Pw_staysInList_52 : decode c_Pw_staysInList 52 = .ok (.iconst 0, 1) := by decide +kernel
theorem d_Pw_staysInList_53 : decode c_Pw_staysInList 53 = .ok (.ireturn, 1) := by decide +kernel
theorem d_Pw_staysInList_54 : decode c_Pw_staysInList 54 = .ok (.aload_n 1, 1) := by decide +kernel
theorem d_Pw_staysInList_55 : decode c_Pw_staysInList 55 = .ok (.getfield 146, 3) := by decide +kernel
theorem d_Pw_staysInList_58 : decode c_Pw_staysInList 58 = .ok (.iconst 1, 1) := by decide +kernel
theorem d_Pw_staysInList_59 : decode c_Pw_staysInList 59 = .ok (.iadd, 1) := by decide +kernel
theorem d_Pw_staysInList_60 : decode c_Pw_staysInList 60 = .ok (.istore_n 2, 1) := by decide +kernel
theorem d_Pw_staysInList_61 : decode c_Pw_staysInList 61 = .ok (.aload_n 0, 1) := by decide +kernel
theorem d_Pw_staysInList_62 : decode c_Pw_staysInList 62 = .ok (.aload_n 0, 1) := by decide +kernel
theorem d_Pw_staysInList_63 : decode c_Pw_staysInList 63 = .ok (.getfield 36, 3) := by decide +kernel
theorem d_Pw_staysInList_66 : decode c_Pw_staysInList 66 = .ok (.iload_n 2, 1) := by decide +kernel
theorem d_Pw_staysInList_67 : decode c_Pw_staysInList 67 = .ok (.invokevirtual 185, 3) := by decide +kernel
theorem d_Pw_staysInList_70 : decode c_Pw_staysInList 70 = .ok (.aload_n 1, 1) := by decide +kernel
theorem d_Pw_staysInList_71 : decode c_Pw_staysInList 71 = .ok (.invokevirtual 189, 3) := by decide +kernel
theorem d_Pw_staysInList_74 : decode c_Pw_staysInList 74 = .ok (.istore_n 3, 1) := by decide +kernel
theorem d_Pw_staysInList_75 : decode c_Pw_staysInList 75 = .ok (.aload_n 0, 1) := by decide +kernel
theorem d_Pw_staysInList_76 : decode c_Pw_staysInList 76 = .ok (.aload_n 1, 1) := by decide +kernel
theorem d_Pw_staysInList_77 : decode c_Pw_staysInList 77 = .ok (.invokevirtual 193, 3) := by decide +kernel
theorem d_Pw_staysInList_80 : decode c_Pw_staysInList 80 = .ok (.istore 4, 2) := by decide +kernel
theorem d_Pw_staysInList_82 : decode c_Pw_staysInList 82 = .ok (.iload_n 3, 1) := by decide +kernel
theorem d_Pw_staysInList_83 : decode c_Pw_staysInList 83 = .ok (.ifCond .eq 18, 3) := by decide +kernel
theorem d_Pw_staysInList_86 : decode c_Pw_staysInList 86 = .ok (.aload_n 0, 1) := by decide +kernel
theorem d_Pw_staysInList_87 : decode c_Pw_staysInList 87 = .ok (.getfield 36, 3) := by decide +kernel
theorem d_Pw_staysInList_90 : decode c_Pw_staysInList 90 = .ok (.iload_n 2, 1) := by decide +kernel
theorem d_Pw_staysInList_91 : decode c_Pw_staysInList 91 = .ok (.invokevirtual 196, 3) := by decide +kernel
theorem d_Pw_staysInList_94 : decode c_Pw_staysInList 94 = .ok (.ifCond .eq 7, 3) := by decide +kernel
theorem d_Pw_staysInList_97 : decode c_Pw_staysInList 97 = .ok (.iconst 1, 1) := by decide +kernel
theorem d_Pw_staysInList_98 : decode c_Pw_staysInList 98 = .ok (.goto 4, 3) := by decide +kernel
theorem d_Pw_staysInList_101 : decode c_Pw_staysInList 101 = .ok (.iconst 0, 1) := by decide +kernel
theorem d_Pw_staysInList_102 : decode c_Pw_staysInList 102 = .ok (.istore 5, 2) := by decide +kernel
theorem d_Pw_staysInList_104 : decode c_Pw_staysInList 104 = .ok (.iload 5, 2) := by decide +kernel
theorem d_Pw_staysInList_106 : decode c_Pw_staysInList 106 = .ok (.ifCond .ne 12, 3) := by decide +kernel
theorem d_Pw_staysInList_109 : decode c_Pw_staysInList 109 = .ok (.iload_n 3, 1) := by decide +kernel
theorem d_Pw_staysInList_110 : decode c_Pw_staysInList 110 = .ok (.ifCond .eq 14, 3) := by decide +kernel
theorem d_Pw_staysInList_113 : decode c_Pw_staysInList 113 = .ok (.iload 4, 2) := by decide +kernel
theorem d_Pw_staysInList_115 : decode c_Pw_staysInList 115 = .ok (.ifCond .eq 9, 3) := by decide +kernel
theorem d_Pw_staysInList_118 : decode c_Pw_staysInList 118 = .ok (.aload_n 0, 1) := by decide +kernel
theorem d_Pw_staysInList_119 : decode c_Pw_staysInList 119 = .ok (.aload_n 1, 1) := by decide +kernel
theorem d_Pw_staysInList_120 : decode c_Pw_staysInList 120 = .ok (.iload_n 2, 1) := by decide +kernel
theorem d_Pw_staysInList_121 : decode c_Pw_staysInList 121 = .ok (.invokevirtual 199, 3) := by decide +kernel
theorem d_Pw_staysInList_124 : decode c_Pw_staysInList 124 = .ok (.iload 4, 2) := by decide +kernel
theorem d_Pw_staysInList_126 : decode c_Pw_staysInList 126 = .ok (.ifCond .eq 18, 3) := by decide +kernel
theorem d_Pw_staysInList_129 : decode c_Pw_staysInList 129 = .ok (.aload_n 1, 1) := by decide +kernel
theorem d_Pw_staysInList_130 : decode c_Pw_staysInList 130 = .ok (.aload_n 0, 1) := by decide +kernel
theorem d_Pw_staysInList_131 : decode c_Pw_staysInList 131 = .ok (.getfield 29, 3) := by decide +kernel
theorem d_Pw_staysInList_134 : decode c_Pw_staysInList 134 = .ok (.aload_n 1, 1) := by decide +kernel
theorem d_Pw_staysInList_135 : decode c_Pw_staysInList 135 = .ok (.getfield 146, 3) := by decide +kernel
theorem d_Pw_staysInList_138 : decode c_Pw_staysInList 138 = .ok (.invokevirtual 203, 3) := by decide +kernel
theorem d_Pw_staysInList_141 : decode c_Pw_staysInList 141 = .ok (.goto 21, 3) := by decide +kernel
theorem d_Pw_staysInList_144 : decode c_Pw_staysInList 144 = .ok (.iload_n 3, 1) := by decide +kernel
theorem d_Pw_staysInList_145 : decode c_Pw_staysInList 145 = .ok (.ifCond .eq 17, 3) := by decide +kernel
theorem d_Pw_staysInList_148 : decode c_Pw_staysInList 148 = .ok (.iload 5, 2) := by decide +kernel
theorem d_Pw_staysInList_150 : decode c_Pw_staysInList 150 = .ok (.ifCond .ne 12, 3) := by decide +kernel
theorem d_Pw_staysInList_153 : decode c_Pw_staysInList 153 = .ok (.aload_n 1, 1) := by decide +kernel
theorem d_Pw_staysInList_154 : decode c_Pw_staysInList 154 = .ok (.aload_n 0, 1) := by decide +kernel
theorem d_Pw_staysInList_155 : decode c_Pw_staysInList 155 = .ok (.getfield 29, 3) := by decide +kernel
theorem d_Pw_staysInList_158 : decode c_Pw_staysInList 158 = .ok (.iload_n 2, 1) := by decide +kernel
theorem d_Pw_staysInList_159 : decode c_Pw_staysInList 159 = .ok (.invokevirtual 203, 3) := by decide +kernel
theorem d_Pw_staysInList_162 : decode c_Pw_staysInList 162 = .ok (.iload 4, 2) := by decide +kernel
theorem d_Pw_staysInList_164 : decode c_Pw_staysInList 164 = .ok (.ifCond .ne 8, 3) := by decide +kernel
theorem d_Pw_staysInList_167 : decode c_Pw_staysInList 167 = .ok (.iload 5, 2) := by decide +kernel
theorem d_Pw_staysInList_169 : decode c_Pw_staysInList 169 = .ok (.ifCond .ne 7, 3) := by decide +kernel
theorem d_Pw_staysInList_172 : decode c_Pw_staysInList 172 = .ok (.iconst 1, 1) := by decide +kernel
theorem d_Pw_staysInList_173 : decode c_Pw_staysInList 173 = .ok (.goto 4, 3) := by decide +kernel
theorem d_Pw_staysInList_176 : decode c_Pw_staysInList 176 = .ok (.iconst 0, 1) := by decide +kernel
theorem d_Pw_staysInList_177 : decode c_Pw_staysInList 177 = .ok (.ireturn, 1) := by decide +kernel
theorem d_Pw_isBarred_0 : decode c_Pw_isBarred 0 = .ok (.aload_n 0, 1) := by decide +kernel
theorem d_Pw_isBarred_1 : decode c_Pw_isBarred 1 = .ok (.getfield 36, 3) := by decide +kernel
theorem d_Pw_isBarred_4 : decode c_Pw_isBarred 4 = .ok (.aload_n 1, 1) := by decide +kernel
theorem d_Pw_isBarred_5 : decode c_Pw_isBarred 5 = .ok (.getfield 146, 3) := by decide +kernel
theorem d_Pw_isBarred_8 : decode c_Pw_isBarred 8 = .ok (.iconst 1, 1) := by decide +kernel
theorem d_Pw_isBarred_9 : decode c_Pw_isBarred 9 = .ok (.iadd, 1) := by decide +kernel
theorem d_Pw_isBarred_10 : decode c_Pw_isBarred 10 = .ok (.invokevirtual 207, 3) := by decide +kernel
theorem d_Pw_isBarred_13 : decode c_Pw_isBarred 13 = .ok (.istore_n 2, 1) := by decide +kernel
theorem d_Pw_isBarred_14 : decode c_Pw_isBarred 14 = .ok (.aload_n 0, 1) := by decide +kernel
theorem d_Pw_isBarred_15 : decode c_Pw_isBarred 15 = .ok (.getfield 36, 3) := by decide +kernel
theorem d_Pw_isBarred_18 : decode c_Pw_isBarred 18 = .ok (.aload_n 1, 1) := by decide +kernel
theorem d_Pw_isBarred_19 : decode c_Pw_isBarred 19 = .ok (.getfield 146, 3) := by decide +kernel
theorem d_Pw_isBarred_22 : decode c_Pw_isBarred 22 = .ok (.invokevirtual 207, 3) := by decide +kernel
theorem d_Pw_isBarred_25 : decode c_Pw_isBarred 25 = .ok (.iconst 1, 1) := by decide +kernel
theorem d_Pw_isBarred_26 : decode c_Pw_isBarred 26 = .ok (.iadd, 1) := by decide +kernel
theorem d_Pw_isBarred_27 : decode c_Pw_isBarred 27 = .ok (.istore_n 3, 1) := by decide +kernel
theorem d_Pw_isBarred_28 : decode c_Pw_isBarred 28 = .ok (.iload_n 3, 1) := by decide +kernel
theorem d_Pw_isBarred_29 : decode c_Pw_isBarred 29 = .ok (.iload_n 2, 1) := by decide +kernel
theorem d_Pw_isBarred_30 : decode c_Pw_isBarred 30 = .ok (.if_icmp .ge 28, 3) := by decide +kernel
theorem d_Pw_isBarred_33 : decode c_Pw_isBarred 33 = .ok (.aload_n 0, 1) := by decide +kernel
theorem d_Pw_isBarred_34 : decode c_Pw_isBarred 34 = .ok (.aload_n 0, 1) := by decide +kernel
theorem d_Pw_isBarred_35 : decode c_Pw_isBarred 35 = .ok (.getfield 36, 3) := by decide +kernel
theorem d_Pw_isBarred_38 : decode c_Pw_isBarred 38 = .ok (.getfield 211, 3) := by decide +kernel
theorem d_Pw_isBarred_41 : decode c_Pw_isBarred 41 = .ok (.iload_n 3, 1) := by decide +kernel
theorem d_Pw_isBarred_42 : decode c_Pw_isBarred 42 = .ok (.aaload, 1) := by decide +kernel
theorem d_Pw_isBarred_43 : decode c_Pw_isBarred 43 = .ok (.aload_n 1, 1) := by decide +kernel
theorem d_Pw_isBarred_44 : decode c_Pw_isBarred 44 = .ok (.invokevirtual 189, 3) := by decide +kernel
theorem d_Pw_isBarred_47 : decode c_Pw_isBarred 47 = .ok (.ifCond .eq 5, 3) := by decide +kernel
theorem d_Pw_isBarred_50 : decode c_Pw_isBarred 50 = .ok (.iconst 1, 1) := by decide +kernel
theorem d_Pw_isBarred_51 : decode c_Pw_isBarred 51 = .ok (.ireturn, 1) := by decide +kernel
theorem d_Pw_isBarred_52 : decode c_Pw_isBarred 52 = .ok (.iinc 3 1, 3) := by decide +kernel
theorem d_Pw_isBarred_55 : decode c_Pw_isBarred 55 = .ok (.goto (-27), 3) := by decide +kernel
theorem d_Pw_isBarred_58 : decode c_Pw_isBarred 58 = .ok (.iconst 0, 1) := by decide +kernel
theorem d_Pw_isBarred_59 : decode c_Pw_isBarred 59 = .ok (.ireturn, 1) := by decide +kernel
theorem d_Pw_mayStay_0 : decode c_Pw_mayStay 0 = .ok (.aload_n 0, 1) := by decide +kernel
theorem d_Pw_mayStay_1 : decode c_Pw_mayStay 1 = .ok (.getfield 36, 3) := by decide +kernel
theorem d_Pw_mayStay_4 : decode c_Pw_mayStay 4 = .ok (.aload_n 1, 1) := by decide +kernel
theorem d_Pw_mayStay_5 : decode c_Pw_mayStay 5 = .ok (.getfield 146, 3) := by decide +kernel
theorem d_Pw_mayStay_8 : decode c_Pw_mayStay 8 = .ok (.invokevirtual 185, 3) := by decide +kernel
theorem d_Pw_mayStay_11 : decode c_Pw_mayStay 11 = .ok (.astore_n 2, 1) := by decide +kernel
theorem d_Pw_mayStay_12 : decode c_Pw_mayStay 12 = .ok (.aload_n 2, 1) := by decide +kernel
theorem d_Pw_mayStay_13 : decode c_Pw_mayStay 13 = .ok (.getfield 215, 3) := by decide +kernel
theorem d_Pw_mayStay_16 : decode c_Pw_mayStay 16 = .ok (.ifCond .eq 25, 3) := by decide +kernel
theorem d_Pw_mayStay_19 : decode c_Pw_mayStay 19 = .ok (.aload_n 1, 1) := by decide +kernel
theorem d_Pw_mayStay_20 : decode c_Pw_mayStay 20 = .ok (.getfield 135, 3) := by decide +kernel
theorem d_Pw_mayStay_23 : decode c_Pw_mayStay 23 = .ok (.bipush 12, 2) := by decide +kernel
theorem d_Pw_mayStay_25 : decode c_Pw_mayStay 25 = .ok (.if_icmp .ge 16, 3) := by decide +kernel
theorem d_Pw_mayStay_28 : decode c_Pw_mayStay 28 = .ok (.aload_n 0, 1) := by decide +kernel
theorem d_Pw_mayStay_29 : decode c_Pw_mayStay 29 = .ok (.aload_n 2, 1) := by decide +kernel
theorem d_Pw_mayStay_30 : decode c_Pw_mayStay 30 = .ok (.aload_n 1, 1) := by decide +kernel
theorem d_Pw_mayStay_31 : decode c_Pw_mayStay 31 = .ok (.invokevirtual 189, 3) := by decide +kernel
theorem d_Pw_mayStay_34 : decode c_Pw_mayStay 34 = .ok (.ifCond .eq 7, 3) := by decide +kernel
theorem d_Pw_mayStay_37 : decode c_Pw_mayStay 37 = .ok (.iconst 1, 1) := by decide +kernel
theorem d_Pw_mayStay_38 : decode c_Pw_mayStay 38 = .ok (.goto 4, 3) := by decide +kernel
theorem d_Pw_mayStay_41 : decode c_Pw_mayStay 41 = .ok (.iconst 0, 1) := by decide +kernel
theorem d_Pw_mayStay_42 : decode c_Pw_mayStay 42 = .ok (.ireturn, 1) := by decide +kernel
theorem d_Pw_fits_0 : decode c_Pw_fits 0 = .ok (.aload_n 1, 1) := by decide +kernel
theorem d_Pw_fits_1 : decode c_Pw_fits 1 = .ok (.aload_n 0, 1) := by decide +kernel
theorem d_Pw_fits_2 : decode c_Pw_fits 2 = .ok (.getfield 29, 3) := by decide +kernel
theorem d_Pw_fits_5 : decode c_Pw_fits 5 = .ok (.aload_n 2, 1) := by decide +kernel
theorem d_Pw_fits_6 : decode c_Pw_fits 6 = .ok (.getfield 221, 3) := by decide +kernel
theorem d_Pw_fits_9 : decode c_Pw_fits 9 = .ok (.invokevirtual 224, 3) := by decide +kernel
theorem d_Pw_fits_12 : decode c_Pw_fits 12 = .ok (.ifCond .eq 31, 3) := by decide +kernel
theorem d_Pw_fits_15 : decode c_Pw_fits 15 = .ok (.aload_n 0, 1) := by decide +kernel
theorem d_Pw_fits_16 : decode c_Pw_fits 16 = .ok (.getfield 36, 3) := by decide +kernel
theorem d_Pw_fits_19 : decode c_Pw_fits 19 = .ok (.getfield 228, 3) := by decide +kernel
theorem d_Pw_fits_22 : decode c_Pw_fits 22 = .ok (.ifCond .eq 17, 3) := by decide +kernel
theorem d_Pw_fits_25 : decode c_Pw_fits 25 = .ok (.aload_n 0, 1) := by decide +kernel
theorem d_Pw_fits_26 : decode c_Pw_fits 26 = .ok (.getfield 29, 3) := by decide +kernel
theorem d_Pw_fits_29 : decode c_Pw_fits 29 = .ok (.getfield 98, 3) := by decide +kernel
theorem d_Pw_fits_32 : decode c_Pw_fits 32 = .ok (.aload_n 2, 1) := by decide +kernel
theorem d_Pw_fits_33 : decode c_Pw_fits 33 = .ok (.getfield 231, 3) := by decide +kernel
theorem d_Pw_fits_36 : decode c_Pw_fits 36 = .ok (.if_icmp .ne 7, 3) := by decide +kernel
theorem d_Pw_fits_39 : decode c_Pw_fits 39 = .ok (.iconst 1, 1) := by decide +kernel
theorem d_Pw_fits_40 : decode c_Pw_fits 40 = .ok (.goto 4, 3) := by decide +kernel
theorem d_Pw_fits_43 : decode c_Pw_fits 43 = .ok (.iconst 0, 1) := by decide +kernel
theorem d_Pw_fits_44 : decode c_Pw_fits 44 = .ok (.ireturn, 1) := by decide +kernel
theorem d_Pw_goOnApart_0 : decode c_Pw_goOnApart 0 = .ok (.aload_n 0, 1) := by decide +kernel
theorem d_Pw_goOnApart_1 : decode c_Pw_goOnApart 1 = .ok (.iload_n 2, 1) := by decide +kernel
theorem d_Pw_goOnApart_2 : decode c_Pw_goOnApart 2 = .ok (.invokevirtual 234, 3) := by decide +kernel
theorem d_Pw_goOnApart_5 : decode c_Pw_goOnApart 5 = .ok (.astore_n 3, 1) := by decide +kernel
theorem d_Pw_goOnApart_6 : decode c_Pw_goOnApart 6 = .ok (.aload_n 3, 1) := by decide +kernel
theorem d_Pw_goOnApart_7 : decode c_Pw_goOnApart 7 = .ok (.ifnull 17, 3) := by decide +kernel
theorem d_Pw_goOnApart_10 : decode c_Pw_goOnApart 10 = .ok (.aload_n 3, 1) := by decide +kernel
theorem d_Pw_goOnApart_11 : decode c_Pw_goOnApart 11 = .ok (.aload_n 1, 1) := by decide +kernel
theorem d_Pw_goOnApart_12 : decode c_Pw_goOnApart 12 = .ok (.invokevirtual 238, 3) := by decide +kernel
theorem d_Pw_goOnApart_15 : decode c_Pw_goOnApart 15 = .ok (.aload_n 3, 1) := by decide +kernel
theorem d_Pw_goOnApart_16 : decode c_Pw_goOnApart 16 = .ok (.aload_n 0, 1) := by decide +kernel
theorem d_Pw_goOnApart_17 : decode c_Pw_goOnApart 17 = .ok (.getfield 29, 3) := by decide +kernel
theorem d_Pw_goOnApart_20 : decode c_Pw_goOnApart 20 = .ok (.iload_n 2, 1) := by decide +kernel
theorem d_Pw_goOnApart_21 : decode c_Pw_goOnApart 21 = .ok (.invokevirtual 203, 3) := by decide +kernel
theorem d_Pw_goOnApart_24 : decode c_Pw_goOnApart 24 = .ok (.return_, 1) := by decide +kernel
theorem d_Pw_beginRun_0 : decode c_Pw_beginRun 0 = .ok (.aload_n 0, 1) := by decide +kernel
theorem d_Pw_beginRun_1 : decode c_Pw_beginRun 1 = .ok (.getfield 36, 3) := by decide +kernel
theorem d_Pw_beginRun_4 : decode c_Pw_beginRun 4 = .ok (.iconst 0, 1) := by decide +kernel
theorem d_Pw_beginRun_5 : decode c_Pw_beginRun 5 = .ok (.invokevirtual 185, 3) := by decide +kernel
theorem d_Pw_beginRun_8 : decode c_Pw_beginRun 8 = .ok (.aload_n 0, 1) := by decide +kernel
theorem d_Pw_beginRun_9 : decode c_Pw_beginRun 9 = .ok (.getfield 29, 3) := by decide +kernel
theorem d_Pw_beginRun_12 : decode c_Pw_beginRun 12 = .ok (.iconst 0, 1) := by decide +kernel
theorem d_Pw_beginRun_13 : decode c_Pw_beginRun 13 = .ok (.invokevirtual 224, 3) := by decide +kernel
theorem d_Pw_beginRun_16 : decode c_Pw_beginRun 16 = .ok (.ifCond .eq 21, 3) := by decide +kernel
theorem d_Pw_beginRun_19 : decode c_Pw_beginRun 19 = .ok (.aload_n 0, 1) := by decide +kernel
theorem d_Pw_beginRun_20 : decode c_Pw_beginRun 20 = .ok (.iconst 0, 1) := by decide +kernel
theorem d_Pw_beginRun_21 : decode c_Pw_beginRun 21 = .ok (.invokevirtual 234, 3) := by decide +kernel
theorem d_Pw_beginRun_24 : decode c_Pw_beginRun 24 = .ok (.astore_n 1, 1) := by decide +kernel
theorem d_Pw_beginRun_25 : decode c_Pw_beginRun 25 = .ok (.aload_n 1, 1) := by decide +kernel
theorem d_Pw_beginRun_26 : decode c_Pw_beginRun 26 = .ok (.ifnull 11, 3) := by decide +kernel
theorem d_Pw_beginRun_29 : decode c_Pw_beginRun 29 = .ok (.aload_n 1, 1) := by decide +kernel
theorem d_Pw_beginRun_30 : decode c_Pw_beginRun 30 = .ok (.aload_n 0, 1) := by decide +kernel
theorem d_Pw_beginRun_31 : decode c_Pw_beginRun 31 = .ok (.getfield 29, 3) := by decide +kernel
theorem d_Pw_beginRun_34 : decode c_Pw_beginRun 34 = .ok (.invokevirtual 242, 3) := by decide +kernel
theorem d_Pw_beginRun_37 : decode c_Pw_beginRun 37 = .ok (.return_, 1) := by decide +kernel
theorem d_Pw_rowForStep_0 : decode c_Pw_rowForStep 0 = .ok (.aload_n 0, 1) := by decide +kernel
theorem d_Pw_rowForStep_1 : decode c_Pw_rowForStep 1 = .ok (.getfield 36, 3) := by decide +kernel
theorem d_Pw_rowForStep_4 : decode c_Pw_rowForStep 4 = .ok (.iload_n 1, 1) := by decide +kernel
theorem d_Pw_rowForStep_5 : decode c_Pw_rowForStep 5 = .ok (.invokevirtual 196, 3) := by decide +kernel
theorem d_Pw_rowForStep_8 : decode c_Pw_rowForStep 8 = .ok (.ifCond .eq 11, 3) := by decide +kernel
theorem d_Pw_rowForStep_11 : decode c_Pw_rowForStep 11 = .ok (.aload_n 0, 1) := by decide +kernel
theorem d_Pw_rowForStep_12 : decode c_Pw_rowForStep 12 = .ok (.getfield 23, 3) := by decide +kernel
theorem d_Pw_rowForStep_15 : decode c_Pw_rowForStep 15 = .ok (.invokevirtual 246, 3) := by decide +kernel
theorem d_Pw_rowForStep_18 : decode c_Pw_rowForStep 18 = .ok (.areturn, 1) := by decide +kernel
theorem d_Pw_rowForStep_19 : decode c_Pw_rowForStep 19 = .ok (.aload_n 0, 1) := by decide +kernel
theorem d_Pw_rowForStep_20 : decode c_Pw_rowForStep 20 = .ok (.getfield 19, 3) := by decide +kernel
theorem d_Pw_rowForStep_23 : decode c_Pw_rowForStep 23 = .ok (.invokevirtual 246, 3) := by decide +kernel
theorem d_Pw_rowForStep_26 : decode c_Pw_rowForStep 26 = .ok (.astore_n 2, 1) := by decide +kernel
theorem d_Pw_rowForStep_27 : decode c_Pw_rowForStep 27 = .ok (.aload_n 2, 1) := by decide +kernel
theorem d_Pw_rowForStep_28 : decode c_Pw_rowForStep 28 = .ok (.ifnonnull 13, 3) := by decide +kernel
theorem d_Pw_rowForStep_31 : decode c_Pw_rowForStep 31 = .ok (.aload_n 0, 1) := by decide +kernel
theorem d_Pw_rowForStep_32 : decode c_Pw_rowForStep 32 = .ok (.dup, 1) := by decide +kernel
theorem d_Pw_rowForStep_33 : decode c_Pw_rowForStep 33 = .ok (.getfield 157, 3) := by decide +kernel
theorem d_Pw_rowForStep_36 : decode c_Pw_rowForStep 36 = .ok (.iconst 1, 1) := by decide +kernel
theorem d_Pw_rowForStep_37 : decode c_Pw_rowForStep 37 = .ok (.iadd, 1) := by decide +kernel
theorem d_Pw_rowForStep_38 : decode c_Pw_rowForStep 38 = .ok (.putfield 157, 3) := by decide +kernel
theorem d_Pw_rowForStep_41 : decode c_Pw_rowForStep 41 = .ok (.aload_n 2, 1) := by decide +kernel
theorem d_Pw_rowForStep_42 : decode c_Pw_rowForStep 42 = .ok (.areturn, 1) := by decide +kernel
theorem d_Pw_isWithin_0 : decode c_Pw_isWithin 0 = .ok (.iload_n 0, 1) := by decide +kernel
theorem d_Pw_isWithin_1 : decode c_Pw_isWithin 1 = .ok (.iload_n 1, 1) := by decide +kernel
theorem d_Pw_isWithin_2 : decode c_Pw_isWithin 2 = .ok (.if_icmp .lt 12, 3) := by decide +kernel
theorem d_Pw_isWithin_5 : decode c_Pw_isWithin 5 = .ok (.iload_n 0, 1) := by decide +kernel
theorem d_Pw_isWithin_6 : decode c_Pw_isWithin 6 = .ok (.iload_n 2, 1) := by decide +kernel
theorem d_Pw_isWithin_7 : decode c_Pw_isWithin 7 = .ok (.if_icmp .gt 7, 3) := by decide +kernel
theorem d_Pw_isWithin_10 : decode c_Pw_isWithin 10 = .ok (.iconst 1, 1) := by decide +kernel
theorem d_Pw_isWithin_11 : decode c_Pw_isWithin 11 = .ok (.goto 4, 3) := by decide +kernel
theorem d_Pw_isWithin_14 : decode c_Pw_isWithin 14 = .ok (.iconst 0, 1) := by decide +kernel
theorem d_Pw_isWithin_15 : decode c_Pw_isWithin 15 = .ok (.ireturn, 1) := by decide +kernel
theorem d_Pw_isLetter_0 : decode c_Pw_isLetter 0 = .ok (.iload_n 0, 1) := by decide +kernel
theorem d_Pw_isLetter_1 : decode c_Pw_isLetter 1 = .ok (.bipush 65, 2) := by decide +kernel
theorem d_Pw_isLetter_3 : decode c_Pw_isLetter 3 = .ok (.if_icmp .lt 13, 3) := by decide +kernel
theorem d_Pw_isLetter_6 : decode c_Pw_isLetter 6 = .ok (.iload_n 0, 1) := by decide +kernel
theorem d_Pw_isLetter_7 : decode c_Pw_isLetter 7 = .ok (.bipush 70, 2) := by decide +kernel
theorem d_Pw_isLetter_9 : decode c_Pw_isLetter 9 = .ok (.if_icmp .gt 7, 3) := by decide +kernel
theorem d_Pw_isLetter_12 : decode c_Pw_isLetter 12 = .ok (.iconst 1, 1) := by decide +kernel
theorem d_Pw_isLetter_13 : decode c_Pw_isLetter 13 = .ok (.goto 4, 3) := by decide +kernel
theorem d_Pw_isLetter_16 : decode c_Pw_isLetter 16 = .ok (.iconst 0, 1) := by decide +kernel
theorem d_Pw_isLetter_17 : decode c_Pw_isLetter 17 = .ok (.ireturn, 1) := by decide +kernel
theorem d_Rd_init_0 : decode c_Rd_init 0 = .ok (.aload_n 0, 1) := by decide +kernel
theorem d_Rd_init_1 : decode c_Rd_init 1 = .ok (.invokespecial 3, 3) := by decide +kernel
theorem d_Rd_init_4 : decode c_Rd_init 4 = .ok (.aload_n 0, 1) := by decide +kernel
theorem d_Rd_init_5 : decode c_Rd_init 5 = .ok (.bipush 40, 2) := by decide +kernel
theorem d_Rd_init_7 : decode c_Rd_init 7 = .ok (.newarray .char, 2) := by decide +kernel
theorem d_Rd_init_9 : decode c_Rd_init 9 = .ok (.putfield 9, 3) := by decide +kernel
theorem d_Rd_init_12 : decode c_Rd_init 12 = .ok (.return_, 1) := by decide +kernel
theorem d_Rd_put_0 : decode c_Rd_put 0 = .ok (.iload_n 1, 1) := by decide +kernel
theorem d_Rd_put_1 : decode c_Rd_put 1 = .ok (.bipush 33, 2) := by decide +kernel
theorem d_Rd_put_3 : decode c_Rd_put 3 = .ok (.if_icmp .lt 18, 3) := by decide +kernel
theorem d_Rd_put_6 : decode c_Rd_put 6 = .ok (.iload_n 1, 1) := by decide +kernel
theorem d_Rd_put_7 : decode c_Rd_put 7 = .ok (.bipush 126, 2) := by decide +kernel
theorem d_Rd_put_9 : decode c_Rd_put 9 = .ok (.if_icmp .gt 12, 3) := by decide +kernel
theorem d_Rd_put_12 : decode c_Rd_put 12 = .ok (.aload_n 0, 1) := by decide +kernel
theorem d_Rd_put_13 : decode c_Rd_put 13 = .ok (.getfield 15, 3) := by decide +kernel
theorem d_Rd_put_16 : decode c_Rd_put 16 = .ok (.bipush 40, 2) := by decide +kernel
theorem d_Rd_put_18 : decode c_Rd_put 18 = .ok (.if_icmp .lt 5, 3) := by decide +kernel
theorem d_Rd_put_21 : decode c_Rd_put 21 = .ok (.iconst 0, 1) := by decide +kernel
theorem d_Rd_put_22 : decode c_Rd_put 22 = .ok (.ireturn, 1) := by decide +kernel
theorem d_Rd_put_23 : decode c_Rd_put 23 = .ok (.aload_n 0, 1) := by decide +kernel
theorem d_Rd_put_24 : decode c_Rd_put 24 = .ok (.getfield 9, 3) := by decide +kernel
theorem d_Rd_put_27 : decode c_Rd_put 27 = .ok (.aload_n 0, 1) := by decide +kernel
theorem d_Rd_put_28 : decode c_Rd_put 28 = .ok (.getfield 15, 3) := by decide +kernel
theorem d_Rd_put_31 : decode c_Rd_put 31 = .ok (.iload_n 1, 1) := by decide +kernel
theorem d_Rd_put_32 : decode c_Rd_put 32 = .ok (.castore, 1) := by decide +kernel
theorem d_Rd_put_33 : decode c_Rd_put 33 = .ok (.aload_n 0, 1) := by decide +kernel
theorem d_Rd_put_34 : decode c_Rd_put 34 = .ok (.dup, 1) := by decide +kernel
theorem d_Rd_put_35 : decode c_Rd_put 35 = .ok (.getfield 15, 3) := by decide +kernel
theorem d_Rd_put_38 : decode c_Rd_put 38 = .ok (.iconst 1, 1) := by decide +kernel
theorem d_Rd_put_39 : decode c_Rd_put 39 = .ok (.iadd, 1) := by decide +kernel
theorem d_Rd_put_40 : decode c_Rd_put 40 = .ok (.putfield 15, 3) := by decide +kernel
theorem d_Rd_put_43 : decode c_Rd_put 43 = .ok (.iconst 1, 1) := by decide +kernel
theorem d_Rd_put_44 : decode c_Rd_put 44 = .ok (.ireturn, 1) := by decide +kernel
theorem d_Rd_empty_0 : decode c_Rd_empty 0 = .ok (.aload_n 0, 1) := by decide +kernel
theorem d_Rd_empty_1 : decode c_Rd_empty 1 = .ok (.iconst 0, 1) := by decide +kernel
theorem d_Rd_empty_2 : decode c_Rd_empty 2 = .ok (.putfield 15, 3) := by decide +kernel
theorem d_Rd_empty_5 : decode c_Rd_empty 5 = .ok (.return_, 1) := by decide +kernel
theorem d_Rd_readInto_0 : decode c_Rd_readInto 0 = .ok (.aload_n 0, 1) := by decide +kernel
theorem d_Rd_readInto_1 : decode c_Rd_readInto 1 = .ok (.iconst 0, 1) := by decide +kernel
theorem d_Rd_readInto_2 : decode c_Rd_readInto 2 = .ok (.putfield 19, 3) := by decide +kernel
theorem d_Rd_readInto_5 : decode c_Rd_readInto 5 = .ok (.aload_n 1, 1) := by decide +kernel
theorem d_Rd_readInto_6 : decode c_Rd_readInto 6 = .ok (.invokevirtual 22, 3) := by decide +kernel
theorem d_Rd_readInto_9 : decode c_Rd_readInto 9 = .ok (.iconst 0, 1) := by decide +kernel
theorem d_Rd_readInto_10 : decode c_Rd_readInto 10 = .ok (.istore_n 2, 1) := by decide +kernel
theorem d_Rd_readInto_11 : decode c_Rd_readInto 11 = .ok (.iload_n 2, 1) := by decide +kernel
theorem d_Rd_readInto_12 : decode c_Rd_readInto 12 = .ok (.bipush 8, 2) := by decide +kernel
theorem d_Rd_readInto_14 : decode c_Rd_readInto 14 = .ok (.if_icmp .ge 36, 3) := by decide +kernel
theorem d_Rd_readInto_17 : decode c_Rd_readInto 17 = .ok (.aload_n 0, 1) := by decide +kernel
theorem d_Rd_readInto_18 : decode c_Rd_readInto 18 = .ok (.invokevirtual 27, 3) := by decide +kernel
theorem d_Rd_readInto_21 : decode c_Rd_readInto 21 = .ok (.ifCond .eq 29, 3) := by decide +kernel
theorem d_Rd_readInto_24 : decode c_Rd_readInto 24 = .ok (.aload_n 0, 1) := by decide +kernel
theorem d_Rd_readInto_25 : decode c_Rd_readInto 25 = .ok (.aload_n 1, 1) := by decide +kernel
theorem d_Rd_readInto_26 : decode c_Rd_readInto 26 = .ok (.getfield 31, 3) := by decide +kernel
theorem d_Rd_readInto_29 : decode c_Rd_readInto 29 = .ok (.iload_n 2, 1) := by decide +kernel
theorem d_Rd_readInto_30 : decode c_Rd_readInto 30 = .ok (.aaload, 1) := by decide +kernel
theorem d_Rd_readInto_31 : decode c_Rd_readInto 31 = .ok (.iload_n 2, 1) := by decide +kernel
theorem d_Rd_readInto_32 : decode c_Rd_readInto 32 = .ok (.invokevirtual 35, 3) := by decide +kernel
theorem d_Rd_readInto_35 : decode c_Rd_readInto 35 = .ok (.ifCond .ne 5, 3) := by decide +kernel
theorem d_Rd_readInto_38 : decode c_Rd_readInto 38 = .ok (.iconst 0, 1) := by decide +kernel
theorem d_Rd_readInto_39 : decode c_Rd_readInto 39 = .ok (.ireturn, 1) := by decide +kernel
theorem d_Rd_readInto_40 : decode c_Rd_readInto 40 = .ok (.aload_n 1, 1) := by decide +kernel
theorem d_Rd_readInto_41 : decode c_Rd_readInto 41 = .ok (.invokevirtual 39, 3) := by decide +kernel
theorem d_Rd_readInto_44 : decode c_Rd_readInto 44 = .ok (.iinc 2 1, 3) := by decide +kernel
theorem d_Rd_readInto_47 : decode c_Rd_readInto 47 = .ok (.goto (-36), 3) := by decide +kernel
theorem d_Rd_readInto_50 : decode c_Rd_readInto 50 = .ok (.aload_n 1, 1) := by decide +kernel
theorem d_Rd_readInto_51 : decode c_Rd_readInto 51 = .ok (.invokevirtual 42, 3) := by decide +kernel
theorem d_Rd_readInto_54 : decode c_Rd_readInto 54 = .ok (.ifCond .eq 26, 3) := by decide +kernel
theorem d_Rd_readInto_57 : decode c_Rd_readInto 57 = .ok (.aload_n 0, 1) := by decide +kernel
theorem d_Rd_readInto_58 : decode c_Rd_readInto 58 = .ok (.aload_n 1, 1) := by decide +kernel
theorem d_Rd_readInto_59 : decode c_Rd_readInto 59 = .ok (.invokevirtual 45, 3) := by decide +kernel
theorem d_Rd_readInto_62 : decode c_Rd_readInto 62 = .ok (.ifCond .eq 18, 3) := by decide +kernel
theorem d_Rd_readInto_65 : decode c_Rd_readInto 65 = .ok (.aload_n 0, 1) := by decide +kernel
theorem d_Rd_readInto_66 : decode c_Rd_readInto 66 = .ok (.getfield 19, 3) := by decide +kernel
theorem d_Rd_readInto_69 : decode c_Rd_readInto 69 = .ok (.aload_n 0, 1) := by decide +kernel
theorem d_Rd_readInto_70 : decode c_Rd_readInto 70 = .ok (.getfield 15, 3) := by decide +kernel
theorem d_Rd_readInto_73 : decode c_Rd_readInto 73 = .ok (.if_icmp .ne 7, 3) := by decide +kernel
theorem d_Rd_readInto_76 : decode c_Rd_readInto 76 = .ok (.iconst 1, 1) := by decide +kernel
theorem d_Rd_readInto_77 : decode c_Rd_readInto 77 = .ok (.goto 4, 3) := by decide +kernel
theorem d_Rd_readInto_80 : decode c_Rd_readInto 80 = .ok (.iconst 0, 1) := by decide +kernel
theorem d_Rd_readInto_81 : decode c_Rd_readInto 81 = .ok (.ireturn, 1) := by decide +kernel
theorem d_Rd_readElement_0 : decode c_Rd_readElement 0 = .ok (.iload_n 2, 1) := by decide +kernel
theorem d_Rd_readElement_1 : decode c_Rd_readElement 1 = .ok (.bipush 7, 2) := by decide +kernel
theorem d_Rd_readElement_3 : decode c_Rd_readElement 3 = .ok (.if_icmp .ne 7, 3) := by decide +kernel
theorem d_Rd_readElement_6 : decode c_Rd_readElement 6 = .ok (.iconst 1, 1) := by decide +kernel
theorem d_Rd_readElement_7 : decode c_Rd_readElement 7 = .ok (.goto 4, 3) := by decide +kernel
theorem d_Rd_readElement_10 : decode c_Rd_readElement 10 = .ok (.iconst 0, 1) := by decide +kernel
theorem d_Rd_readElement_11 : decode c_Rd_readElement 11 = .ok (.istore_n 3, 1) := by decide +kernel
theorem d_Rd_readElement_12 : decode c_Rd_readElement 12 = .ok (.aload_n 1, 1) := by decide +kernel
theorem d_Rd_readElement_13 : decode c_Rd_readElement 13 = .ok (.invokevirtual 49, 3) := by decide +kernel
theorem d_Rd_readElement_16 : decode c_Rd_readElement 16 = .ok (.aload_n 0, 1) := by decide +kernel
theorem d_Rd_readElement_17 : decode c_Rd_readElement 17 = .ok (.invokevirtual 52, 3) := by decide +kernel
theorem d_Rd_readElement_20 : decode c_Rd_readElement 20 = .ok (.bipush 33, 2) := by decide +kernel
theorem d_Rd_readElement_22 : decode c_Rd_readElement 22 = .ok (.if_icmp .ne 28, 3) := by decide +kernel
theorem d_Rd_readElement_25 : decode c_Rd_readElement 25 = .ok (.iload_n 2, 1) := by decide +kernel
theorem d_Rd_readElement_26 : decode c_Rd_readElement 26 = .ok (.ifCond .eq 7, 3) := by decide +kernel
theorem d_Rd_readElement_29 : decode c_Rd_readElement 29 = .ok (.iload_n 3, 1) := by decide +kernel
theorem d_Rd_readElement_30 : decode c_Rd_readElement 30 = .ok (.ifCond .eq 5, 3) := by decide +kernel
theorem d_Rd_readElement_33 : decode c_Rd_readElement 33 = .ok (.iconst 0, 1) := by decide +kernel
theorem d_Rd_readElement_34 : decode c_Rd_readElement 34 = .ok (.ireturn, 1) := by decide +kernel
theorem d_Rd_readElement_35 : decode c_Rd_readElement 35 = .ok (.aload_n 1, 1) := by decide +kernel
theorem d_Rd_readElement_36 : decode c_Rd_readElement 36 = .ok (.iconst 1, 1) := by decide +kernel
theorem d_Rd_readElement_37 : decode c_Rd_readElement 37 = .ok (.putfield 56, 3) := by decide +kernel
theorem d_Rd_readElement_40 : decode c_Rd_readElement 40 = .ok (.aload_n 0, 1) := by decide +kernel
theorem d_Rd_readElement_41 : decode c_Rd_readElement 41 = .ok (.dup, 1) := by decide +kernel
theorem d_Rd_readElement_42 : decode c_Rd_readElement 42 = .ok (.getfield 19, 3) := by decide +kernel
theorem d_Rd_readElement_45 : decode c_Rd_readElement 45 = .ok (.iconst 1, 1) := by decide +kernel
theorem d_Rd_readElement_46 : decode c_Rd_readElement 46 = .ok (.iadd, 1) := by decide +kernel
theorem d_Rd_readElement_47 : decode c_Rd_readElement 47 = .ok (.putfield 19, 3) := by decide +kernel
theorem d_Rd_readElement_50 : decode c_Rd_readElement 50 = .ok (.aload_n 0, 1) := by decide +kernel
theorem d_Rd_readElement_51 : decode c_Rd_readElement 51 = .ok (.invokevirtual 60, 3) := by decide +kernel
theorem d_Rd_readElement_54 : decode c_Rd_readElement 54 = .ok (.ifCond .ne 5, 3) := by decide +kernel
theorem d_Rd_readElement_57 : decode c_Rd_readElement 57 = .ok (.iconst 0, 1) := by decide +kernel
theorem d_Rd_readElement_58 : decode c_Rd_readElement 58 = .ok (.ireturn, 1) := by decide +kernel
theorem d_Rd_readElement_59 : decode c_Rd_readElement 59 = .ok (.aload_n 1, 1) := by decide +kernel
theorem d_Rd_readElement_60 : decode c_Rd_readElement 60 = .ok (.aload_n 0, 1) := by decide +kernel
theorem d_Rd_readElement_61 : decode c_Rd_readElement 61 = .ok (.invokevirtual 52, 3) := by decide +kernel
theorem d_Rd_readElement_64 : decode c_Rd_readElement 64 = .ok (.putfield 63, 3) := by decide +kernel
theorem d_Rd_readElement_67 : decode c_Rd_readElement 67 = .ok (.aload_n 0, 1) := by decide +kernel
theorem d_Rd_readElement_68 : decode c_Rd_readElement 68 = .ok (.dup, 1) := by decide +kernel
theorem d_Rd_readElement_69 : decode c_Rd_readElement 69 = .ok (.getfield 19, 3) := by decide +kernel
theorem d_Rd_readElement_72 : decode c_Rd_readElement 72 = .ok (.iconst 1, 1) := by decide +kernel
theorem d_Rd_readElement_73 : decode c_Rd_readElement 73 = .ok (.iadd, 1) := by decide +kernel
theorem d_Rd_readElement_74 : decode c_Rd_readElement 74 = .ok (.putfield 19, 3) := by decide +kernel
theorem d_Rd_readElement_77 : decode c_Rd_readElement 77 = .ok (.aload_n 0, 1) := by decide +kernel
theorem d_Rd_readElement_78 : decode c_Rd_readElement 78 = .ok (.invokevirtual 52, 3) := by decide +kernel
theorem d_Rd_readElement_81 : decode c_Rd_readElement 81 = .ok (.bipush 43, 2) := by decide +kernel
theorem d_Rd_readElement_83 : decode c_Rd_readElement 83 = .ok (.if_icmp .ne 31, 3) := by decide +kernel
theorem d_Rd_readElement_86 : decode c_Rd_readElement 86 = .ok (.aload_n 1, 1) := by decide +kernel
theorem d_Rd_readElement_87 : decode c_Rd_readElement 87 = .ok (.getfield 56, 3) := by decide +kernel
theorem d_Rd_readElement_90 : decode c_Rd_readElement 90 = .ok (.ifCond .ne 7, 3) := by decide +kernel
theorem d_Rd_readElement_93 : decode c_Rd_readElement 93 = .ok (.iload_n 3, 1) := by decide +kernel
theorem d_Rd_readElement_94 : decode c_Rd_readElement 94 = .ok (.ifCond .eq 5, 3) := by decide +kernel
theorem d_Rd_readElement_97 : decode c_Rd_readElement 97 = .ok (.iconst 0, 1) := by decide +kernel
theorem d_Rd_readElement_98 : decode c_Rd_readElement 98 = .ok (.ireturn, 1) := by decide +kernel
theorem d_Rd_readElement_99 : decode c_Rd_readElement 99 = .ok (.aload_n 1, 1) := by decide +kernel
theorem d_Rd_readElement_100 : decode c_Rd_readElement 100 = .ok (.iconst 1, 1) := by decide +kernel
theorem d_Rd_readElement_101 : decode c_Rd_readElement 101 = .ok (.putfield 67, 3) := by decide +kernel
theorem d_Rd_readElement_104 : decode c_Rd_readElement 104 = .ok (.aload_n 0, 1) := by decide +kernel
theorem d_Rd_readElement_105 : decode c_Rd_readElement 105 = .ok (.dup, 1) := by decide +kernel
theorem d_Rd_readElement_106 : decode c_Rd_readElement 106 = .ok (.getfield 19, 3) := by decide +kernel
theorem d_Rd_readElement_109 : decode c_Rd_readElement 109 = .ok (.iconst 1, 1) := by decide +kernel
theorem d_Rd_readElement_110 : decode c_Rd_readElement 110 = .ok (.iadd, 1) := by decide +kernel
theorem d_Rd_readElement_111 : decode c_Rd_readElement 111 = .ok (.putfield 19, 3) := by decide +kernel
theorem d_Rd_readElement_114 : decode c_Rd_readElement 114 = .ok (.aload_n 0, 1) := by decide +kernel
theorem d_Rd_readElement_115 : decode c_Rd_readElement 115 = .ok (.invokevirtual 70, 3) := by decide +kernel
theorem d_Rd_readElement_118 : decode c_Rd_readElement 118 = .ok (.ifCond .eq 12, 3) := by decide +kernel
theorem d_Rd_readElement_121 : decode c_Rd_readElement 121 = .ok (.aload_n 0, 1) := by decide +kernel
theorem d_Rd_readElement_122 : decode c_Rd_readElement 122 = .ok (.aload_n 1, 1) := by decide +kernel
theorem d_Rd_readElement_123 : decode c_Rd_readElement 123 = .ok (.iload_n 2, 1) := by decide +kernel
theorem d_Rd_readElement_124 : decode c_Rd_readElement 124 = .ok (.invokevirtual 73, 3) := by decide +kernel
theorem d_Rd_readElement_127 : decode c_Rd_readElement 127 = .ok (.ifCond .eq 7, 3) := by decide +kernel
theorem d_Rd_readElement_130 : decode c_Rd_readElement 130 = .ok (.iconst 1, 1) := by decide +kernel
theorem d_Rd_readElement_131 : decode c_Rd_readElement 131 = .ok (.goto 4, 3) := by decide +kernel
theorem d_Rd_readElement_134 : decode c_Rd_readElement 134 = .ok (.iconst 0, 1) := by decide +kernel
theorem d_Rd_readElement_135 : decode c_Rd_readElement 135 = .ok (.ireturn, 1) := by decide +kernel
theorem d_Rd_readCondition_0 : decode c_Rd_readCondition 0 = .ok (.aload_n 1, 1) := by decide +kernel
theorem d_Rd_readCondition_1 : decode c_Rd_readCondition 1 = .ok (.aload_n 0, 1) := by decide +kernel
theorem d_Rd_readCondition_2 : decode c_Rd_readCondition 2 = .ok (.invokevirtual 52, 3) := by decide +kernel
theorem d_Rd_readCondition_5 : decode c_Rd_readCondition 5 = .ok (.putfield 76, 3) := by decide +kernel
theorem d_Rd_readCondition_8 : decode c_Rd_readCondition 8 = .ok (.aload_n 0, 1) := by decide +kernel
theorem d_Rd_readCondition_9 : decode c_Rd_readCondition 9 = .ok (.dup, 1) := by decide +kernel
theorem d_Rd_readCondition_10 : decode c_Rd_readCondition 10 = .ok (.getfield 19, 3) := by decide +kernel
theorem d_Rd_readCondition_13 : decode c_Rd_readCondition 13 = .ok (.iconst 1, 1) := by decide +kernel
theorem d_Rd_readCondition_14 : decode c_Rd_readCondition 14 = .ok (.iadd, 1) := by decide +kernel
theorem d_Rd_readCondition_15 : decode c_Rd_readCondition 15 = .ok (.putfield 19, 3) := by decide +kernel
theorem d_Rd_readCondition_18 : decode c_Rd_readCondition 18 = .ok (.iload_n 2, 1) := by decide +kernel
theorem d_Rd_readCondition_19 : decode c_Rd_readCondition 19 = .ok (.ifCond .le 19, 3) := by decide +kernel
theorem d_Rd_readCondition_22 : decode c_Rd_readCondition 22 = .ok (.aload_n 0, 1) := by decide +kernel
theorem d_Rd_readCondition_23 : decode c_Rd_readCondition 23 = .ok (.bipush 112, 2) := by decide +kernel
theorem d_Rd_readCondition_25 : decode c_Rd_readCondition 25 = .ok (.invokevirtual 79, 3) := by decide +kernel
theorem d_Rd_readCondition_28 : decode c_Rd_readCondition 28 = .ok (.ifCond .eq 10, 3) := by decide +kernel
theorem d_Rd_readCondition_31 : decode c_Rd_readCondition 31 = .ok (.aload_n 1, 1) := by decide +kernel
theorem d_Rd_readCondition_32 : decode c_Rd_readCondition 32 = .ok (.iconst 1, 1) := by decide +kernel
theorem d_Rd_readCondition_33 : decode c_Rd_readCondition 33 = .ok (.putfield 83, 3) := by decide +kernel
theorem d_Rd_readCondition_36 : decode c_Rd_readCondition 36 = .ok (.iconst 1, 1) := by decide +kernel
theorem d_Rd_readCondition_37 : decode c_Rd_readCondition 37 = .ok (.ireturn, 1) := by decide +kernel
theorem d_Rd_readCondition_38 : decode c_Rd_readCondition 38 = .ok (.aload_n 0, 1) := by decide +kernel
theorem d_Rd_readCondition_39 : decode c_Rd_readCondition 39 = .ok (.bipush 45, 2) := by decide +kernel
theorem d_Rd_readCondition_41 : decode c_Rd_readCondition 41 = .ok (.invokevirtual 79, 3) := by decide +kernel
theorem d_Rd_readCondition_44 : decode c_Rd_readCondition 44 = .ok (.istore_n 3, 1) := by decide +kernel
theorem d_Rd_readCondition_45 : decode c_Rd_readCondition 45 = .ok (.aload_n 0, 1) := by decide +kernel
theorem d_Rd_readCondition_46 : decode c_Rd_readCondition 46 = .ok (.iconst 2, 1) := by decide +kernel
theorem d_Rd_readCondition_47 : decode c_Rd_readCondition 47 = .ok (.invokevirtual 86, 3) := by decide +kernel
theorem d_Rd_readCondition_50 : decode c_Rd_readCondition 50 = .ok (.istore 4, 2) := by decide +kernel
theorem d_Rd_readCondition_52 : decode c_Rd_readCondition 52 = .ok (.aload_n 1, 1) := by decide +kernel
theorem d_Rd_readCondition_53 : decode c_Rd_readCondition 53 = .ok (.iload_n 3, 1) := by decide +kernel
theorem d_Rd_readCondition_54 : decode c_Rd_readCondition 54 = .ok (.ifCond .eq 9, 3) := by decide +kernel
theorem d_Rd_readCondition_57 : decode c_Rd_readCondition 57 = .ok (.iload 4, 2) := by decide +kernel
theorem d_Rd_readCondition_59 : decode c_Rd_readCondition 59 = .ok (.ineg, 1) := by decide +kernel
theorem d_Rd_readCondition_60 : decode c_Rd_readCondition 60 = .ok (.goto 5, 3) := by decide +kernel
theorem d_Rd_readCondition_63 : decode c_Rd_readCondition 63 = .ok (.iload 4, 2) := by decide +kernel
theorem d_Rd_readCondition_65 : decode c_Rd_readCondition 65 = .ok (.putfield 90, 3) := by decide +kernel
theorem d_Rd_readCondition_68 : decode c_Rd_readCondition 68 = .ok (.iload 4, 2) := by decide +kernel
theorem d_Rd_readCondition_70 : decode c_Rd_readCondition 70 = .ok (.ifCond .lt 7, 3) := by decide +kernel
theorem d_Rd_readCondition_73 : decode c_Rd_readCondition 73 = .ok (.iconst 1, 1) := by decide +kernel
theorem d_Rd_readCondition_74 : decode c_Rd_readCondition 74 = .ok (.goto 4, 3) := by decide +kernel
theorem d_Rd_readCondition_77 : decode c_Rd_readCondition 77 = .ok (.iconst 0, 1) := by decide +kernel
theorem d_Rd_readCondition_78 : decode c_Rd_readCondition 78 = .ok (.ireturn, 1) := by decide +kernel
theorem d_Rd_readEnd_0 : decode c_Rd_readEnd 0 = .ok (.aload_n 1, 1) := by decide +kernel
theorem d_Rd_readEnd_1 : decode c_Rd_readEnd 1 = .ok (.aload_n 0, 1) := by decide +kernel
theorem d_Rd_readEnd_2 : decode c_Rd_readEnd 2 = .ok (.bipush 35, 2) := by decide +kernel
theorem d_Rd_readEnd_4 : decode c_Rd_readEnd 4 = .ok (.invokevirtual 79, 3) := by decide +kernel
theorem d_Rd_readEnd_7 : decode c_Rd_readEnd 7 = .ok (.putfield 93, 3) := by decide +kernel
theorem d_Rd_readEnd_10 : decode c_Rd_readEnd 10 = .ok (.aload_n 0, 1) := by decide +kernel
theorem d_Rd_readEnd_11 : decode c_Rd_readEnd 11 = .ok (.bipush 64, 2) := by decide +kernel
theorem d_Rd_readEnd_13 : decode c_Rd_readEnd 13 = .ok (.invokevirtual 79, 3) := by decide +kernel
theorem d_Rd_readEnd_16 : decode c_Rd_readEnd 16 = .ok (.ifCond .ne 5, 3) := by decide +kernel
theorem d_Rd_readEnd_19 : decode c_Rd_readEnd 19 = .ok (.iconst 0, 1) := by decide +kernel
theorem d_Rd_readEnd_20 : decode c_Rd_readEnd 20 = .ok (.ireturn, 1) := by decide +kernel
theorem d_Rd_readEnd_21 : decode c_Rd_readEnd 21 = .ok (.aload_n 1, 1) := by decide +kernel
theorem d_Rd_readEnd_22 : decode c_Rd_readEnd 22 = .ok (.aload_n 0, 1) := by decide +kernel
theorem d_Rd_readEnd_23 : decode c_Rd_readEnd 23 = .ok (.iconst 3, 1) := by decide +kernel
theorem d_Rd_readEnd_24 : decode c_Rd_readEnd 24 = .ok (.invokevirtual 86, 3) := by decide +kernel
theorem d_Rd_readEnd_27 : decode c_Rd_readEnd 27 = .ok (.putfield 96, 3) := by decide +kernel
theorem d_Rd_readEnd_30 : decode c_Rd_readEnd 30 = .ok (.aload_n 1, 1) := by decide +kernel
theorem d_Rd_readEnd_31 : decode c_Rd_readEnd 31 = .ok (.getfield 96, 3) := by decide +kernel
theorem d_Rd_readEnd_34 : decode c_Rd_readEnd 34 = .ok (.ifCond .lt 7, 3) := by decide +kernel
theorem d_Rd_readEnd_37 : decode c_Rd_readEnd 37 = .ok (.iconst 1, 1) := by decide +kernel
theorem d_Rd_readEnd_38 : decode c_Rd_readEnd 38 = .ok (.goto 4, 3) := by decide +kernel
theorem d_Rd_readEnd_41 : decode c_Rd_readEnd 41 = .ok (.iconst 0, 1) := by decide +kernel
theorem d_Rd_readEnd_42 : decode c_Rd_readEnd 42 = .ok (.ireturn, 1) := by decide +kernel
theorem d_Rd_readDigits_0 : decode c_Rd_readDigits 0 = .ok (.iconst (-1), 1) := by decide +kernel
theorem d_Rd_readDigits_1 : decode c_Rd_readDigits 1 = .ok (.istore_n 2, 1) := by decide +kernel
theorem d_Rd_readDigits_2 : decode c_Rd_readDigits 2 = .ok (.iconst 0, 1) := by decide +kernel
theorem d_Rd_readDigits_3 : decode c_Rd_readDigits 3 = .ok (.istore_n 3, 1) := by decide +kernel
theorem d_Rd_readDigits_4 : decode c_Rd_readDigits 4 = .ok (.iload_n 3, 1) := by decide +kernel
theorem d_Rd_readDigits_5 : decode c_Rd_readDigits 5 = .ok (.iload_n 1, 1) := by decide +kernel
theorem d_Rd_readDigits_6 : decode c_Rd_readDigits 6 = .ok (.if_icmp .ge 52, 3) := by decide +kernel
theorem d_Rd_readDigits_9 : decode c_Rd_readDigits 9 = .ok (.aload_n 0, 1) := by decide +kernel
theorem d_Rd_readDigits_10 : decode c_Rd_readDigits 10 = .ok (.invokevirtual 99, 3) := by decide +kernel
theorem d_Rd_readDigits_13 : decode c_Rd_readDigits 13 = .ok (.ifCond .eq 45, 3) := by decide +kernel
theorem d_Rd_readDigits_16 : decode c_Rd_readDigits 16 = .ok (.aload_n 0, 1) := by decide +kernel
theorem d_Rd_readDigits_17 : decode c_Rd_readDigits 17 = .ok (.invokevirtual 52, 3) := by decide +kernel
theorem d_Rd_readDigits_20 : decode c_Rd_readDigits 20 = .ok (.bipush 48, 2) := by decide +kernel
theorem d_Rd_readDigits_22 : decode c_Rd_readDigits 22 = .ok (.isub, 1) := by decide +kernel
theorem d_Rd_readDigits_23 : decode c_Rd_readDigits 23 = .ok (.istore 4, 2) := by decide +kernel
theorem d_Rd_readDigits_25 : decode c_Rd_readDigits 25 = .ok (.iload_n 3, 1) := by decide +kernel
theorem d_Rd_readDigits_26 : decode c_Rd_readDigits 26 = .ok (.ifCond .ne 8, 3) := by decide +kernel
theorem d_Rd_readDigits_29 : decode c_Rd_readDigits 29 = .ok (.iload 4, 2) := by decide +kernel
theorem d_Rd_readDigits_31 : decode c_Rd_readDigits 31 = .ok (.goto 10, 3) := by decide +kernel
theorem d_Rd_readDigits_34 : decode c_Rd_readDigits 34 = .ok (.bipush 10, 2) := by decide +kernel
theorem d_Rd_readDigits_36 : decode c_Rd_readDigits 36 = .ok (.iload_n 2, 1) := by decide +kernel
theorem d_Rd_readDigits_37 : decode c_Rd_readDigits 37 = .ok (.imul, 1) := by decide +kernel
theorem d_Rd_readDigits_38 : decode c_Rd_readDigits 38 = .ok (.iload 4, 2) := by decide +kernel
theorem d_Rd_readDigits_40 : decode c_Rd_readDigits 40 = .ok (.iadd, 1) := by decide +kernel
theorem d_Rd_readDigits_41 : decode c_Rd_readDigits 41 = .ok (.istore_n 2, 1) := by decide +kernel
theorem d_Rd_readDigits_42 : decode c_Rd_readDigits 42 = .ok (.aload_n 0, 1) := by decide +kernel
theorem d_Rd_readDigits_43 : decode c_Rd_readDigits 43 = .ok (.dup, 1) := by decide +kernel
theorem d_Rd_readDigits_44 : decode c_Rd_readDigits 44 = .ok (.getfield 19, 3) := by decide +kernel
theorem d_Rd_readDigits_47 : decode c_Rd_readDigits 47 = .ok (.iconst 1, 1) := by decide +kernel
theorem d_Rd_readDigits_48 : decode c_Rd_readDigits 48 = .ok (.iadd, 1) := by decide +kernel
theorem d_Rd_readDigits_49 : decode c_Rd_readDigits 49 = .ok (.putfield 19, 3) := by decide +kernel
theorem d_Rd_readDigits_52 : decode c_Rd_readDigits 52 = .ok (.iinc 3 1, 3) := by decide +kernel
theorem d_Rd_readDigits_55 : decode c_Rd_readDigits 55 = .ok (.goto (-51), 3) := by decide +kernel
theorem d_Rd_readDigits_58 : decode c_Rd_readDigits 58 = .ok (.iload_n 2, 1) := by decide +kernel
theorem d_Rd_readDigits_59 : decode c_Rd_readDigits 59 = .ok (.ireturn, 1) := by decide +kernel
theorem d_Rd_passes_0 : decode c_Rd_passes 0 = .ok (.aload_n 0, 1) := by decide +kernel
theorem d_Rd_passes_1 : decode c_Rd_passes 1 = .ok (.invokevirtual 52, 3) := by decide +kernel
theorem d_Rd_passes_4 : decode c_Rd_passes 4 = .ok (.iload_n 1, 1) := by decide +kernel
theorem d_Rd_passes_5 : decode c_Rd_passes 5 = .ok (.if_icmp .eq 5, 3) := by decide +kernel
theorem d_Rd_passes_8 : decode c_Rd_passes 8 = .ok (.iconst 0, 1) := by decide +kernel
theorem d_Rd_passes_9 : decode c_Rd_passes 9 = .ok (.ireturn, 1) := by decide +kernel
theorem d_Rd_passes_10 : decode c_Rd_passes 10 = .ok (.aload_n 0, 1) := by decide +kernel
theorem d_Rd_passes_11 : decode c_Rd_passes 11 = .ok (.dup, 1) := by decide +kernel
theorem d_Rd_passes_12 : decode c_Rd_passes 12 = .ok (.getfield 19, 3) := by decide +kernel
theorem d_Rd_passes_15 : decode c_Rd_passes 15 = .ok (.iconst 1, 1) := by decide +kernel
theorem d_Rd_passes_16 : decode c_Rd_passes 16 = .ok (.iadd, 1) := by decide +kernel
theorem d_Rd_passes_17 : decode c_Rd_passes 17 = .ok (.putfield 19, 3) := by decide +kernel
theorem d_Rd_passes_20 : decode c_Rd_passes 20 = .ok (.iconst 1, 1) := by decide +kernel
theorem d_Rd_passes_21 : decode c_Rd_passes 21 = .ok (.ireturn, 1) := by decide +kernel
theorem d_Rd_isElementAhead_0 : decode c_Rd_isElementAhead 0 = .ok (.aload_n 0, 1) := by decide +kernel
theorem d_Rd_isElementAhead_1 : decode c_Rd_isElementAhead 1 = .ok (.invokevirtual 52, 3) := by decide +kernel
theorem d_Rd_isElementAhead_4 : decode c_Rd_isElementAhead 4 = .ok (.bipush 33, 2) := by decide +kernel
theorem d_Rd_isElementAhead_6 : decode c_Rd_isElementAhead 6 = .ok (.if_icmp .eq 10, 3) := by decide +kernel
theorem d_Rd_isElementAhead_9 : decode c_Rd_isElementAhead 9 = .ok (.aload_n 0, 1) := by decide +kernel
theorem d_Rd_isElementAhead_10 : decode c_Rd_isElementAhead 10 = .ok (.invokevirtual 60, 3) := by decide +kernel
theorem d_Rd_isElementAhead_13 : decode c_Rd_isElementAhead 13 = .ok (.ifCond .eq 7, 3) := by decide +kernel
theorem d_Rd_isElementAhead_16 : decode c_Rd_isElementAhead 16 = .ok (.iconst 1, 1) := by decide +kernel
theorem d_Rd_isElementAhead_17 : decode c_Rd_isElementAhead 17 = .ok (.goto 4, 3) := by decide +kernel
theorem d_Rd_isElementAhead_20 : decode c_Rd_isElementAhead 20 = .ok (.iconst 0, 1) := by decide +kernel
theorem d_Rd_isElementAhead_21 : decode c_Rd_isElementAhead 21 = .ok (.ireturn, 1) := by decide +kernel
theorem d_Rd_isKindAhead_0 : decode c_Rd_isKindAhead 0 = .ok (.aload_n 0, 1) := by decide +kernel
theorem d_Rd_isKindAhead_1 : decode c_Rd_isKindAhead 1 = .ok (.invokevirtual 52, 3) := by decide +kernel
theorem d_Rd_isKindAhead_4 : decode c_Rd_isKindAhead 4 = .ok (.bipush 42, 2) := by decide +kernel
theorem d_Rd_isKindAhead_6 : decode c_Rd_isKindAhead 6 = .ok (.if_icmp .eq 13, 3) := by decide +kernel
theorem d_Rd_isKindAhead_9 : decode c_Rd_isKindAhead 9 = .ok (.aload_n 0, 1) := by decide +kernel
theorem d_Rd_isKindAhead_10 : decode c_Rd_isKindAhead 10 = .ok (.invokevirtual 52, 3) := by decide +kernel
theorem d_Rd_isKindAhead_13 : decode c_Rd_isKindAhead 13 = .ok (.invokestatic 102, 3) := by decide +kernel
theorem d_Rd_isKindAhead_16 : decode c_Rd_isKindAhead 16 = .ok (.ifCond .eq 7, 3) := by decide +kernel
theorem d_Rd_isKindAhead_19 : decode c_Rd_isKindAhead 19 = .ok (.iconst 1, 1) := by decide +kernel
theorem d_Rd_isKindAhead_20 : decode c_Rd_isKindAhead 20 = .ok (.goto 4, 3) := by decide +kernel
theorem d_Rd_isKindAhead_23 : decode c_Rd_isKindAhead 23 = .ok (.iconst 0, 1) := by decide +kernel
theorem d_Rd_isKindAhead_24 : decode c_Rd_isKindAhead 24 = .ok (.ireturn, 1) := by decide +kernel
theorem d_Rd_isTestAhead_0 : decode c_Rd_isTestAhead 0 = .ok (.aload_n 0, 1) := by decide +kernel
theorem d_Rd_isTestAhead_1 : decode c_Rd_isTestAhead 1 = .ok (.invokevirtual 52, 3) := by decide +kernel
theorem d_Rd_isTestAhead_4 : decode c_Rd_isTestAhead 4 = .ok (.bipush 60, 2) := by decide +kernel
theorem d_Rd_isTestAhead_6 : decode c_Rd_isTestAhead 6 = .ok (.if_icmp .eq 21, 3) := by decide +kernel
theorem d_Rd_isTestAhead_9 : decode c_Rd_isTestAhead 9 = .ok (.aload_n 0, 1) := by decide +kernel
theorem d_Rd_isTestAhead_10 : decode c_Rd_isTestAhead 10 = .ok (.invokevirtual 52, 3) := by decide +kernel
theorem d_Rd_isTestAhead_13 : decode c_Rd_isTestAhead 13 = .ok (.bipush 61, 2) := by decide +kernel
theorem d_Rd_isTestAhead_15 : decode c_Rd_isTestAhead 15 = .ok (.if_icmp .eq 12, 3) := by decide +kernel
theorem d_Rd_isTestAhead_18 : decode c_Rd_isTestAhead 18 = .ok (.aload_n 0, 1) := by decide +kernel
theorem d_Rd_isTestAhead_19 : decode c_Rd_isTestAhead 19 = .ok (.invokevirtual 52, 3) := by decide +kernel
theorem d_Rd_isTestAhead_22 : decode c_Rd_isTestAhead 22 = .ok (.bipush 62, 2) := by decide +kernel
theorem d_Rd_isTestAhead_24 : decode c_Rd_isTestAhead 24 = .ok (.if_icmp .ne 7, 3) := by decide +kernel
theorem d_Rd_isTestAhead_27 : decode c_Rd_isTestAhead 27 = .ok (.iconst 1, 1) := by decide +kernel
theorem d_Rd_isTestAhead_28 : decode c_Rd_isTestAhead 28 = .ok (.goto 4, 3) := by decide +kernel
theorem d_Rd_isTestAhead_31 : decode c_Rd_isTestAhead 31 = .ok (.iconst 0, 1) := by decide +kernel
theorem d_Rd_isTestAhead_32 : decode c_Rd_isTestAhead 32 = .ok (.ireturn, 1) := by decide +kernel
theorem d_Rd_isDigitAhead_0 : decode c_Rd_isDigitAhead 0 = .ok (.aload_n 0, 1) := by decide +kernel
theorem d_Rd_isDigitAhead_1 : decode c_Rd_isDigitAhead 1 = .ok (.invokevirtual 52, 3) := by decide +kernel
theorem d_Rd_isDigitAhead_4 : decode c_Rd_isDigitAhead 4 = .ok (.bipush 48, 2) := by decide +kernel
theorem d_Rd_isDigitAhead_6 : decode c_Rd_isDigitAhead 6 = .ok (.if_icmp .lt 16, 3) := by decide +kernel
theorem d_Rd_isDigitAhead_9 : decode c_Rd_isDigitAhead 9 = .ok (.aload_n 0, 1) := by decide +kernel
theorem d_Rd_isDigitAhead_10 : decode c_Rd_isDigitAhead 10 = .ok (.invokevirtual 52, 3) := by decide +kernel
theorem d_Rd_isDigitAhead_13 : decode c_Rd_isDigitAhead 13 = .ok (.bipush 57, 2) := by decide +kernel
theorem d_Rd_isDigitAhead_15 : decode c_Rd_isDigitAhead 15 = .ok (.if_icmp .gt 7, 3) := by decide +kernel
theorem d_Rd_isDigitAhead_18 : decode c_Rd_isDigitAhead 18 = .ok (.iconst 1, 1) := by decide +kernel
theorem d_Rd_isDigitAhead_19 : decode c_Rd_isDigitAhead 19 = .ok (.goto 4, 3) := by decide +kernel
theorem d_Rd_isDigitAhead_22 : decode c_Rd_isDigitAhead 22 = .ok (.iconst 0, 1) := by decide +kernel
theorem d_Rd_isDigitAhead_23 : decode c_Rd_isDigitAhead 23 = .ok (.ireturn, 1) := by decide +kernel
theorem d_Rd_ahead_0 : decode c_Rd_ahead 0 = .ok (.aload_n 0, 1) := by decide +kernel
theorem d_Rd_ahead_1 : decode c_Rd_ahead 1 = .ok (.getfield 19, 3) := by decide +kernel
theorem d_Rd_ahead_4 : decode c_Rd_ahead 4 = .ok (.aload_n 0, 1) := by decide +kernel
theorem d_Rd_ahead_5 : decode c_Rd_ahead 5 = .ok (.getfield 15, 3) := by decide +kernel
theorem d_Rd_ahead_8 : decode c_Rd_ahead 8 = .ok (.if_icmp .ge 15, 3) := by decide +kernel
theorem d_Rd_ahead_11 : decode c_Rd_ahead 11 = .ok (.aload_n 0, 1) := by decide +kernel
theorem d_Rd_ahead_12 : decode c_Rd_ahead 12 = .ok (.getfield 9, 3) := by decide +kernel
theorem d_Rd_ahead_15 : decode c_Rd_ahead 15 = .ok (.aload_n 0, 1) := by decide +kernel
theorem d_Rd_ahead_16 : decode c_Rd_ahead 16 = .ok (.getfield 19, 3) := by decide +kernel
theorem d_Rd_ahead_19 : decode c_Rd_ahead 19 = .ok (.caload, 1) := by decide +kernel
theorem d_Rd_ahead_20 : decode c_Rd_ahead 20 = .ok (.goto 5, 3) := by decide +kernel
theorem d_Rd_ahead_23 : decode c_Rd_ahead 23 = .ok (.bipush 32, 2) := by decide +kernel
theorem d_Rd_ahead_25 : decode c_Rd_ahead 25 = .ok (.ireturn, 1) := by decide +kernel
theorem d_RL_init_0 : decode c_RL_init 0 = .ok (.aload_n 0, 1) := by decide +kernel
theorem d_RL_init_1 : decode c_RL_init 1 = .ok (.invokespecial 3, 3) := by decide +kernel
theorem d_RL_init_4 : decode c_RL_init 4 = .ok (.aload_n 0, 1) := by decide +kernel
theorem d_RL_init_5 : decode c_RL_init 5 = .ok (.bipush 24, 2) := by decide +kernel
theorem d_RL_init_7 : decode c_RL_init 7 = .ok (.anewarray 9, 3) := by decide +kernel
theorem d_RL_init_10 : decode c_RL_init 10 = .ok (.putfield 11, 3) := by decide +kernel
theorem d_RL_init_13 : decode c_RL_init 13 = .ok (.iconst 0, 1) := by decide +kernel
theorem d_RL_init_14 : decode c_RL_init 14 = .ok (.istore_n 1, 1) := by decide +kernel
theorem d_RL_init_15 : decode c_RL_init 15 = .ok (.iload_n 1, 1) := by decide +kernel
theorem d_RL_init_16 : decode c_RL_init 16 = .ok (.bipush 24, 2) := by decide +kernel
theorem d_RL_init_18 : decode c_RL_init 18 = .ok (.if_icmp .ge 22, 3) := by decide +kernel
theorem d_RL_init_21 : decode c_RL_init 21 = .ok (.aload_n 0, 1) := by decide +kernel
theorem d_RL_init_22 : decode c_RL_init 22 = .ok (.getfield 11, 3) := by decide +kernel
theorem d_RL_init_25 : decode c_RL_init 25 = .ok (.iload_n 1, 1) := by decide +kernel
theorem d_RL_init_26 : decode c_RL_init 26 = .ok (.new 9, 3) := by decide +kernel
theorem d_RL_init_29 : decode c_RL_init 29 = .ok (.dup, 1) := by decide +kernel
theorem d_RL_init_30 : decode c_RL_init 30 = .ok (.invokespecial 17, 3) := by decide +kernel
theorem d_RL_init_33 : decode c_RL_init 33 = .ok (.aastore, 1) := by decide +kernel
theorem d_RL_init_34 : decode c_RL_init 34 = .ok (.iinc 1 1, 3) := by decide +kernel
theorem d_RL_init_37 : decode c_RL_init 37 = .ok (.goto (-22), 3) := by decide +kernel
theorem d_RL_init_40 : decode c_RL_init 40 = .ok (.return_, 1) := by decide +kernel
theorem d_RL_clear_0 : decode c_RL_clear 0 = .ok (.aload_n 0, 1) := by decide +kernel
theorem d_RL_clear_1 : decode c_RL_clear 1 = .ok (.iconst 0, 1) := by decide +kernel
theorem d_RL_clear_2 : decode c_RL_clear 2 = .ok (.putfield 18, 3) := by decide +kernel
theorem d_RL_clear_5 : decode c_RL_clear 5 = .ok (.return_, 1) := by decide +kernel
theorem d_RL_has_0 : decode c_RL_has 0 = .ok (.iload_n 1, 1) := by decide +kernel
theorem d_RL_has_1 : decode c_RL_has 1 = .ok (.iconst 0, 1) := by decide +kernel
theorem d_RL_has_2 : decode c_RL_has 2 = .ok (.aload_n 0, 1) := by decide +kernel
theorem d_RL_has_3 : decode c_RL_has 3 = .ok (.getfield 18, 3) := by decide +kernel
theorem d_RL_has_6 : decode c_RL_has 6 = .ok (.iconst 1, 1) := by decide +kernel
theorem d_RL_has_7 : decode c_RL_has 7 = .ok (.isub, 1) := by decide +kernel
theorem d_RL_has_8 : decode c_RL_has 8 = .ok (.invokestatic 22, 3) := by decide +kernel
theorem d_RL_has_11 : decode c_RL_has 11 = .ok (.ireturn, 1) := by decide +kernel
theorem d_RL_add_0 : decode c_RL_add 0 = .ok (.aload_n 0, 1) := by decide +kernel
theorem d_RL_add_1 : decode c_RL_add 1 = .ok (.getfield 18, 3) := by decide +kernel
theorem d_RL_add_4 : decode c_RL_add 4 = .ok (.bipush 24, 2) := by decide +kernel
theorem d_RL_add_6 : decode c_RL_add 6 = .ok (.if_icmp .lt 5, 3) := by decide +kernel
theorem d_RL_add_9 : decode c_RL_add 9 = .ok (.aconst_null, 1) := by decide +kernel
theorem d_RL_add_10 : decode c_RL_add 10 = .ok (.areturn, 1) := by decide +kernel
theorem d_RL_add_11 : decode c_RL_add 11 = .ok (.aload_n 0, 1) := by decide +kernel
theorem d_RL_add_12 : decode c_RL_add 12 = .ok (.dup, 1) := by decide +kernel
theorem d_RL_add_13 : decode c_RL_add 13 = .ok (.getfield 18, 3) := by decide +kernel
theorem d_RL_add_16 : decode c_RL_add 16 = .ok (.iconst 1, 1) := by decide +kernel
theorem d_RL_add_17 : decode c_RL_add 17 = .ok (.iadd, 1) := by decide +kernel
theorem d_RL_add_18 : decode c_RL_add 18 = .ok (.putfield 18, 3) := by decide +kernel
theorem d_RL_add_21 : decode c_RL_add 21 = .ok (.aload_n 0, 1) := by decide +kernel
theorem d_RL_add_22 : decode c_RL_add 22 = .ok (.getfield 11, 3) := by decide +kernel
theorem d_RL_add_25 : decode c_RL_add 25 = .ok (.aload_n 0, 1) := by decide +kernel
theorem d_RL_add_26 : decode c_RL_add 26 = .ok (.getfield 18, 3) := by decide +kernel
theorem d_RL_add_29 : decode c_RL_add 29 = .ok (.iconst 1, 1) := by decide +kernel
theorem d_RL_add_30 : decode c_RL_add 30 = .ok (.isub, 1) := by decide +kernel
theorem d_RL_add_31 : decode c_RL_add 31 = .ok (.aaload, 1) := by decide +kernel
theorem d_RL_add_32 : decode c_RL_add 32 = .ok (.areturn, 1) := by decide +kernel
theorem d_RL_remove_0 : decode c_RL_remove 0 = .ok (.aload_n 0, 1) := by decide +kernel
theorem d_RL_remove_1 : decode c_RL_remove 1 = .ok (.iload_n 1, 1) := by decide +kernel
theorem d_RL_remove_2 : decode c_RL_remove 2 = .ok (.invokevirtual 26, 3) := by decide +kernel
theorem d_RL_remove_5 : decode c_RL_remove 5 = .ok (.ifCond .ne 4, 3) := by decide +kernel
theorem d_RL_remove_8 : decode c_RL_remove 8 = .ok (.return_, 1) := by decide +kernel
theorem d_RL_remove_9 : decode c_RL_remove 9 = .ok (.aload_n 0, 1) := by decide +kernel
theorem d_RL_remove_10 : decode c_RL_remove 10 = .ok (.getfield 11, 3) := by decide +kernel
theorem d_RL_remove_13 : decode c_RL_remove 13 = .ok (.iload_n 1, 1) := by decide +kernel
theorem d_RL_remove_14 : decode c_RL_remove 14 = .ok (.aaload, 1) := by decide +kernel
theorem d_RL_remove_15 : decode c_RL_remove 15 = .ok (.astore_n 2, 1) := by decide +kernel
theorem d_RL_remove_16 : decode c_RL_remove 16 = .ok (.iload_n 1, 1) := by decide +kernel
theorem d_RL_remove_17 : decode c_RL_remove 17 = .ok (.iconst 1, 1) := by decide +kernel
theorem d_RL_remove_18 : decode c_RL_remove 18 = .ok (.iadd, 1) := by decide +kernel
theorem d_RL_remove_19 : decode c_RL_remove 19 = .ok (.istore_n 3, 1) := by decide +kernel
theorem d_RL_remove_20 : decode c_RL_remove 20 = .ok (.iload_n 3, 1) := by decide +kernel
theorem d_RL_remove_21 : decode c_RL_remove 21 = .ok (.aload_n 0, 1) := by decide +kernel
theorem d_RL_remove_22 : decode c_RL_remove 22 = .ok (.getfield 18, 3) := by decide +kernel
theorem d_RL_remove_25 : decode c_RL_remove 25 = .ok (.if_icmp .ge 23, 3) := by decide +kernel
theorem d_RL_remove_28 : decode c_RL_remove 28 = .ok (.aload_n 0, 1) := by decide +kernel
theorem d_RL_remove_29 : decode c_RL_remove 29 = .ok (.getfield 11, 3) := by decide +kernel
theorem d_RL_remove_32 : decode c_RL_remove 32 = .ok (.iload_n 3, 1) := by decide +kernel
theorem d_RL_remove_33 : decode c_RL_remove 33 = .ok (.iconst 1, 1) := by decide +kernel
theorem d_RL_remove_34 : decode c_RL_remove 34 = .ok (.isub, 1) := by decide +kernel
theorem d_RL_remove_35 : decode c_RL_remove 35 = .ok (.aload_n 0, 1) := by decide +kernel
theorem d_RL_remove_36 : decode c_RL_remove 36 = .ok (.getfield 11, 3) := by decide +kernel
theorem d_RL_remove_39 : decode c_RL_remove 39 = .ok (.iload_n 3, 1) := by decide +kernel
theorem d_RL_remove_40 : decode c_RL_remove 40 = .ok (.aaload, 1) := by decide +kernel
theorem d_RL_remove_41 : decode c_RL_remove 41 = .ok (.aastore, 1) := by decide +kernel
theorem d_RL_remove_42 : decode c_RL_remove 42 = .ok (.iinc 3 1, 3) := by decide +kernel
theorem d_RL_remove_45 : decode c_RL_remove 45 = .ok (.goto (-25), 3) := by decide +kernel
theorem d_RL_remove_48 : decode c_RL_remove 48 = .ok (.aload_n 0, 1) := by decide +kernel
theorem d_RL_remove_49 : decode c_RL_remove 49 = .ok (.dup, 1) := by decide +kernel
theorem d_RL_remove_50 : decode c_RL_remove 50 = .ok (.getfield 18, 3) := by decide +kernel
theorem d_RL_remove_53 : decode c_RL_remove 53 = .ok (.iconst 1, 1) := by decide +kernel
theorem d_RL_remove_54 : decode c_RL_remove 54 = .ok (.isub, 1) := by decide +kernel
theorem d_RL_remove_55 : decode c_RL_remove 55 = .ok (.putfield 18, 3) := by decide +kernel
theorem d_RL_remove_58 : decode c_RL_remove 58 = .ok (.aload_n 0, 1) := by decide +kernel
theorem d_RL_remove_59 : decode c_RL_remove 59 = .ok (.getfield 11, 3) := by decide +kernel
theorem d_RL_remove_62 : decode c_RL_remove 62 = .ok (.aload_n 0, 1) := by decide +kernel
theorem d_RL_remove_63 : decode c_RL_remove 63 = .ok (.getfield 18, 3) := by decide +kernel
theorem d_RL_remove_66 : decode c_RL_remove 66 = .ok (.aload_n 2, 1) := by decide +kernel
theorem d_RL_remove_67 : decode c_RL_remove 67 = .ok (.aastore, 1) := by decide +kernel
theorem d_RL_remove_68 : decode c_RL_remove 68 = .ok (.return_, 1) := by decide +kernel
theorem d_Ev_init_0 : decode c_Ev_init 0 = .ok (.aload_n 0, 1) := by decide +kernel
theorem d_Ev_init_1 : decode c_Ev_init 1 = .ok (.invokespecial 1, 3) := by decide +kernel
theorem d_Ev_init_4 : decode c_Ev_init 4 = .ok (.return_, 1) := by decide +kernel
theorem d_Pt_init_0 : decode c_Pt_init 0 = .ok (.aload_n 0, 1) := by decide +kernel
theorem d_Pt_init_1 : decode c_Pt_init 1 = .ok (.invokespecial 3, 3) := by decide +kernel
theorem d_Pt_init_4 : decode c_Pt_init 4 = .ok (.aload_n 0, 1) := by decide +kernel
theorem d_Pt_init_5 : decode c_Pt_init 5 = .ok (.bipush 8, 2) := by decide +kernel
theorem d_Pt_init_7 : decode c_Pt_init 7 = .ok (.anewarray 9, 3) := by decide +kernel
theorem d_Pt_init_10 : decode c_Pt_init 10 = .ok (.putfield 11, 3) := by decide +kernel
theorem d_Pt_init_13 : decode c_Pt_init 13 = .ok (.iconst 0, 1) := by decide +kernel
theorem d_Pt_init_14 : decode c_Pt_init 14 = .ok (.istore_n 1, 1) := by decide +kernel
theorem d_Pt_init_15 : decode c_Pt_init 15 = .ok (.iload_n 1, 1) := by decide +kernel
theorem d_Pt_init_16 : decode c_Pt_init 16 = .ok (.bipush 8, 2) := by decide +kernel
theorem d_Pt_init_18 : decode c_Pt_init 18 = .ok (.if_icmp .ge 22, 3) := by decide +kernel
theorem d_Pt_init_21 : decode c_Pt_init 21 = .ok (.aload_n 0, 1) := by decide +kernel
theorem d_Pt_init_22 : decode c_Pt_init 22 = .ok (.getfield 11, 3) := by decide +kernel
theorem d_Pt_init_25 : decode c_Pt_init 25 = .ok (.iload_n 1, 1) := by decide +kernel
theorem d_Pt_init_26 : decode c_Pt_init 26 = .ok (.new 9, 3) := by decide +kernel
theorem d_Pt_init_29 : decode c_Pt_init 29 = .ok (.dup, 1) := by decide +kernel
theorem d_Pt_init_30 : decode c_Pt_init 30 = .ok (.invokespecial 17, 3) := by decide +kernel
theorem d_Pt_init_33 : decode c_Pt_init 33 = .ok (.aastore, 1) := by decide +kernel
theorem d_Pt_init_34 : decode c_Pt_init 34 = .ok (.iinc 1 1, 3) := by decide +kernel
theorem d_Pt_init_37 : decode c_Pt_init 37 = .ok (.goto (-22), 3) := by decide +kernel
theorem d_Pt_init_40 : decode c_Pt_init 40 = .ok (.aload_n 0, 1) := by decide +kernel
theorem d_Pt_init_41 : decode c_Pt_init 41 = .ok (.bipush 8, 2) := by decide +kernel
theorem d_Pt_init_43 : decode c_Pt_init 43 = .ok (.newarray .int, 2) := by decide +kernel
theorem d_Pt_init_45 : decode c_Pt_init 45 = .ok (.putfield 18, 3) := by decide +kernel
theorem d_Pt_init_48 : decode c_Pt_init 48 = .ok (.return_, 1) := by decide +kernel
theorem d_Pt_clear_0 : decode c_Pt_clear 0 = .ok (.aload_n 0, 1) := by decide +kernel
theorem d_Pt_clear_1 : decode c_Pt_clear 1 = .ok (.iconst 0, 1) := by decide +kernel
theorem d_Pt_clear_2 : decode c_Pt_clear 2 = .ok (.putfield 22, 3) := by decide +kernel
theorem d_Pt_clear_5 : decode c_Pt_clear 5 = .ok (.aload_n 0, 1) := by decide +kernel
theorem d_Pt_clear_6 : decode c_Pt_clear 6 = .ok (.iconst 0, 1) := by decide +kernel
theorem d_Pt_clear_7 : decode c_Pt_clear 7 = .ok (.putfield 26, 3) := by decide +kernel
theorem d_Pt_clear_10 : decode c_Pt_clear 10 = .ok (.aload_n 0, 1) := by decide +kernel
theorem d_Pt_clear_11 : decode c_Pt_clear 11 = .ok (.iconst 0, 1) := by decide +kernel
theorem d_Pt_clear_12 : decode c_Pt_clear 12 = .ok (.putfield 29, 3) := by decide +kernel
theorem d_Pt_clear_15 : decode c_Pt_clear 15 = .ok (.aload_n 0, 1) := by decide +kernel
theorem d_Pt_clear_16 : decode c_Pt_clear 16 = .ok (.iconst 0, 1) := by decide +kernel
theorem d_Pt_clear_17 : decode c_Pt_clear 17 = .ok (.putfield 33, 3) := by decide +kernel
theorem d_Pt_clear_20 : decode c_Pt_clear 20 = .ok (.return_, 1) := by decide +kernel
theorem d_Pt_countElement_0 : decode c_Pt_countElement 0 = .ok (.aload_n 0, 1) := by decide +kernel
theorem d_Pt_countElement_1 : decode c_Pt_countElement 1 = .ok (.getfield 22, 3) := by decide +kernel
theorem d_Pt_countElement_4 : decode c_Pt_countElement 4 = .ok (.bipush 8, 2) := by decide +kernel
theorem d_Pt_countElement_6 : decode c_Pt_countElement 6 = .ok (.if_icmp .ge 51, 3) := by decide +kernel
theorem d_Pt_countElement_9 : decode c_Pt_countElement 9 = .ok (.aload_n 0, 1) := by decide +kernel
theorem d_Pt_countElement_10 : decode c_Pt_countElement 10 = .ok (.getfield 11, 3) := by decide +kernel
theorem d_Pt_countElement_13 : decode c_Pt_countElement 13 = .ok (.aload_n 0, 1) := by decide +kernel
theorem d_Pt_countElement_14 : decode c_Pt_countElement 14 = .ok (.getfield 22, 3) := by decide +kernel
theorem d_Pt_countElement_17 : decode c_Pt_countElement 17 = .ok (.aaload, 1) := by decide +kernel
theorem d_Pt_countElement_18 : decode c_Pt_countElement 18 = .ok (.getfield 36, 3) := by decide +kernel
theorem d_Pt_countElement_21 : decode c_Pt_countElement 21 = .ok (.ifCond .ne 26, 3) := by decide +kernel
theorem d_Pt_countElement_24 : decode c_Pt_countElement 24 = .ok (.aload_n 0, 1) := by decide +kernel
theorem d_Pt_countElement_25 : decode c_Pt_countElement 25 = .ok (.getfield 18, 3) := by decide +kernel
theorem d_Pt_countElement_28 : decode c_Pt_countElement 28 = .ok (.aload_n 0, 1) := by decide +kernel
theorem d_Pt_countElement_29 : decode c_Pt_countElement 29 = .ok (.getfield 26, 3) := by decide +kernel
theorem d_Pt_countElement_32 : decode c_Pt_countElement 32 = .ok (.aload_n 0, 1) := by decide +kernel
theorem d_Pt_countElement_33 : decode c_Pt_countElement 33 = .ok (.getfield 22, 3) := by decide +kernel
theorem d_Pt_countElement_36 : decode c_Pt_countElement 36 = .ok (.iastore, 1) := by decide +kernel
theorem d_Pt_countElement_37 : decode c_Pt_countElement 37 = .ok (.aload_n 0, 1) := by decide +kernel
theorem d_Pt_countElement_38 : decode c_Pt_countElement 38 = .ok (.dup, 1) := by decide +kernel
theorem d_Pt_countElement_39 : decode c_Pt_countElement 39 = .ok (.getfield 26, 3) := by decide +kernel
theorem d_Pt_countElement_42 : decode c_Pt_countElement 42 = .ok (.iconst 1, 1) := by decide +kernel
theorem d_Pt_countElement_43 : decode c_Pt_countElement 43 = .ok (.iadd, 1) := by decide +kernel
theorem d_Pt_countElement_44 : decode c_Pt_countElement 44 = .ok (.putfield 26, 3) := by decide +kernel
theorem d_Pt_countElement_47 : decode c_Pt_countElement 47 = .ok (.aload_n 0, 1) := by decide +kernel
theorem d_Pt_countElement_48 : decode c_Pt_countElement 48 = .ok (.dup, 1) := by decide +kernel
theorem d_Pt_countElement_49 : decode c_Pt_countElement 49 = .ok (.getfield 22, 3) := by decide +kernel
theorem d_Pt_countElement_52 : decode c_Pt_countElement 52 = .ok (.iconst 1, 1) := by decide +kernel
theorem d_Pt_countElement_53 : decode c_Pt_countElement 53 = .ok (.iadd, 1) := by decide +kernel
theorem d_Pt_countElement_54 : decode c_Pt_countElement 54 = .ok (.putfield 22, 3) := by decide +kernel
theorem d_Pt_countElement_57 : decode c_Pt_countElement 57 = .ok (.return_, 1) := by decide +kernel
theorem d_Pt_mayEnd_0 : decode c_Pt_mayEnd 0 = .ok (.aload_n 0, 1) := by decide +kernel
theorem d_Pt_mayEnd_1 : decode c_Pt_mayEnd 1 = .ok (.getfield 22, 3) := by decide +kernel
theorem d_Pt_mayEnd_4 : decode c_Pt_mayEnd 4 = .ok (.ifCond .le 41, 3) := by decide +kernel
theorem d_Pt_mayEnd_7 : decode c_Pt_mayEnd 7 = .ok (.aload_n 0, 1) := by decide +kernel
theorem d_Pt_mayEnd_8 : decode c_Pt_mayEnd 8 = .ok (.getfield 11, 3) := by decide +kernel
theorem d_Pt_mayEnd_11 : decode c_Pt_mayEnd 11 = .ok (.aload_n 0, 1) := by decide +kernel
theorem d_Pt_mayEnd_12 : decode c_Pt_mayEnd 12 = .ok (.getfield 22, 3) := by decide +kernel
theorem d_Pt_mayEnd_15 : decode c_Pt_mayEnd 15 = .ok (.iconst 1, 1) := by decide +kernel
theorem d_Pt_mayEnd_16 : decode c_Pt_mayEnd 16 = .ok (.isub, 1) := by decide +kernel
theorem d_Pt_mayEnd_17 : decode c_Pt_mayEnd 17 = .ok (.aaload, 1) := by decide +kernel
theorem d_Pt_mayEnd_18 : decode c_Pt_mayEnd 18 = .ok (.getfield 36, 3) := by decide +kernel
theorem d_Pt_mayEnd_21 : decode c_Pt_mayEnd 21 = .ok (.ifCond .ne 24, 3) := by decide +kernel
theorem d_Pt_mayEnd_24 : decode c_Pt_mayEnd 24 = .ok (.aload_n 0, 1) := by decide +kernel
theorem d_Pt_mayEnd_25 : decode c_Pt_mayEnd 25 = .ok (.getfield 11, 3) := by decide +kernel
theorem d_Pt_mayEnd_28 : decode c_Pt_mayEnd 28 = .ok (.aload_n 0, 1) := by decide +kernel
theorem d_Pt_mayEnd_29 : decode c_Pt_mayEnd 29 = .ok (.getfield 22, 3) := by decide +kernel
theorem d_Pt_mayEnd_32 : decode c_Pt_mayEnd 32 = .ok (.iconst 1, 1) := by decide +kernel
theorem d_Pt_mayEnd_33 : decode c_Pt_mayEnd 33 = .ok (.isub, 1) := by decide +kernel
theorem d_Pt_mayEnd_34 : decode c_Pt_mayEnd 34 = .ok (.aaload, 1) := by decide +kernel
theorem d_Pt_mayEnd_35 : decode c_Pt_mayEnd 35 = .ok (.getfield 39, 3) := by decide +kernel
theorem d_Pt_mayEnd_38 : decode c_Pt_mayEnd 38 = .ok (.ifCond .ne 7, 3) := by decide +kernel
theorem d_Pt_mayEnd_41 : decode c_Pt_mayEnd 41 = .ok (.iconst 1, 1) := by decide +kernel
theorem d_Pt_mayEnd_42 : decode c_Pt_mayEnd 42 = .ok (.goto 4, 3) := by decide +kernel
theorem d_Pt_mayEnd_45 : decode c_Pt_mayEnd 45 = .ok (.iconst 0, 1) := by decide +kernel
theorem d_Pt_mayEnd_46 : decode c_Pt_mayEnd 46 = .ok (.ireturn, 1) := by decide +kernel
theorem d_Pt_isLastStep_0 : decode c_Pt_isLastStep 0 = .ok (.iload_n 1, 1) := by decide +kernel
theorem d_Pt_isLastStep_1 : decode c_Pt_isLastStep 1 = .ok (.aload_n 0, 1) := by decide +kernel
theorem d_Pt_isLastStep_2 : decode c_Pt_isLastStep 2 = .ok (.getfield 26, 3) := by decide +kernel
theorem d_Pt_isLastStep_5 : decode c_Pt_isLastStep 5 = .ok (.iconst 1, 1) := by decide +kernel
theorem d_Pt_isLastStep_6 : decode c_Pt_isLastStep 6 = .ok (.isub, 1) := by decide +kernel
theorem d_Pt_isLastStep_7 : decode c_Pt_isLastStep 7 = .ok (.if_icmp .ne 7, 3) := by decide +kernel
theorem d_Pt_isLastStep_10 : decode c_Pt_isLastStep 10 = .ok (.iconst 1, 1) := by decide +kernel
theorem d_Pt_isLastStep_11 : decode c_Pt_isLastStep 11 = .ok (.goto 4, 3) := by decide +kernel
theorem d_Pt_isLastStep_14 : decode c_Pt_isLastStep 14 = .ok (.iconst 0, 1) := by decide +kernel
theorem d_Pt_isLastStep_15 : decode c_Pt_isLastStep 15 = .ok (.ireturn, 1) := by decide +kernel
theorem d_Pt_stepPlace_0 : decode c_Pt_stepPlace 0 = .ok (.iload_n 1, 1) := by decide +kernel
theorem d_Pt_stepPlace_1 : decode c_Pt_stepPlace 1 = .ok (.iconst 0, 1) := by decide +kernel
theorem d_Pt_stepPlace_2 : decode c_Pt_stepPlace 2 = .ok (.aload_n 0, 1) := by decide +kernel
theorem d_Pt_stepPlace_3 : decode c_Pt_stepPlace 3 = .ok (.getfield 26, 3) := by decide +kernel
theorem d_Pt_stepPlace_6 : decode c_Pt_stepPlace 6 = .ok (.iconst 1, 1) := by decide +kernel
theorem d_Pt_stepPlace_7 : decode c_Pt_stepPlace 7 = .ok (.isub, 1) := by decide +kernel
theorem d_Pt_stepPlace_8 : decode c_Pt_stepPlace 8 = .ok (.invokestatic 42, 3) := by decide +kernel
theorem d_Pt_stepPlace_11 : decode c_Pt_stepPlace 11 = .ok (.ifCond .eq 12, 3) := by decide +kernel
theorem d_Pt_stepPlace_14 : decode c_Pt_stepPlace 14 = .ok (.aload_n 0, 1) := by decide +kernel
theorem d_Pt_stepPlace_15 : decode c_Pt_stepPlace 15 = .ok (.getfield 18, 3) := by decide +kernel
theorem d_Pt_stepPlace_18 : decode c_Pt_stepPlace 18 = .ok (.iload_n 1, 1) := by decide +kernel
theorem d_Pt_stepPlace_19 : decode c_Pt_stepPlace 19 = .ok (.iaload, 1) := by decide +kernel
theorem d_Pt_stepPlace_20 : decode c_Pt_stepPlace 20 = .ok (.goto 4, 3) := by decide +kernel
theorem d_Pt_stepPlace_23 : decode c_Pt_stepPlace 23 = .ok (.iconst 0, 1) := by decide +kernel
theorem d_Pt_stepPlace_24 : decode c_Pt_stepPlace 24 = .ok (.ireturn, 1) := by decide +kernel
theorem d_Pt_stepElement_0 : decode c_Pt_stepElement 0 = .ok (.aload_n 0, 1) := by decide +kernel
theorem d_Pt_stepElement_1 : decode c_Pt_stepElement 1 = .ok (.getfield 11, 3) := by decide +kernel
theorem d_Pt_stepElement_4 : decode c_Pt_stepElement 4 = .ok (.aload_n 0, 1) := by decide +kernel
theorem d_Pt_stepElement_5 : decode c_Pt_stepElement 5 = .ok (.iload_n 1, 1) := by decide +kernel
theorem d_Pt_stepElement_6 : decode c_Pt_stepElement 6 = .ok (.invokevirtual 46, 3) := by decide +kernel
theorem d_Pt_stepElement_9 : decode c_Pt_stepElement 9 = .ok (.aaload, 1) := by decide +kernel
theorem d_Pt_stepElement_10 : decode c_Pt_stepElement 10 = .ok (.areturn, 1) := by decide +kernel
theorem d_El_init_0 : decode c_El_init 0 = .ok (.aload_n 0, 1) := by decide +kernel
theorem d_El_init_1 : decode c_El_init 1 = .ok (.invokespecial 3, 3) := by decide +kernel
theorem d_El_init_4 : decode c_El_init 4 = .ok (.return_, 1) := by decide +kernel
theorem d_El_clear_0 : decode c_El_clear 0 = .ok (.aload_n 0, 1) := by decide +kernel
theorem d_El_clear_1 : decode c_El_clear 1 = .ok (.iconst 0, 1) := by decide +kernel
theorem d_El_clear_2 : decode c_El_clear 2 = .ok (.putfield 9, 3) := by decide +kernel
theorem d_El_clear_5 : decode c_El_clear 5 = .ok (.aload_n 0, 1) := by decide +kernel
theorem d_El_clear_6 : decode c_El_clear 6 = .ok (.bipush 42, 2) := by decide +kernel
theorem d_El_clear_8 : decode c_El_clear 8 = .ok (.putfield 15, 3) := by decide +kernel
theorem d_El_clear_11 : decode c_El_clear 11 = .ok (.aload_n 0, 1) := by decide +kernel
theorem d_El_clear_12 : decode c_El_clear 12 = .ok (.iconst 0, 1) := by decide +kernel
theorem d_El_clear_13 : decode c_El_clear 13 = .ok (.putfield 19, 3) := by decide +kernel
theorem d_El_clear_16 : decode c_El_clear 16 = .ok (.aload_n 0, 1) := by decide +kernel
theorem d_El_clear_17 : decode c_El_clear 17 = .ok (.bipush 32, 2) := by decide +kernel
theorem d_El_clear_19 : decode c_El_clear 19 = .ok (.putfield 22, 3) := by decide +kernel
theorem d_El_clear_22 : decode c_El_clear 22 = .ok (.aload_n 0, 1) := by decide +kernel
theorem d_El_clear_23 : decode c_El_clear 23 = .ok (.iconst 0, 1) := by decide +kernel
theorem d_El_clear_24 : decode c_El_clear 24 = .ok (.putfield 25, 3) := by decide +kernel
theorem d_El_clear_27 : decode c_El_clear 27 = .ok (.aload_n 0, 1) := by decide +kernel
theorem d_El_clear_28 : decode c_El_clear 28 = .ok (.iconst 0, 1) := by decide +kernel
theorem d_El_clear_29 : decode c_El_clear 29 = .ok (.putfield 28, 3) := by decide +kernel
theorem d_El_clear_32 : decode c_El_clear 32 = .ok (.return_, 1) := by decide +kernel
theorem d_El_admits_0 : decode c_El_admits 0 = .ok (.aload_n 0, 1) := by decide +kernel
theorem d_El_admits_1 : decode c_El_admits 1 = .ok (.getfield 15, 3) := by decide +kernel
theorem d_El_admits_4 : decode c_El_admits 4 = .ok (.bipush 42, 2) := by decide +kernel
theorem d_El_admits_6 : decode c_El_admits 6 = .ok (.if_icmp .eq 16, 3) := by decide +kernel
theorem d_El_admits_9 : decode c_El_admits 9 = .ok (.aload_n 0, 1) := by decide +kernel
theorem d_El_admits_10 : decode c_El_admits 10 = .ok (.getfield 15, 3) := by decide +kernel
theorem d_El_admits_13 : decode c_El_admits 13 = .ok (.aload_n 1, 1) := by decide +kernel
theorem d_El_admits_14 : decode c_El_admits 14 = .ok (.getfield 32, 3) := by decide +kernel
theorem d_El_admits_17 : decode c_El_admits 17 = .ok (.if_icmp .eq 5, 3) := by decide +kernel
theorem d_El_admits_20 : decode c_El_admits 20 = .ok (.iconst 0, 1) := by decide +kernel
theorem d_El_admits_21 : decode c_El_admits 21 = .ok (.ireturn, 1) := by decide +kernel
theorem d_El_admits_22 : decode c_El_admits 22 = .ok (.aload_n 0, 1) := by decide +kernel
theorem d_El_admits_23 : decode c_El_admits 23 = .ok (.getfield 25, 3) := by decide +kernel
theorem d_El_admits_26 : decode c_El_admits 26 = .ok (.ifCond .eq 7, 3) := by decide +kernel
theorem d_El_admits_29 : decode c_El_admits 29 = .ok (.iload_n 2, 1) := by decide +kernel
theorem d_El_admits_30 : decode c_El_admits 30 = .ok (.goto 7, 3) := by decide +kernel
theorem d_El_admits_33 : decode c_El_admits 33 = .ok (.aload_n 0, 1) := by decide +kernel
theorem d_El_admits_34 : decode c_El_admits 34 = .ok (.getfield 28, 3) := by decide +kernel
theorem d_El_admits_37 : decode c_El_admits 37 = .ok (.istore_n 3, 1) := by decide +kernel
theorem d_El_admits_38 : decode c_El_admits 38 = .ok (.aload_n 0, 1) := by decide +kernel
theorem d_El_admits_39 : decode c_El_admits 39 = .ok (.getfield 22, 3) := by decide +kernel
theorem d_El_admits_42 : decode c_El_admits 42 = .ok (.tableswitch 68 60 62 #[26, 40, 54], 26) := by decide +kernel
theorem d_El_admits_68 : decode c_El_admits 68 = .ok (.aload_n 1, 1) := by decide +kernel
theorem d_El_admits_69 : decode c_El_admits 69 = .ok (.getfield 35, 3) := by decide +kernel
theorem d_El_admits_72 : decode c_El_admits 72 = .ok (.iload_n 3, 1) := by decide +kernel
theorem d_El_admits_73 : decode c_El_admits 73 = .ok (.if_icmp .ge 7, 3) := by decide +kernel
theorem d_El_admits_76 : decode c_El_admits 76 = .ok (.iconst 1, 1) := by decide +kernel
theorem d_El_admits_77 : decode c_El_admits 77 = .ok (.goto 4, 3) := by decide +kernel
theorem d_El_admits_80 : decode c_El_admits 80 = .ok (.iconst 0, 1) := by decide +kernel
theorem d_El_admits_81 : decode c_El_admits 81 = .ok (.ireturn, 1) := by decide +kernel
theorem d_El_admits_82 : decode c_El_admits 82 = .ok (.aload_n 1, 1) := by decide +kernel
theorem d_El_admits_83 : decode c_El_admits 83 = .ok (.getfield 35, 3) := by decide +kernel
theorem d_El_admits_86 : decode c_El_admits 86 = .ok (.iload_n 3, 1) := by decide +kernel
theorem d_El_admits_87 : decode c_El_admits 87 = .ok (.if_icmp .ne 7, 3) := by decide +kernel
theorem d_El_admits_90 : decode c_El_admits 90 = .ok (.iconst 1, 1) := by decide +kernel
theorem d_El_admits_91 : decode c_El_admits 91 = .ok (.goto 4, 3) := by decide +kernel
theorem d_El_admits_94 : decode c_El_admits 94 = .ok (.iconst 0, 1) := by decide +kernel
theorem d_El_admits_95 : decode c_El_admits 95 = .ok (.ireturn, 1) := by decide +kernel
theorem d_El_admits_96 : decode c_El_admits 96 = .ok (.aload_n 1, 1) := by decide +kernel
theorem d_El_admits_97 : decode c_El_admits 97 = .ok (.getfield 35, 3) := by decide +kernel
theorem d_El_admits_100 : decode c_El_admits 100 = .ok (.iload_n 3, 1) := by decide +kernel
theorem d_El_admits_101 : decode c_El_admits 101 = .ok (.if_icmp .le 7, 3) := by decide +kernel
theorem d_El_admits_104 : decode c_El_admits 104 = .ok (.iconst 1, 1) := by decide +kernel
theorem d_El_admits_105 : decode c_El_admits 105 = .ok (.goto 4, 3) := by decide +kernel
theorem d_El_admits_108 : decode c_El_admits 108 = .ok (.iconst 0, 1) := by decide +kernel
theorem d_El_admits_109 : decode c_El_admits 109 = .ok (.ireturn, 1) := by decide +kernel
theorem d_El_admits_110 : decode c_El_admits 110 = .ok (.iconst 1, 1) := by decide +kernel
theorem d_El_admits_111 : decode c_El_admits 111 = .ok (.ireturn, 1) := by decide +kernel
theorem d_Ru_init_0 : decode c_Ru_init 0 = .ok (.aload_n 0, 1) := by decide +kernel
theorem d_Ru_init_1 : decode c_Ru_init 1 = .ok (.invokespecial 3, 3) := by decide +kernel
theorem d_Ru_init_4 : decode c_Ru_init 4 = .ok (.aload_n 0, 1) := by decide +kernel
theorem d_Ru_init_5 : decode c_Ru_init 5 = .ok (.bipush 19, 2) := by decide +kernel
theorem d_Ru_init_7 : decode c_Ru_init 7 = .ok (.newarray .int, 2) := by decide +kernel
theorem d_Ru_init_9 : decode c_Ru_init 9 = .ok (.putfield 9, 3) := by decide +kernel
theorem d_Ru_init_12 : decode c_Ru_init 12 = .ok (.return_, 1) := by decide +kernel
theorem d_Ru_begin_0 : decode c_Ru_begin 0 = .ok (.aload_n 0, 1) := by decide +kernel
theorem d_Ru_begin_1 : decode c_Ru_begin 1 = .ok (.iconst 0, 1) := by decide +kernel
theorem d_Ru_begin_2 : decode c_Ru_begin 2 = .ok (.putfield 15, 3) := by decide +kernel
theorem d_Ru_begin_5 : decode c_Ru_begin 5 = .ok (.aload_n 0, 1) := by decide +kernel
theorem d_Ru_begin_6 : decode c_Ru_begin 6 = .ok (.aload_n 1, 1) := by decide +kernel
theorem d_Ru_begin_7 : decode c_Ru_begin 7 = .ok (.getfield 19, 3) := by decide +kernel
theorem d_Ru_begin_10 : decode c_Ru_begin 10 = .ok (.putfield 24, 3) := by decide +kernel
theorem d_Ru_begin_13 : decode c_Ru_begin 13 = .ok (.aload_n 0, 1) := by decide +kernel
theorem d_Ru_begin_14 : decode c_Ru_begin 14 = .ok (.aload_n 1, 1) := by decide +kernel
theorem d_Ru_begin_15 : decode c_Ru_begin 15 = .ok (.getfield 27, 3) := by decide +kernel
theorem d_Ru_begin_18 : decode c_Ru_begin 18 = .ok (.putfield 30, 3) := by decide +kernel
theorem d_Ru_begin_21 : decode c_Ru_begin 21 = .ok (.aload_n 0, 1) := by decide +kernel
theorem d_Ru_begin_22 : decode c_Ru_begin 22 = .ok (.aload_n 1, 1) := by decide +kernel
theorem d_Ru_begin_23 : decode c_Ru_begin 23 = .ok (.getfield 33, 3) := by decide +kernel
theorem d_Ru_begin_26 : decode c_Ru_begin 26 = .ok (.putfield 36, 3) := by decide +kernel
theorem d_Ru_begin_29 : decode c_Ru_begin 29 = .ok (.aload_n 0, 1) := by decide +kernel
theorem d_Ru_begin_30 : decode c_Ru_begin 30 = .ok (.aload_n 1, 1) := by decide +kernel
theorem d_Ru_begin_31 : decode c_Ru_begin 31 = .ok (.iconst 0, 1) := by decide +kernel
theorem d_Ru_begin_32 : decode c_Ru_begin 32 = .ok (.invokevirtual 39, 3) := by decide +kernel
theorem d_Ru_begin_35 : decode c_Ru_begin 35 = .ok (.return_, 1) := by decide +kernel
theorem d_Ru_take_0 : decode c_Ru_take 0 = .ok (.aload_n 0, 1) := by decide +kernel
theorem d_Ru_take_1 : decode c_Ru_take 1 = .ok (.getfield 15, 3) := by decide +kernel
theorem d_Ru_take_4 : decode c_Ru_take 4 = .ok (.bipush 19, 2) := by decide +kernel
theorem d_Ru_take_6 : decode c_Ru_take 6 = .ok (.if_icmp .ge 26, 3) := by decide +kernel
theorem d_Ru_take_9 : decode c_Ru_take 9 = .ok (.aload_n 0, 1) := by decide +kernel
theorem d_Ru_take_10 : decode c_Ru_take 10 = .ok (.getfield 9, 3) := by decide +kernel
theorem d_Ru_take_13 : decode c_Ru_take 13 = .ok (.aload_n 0, 1) := by decide +kernel
theorem d_Ru_take_14 : decode c_Ru_take 14 = .ok (.getfield 15, 3) := by decide +kernel
theorem d_Ru_take_17 : decode c_Ru_take 17 = .ok (.aload_n 1, 1) := by decide +kernel
theorem d_Ru_take_18 : decode c_Ru_take 18 = .ok (.getfield 19, 3) := by decide +kernel
theorem d_Ru_take_21 : decode c_Ru_take 21 = .ok (.iastore, 1) := by decide +kernel
theorem d_Ru_take_22 : decode c_Ru_take 22 = .ok (.aload_n 0, 1) := by decide +kernel
theorem d_Ru_take_23 : decode c_Ru_take 23 = .ok (.dup, 1) := by decide +kernel
theorem d_Ru_take_24 : decode c_Ru_take 24 = .ok (.getfield 15, 3) := by decide +kernel
theorem d_Ru_take_27 : decode c_Ru_take 27 = .ok (.iconst 1, 1) := by decide +kernel
theorem d_Ru_take_28 : decode c_Ru_take 28 = .ok (.iadd, 1) := by decide +kernel
theorem d_Ru_take_29 : decode c_Ru_take 29 = .ok (.putfield 15, 3) := by decide +kernel
theorem d_Ru_take_32 : decode c_Ru_take 32 = .ok (.aload_n 0, 1) := by decide +kernel
theorem d_Ru_take_33 : decode c_Ru_take 33 = .ok (.iload_n 2, 1) := by decide +kernel
theorem d_Ru_take_34 : decode c_Ru_take 34 = .ok (.putfield 43, 3) := by decide +kernel
theorem d_Ru_take_37 : decode c_Ru_take 37 = .ok (.aload_n 0, 1) := by decide +kernel
theorem d_Ru_take_38 : decode c_Ru_take 38 = .ok (.aload_n 1, 1) := by decide +kernel
theorem d_Ru_take_39 : decode c_Ru_take 39 = .ok (.getfield 19, 3) := by decide +kernel
theorem d_Ru_take_42 : decode c_Ru_take 42 = .ok (.putfield 46, 3) := by decide +kernel
theorem d_Ru_take_45 : decode c_Ru_take 45 = .ok (.aload_n 0, 1) := by decide +kernel
theorem d_Ru_take_46 : decode c_Ru_take 46 = .ok (.aload_n 1, 1) := by decide +kernel
theorem d_Ru_take_47 : decode c_Ru_take 47 = .ok (.getfield 49, 3) := by decide +kernel
theorem d_Ru_take_50 : decode c_Ru_take 50 = .ok (.putfield 52, 3) := by decide +kernel
theorem d_Ru_take_53 : decode c_Ru_take 53 = .ok (.return_, 1) := by decide +kernel
theorem d_Ru_copyFrom_0 : decode c_Ru_copyFrom 0 = .ok (.aload_n 1, 1) := by decide +kernel
theorem d_Ru_copyFrom_1 : decode c_Ru_copyFrom 1 = .ok (.getfield 9, 3) := by decide +kernel
theorem d_Ru_copyFrom_4 : decode c_Ru_copyFrom 4 = .ok (.iconst 0, 1) := by decide +kernel
theorem d_Ru_copyFrom_5 : decode c_Ru_copyFrom 5 = .ok (.aload_n 0, 1) := by decide +kernel
theorem d_Ru_copyFrom_6 : decode c_Ru_copyFrom 6 = .ok (.getfield 9, 3) := by decide +kernel
theorem d_Ru_copyFrom_9 : decode c_Ru_copyFrom 9 = .ok (.iconst 0, 1) := by decide +kernel
theorem d_Ru_copyFrom_10 : decode c_Ru_copyFrom 10 = .ok (.bipush 19, 2) := by decide +kernel
theorem d_Ru_copyFrom_12 : decode c_Ru_copyFrom 12 = .ok (.invokestatic 55, 3) := by decide +kernel
theorem d_Ru_copyFrom_15 : decode c_Ru_copyFrom 15 = .ok (.aload_n 0, 1) := by decide +kernel
theorem d_Ru_copyFrom_16 : decode c_Ru_copyFrom 16 = .ok (.aload_n 1, 1) := by decide +kernel
theorem d_Ru_copyFrom_17 : decode c_Ru_copyFrom 17 = .ok (.getfield 15, 3) := by decide +kernel
theorem d_Ru_copyFrom_20 : decode c_Ru_copyFrom 20 = .ok (.putfield 15, 3) := by decide +kernel
theorem d_Ru_copyFrom_23 : decode c_Ru_copyFrom 23 = .ok (.aload_n 0, 1) := by decide +kernel
theorem d_Ru_copyFrom_24 : decode c_Ru_copyFrom 24 = .ok (.aload_n 1, 1) := by decide +kernel
theorem d_Ru_copyFrom_25 : decode c_Ru_copyFrom 25 = .ok (.getfield 43, 3) := by decide +kernel
theorem d_Ru_copyFrom_28 : decode c_Ru_copyFrom 28 = .ok (.putfield 43, 3) := by decide +kernel
theorem d_Ru_copyFrom_31 : decode c_Ru_copyFrom 31 = .ok (.aload_n 0, 1) := by decide +kernel
theorem d_Ru_copyFrom_32 : decode c_Ru_copyFrom 32 = .ok (.aload_n 1, 1) := by decide +kernel
theorem d_Ru_copyFrom_33 : decode c_Ru_copyFrom 33 = .ok (.getfield 24, 3) := by decide +kernel
theorem d_Ru_copyFrom_36 : decode c_Ru_copyFrom 36 = .ok (.putfield 24, 3) := by decide +kernel
theorem d_Ru_copyFrom_39 : decode c_Ru_copyFrom 39 = .ok (.aload_n 0, 1) := by decide +kernel
theorem d_Ru_copyFrom_40 : decode c_Ru_copyFrom 40 = .ok (.aload_n 1, 1) := by decide +kernel
theorem d_Ru_copyFrom_41 : decode c_Ru_copyFrom 41 = .ok (.getfield 30, 3) := by decide +kernel
theorem d_Ru_copyFrom_44 : decode c_Ru_copyFrom 44 = .ok (.putfield 30, 3) := by decide +kernel
theorem d_Ru_copyFrom_47 : decode c_Ru_copyFrom 47 = .ok (.aload_n 0, 1) := by decide +kernel
theorem d_Ru_copyFrom_48 : decode c_Ru_copyFrom 48 = .ok (.aload_n 1, 1) := by decide +kernel
theorem d_Ru_copyFrom_49 : decode c_Ru_copyFrom 49 = .ok (.getfield 36, 3) := by decide +kernel
theorem d_Ru_copyFrom_52 : decode c_Ru_copyFrom 52 = .ok (.putfield 36, 3) := by decide +kernel
theorem d_Ru_copyFrom_55 : decode c_Ru_copyFrom 55 = .ok (.aload_n 0, 1) := by decide +kernel
theorem d_Ru_copyFrom_56 : decode c_Ru_copyFrom 56 = .ok (.aload_n 1, 1) := by decide +kernel
theorem d_Ru_copyFrom_57 : decode c_Ru_copyFrom 57 = .ok (.getfield 46, 3) := by decide +kernel
theorem d_Ru_copyFrom_60 : decode c_Ru_copyFrom 60 = .ok (.putfield 46, 3) := by decide +kernel
theorem d_Ru_copyFrom_63 : decode c_Ru_copyFrom 63 = .ok (.aload_n 0, 1) := by decide +kernel
theorem d_Ru_copyFrom_64 : decode c_Ru_copyFrom 64 = .ok (.aload_n 1, 1) := by decide +kernel
theorem d_Ru_copyFrom_65 : decode c_Ru_copyFrom 65 = .ok (.getfield 52, 3) := by decide +kernel
theorem d_Ru_copyFrom_68 : decode c_Ru_copyFrom 68 = .ok (.putfield 52, 3) := by decide +kernel
theorem d_Ru_copyFrom_71 : decode c_Ru_copyFrom 71 = .ok (.return_, 1) := by decide +kernel
