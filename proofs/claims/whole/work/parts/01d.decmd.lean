theorem d_MD_init_0 : decode c_MD_init 0 = .ok (.aload_n 0, 1) := by decide +kernel
theorem d_MD_init_1 : decode c_MD_init 1 = .ok (.invokespecial 1, 3) := by decide +kernel
theorem d_MD_init_4 : decode c_MD_init 4 = .ok (.aload_n 0, 1) := by decide +kernel
theorem d_MD_init_5 : decode c_MD_init 5 = .ok (.iconst 4, 1) := by decide +kernel
theorem d_MD_init_6 : decode c_MD_init 6 = .ok (.newarray .int, 2) := by decide +kernel
theorem d_MD_init_8 : decode c_MD_init 8 = .ok (.putfield 7, 3) := by decide +kernel
theorem d_MD_init_11 : decode c_MD_init 11 = .ok (.aload_n 0, 1) := by decide +kernel
theorem d_MD_init_12 : decode c_MD_init 12 = .ok (.iconst 4, 1) := by decide +kernel
theorem d_MD_init_13 : decode c_MD_init 13 = .ok (.newarray .int, 2) := by decide +kernel
theorem d_MD_init_15 : decode c_MD_init 15 = .ok (.putfield 13, 3) := by decide +kernel
theorem d_MD_init_18 : decode c_MD_init 18 = .ok (.aload_n 0, 1) := by decide +kernel
theorem d_MD_init_19 : decode c_MD_init 19 = .ok (.iconst 4, 1) := by decide +kernel
theorem d_MD_init_20 : decode c_MD_init 20 = .ok (.newarray .int, 2) := by decide +kernel
theorem d_MD_init_22 : decode c_MD_init 22 = .ok (.putfield 16, 3) := by decide +kernel
theorem d_MD_init_25 : decode c_MD_init 25 = .ok (.aload_n 0, 1) := by decide +kernel
theorem d_MD_init_26 : decode c_MD_init 26 = .ok (.iconst 4, 1) := by decide +kernel
theorem d_MD_init_27 : decode c_MD_init 27 = .ok (.newarray .boolean, 2) := by decide +kernel
theorem d_MD_init_29 : decode c_MD_init 29 = .ok (.putfield 19, 3) := by decide +kernel
theorem d_MD_init_32 : decode c_MD_init 32 = .ok (.aload_n 0, 1) := by decide +kernel
theorem d_MD_init_33 : decode c_MD_init 33 = .ok (.iconst 4, 1) := by decide +kernel
theorem d_MD_init_34 : decode c_MD_init 34 = .ok (.newarray .boolean, 2) := by decide +kernel
theorem d_MD_init_36 : decode c_MD_init 36 = .ok (.putfield 23, 3) := by decide +kernel
theorem d_MD_init_39 : decode c_MD_init 39 = .ok (.aload_n 0, 1) := by decide +kernel
theorem d_MD_init_40 : decode c_MD_init 40 = .ok (.iconst 4, 1) := by decide +kernel
theorem d_MD_init_41 : decode c_MD_init 41 = .ok (.newarray .int, 2) := by decide +kernel
theorem d_MD_init_43 : decode c_MD_init 43 = .ok (.putfield 26, 3) := by decide +kernel
theorem d_MD_init_46 : decode c_MD_init 46 = .ok (.aload_n 0, 1) := by decide +kernel
theorem d_MD_init_47 : decode c_MD_init 47 = .ok (.iconst 4, 1) := by decide +kernel
theorem d_MD_init_48 : decode c_MD_init 48 = .ok (.newarray .int, 2) := by decide +kernel
theorem d_MD_init_50 : decode c_MD_init 50 = .ok (.putfield 29, 3) := by decide +kernel
theorem d_MD_init_53 : decode c_MD_init 53 = .ok (.aload_n 0, 1) := by decide +kernel
theorem d_MD_init_54 : decode c_MD_init 54 = .ok (.iconst 4, 1) := by decide +kernel
theorem d_MD_init_55 : decode c_MD_init 55 = .ok (.newarray .int, 2) := by decide +kernel
theorem d_MD_init_57 : decode c_MD_init 57 = .ok (.putfield 32, 3) := by decide +kernel
theorem d_MD_init_60 : decode c_MD_init 60 = .ok (.aload_n 0, 1) := by decide +kernel
theorem d_MD_init_61 : decode c_MD_init 61 = .ok (.bipush 16, 2) := by decide +kernel
theorem d_MD_init_63 : decode c_MD_init 63 = .ok (.newarray .int, 2) := by decide +kernel
theorem d_MD_init_65 : decode c_MD_init 65 = .ok (.putfield 35, 3) := by decide +kernel
theorem d_MD_init_68 : decode c_MD_init 68 = .ok (.aload_n 0, 1) := by decide +kernel
theorem d_MD_init_69 : decode c_MD_init 69 = .ok (.bipush 16, 2) := by decide +kernel
theorem d_MD_init_71 : decode c_MD_init 71 = .ok (.newarray .int, 2) := by decide +kernel
theorem d_MD_init_73 : decode c_MD_init 73 = .ok (.putfield 38, 3) := by decide +kernel
theorem d_MD_init_76 : decode c_MD_init 76 = .ok (.aload_n 0, 1) := by decide +kernel
theorem d_MD_init_77 : decode c_MD_init 77 = .ok (.bipush 16, 2) := by decide +kernel
theorem d_MD_init_79 : decode c_MD_init 79 = .ok (.newarray .int, 2) := by decide +kernel
theorem d_MD_init_81 : decode c_MD_init 81 = .ok (.putfield 41, 3) := by decide +kernel
theorem d_MD_init_84 : decode c_MD_init 84 = .ok (.aload_n 0, 1) := by decide +kernel
theorem d_MD_init_85 : decode c_MD_init 85 = .ok (.bipush 64, 2) := by decide +kernel
theorem d_MD_init_87 : decode c_MD_init 87 = .ok (.newarray .int, 2) := by decide +kernel
theorem d_MD_init_89 : decode c_MD_init 89 = .ok (.putfield 44, 3) := by decide +kernel
theorem d_MD_init_92 : decode c_MD_init 92 = .ok (.aload_n 0, 1) := by decide +kernel
theorem d_MD_init_93 : decode c_MD_init 93 = .ok (.sipush 256, 3) := by decide +kernel
theorem d_MD_init_96 : decode c_MD_init 96 = .ok (.newarray .int, 2) := by decide +kernel
theorem d_MD_init_98 : decode c_MD_init 98 = .ok (.putfield 47, 3) := by decide +kernel
theorem d_MD_init_101 : decode c_MD_init 101 = .ok (.aload_n 0, 1) := by decide +kernel
theorem d_MD_init_102 : decode c_MD_init 102 = .ok (.sipush 1024, 3) := by decide +kernel
theorem d_MD_init_105 : decode c_MD_init 105 = .ok (.newarray .int, 2) := by decide +kernel
theorem d_MD_init_107 : decode c_MD_init 107 = .ok (.putfield 50, 3) := by decide +kernel
theorem d_MD_init_110 : decode c_MD_init 110 = .ok (.aload_n 0, 1) := by decide +kernel
theorem d_MD_init_111 : decode c_MD_init 111 = .ok (.sipush 1024, 3) := by decide +kernel
theorem d_MD_init_114 : decode c_MD_init 114 = .ok (.newarray .boolean, 2) := by decide +kernel
theorem d_MD_init_116 : decode c_MD_init 116 = .ok (.putfield 53, 3) := by decide +kernel
theorem d_MD_init_119 : decode c_MD_init 119 = .ok (.aload_n 0, 1) := by decide +kernel
theorem d_MD_init_120 : decode c_MD_init 120 = .ok (.bipush 64, 2) := by decide +kernel
theorem d_MD_init_122 : decode c_MD_init 122 = .ok (.newarray .int, 2) := by decide +kernel
theorem d_MD_init_124 : decode c_MD_init 124 = .ok (.putfield 56, 3) := by decide +kernel
theorem d_MD_init_127 : decode c_MD_init 127 = .ok (.aload_n 0, 1) := by decide +kernel
theorem d_MD_init_128 : decode c_MD_init 128 = .ok (.sipush 256, 3) := by decide +kernel
theorem d_MD_init_131 : decode c_MD_init 131 = .ok (.newarray .int, 2) := by decide +kernel
theorem d_MD_init_133 : decode c_MD_init 133 = .ok (.putfield 59, 3) := by decide +kernel
theorem d_MD_init_136 : decode c_MD_init 136 = .ok (.aload_n 0, 1) := by decide +kernel
theorem d_MD_init_137 : decode c_MD_init 137 = .ok (.sipush 256, 3) := by decide +kernel
theorem d_MD_init_140 : decode c_MD_init 140 = .ok (.newarray .boolean, 2) := by decide +kernel
theorem d_MD_init_142 : decode c_MD_init 142 = .ok (.putfield 62, 3) := by decide +kernel
theorem d_MD_init_145 : decode c_MD_init 145 = .ok (.aload_n 0, 1) := by decide +kernel
theorem d_MD_init_146 : decode c_MD_init 146 = .ok (.sipush 1280, 3) := by decide +kernel
theorem d_MD_init_149 : decode c_MD_init 149 = .ok (.newarray .int, 2) := by decide +kernel
theorem d_MD_init_151 : decode c_MD_init 151 = .ok (.putfield 65, 3) := by decide +kernel
theorem d_MD_init_154 : decode c_MD_init 154 = .ok (.aload_n 0, 1) := by decide +kernel
theorem d_MD_init_155 : decode c_MD_init 155 = .ok (.bipush 16, 2) := by decide +kernel
theorem d_MD_init_157 : decode c_MD_init 157 = .ok (.newarray .int, 2) := by decide +kernel
theorem d_MD_init_159 : decode c_MD_init 159 = .ok (.putfield 68, 3) := by decide +kernel
theorem d_MD_init_162 : decode c_MD_init 162 = .ok (.aload_n 0, 1) := by decide +kernel
theorem d_MD_init_163 : decode c_MD_init 163 = .ok (.iconst 4, 1) := by decide +kernel
theorem d_MD_init_164 : decode c_MD_init 164 = .ok (.newarray .int, 2) := by decide +kernel
theorem d_MD_init_166 : decode c_MD_init 166 = .ok (.putfield 71, 3) := by decide +kernel
theorem d_MD_init_169 : decode c_MD_init 169 = .ok (.return_, 1) := by decide +kernel
theorem d_MD_within_0 : decode c_MD_within 0 = .ok (.iload_n 0, 1) := by decide +kernel
theorem d_MD_within_1 : decode c_MD_within 1 = .ok (.iload_n 1, 1) := by decide +kernel
theorem d_MD_within_2 : decode c_MD_within 2 = .ok (.if_icmp .lt 12, 3) := by decide +kernel
theorem d_MD_within_5 : decode c_MD_within 5 = .ok (.iload_n 0, 1) := by decide +kernel
theorem d_MD_within_6 : decode c_MD_within 6 = .ok (.iload_n 2, 1) := by decide +kernel
theorem d_MD_within_7 : decode c_MD_within 7 = .ok (.if_icmp .gt 7, 3) := by decide +kernel
theorem d_MD_within_10 : decode c_MD_within 10 = .ok (.iconst 1, 1) := by decide +kernel
theorem d_MD_within_11 : decode c_MD_within 11 = .ok (.goto 4, 3) := by decide +kernel
theorem d_MD_within_14 : decode c_MD_within 14 = .ok (.iconst 0, 1) := by decide +kernel
theorem d_MD_within_15 : decode c_MD_within 15 = .ok (.ireturn, 1) := by decide +kernel
theorem d_MD_present_0 : decode c_MD_present 0 = .ok (.aload_n 0, 1) := by decide +kernel
theorem d_MD_present_1 : decode c_MD_present 1 = .ok (.getfield 7, 3) := by decide +kernel
theorem d_MD_present_4 : decode c_MD_present 4 = .ok (.iload_n 1, 1) := by decide +kernel
theorem d_MD_present_5 : decode c_MD_present 5 = .ok (.iaload, 1) := by decide +kernel
theorem d_MD_present_6 : decode c_MD_present 6 = .ok (.ifCond .ne 9, 3) := by decide +kernel
theorem d_MD_present_9 : decode c_MD_present 9 = .ok (.iconst 1, 1) := by decide +kernel
theorem d_MD_present_10 : decode c_MD_present 10 = .ok (.iload_n 1, 1) := by decide +kernel
theorem d_MD_present_11 : decode c_MD_present 11 = .ok (.ishl, 1) := by decide +kernel
theorem d_MD_present_12 : decode c_MD_present 12 = .ok (.goto 14, 3) := by decide +kernel
theorem d_MD_present_15 : decode c_MD_present 15 = .ok (.aload_n 0, 1) := by decide +kernel
theorem d_MD_present_16 : decode c_MD_present 16 = .ok (.getfield 41, 3) := by decide +kernel
theorem d_MD_present_19 : decode c_MD_present 19 = .ok (.aload_n 0, 1) := by decide +kernel
theorem d_MD_present_20 : decode c_MD_present 20 = .ok (.getfield 7, 3) := by decide +kernel
theorem d_MD_present_23 : decode c_MD_present 23 = .ok (.iload_n 1, 1) := by decide +kernel
theorem d_MD_present_24 : decode c_MD_present 24 = .ok (.iaload, 1) := by decide +kernel
theorem d_MD_present_25 : decode c_MD_present 25 = .ok (.iaload, 1) := by decide +kernel
theorem d_MD_present_26 : decode c_MD_present 26 = .ok (.ireturn, 1) := by decide +kernel
theorem d_MD_put_0 : decode c_MD_put 0 = .ok (.iconst 0, 1) := by decide +kernel
theorem d_MD_put_1 : decode c_MD_put 1 = .ok (.istore 4, 2) := by decide +kernel
theorem d_MD_put_3 : decode c_MD_put 3 = .ok (.iload 4, 2) := by decide +kernel
theorem d_MD_put_5 : decode c_MD_put 5 = .ok (.iconst 4, 1) := by decide +kernel
theorem d_MD_put_6 : decode c_MD_put 6 = .ok (.if_icmp .ge 69, 3) := by decide +kernel
theorem d_MD_put_9 : decode c_MD_put 9 = .ok (.iload 4, 2) := by decide +kernel
theorem d_MD_put_11 : decode c_MD_put 11 = .ok (.iload_n 1, 1) := by decide +kernel
theorem d_MD_put_12 : decode c_MD_put 12 = .ok (.if_icmp .eq 57, 3) := by decide +kernel
theorem d_MD_put_15 : decode c_MD_put 15 = .ok (.iload_n 2, 1) := by decide +kernel
theorem d_MD_put_16 : decode c_MD_put 16 = .ok (.iload 4, 2) := by decide +kernel
theorem d_MD_put_18 : decode c_MD_put 18 = .ok (.ishr, 1) := by decide +kernel
theorem d_MD_put_19 : decode c_MD_put 19 = .ok (.iconst 1, 1) := by decide +kernel
theorem d_MD_put_20 : decode c_MD_put 20 = .ok (.iand, 1) := by decide +kernel
theorem d_MD_put_21 : decode c_MD_put 21 = .ok (.ifCond .ne 6, 3) := by decide +kernel
theorem d_MD_put_24 : decode c_MD_put 24 = .ok (.goto 45, 3) := by decide +kernel
theorem d_MD_put_27 : decode c_MD_put 27 = .ok (.aload_n 0, 1) := by decide +kernel
theorem d_MD_put_28 : decode c_MD_put 28 = .ok (.getfield 65, 3) := by decide +kernel
theorem d_MD_put_31 : decode c_MD_put 31 = .ok (.bipush 80, 2) := by decide +kernel
theorem d_MD_put_33 : decode c_MD_put 33 = .ok (.iconst 4, 1) := by decide +kernel
theorem d_MD_put_34 : decode c_MD_put 34 = .ok (.iload_n 1, 1) := by decide +kernel
theorem d_MD_put_35 : decode c_MD_put 35 = .ok (.imul, 1) := by decide +kernel
theorem d_MD_put_36 : decode c_MD_put 36 = .ok (.iload 4, 2) := by decide +kernel
theorem d_MD_put_38 : decode c_MD_put 38 = .ok (.iadd, 1) := by decide +kernel
theorem d_MD_put_39 : decode c_MD_put 39 = .ok (.imul, 1) := by decide +kernel
theorem d_MD_put_40 : decode c_MD_put 40 = .ok (.aload_n 0, 1) := by decide +kernel
theorem d_MD_put_41 : decode c_MD_put 41 = .ok (.getfield 68, 3) := by decide +kernel
theorem d_MD_put_44 : decode c_MD_put 44 = .ok (.iconst 4, 1) := by decide +kernel
theorem d_MD_put_45 : decode c_MD_put 45 = .ok (.iload_n 1, 1) := by decide +kernel
theorem d_MD_put_46 : decode c_MD_put 46 = .ok (.imul, 1) := by decide +kernel
theorem d_MD_put_47 : decode c_MD_put 47 = .ok (.iload 4, 2) := by decide +kernel
theorem d_MD_put_49 : decode c_MD_put 49 = .ok (.iadd, 1) := by decide +kernel
theorem d_MD_put_50 : decode c_MD_put 50 = .ok (.iaload, 1) := by decide +kernel
theorem d_MD_put_51 : decode c_MD_put 51 = .ok (.iadd, 1) := by decide +kernel
theorem d_MD_put_52 : decode c_MD_put 52 = .ok (.iload_n 3, 1) := by decide +kernel
theorem d_MD_put_53 : decode c_MD_put 53 = .ok (.iastore, 1) := by decide +kernel
theorem d_MD_put_54 : decode c_MD_put 54 = .ok (.aload_n 0, 1) := by decide +kernel
theorem d_MD_put_55 : decode c_MD_put 55 = .ok (.getfield 68, 3) := by decide +kernel
theorem d_MD_put_58 : decode c_MD_put 58 = .ok (.iconst 4, 1) := by decide +kernel
theorem d_MD_put_59 : decode c_MD_put 59 = .ok (.iload_n 1, 1) := by decide +kernel
theorem d_MD_put_60 : decode c_MD_put 60 = .ok (.imul, 1) := by decide +kernel
theorem d_MD_put_61 : decode c_MD_put 61 = .ok (.iload 4, 2) := by decide +kernel
theorem d_MD_put_63 : decode c_MD_put 63 = .ok (.iadd, 1) := by decide +kernel
theorem d_MD_put_64 : decode c_MD_put 64 = .ok (.dup2, 1) := by decide +kernel
theorem d_MD_put_65 : decode c_MD_put 65 = .ok (.iaload, 1) := by decide +kernel
theorem d_MD_put_66 : decode c_MD_put 66 = .ok (.iconst 1, 1) := by decide +kernel
theorem d_MD_put_67 : decode c_MD_put 67 = .ok (.iadd, 1) := by decide +kernel
theorem d_MD_put_68 : decode c_MD_put 68 = .ok (.iastore, 1) := by decide +kernel
theorem d_MD_put_69 : decode c_MD_put 69 = .ok (.iinc 4 1, 3) := by decide +kernel
theorem d_MD_put_72 : decode c_MD_put 72 = .ok (.goto (-69), 3) := by decide +kernel
theorem d_MD_put_75 : decode c_MD_put 75 = .ok (.return_, 1) := by decide +kernel
theorem d_MD_send_0 : decode c_MD_send 0 = .ok (.iload_n 1, 1) := by decide +kernel
theorem d_MD_send_1 : decode c_MD_send 1 = .ok (.iconst 0, 1) := by decide +kernel
theorem d_MD_send_2 : decode c_MD_send 2 = .ok (.iconst 3, 1) := by decide +kernel
theorem d_MD_send_3 : decode c_MD_send 3 = .ok (.invokestatic 74, 3) := by decide +kernel
theorem d_MD_send_6 : decode c_MD_send 6 = .ok (.ifCond .ne 5, 3) := by decide +kernel
theorem d_MD_send_9 : decode c_MD_send 9 = .ok (.iconst (-1), 1) := by decide +kernel
theorem d_MD_send_10 : decode c_MD_send 10 = .ok (.ireturn, 1) := by decide +kernel
theorem d_MD_send_11 : decode c_MD_send 11 = .ok (.aload_n 0, 1) := by decide +kernel
theorem d_MD_send_12 : decode c_MD_send 12 = .ok (.getfield 23, 3) := by decide +kernel
theorem d_MD_send_15 : decode c_MD_send 15 = .ok (.iload_n 1, 1) := by decide +kernel
theorem d_MD_send_16 : decode c_MD_send 16 = .ok (.baload, 1) := by decide +kernel
theorem d_MD_send_17 : decode c_MD_send 17 = .ok (.ifCond .eq 6, 3) := by decide +kernel
theorem d_MD_send_20 : decode c_MD_send 20 = .ok (.bipush (-2), 2) := by decide +kernel
theorem d_MD_send_22 : decode c_MD_send 22 = .ok (.ireturn, 1) := by decide +kernel
theorem d_MD_send_23 : decode c_MD_send 23 = .ok (.aload_n 0, 1) := by decide +kernel
theorem d_MD_send_24 : decode c_MD_send 24 = .ok (.getfield 32, 3) := by decide +kernel
theorem d_MD_send_27 : decode c_MD_send 27 = .ok (.iload_n 1, 1) := by decide +kernel
theorem d_MD_send_28 : decode c_MD_send 28 = .ok (.iaload, 1) := by decide +kernel
theorem d_MD_send_29 : decode c_MD_send 29 = .ok (.iconst 4, 1) := by decide +kernel
theorem d_MD_send_30 : decode c_MD_send 30 = .ok (.if_icmp .ne 6, 3) := by decide +kernel
theorem d_MD_send_33 : decode c_MD_send 33 = .ok (.bipush (-3), 2) := by decide +kernel
theorem d_MD_send_35 : decode c_MD_send 35 = .ok (.ireturn, 1) := by decide +kernel
theorem d_MD_send_36 : decode c_MD_send 36 = .ok (.bipush 16, 2) := by decide +kernel
theorem d_MD_send_38 : decode c_MD_send 38 = .ok (.aload_n 0, 1) := by decide +kernel
theorem d_MD_send_39 : decode c_MD_send 39 = .ok (.getfield 7, 3) := by decide +kernel
theorem d_MD_send_42 : decode c_MD_send 42 = .ok (.iload_n 1, 1) := by decide +kernel
theorem d_MD_send_43 : decode c_MD_send 43 = .ok (.iaload, 1) := by decide +kernel
theorem d_MD_send_44 : decode c_MD_send 44 = .ok (.imul, 1) := by decide +kernel
theorem d_MD_send_45 : decode c_MD_send 45 = .ok (.iconst 4, 1) := by decide +kernel
theorem d_MD_send_46 : decode c_MD_send 46 = .ok (.iload_n 1, 1) := by decide +kernel
theorem d_MD_send_47 : decode c_MD_send 47 = .ok (.imul, 1) := by decide +kernel
theorem d_MD_send_48 : decode c_MD_send 48 = .ok (.iadd, 1) := by decide +kernel
theorem d_MD_send_49 : decode c_MD_send 49 = .ok (.aload_n 0, 1) := by decide +kernel
theorem d_MD_send_50 : decode c_MD_send 50 = .ok (.getfield 32, 3) := by decide +kernel
theorem d_MD_send_53 : decode c_MD_send 53 = .ok (.iload_n 1, 1) := by decide +kernel
theorem d_MD_send_54 : decode c_MD_send 54 = .ok (.iaload, 1) := by decide +kernel
theorem d_MD_send_55 : decode c_MD_send 55 = .ok (.iadd, 1) := by decide +kernel
theorem d_MD_send_56 : decode c_MD_send 56 = .ok (.istore_n 3, 1) := by decide +kernel
theorem d_MD_send_57 : decode c_MD_send 57 = .ok (.aload_n 0, 1) := by decide +kernel
theorem d_MD_send_58 : decode c_MD_send 58 = .ok (.getfield 32, 3) := by decide +kernel
theorem d_MD_send_61 : decode c_MD_send 61 = .ok (.iload_n 1, 1) := by decide +kernel
theorem d_MD_send_62 : decode c_MD_send 62 = .ok (.dup2, 1) := by decide +kernel
theorem d_MD_send_63 : decode c_MD_send 63 = .ok (.iaload, 1) := by decide +kernel
theorem d_MD_send_64 : decode c_MD_send 64 = .ok (.iconst 1, 1) := by decide +kernel
theorem d_MD_send_65 : decode c_MD_send 65 = .ok (.iadd, 1) := by decide +kernel
theorem d_MD_send_66 : decode c_MD_send 66 = .ok (.iastore, 1) := by decide +kernel
theorem d_MD_send_67 : decode c_MD_send 67 = .ok (.aload_n 0, 1) := by decide +kernel
theorem d_MD_send_68 : decode c_MD_send 68 = .ok (.getfield 47, 3) := by decide +kernel
theorem d_MD_send_71 : decode c_MD_send 71 = .ok (.iload_n 3, 1) := by decide +kernel
theorem d_MD_send_72 : decode c_MD_send 72 = .ok (.iload_n 2, 1) := by decide +kernel
theorem d_MD_send_73 : decode c_MD_send 73 = .ok (.iastore, 1) := by decide +kernel
theorem d_MD_send_74 : decode c_MD_send 74 = .ok (.iconst 0, 1) := by decide +kernel
theorem d_MD_send_75 : decode c_MD_send 75 = .ok (.istore 4, 2) := by decide +kernel
theorem d_MD_send_77 : decode c_MD_send 77 = .ok (.iload 4, 2) := by decide +kernel
theorem d_MD_send_79 : decode c_MD_send 79 = .ok (.iconst 4, 1) := by decide +kernel
theorem d_MD_send_80 : decode c_MD_send 80 = .ok (.if_icmp .ge 41, 3) := by decide +kernel
theorem d_MD_send_83 : decode c_MD_send 83 = .ok (.aload_n 0, 1) := by decide +kernel
theorem d_MD_send_84 : decode c_MD_send 84 = .ok (.getfield 50, 3) := by decide +kernel
theorem d_MD_send_87 : decode c_MD_send 87 = .ok (.iconst 4, 1) := by decide +kernel
theorem d_MD_send_88 : decode c_MD_send 88 = .ok (.iload_n 3, 1) := by decide +kernel
theorem d_MD_send_89 : decode c_MD_send 89 = .ok (.imul, 1) := by decide +kernel
theorem d_MD_send_90 : decode c_MD_send 90 = .ok (.iload 4, 2) := by decide +kernel
theorem d_MD_send_92 : decode c_MD_send 92 = .ok (.iadd, 1) := by decide +kernel
theorem d_MD_send_93 : decode c_MD_send 93 = .ok (.iload 4, 2) := by decide +kernel
theorem d_MD_send_95 : decode c_MD_send 95 = .ok (.iload_n 1, 1) := by decide +kernel
theorem d_MD_send_96 : decode c_MD_send 96 = .ok (.if_icmp .ne 7, 3) := by decide +kernel
theorem d_MD_send_99 : decode c_MD_send 99 = .ok (.iconst 0, 1) := by decide +kernel
theorem d_MD_send_100 : decode c_MD_send 100 = .ok (.goto 14, 3) := by decide +kernel
theorem d_MD_send_103 : decode c_MD_send 103 = .ok (.aload_n 0, 1) := by decide +kernel
theorem d_MD_send_104 : decode c_MD_send 104 = .ok (.getfield 35, 3) := by decide +kernel
theorem d_MD_send_107 : decode c_MD_send 107 = .ok (.iconst 4, 1) := by decide +kernel
theorem d_MD_send_108 : decode c_MD_send 108 = .ok (.iload_n 1, 1) := by decide +kernel
theorem d_MD_send_109 : decode c_MD_send 109 = .ok (.imul, 1) := by decide +kernel
theorem d_MD_send_110 : decode c_MD_send 110 = .ok (.iload 4, 2) := by decide +kernel
theorem d_MD_send_112 : decode c_MD_send 112 = .ok (.iadd, 1) := by decide +kernel
theorem d_MD_send_113 : decode c_MD_send 113 = .ok (.iaload, 1) := by decide +kernel
theorem d_MD_send_114 : decode c_MD_send 114 = .ok (.iastore, 1) := by decide +kernel
theorem d_MD_send_115 : decode c_MD_send 115 = .ok (.iinc 4 1, 3) := by decide +kernel
theorem d_MD_send_118 : decode c_MD_send 118 = .ok (.goto (-41), 3) := by decide +kernel
theorem d_MD_send_121 : decode c_MD_send 121 = .ok (.aload_n 0, 1) := by decide +kernel
theorem d_MD_send_122 : decode c_MD_send 122 = .ok (.getfield 53, 3) := by decide +kernel
theorem d_MD_send_125 : decode c_MD_send 125 = .ok (.sipush 256, 3) := by decide +kernel
theorem d_MD_send_128 : decode c_MD_send 128 = .ok (.iload_n 1, 1) := by decide +kernel
theorem d_MD_send_129 : decode c_MD_send 129 = .ok (.imul, 1) := by decide +kernel
theorem d_MD_send_130 : decode c_MD_send 130 = .ok (.iload_n 3, 1) := by decide +kernel
theorem d_MD_send_131 : decode c_MD_send 131 = .ok (.iadd, 1) := by decide +kernel
theorem d_MD_send_132 : decode c_MD_send 132 = .ok (.iconst 1, 1) := by decide +kernel
theorem d_MD_send_133 : decode c_MD_send 133 = .ok (.bastore, 1) := by decide +kernel
theorem d_MD_send_134 : decode c_MD_send 134 = .ok (.aload_n 0, 1) := by decide +kernel
theorem d_MD_send_135 : decode c_MD_send 135 = .ok (.iload_n 1, 1) := by decide +kernel
theorem d_MD_send_136 : decode c_MD_send 136 = .ok (.aload_n 0, 1) := by decide +kernel
theorem d_MD_send_137 : decode c_MD_send 137 = .ok (.iload_n 1, 1) := by decide +kernel
theorem d_MD_send_138 : decode c_MD_send 138 = .ok (.invokevirtual 78, 3) := by decide +kernel
theorem d_MD_send_141 : decode c_MD_send 141 = .ok (.iload_n 3, 1) := by decide +kernel
theorem d_MD_send_142 : decode c_MD_send 142 = .ok (.invokevirtual 82, 3) := by decide +kernel
theorem d_MD_send_145 : decode c_MD_send 145 = .ok (.aload_n 0, 1) := by decide +kernel
theorem d_MD_send_146 : decode c_MD_send 146 = .ok (.getfield 32, 3) := by decide +kernel
theorem d_MD_send_149 : decode c_MD_send 149 = .ok (.iload_n 1, 1) := by decide +kernel
theorem d_MD_send_150 : decode c_MD_send 150 = .ok (.iaload, 1) := by decide +kernel
theorem d_MD_send_151 : decode c_MD_send 151 = .ok (.ireturn, 1) := by decide +kernel
theorem d_MD_change_0 : decode c_MD_change 0 = .ok (.iload_n 1, 1) := by decide +kernel
theorem d_MD_change_1 : decode c_MD_change 1 = .ok (.iconst 0, 1) := by decide +kernel
theorem d_MD_change_2 : decode c_MD_change 2 = .ok (.iconst 3, 1) := by decide +kernel
theorem d_MD_change_3 : decode c_MD_change 3 = .ok (.invokestatic 74, 3) := by decide +kernel
theorem d_MD_change_6 : decode c_MD_change 6 = .ok (.ifCond .ne 5, 3) := by decide +kernel
theorem d_MD_change_9 : decode c_MD_change 9 = .ok (.iconst (-1), 1) := by decide +kernel
theorem d_MD_change_10 : decode c_MD_change 10 = .ok (.ireturn, 1) := by decide +kernel
theorem d_MD_change_11 : decode c_MD_change 11 = .ok (.iload_n 2, 1) := by decide +kernel
theorem d_MD_change_12 : decode c_MD_change 12 = .ok (.iconst 1, 1) := by decide +kernel
theorem d_MD_change_13 : decode c_MD_change 13 = .ok (.bipush 15, 2) := by decide +kernel
theorem d_MD_change_15 : decode c_MD_change 15 = .ok (.invokestatic 74, 3) := by decide +kernel
theorem d_MD_change_18 : decode c_MD_change 18 = .ok (.ifCond .eq 11, 3) := by decide +kernel
theorem d_MD_change_21 : decode c_MD_change 21 = .ok (.iload_n 2, 1) := by decide +kernel
theorem d_MD_change_22 : decode c_MD_change 22 = .ok (.iload_n 1, 1) := by decide +kernel
theorem d_MD_change_23 : decode c_MD_change 23 = .ok (.ishr, 1) := by decide +kernel
theorem d_MD_change_24 : decode c_MD_change 24 = .ok (.iconst 1, 1) := by decide +kernel
theorem d_MD_change_25 : decode c_MD_change 25 = .ok (.iand, 1) := by decide +kernel
theorem d_MD_change_26 : decode c_MD_change 26 = .ok (.ifCond .ne 6, 3) := by decide +kernel
theorem d_MD_change_29 : decode c_MD_change 29 = .ok (.bipush (-2), 2) := by decide +kernel
theorem d_MD_change_31 : decode c_MD_change 31 = .ok (.ireturn, 1) := by decide +kernel
theorem d_MD_change_32 : decode c_MD_change 32 = .ok (.aload_n 0, 1) := by decide +kernel
theorem d_MD_change_33 : decode c_MD_change 33 = .ok (.getfield 13, 3) := by decide +kernel
theorem d_MD_change_36 : decode c_MD_change 36 = .ok (.iload_n 1, 1) := by decide +kernel
theorem d_MD_change_37 : decode c_MD_change 37 = .ok (.iaload, 1) := by decide +kernel
theorem d_MD_change_38 : decode c_MD_change 38 = .ok (.bipush 15, 2) := by decide +kernel
theorem d_MD_change_40 : decode c_MD_change 40 = .ok (.if_icmp .ne 6, 3) := by decide +kernel
theorem d_MD_change_43 : decode c_MD_change 43 = .ok (.bipush (-3), 2) := by decide +kernel
theorem d_MD_change_45 : decode c_MD_change 45 = .ok (.ireturn, 1) := by decide +kernel
theorem d_MD_change_46 : decode c_MD_change 46 = .ok (.aload_n 0, 1) := by decide +kernel
theorem d_MD_change_47 : decode c_MD_change 47 = .ok (.getfield 13, 3) := by decide +kernel
theorem d_MD_change_50 : decode c_MD_change 50 = .ok (.iload_n 1, 1) := by decide +kernel
theorem d_MD_change_51 : decode c_MD_change 51 = .ok (.dup2, 1) := by decide +kernel
theorem d_MD_change_52 : decode c_MD_change 52 = .ok (.iaload, 1) := by decide +kernel
theorem d_MD_change_53 : decode c_MD_change 53 = .ok (.iconst 1, 1) := by decide +kernel
theorem d_MD_change_54 : decode c_MD_change 54 = .ok (.iadd, 1) := by decide +kernel
theorem d_MD_change_55 : decode c_MD_change 55 = .ok (.iastore, 1) := by decide +kernel
theorem d_MD_change_56 : decode c_MD_change 56 = .ok (.aload_n 0, 1) := by decide +kernel
theorem d_MD_change_57 : decode c_MD_change 57 = .ok (.getfield 16, 3) := by decide +kernel
theorem d_MD_change_60 : decode c_MD_change 60 = .ok (.iload_n 1, 1) := by decide +kernel
theorem d_MD_change_61 : decode c_MD_change 61 = .ok (.iload_n 2, 1) := by decide +kernel
theorem d_MD_change_62 : decode c_MD_change 62 = .ok (.iastore, 1) := by decide +kernel
theorem d_MD_change_63 : decode c_MD_change 63 = .ok (.aload_n 0, 1) := by decide +kernel
theorem d_MD_change_64 : decode c_MD_change 64 = .ok (.getfield 23, 3) := by decide +kernel
theorem d_MD_change_67 : decode c_MD_change 67 = .ok (.iload_n 1, 1) := by decide +kernel
theorem d_MD_change_68 : decode c_MD_change 68 = .ok (.iconst 1, 1) := by decide +kernel
theorem d_MD_change_69 : decode c_MD_change 69 = .ok (.bastore, 1) := by decide +kernel
theorem d_MD_change_70 : decode c_MD_change 70 = .ok (.aload_n 0, 1) := by decide +kernel
theorem d_MD_change_71 : decode c_MD_change 71 = .ok (.getfield 26, 3) := by decide +kernel
theorem d_MD_change_74 : decode c_MD_change 74 = .ok (.iload_n 1, 1) := by decide +kernel
theorem d_MD_change_75 : decode c_MD_change 75 = .ok (.iconst 0, 1) := by decide +kernel
theorem d_MD_change_76 : decode c_MD_change 76 = .ok (.iastore, 1) := by decide +kernel
theorem d_MD_change_77 : decode c_MD_change 77 = .ok (.aload_n 0, 1) := by decide +kernel
theorem d_MD_change_78 : decode c_MD_change 78 = .ok (.getfield 19, 3) := by decide +kernel
theorem d_MD_change_81 : decode c_MD_change 81 = .ok (.iload_n 1, 1) := by decide +kernel
theorem d_MD_change_82 : decode c_MD_change 82 = .ok (.iconst 1, 1) := by decide +kernel
theorem d_MD_change_83 : decode c_MD_change 83 = .ok (.bastore, 1) := by decide +kernel
theorem d_MD_change_84 : decode c_MD_change 84 = .ok (.bipush 16, 2) := by decide +kernel
theorem d_MD_change_86 : decode c_MD_change 86 = .ok (.iload_n 1, 1) := by decide +kernel
theorem d_MD_change_87 : decode c_MD_change 87 = .ok (.imul, 1) := by decide +kernel
theorem d_MD_change_88 : decode c_MD_change 88 = .ok (.aload_n 0, 1) := by decide +kernel
theorem d_MD_change_89 : decode c_MD_change 89 = .ok (.getfield 13, 3) := by decide +kernel
theorem d_MD_change_92 : decode c_MD_change 92 = .ok (.iload_n 1, 1) := by decide +kernel
theorem d_MD_change_93 : decode c_MD_change 93 = .ok (.iaload, 1) := by decide +kernel
theorem d_MD_change_94 : decode c_MD_change 94 = .ok (.iadd, 1) := by decide +kernel
theorem d_MD_change_95 : decode c_MD_change 95 = .ok (.istore_n 3, 1) := by decide +kernel
theorem d_MD_change_96 : decode c_MD_change 96 = .ok (.aload_n 0, 1) := by decide +kernel
theorem d_MD_change_97 : decode c_MD_change 97 = .ok (.getfield 56, 3) := by decide +kernel
theorem d_MD_change_100 : decode c_MD_change 100 = .ok (.iload_n 3, 1) := by decide +kernel
theorem d_MD_change_101 : decode c_MD_change 101 = .ok (.aload_n 0, 1) := by decide +kernel
theorem d_MD_change_102 : decode c_MD_change 102 = .ok (.getfield 7, 3) := by decide +kernel
theorem d_MD_change_105 : decode c_MD_change 105 = .ok (.iload_n 1, 1) := by decide +kernel
theorem d_MD_change_106 : decode c_MD_change 106 = .ok (.iaload, 1) := by decide +kernel
theorem d_MD_change_107 : decode c_MD_change 107 = .ok (.iastore, 1) := by decide +kernel
theorem d_MD_change_108 : decode c_MD_change 108 = .ok (.iconst 0, 1) := by decide +kernel
theorem d_MD_change_109 : decode c_MD_change 109 = .ok (.istore 4, 2) := by decide +kernel
theorem d_MD_change_111 : decode c_MD_change 111 = .ok (.iload 4, 2) := by decide +kernel
theorem d_MD_change_113 : decode c_MD_change 113 = .ok (.iconst 4, 1) := by decide +kernel
theorem d_MD_change_114 : decode c_MD_change 114 = .ok (.if_icmp .ge 46, 3) := by decide +kernel
theorem d_MD_change_117 : decode c_MD_change 117 = .ok (.aload_n 0, 1) := by decide +kernel
theorem d_MD_change_118 : decode c_MD_change 118 = .ok (.getfield 59, 3) := by decide +kernel
theorem d_MD_change_121 : decode c_MD_change 121 = .ok (.iconst 4, 1) := by decide +kernel
theorem d_MD_change_122 : decode c_MD_change 122 = .ok (.iload_n 3, 1) := by decide +kernel
theorem d_MD_change_123 : decode c_MD_change 123 = .ok (.imul, 1) := by decide +kernel
theorem d_MD_change_124 : decode c_MD_change 124 = .ok (.iload 4, 2) := by decide +kernel
theorem d_MD_change_126 : decode c_MD_change 126 = .ok (.iadd, 1) := by decide +kernel
theorem d_MD_change_127 : decode c_MD_change 127 = .ok (.iload 4, 2) := by decide +kernel
theorem d_MD_change_129 : decode c_MD_change 129 = .ok (.iload_n 1, 1) := by decide +kernel
theorem d_MD_change_130 : decode c_MD_change 130 = .ok (.if_icmp .ne 12, 3) := by decide +kernel
theorem d_MD_change_133 : decode c_MD_change 133 = .ok (.aload_n 0, 1) := by decide +kernel
theorem d_MD_change_134 : decode c_MD_change 134 = .ok (.getfield 32, 3) := by decide +kernel
theorem d_MD_change_137 : decode c_MD_change 137 = .ok (.iload_n 1, 1) := by decide +kernel
theorem d_MD_change_138 : decode c_MD_change 138 = .ok (.iaload, 1) := by decide +kernel
theorem d_MD_change_139 : decode c_MD_change 139 = .ok (.goto 14, 3) := by decide +kernel
theorem d_MD_change_142 : decode c_MD_change 142 = .ok (.aload_n 0, 1) := by decide +kernel
theorem d_MD_change_143 : decode c_MD_change 143 = .ok (.getfield 35, 3) := by decide +kernel
theorem d_MD_change_146 : decode c_MD_change 146 = .ok (.iconst 4, 1) := by decide +kernel
theorem d_MD_change_147 : decode c_MD_change 147 = .ok (.iload_n 1, 1) := by decide +kernel
theorem d_MD_change_148 : decode c_MD_change 148 = .ok (.imul, 1) := by decide +kernel
theorem d_MD_change_149 : decode c_MD_change 149 = .ok (.iload 4, 2) := by decide +kernel
theorem d_MD_change_151 : decode c_MD_change 151 = .ok (.iadd, 1) := by decide +kernel
theorem d_MD_change_152 : decode c_MD_change 152 = .ok (.iaload, 1) := by decide +kernel
theorem d_MD_change_153 : decode c_MD_change 153 = .ok (.iastore, 1) := by decide +kernel
theorem d_MD_change_154 : decode c_MD_change 154 = .ok (.iinc 4 1, 3) := by decide +kernel
theorem d_MD_change_157 : decode c_MD_change 157 = .ok (.goto (-46), 3) := by decide +kernel
theorem d_MD_change_160 : decode c_MD_change 160 = .ok (.aload_n 0, 1) := by decide +kernel
theorem d_MD_change_161 : decode c_MD_change 161 = .ok (.getfield 62, 3) := by decide +kernel
theorem d_MD_change_164 : decode c_MD_change 164 = .ok (.bipush 64, 2) := by decide +kernel
theorem d_MD_change_166 : decode c_MD_change 166 = .ok (.iload_n 1, 1) := by decide +kernel
theorem d_MD_change_167 : decode c_MD_change 167 = .ok (.imul, 1) := by decide +kernel
theorem d_MD_change_168 : decode c_MD_change 168 = .ok (.iload_n 3, 1) := by decide +kernel
theorem d_MD_change_169 : decode c_MD_change 169 = .ok (.iadd, 1) := by decide +kernel
theorem d_MD_change_170 : decode c_MD_change 170 = .ok (.iconst 1, 1) := by decide +kernel
theorem d_MD_change_171 : decode c_MD_change 171 = .ok (.bastore, 1) := by decide +kernel
theorem d_MD_change_172 : decode c_MD_change 172 = .ok (.aload_n 0, 1) := by decide +kernel
theorem d_MD_change_173 : decode c_MD_change 173 = .ok (.iload_n 1, 1) := by decide +kernel
theorem d_MD_change_174 : decode c_MD_change 174 = .ok (.iload_n 2, 1) := by decide +kernel
theorem d_MD_change_175 : decode c_MD_change 175 = .ok (.sipush 256, 3) := by decide +kernel
theorem d_MD_change_178 : decode c_MD_change 178 = .ok (.iload_n 3, 1) := by decide +kernel
theorem d_MD_change_179 : decode c_MD_change 179 = .ok (.iadd, 1) := by decide +kernel
theorem d_MD_change_180 : decode c_MD_change 180 = .ok (.invokevirtual 82, 3) := by decide +kernel
theorem d_MD_change_183 : decode c_MD_change 183 = .ok (.aload_n 0, 1) := by decide +kernel
theorem d_MD_change_184 : decode c_MD_change 184 = .ok (.getfield 13, 3) := by decide +kernel
theorem d_MD_change_187 : decode c_MD_change 187 = .ok (.iload_n 1, 1) := by decide +kernel
theorem d_MD_change_188 : decode c_MD_change 188 = .ok (.iaload, 1) := by decide +kernel
theorem d_MD_change_189 : decode c_MD_change 189 = .ok (.ireturn, 1) := by decide +kernel
theorem d_MD_form_0 : decode c_MD_form 0 = .ok (.iload_n 1, 1) := by decide +kernel
theorem d_MD_form_1 : decode c_MD_form 1 = .ok (.iconst 1, 1) := by decide +kernel
theorem d_MD_form_2 : decode c_MD_form 2 = .ok (.bipush 15, 2) := by decide +kernel
theorem d_MD_form_4 : decode c_MD_form 4 = .ok (.invokestatic 74, 3) := by decide +kernel
theorem d_MD_form_7 : decode c_MD_form 7 = .ok (.ifCond .ne 6, 3) := by decide +kernel
theorem d_MD_form_10 : decode c_MD_form 10 = .ok (.bipush (-2), 2) := by decide +kernel
theorem d_MD_form_12 : decode c_MD_form 12 = .ok (.ireturn, 1) := by decide +kernel
theorem d_MD_form_13 : decode c_MD_form 13 = .ok (.aload_n 0, 1) := by decide +kernel
theorem d_MD_form_14 : decode c_MD_form 14 = .ok (.getfield 86, 3) := by decide +kernel
theorem d_MD_form_17 : decode c_MD_form 17 = .ok (.bipush 15, 2) := by decide +kernel
theorem d_MD_form_19 : decode c_MD_form 19 = .ok (.if_icmp .ne 6, 3) := by decide +kernel
theorem d_MD_form_22 : decode c_MD_form 22 = .ok (.bipush (-3), 2) := by decide +kernel
theorem d_MD_form_24 : decode c_MD_form 24 = .ok (.ireturn, 1) := by decide +kernel
theorem d_MD_form_25 : decode c_MD_form 25 = .ok (.iconst 0, 1) := by decide +kernel
theorem d_MD_form_26 : decode c_MD_form 26 = .ok (.istore_n 2, 1) := by decide +kernel
theorem d_MD_form_27 : decode c_MD_form 27 = .ok (.iload_n 2, 1) := by decide +kernel
theorem d_MD_form_28 : decode c_MD_form 28 = .ok (.iconst 4, 1) := by decide +kernel
theorem d_MD_form_29 : decode c_MD_form 29 = .ok (.if_icmp .ge 43, 3) := by decide +kernel
theorem d_MD_form_32 : decode c_MD_form 32 = .ok (.iload_n 1, 1) := by decide +kernel
theorem d_MD_form_33 : decode c_MD_form 33 = .ok (.iload_n 2, 1) := by decide +kernel
theorem d_MD_form_34 : decode c_MD_form 34 = .ok (.ishr, 1) := by decide +kernel
theorem d_MD_form_35 : decode c_MD_form 35 = .ok (.iconst 1, 1) := by decide +kernel
theorem d_MD_form_36 : decode c_MD_form 36 = .ok (.iand, 1) := by decide +kernel
theorem d_MD_form_37 : decode c_MD_form 37 = .ok (.iconst 1, 1) := by decide +kernel
theorem d_MD_form_38 : decode c_MD_form 38 = .ok (.if_icmp .ne 28, 3) := by decide +kernel
theorem d_MD_form_41 : decode c_MD_form 41 = .ok (.aload_n 0, 1) := by decide +kernel
theorem d_MD_form_42 : decode c_MD_form 42 = .ok (.getfield 19, 3) := by decide +kernel
theorem d_MD_form_45 : decode c_MD_form 45 = .ok (.iload_n 2, 1) := by decide +kernel
theorem d_MD_form_46 : decode c_MD_form 46 = .ok (.baload, 1) := by decide +kernel
theorem d_MD_form_47 : decode c_MD_form 47 = .ok (.ifCond .eq 16, 3) := by decide +kernel
theorem d_MD_form_50 : decode c_MD_form 50 = .ok (.iload_n 1, 1) := by decide +kernel
theorem d_MD_form_51 : decode c_MD_form 51 = .ok (.aload_n 0, 1) := by decide +kernel
theorem d_MD_form_52 : decode c_MD_form 52 = .ok (.getfield 16, 3) := by decide +kernel
theorem d_MD_form_55 : decode c_MD_form 55 = .ok (.iload_n 2, 1) := by decide +kernel
theorem d_MD_form_56 : decode c_MD_form 56 = .ok (.iaload, 1) := by decide +kernel
theorem d_MD_form_57 : decode c_MD_form 57 = .ok (.iconst (-1), 1) := by decide +kernel
theorem d_MD_form_58 : decode c_MD_form 58 = .ok (.ixor, 1) := by decide +kernel
theorem d_MD_form_59 : decode c_MD_form 59 = .ok (.iand, 1) := by decide +kernel
theorem d_MD_form_60 : decode c_MD_form 60 = .ok (.ifCond .eq 6, 3) := by decide +kernel
theorem d_MD_form_63 : decode c_MD_form 63 = .ok (.bipush (-4), 2) := by decide +kernel
theorem d_MD_form_65 : decode c_MD_form 65 = .ok (.ireturn, 1) := by decide +kernel
theorem d_MD_form_66 : decode c_MD_form 66 = .ok (.iinc 2 1, 3) := by decide +kernel
theorem d_MD_form_69 : decode c_MD_form 69 = .ok (.goto (-42), 3) := by decide +kernel
theorem d_MD_form_72 : decode c_MD_form 72 = .ok (.aload_n 0, 1) := by decide +kernel
theorem d_MD_form_73 : decode c_MD_form 73 = .ok (.dup, 1) := by decide +kernel
theorem d_MD_form_74 : decode c_MD_form 74 = .ok (.getfield 86, 3) := by decide +kernel
theorem d_MD_form_77 : decode c_MD_form 77 = .ok (.iconst 1, 1) := by decide +kernel
theorem d_MD_form_78 : decode c_MD_form 78 = .ok (.iadd, 1) := by decide +kernel
theorem d_MD_form_79 : decode c_MD_form 79 = .ok (.putfield 86, 3) := by decide +kernel
theorem d_MD_form_82 : decode c_MD_form 82 = .ok (.aload_n 0, 1) := by decide +kernel
theorem d_MD_form_83 : decode c_MD_form 83 = .ok (.getfield 41, 3) := by decide +kernel
theorem d_MD_form_86 : decode c_MD_form 86 = .ok (.aload_n 0, 1) := by decide +kernel
theorem d_MD_form_87 : decode c_MD_form 87 = .ok (.getfield 86, 3) := by decide +kernel
theorem d_MD_form_90 : decode c_MD_form 90 = .ok (.iload_n 1, 1) := by decide +kernel
theorem d_MD_form_91 : decode c_MD_form 91 = .ok (.iastore, 1) := by decide +kernel
theorem d_MD_form_92 : decode c_MD_form 92 = .ok (.iconst 0, 1) := by decide +kernel
theorem d_MD_form_93 : decode c_MD_form 93 = .ok (.istore_n 2, 1) := by decide +kernel
theorem d_MD_form_94 : decode c_MD_form 94 = .ok (.iload_n 2, 1) := by decide +kernel
theorem d_MD_form_95 : decode c_MD_form 95 = .ok (.iconst 4, 1) := by decide +kernel
theorem d_MD_form_96 : decode c_MD_form 96 = .ok (.if_icmp .ge 46, 3) := by decide +kernel
theorem d_MD_form_99 : decode c_MD_form 99 = .ok (.iload_n 1, 1) := by decide +kernel
theorem d_MD_form_100 : decode c_MD_form 100 = .ok (.iload_n 2, 1) := by decide +kernel
theorem d_MD_form_101 : decode c_MD_form 101 = .ok (.ishr, 1) := by decide +kernel
theorem d_MD_form_102 : decode c_MD_form 102 = .ok (.iconst 1, 1) := by decide +kernel
theorem d_MD_form_103 : decode c_MD_form 103 = .ok (.iand, 1) := by decide +kernel
theorem d_MD_form_104 : decode c_MD_form 104 = .ok (.ifCond .ne 6, 3) := by decide +kernel
theorem d_MD_form_107 : decode c_MD_form 107 = .ok (.goto 29, 3) := by decide +kernel
theorem d_MD_form_110 : decode c_MD_form 110 = .ok (.aload_n 0, 1) := by decide +kernel
theorem d_MD_form_111 : decode c_MD_form 111 = .ok (.getfield 44, 3) := by decide +kernel
theorem d_MD_form_114 : decode c_MD_form 114 = .ok (.iconst 4, 1) := by decide +kernel
theorem d_MD_form_115 : decode c_MD_form 115 = .ok (.aload_n 0, 1) := by decide +kernel
theorem d_MD_form_116 : decode c_MD_form 116 = .ok (.getfield 86, 3) := by decide +kernel
theorem d_MD_form_119 : decode c_MD_form 119 = .ok (.imul, 1) := by decide +kernel
theorem d_MD_form_120 : decode c_MD_form 120 = .ok (.iload_n 2, 1) := by decide +kernel
theorem d_MD_form_121 : decode c_MD_form 121 = .ok (.iadd, 1) := by decide +kernel
theorem d_MD_form_122 : decode c_MD_form 122 = .ok (.aload_n 0, 1) := by decide +kernel
theorem d_MD_form_123 : decode c_MD_form 123 = .ok (.getfield 13, 3) := by decide +kernel
theorem d_MD_form_126 : decode c_MD_form 126 = .ok (.iload_n 2, 1) := by decide +kernel
theorem d_MD_form_127 : decode c_MD_form 127 = .ok (.iaload, 1) := by decide +kernel
theorem d_MD_form_128 : decode c_MD_form 128 = .ok (.iastore, 1) := by decide +kernel
theorem d_MD_form_129 : decode c_MD_form 129 = .ok (.aload_n 0, 1) := by decide +kernel
theorem d_MD_form_130 : decode c_MD_form 130 = .ok (.getfield 19, 3) := by decide +kernel
theorem d_MD_form_133 : decode c_MD_form 133 = .ok (.iload_n 2, 1) := by decide +kernel
theorem d_MD_form_134 : decode c_MD_form 134 = .ok (.iconst 0, 1) := by decide +kernel
theorem d_MD_form_135 : decode c_MD_form 135 = .ok (.bastore, 1) := by decide +kernel
theorem d_MD_form_136 : decode c_MD_form 136 = .ok (.iinc 2 1, 3) := by decide +kernel
theorem d_MD_form_139 : decode c_MD_form 139 = .ok (.goto (-45), 3) := by decide +kernel
theorem d_MD_form_142 : decode c_MD_form 142 = .ok (.aload_n 0, 1) := by decide +kernel
theorem d_MD_form_143 : decode c_MD_form 143 = .ok (.getfield 86, 3) := by decide +kernel
theorem d_MD_form_146 : decode c_MD_form 146 = .ok (.ireturn, 1) := by decide +kernel
theorem d_MD_tell_0 : decode c_MD_tell 0 = .ok (.iload_n 1, 1) := by decide +kernel
theorem d_MD_tell_1 : decode c_MD_tell 1 = .ok (.iconst 0, 1) := by decide +kernel
theorem d_MD_tell_2 : decode c_MD_tell 2 = .ok (.iconst 3, 1) := by decide +kernel
theorem d_MD_tell_3 : decode c_MD_tell 3 = .ok (.invokestatic 74, 3) := by decide +kernel
theorem d_MD_tell_6 : decode c_MD_tell 6 = .ok (.ifCond .ne 5, 3) := by decide +kernel
theorem d_MD_tell_9 : decode c_MD_tell 9 = .ok (.iconst (-1), 1) := by decide +kernel
theorem d_MD_tell_10 : decode c_MD_tell 10 = .ok (.ireturn, 1) := by decide +kernel
theorem d_MD_tell_11 : decode c_MD_tell 11 = .ok (.iload_n 2, 1) := by decide +kernel
theorem d_MD_tell_12 : decode c_MD_tell 12 = .ok (.iconst 1, 1) := by decide +kernel
theorem d_MD_tell_13 : decode c_MD_tell 13 = .ok (.aload_n 0, 1) := by decide +kernel
theorem d_MD_tell_14 : decode c_MD_tell 14 = .ok (.getfield 86, 3) := by decide +kernel
theorem d_MD_tell_17 : decode c_MD_tell 17 = .ok (.invokestatic 74, 3) := by decide +kernel
theorem d_MD_tell_20 : decode c_MD_tell 20 = .ok (.ifCond .eq 16, 3) := by decide +kernel
theorem d_MD_tell_23 : decode c_MD_tell 23 = .ok (.aload_n 0, 1) := by decide +kernel
theorem d_MD_tell_24 : decode c_MD_tell 24 = .ok (.getfield 41, 3) := by decide +kernel
theorem d_MD_tell_27 : decode c_MD_tell 27 = .ok (.iload_n 2, 1) := by decide +kernel
theorem d_MD_tell_28 : decode c_MD_tell 28 = .ok (.iaload, 1) := by decide +kernel
theorem d_MD_tell_29 : decode c_MD_tell 29 = .ok (.iload_n 1, 1) := by decide +kernel
theorem d_MD_tell_30 : decode c_MD_tell 30 = .ok (.ishr, 1) := by decide +kernel
theorem d_MD_tell_31 : decode c_MD_tell 31 = .ok (.iconst 1, 1) := by decide +kernel
theorem d_MD_tell_32 : decode c_MD_tell 32 = .ok (.iand, 1) := by decide +kernel
theorem d_MD_tell_33 : decode c_MD_tell 33 = .ok (.ifCond .ne 6, 3) := by decide +kernel
theorem d_MD_tell_36 : decode c_MD_tell 36 = .ok (.bipush (-2), 2) := by decide +kernel
theorem d_MD_tell_38 : decode c_MD_tell 38 = .ok (.ireturn, 1) := by decide +kernel
theorem d_MD_tell_39 : decode c_MD_tell 39 = .ok (.aload_n 0, 1) := by decide +kernel
theorem d_MD_tell_40 : decode c_MD_tell 40 = .ok (.getfield 29, 3) := by decide +kernel
theorem d_MD_tell_43 : decode c_MD_tell 43 = .ok (.iload_n 1, 1) := by decide +kernel
theorem d_MD_tell_44 : decode c_MD_tell 44 = .ok (.iaload, 1) := by decide +kernel
theorem d_MD_tell_45 : decode c_MD_tell 45 = .ok (.iload_n 2, 1) := by decide +kernel
theorem d_MD_tell_46 : decode c_MD_tell 46 = .ok (.if_icmp .lt 6, 3) := by decide +kernel
theorem d_MD_tell_49 : decode c_MD_tell 49 = .ok (.bipush (-3), 2) := by decide +kernel
theorem d_MD_tell_51 : decode c_MD_tell 51 = .ok (.ireturn, 1) := by decide +kernel
theorem d_MD_tell_52 : decode c_MD_tell 52 = .ok (.aload_n 0, 1) := by decide +kernel
theorem d_MD_tell_53 : decode c_MD_tell 53 = .ok (.getfield 44, 3) := by decide +kernel
theorem d_MD_tell_56 : decode c_MD_tell 56 = .ok (.iconst 4, 1) := by decide +kernel
theorem d_MD_tell_57 : decode c_MD_tell 57 = .ok (.iload_n 2, 1) := by decide +kernel
theorem d_MD_tell_58 : decode c_MD_tell 58 = .ok (.imul, 1) := by decide +kernel
theorem d_MD_tell_59 : decode c_MD_tell 59 = .ok (.iload_n 1, 1) := by decide +kernel
theorem d_MD_tell_60 : decode c_MD_tell 60 = .ok (.iadd, 1) := by decide +kernel
theorem d_MD_tell_61 : decode c_MD_tell 61 = .ok (.iaload, 1) := by decide +kernel
theorem d_MD_tell_62 : decode c_MD_tell 62 = .ok (.aload_n 0, 1) := by decide +kernel
theorem d_MD_tell_63 : decode c_MD_tell 63 = .ok (.getfield 13, 3) := by decide +kernel
theorem d_MD_tell_66 : decode c_MD_tell 66 = .ok (.iload_n 1, 1) := by decide +kernel
theorem d_MD_tell_67 : decode c_MD_tell 67 = .ok (.iaload, 1) := by decide +kernel
theorem d_MD_tell_68 : decode c_MD_tell 68 = .ok (.if_icmp .eq 6, 3) := by decide +kernel
theorem d_MD_tell_71 : decode c_MD_tell 71 = .ok (.bipush (-4), 2) := by decide +kernel
theorem d_MD_tell_73 : decode c_MD_tell 73 = .ok (.ireturn, 1) := by decide +kernel
theorem d_MD_tell_74 : decode c_MD_tell 74 = .ok (.aload_n 0, 1) := by decide +kernel
theorem d_MD_tell_75 : decode c_MD_tell 75 = .ok (.getfield 29, 3) := by decide +kernel
theorem d_MD_tell_78 : decode c_MD_tell 78 = .ok (.iload_n 1, 1) := by decide +kernel
theorem d_MD_tell_79 : decode c_MD_tell 79 = .ok (.iload_n 2, 1) := by decide +kernel
theorem d_MD_tell_80 : decode c_MD_tell 80 = .ok (.iastore, 1) := by decide +kernel
theorem d_MD_tell_81 : decode c_MD_tell 81 = .ok (.aload_n 0, 1) := by decide +kernel
theorem d_MD_tell_82 : decode c_MD_tell 82 = .ok (.getfield 26, 3) := by decide +kernel
theorem d_MD_tell_85 : decode c_MD_tell 85 = .ok (.iload_n 1, 1) := by decide +kernel
theorem d_MD_tell_86 : decode c_MD_tell 86 = .ok (.iload_n 2, 1) := by decide +kernel
theorem d_MD_tell_87 : decode c_MD_tell 87 = .ok (.iastore, 1) := by decide +kernel
theorem d_MD_tell_88 : decode c_MD_tell 88 = .ok (.iconst 0, 1) := by decide +kernel
theorem d_MD_tell_89 : decode c_MD_tell 89 = .ok (.ireturn, 1) := by decide +kernel
theorem d_MD_carry_0 : decode c_MD_carry 0 = .ok (.iload_n 1, 1) := by decide +kernel
theorem d_MD_carry_1 : decode c_MD_carry 1 = .ok (.iconst 0, 1) := by decide +kernel
theorem d_MD_carry_2 : decode c_MD_carry 2 = .ok (.iconst 3, 1) := by decide +kernel
theorem d_MD_carry_3 : decode c_MD_carry 3 = .ok (.invokestatic 74, 3) := by decide +kernel
theorem d_MD_carry_6 : decode c_MD_carry 6 = .ok (.ifCond .eq 17, 3) := by decide +kernel
theorem d_MD_carry_9 : decode c_MD_carry 9 = .ok (.iload_n 2, 1) := by decide +kernel
theorem d_MD_carry_10 : decode c_MD_carry 10 = .ok (.iconst 0, 1) := by decide +kernel
theorem d_MD_carry_11 : decode c_MD_carry 11 = .ok (.iconst 3, 1) := by decide +kernel
theorem d_MD_carry_12 : decode c_MD_carry 12 = .ok (.invokestatic 74, 3) := by decide +kernel
theorem d_MD_carry_15 : decode c_MD_carry 15 = .ok (.ifCond .eq 8, 3) := by decide +kernel
theorem d_MD_carry_18 : decode c_MD_carry 18 = .ok (.iload_n 1, 1) := by decide +kernel
theorem d_MD_carry_19 : decode c_MD_carry 19 = .ok (.iload_n 2, 1) := by decide +kernel
theorem d_MD_carry_20 : decode c_MD_carry 20 = .ok (.if_icmp .ne 5, 3) := by decide +kernel
theorem d_MD_carry_23 : decode c_MD_carry 23 = .ok (.iconst (-1), 1) := by decide +kernel
theorem d_MD_carry_24 : decode c_MD_carry 24 = .ok (.ireturn, 1) := by decide +kernel
theorem d_MD_carry_25 : decode c_MD_carry 25 = .ok (.iconst 4, 1) := by decide +kernel
theorem d_MD_carry_26 : decode c_MD_carry 26 = .ok (.iload_n 1, 1) := by decide +kernel
theorem d_MD_carry_27 : decode c_MD_carry 27 = .ok (.imul, 1) := by decide +kernel
theorem d_MD_carry_28 : decode c_MD_carry 28 = .ok (.iload_n 2, 1) := by decide +kernel
theorem d_MD_carry_29 : decode c_MD_carry 29 = .ok (.iadd, 1) := by decide +kernel
theorem d_MD_carry_30 : decode c_MD_carry 30 = .ok (.istore_n 3, 1) := by decide +kernel
theorem d_MD_carry_31 : decode c_MD_carry 31 = .ok (.aload_n 0, 1) := by decide +kernel
theorem d_MD_carry_32 : decode c_MD_carry 32 = .ok (.getfield 68, 3) := by decide +kernel
theorem d_MD_carry_35 : decode c_MD_carry 35 = .ok (.iload_n 3, 1) := by decide +kernel
theorem d_MD_carry_36 : decode c_MD_carry 36 = .ok (.iaload, 1) := by decide +kernel
theorem d_MD_carry_37 : decode c_MD_carry 37 = .ok (.ifCond .ne 5, 3) := by decide +kernel
theorem d_MD_carry_40 : decode c_MD_carry 40 = .ok (.iconst 0, 1) := by decide +kernel
theorem d_MD_carry_41 : decode c_MD_carry 41 = .ok (.ireturn, 1) := by decide +kernel
theorem d_MD_carry_42 : decode c_MD_carry 42 = .ok (.aload_n 0, 1) := by decide +kernel
theorem d_MD_carry_43 : decode c_MD_carry 43 = .ok (.getfield 65, 3) := by decide +kernel
theorem d_MD_carry_46 : decode c_MD_carry 46 = .ok (.bipush 80, 2) := by decide +kernel
theorem d_MD_carry_48 : decode c_MD_carry 48 = .ok (.iload_n 3, 1) := by decide +kernel
theorem d_MD_carry_49 : decode c_MD_carry 49 = .ok (.imul, 1) := by decide +kernel
theorem d_MD_carry_50 : decode c_MD_carry 50 = .ok (.iaload, 1) := by decide +kernel
theorem d_MD_carry_51 : decode c_MD_carry 51 = .ok (.istore 4, 2) := by decide +kernel
theorem d_MD_carry_53 : decode c_MD_carry 53 = .ok (.aload_n 0, 1) := by decide +kernel
theorem d_MD_carry_54 : decode c_MD_carry 54 = .ok (.getfield 68, 3) := by decide +kernel
theorem d_MD_carry_57 : decode c_MD_carry 57 = .ok (.iload_n 3, 1) := by decide +kernel
theorem d_MD_carry_58 : decode c_MD_carry 58 = .ok (.dup2, 1) := by decide +kernel
theorem d_MD_carry_59 : decode c_MD_carry 59 = .ok (.iaload, 1) := by decide +kernel
theorem d_MD_carry_60 : decode c_MD_carry 60 = .ok (.iconst 1, 1) := by decide +kernel
theorem d_MD_carry_61 : decode c_MD_carry 61 = .ok (.isub, 1) := by decide +kernel
theorem d_MD_carry_62 : decode c_MD_carry 62 = .ok (.iastore, 1) := by decide +kernel
theorem d_MD_carry_63 : decode c_MD_carry 63 = .ok (.iconst 0, 1) := by decide +kernel
theorem d_MD_carry_64 : decode c_MD_carry 64 = .ok (.istore 5, 2) := by decide +kernel
theorem d_MD_carry_66 : decode c_MD_carry 66 = .ok (.iload 5, 2) := by decide +kernel
theorem d_MD_carry_68 : decode c_MD_carry 68 = .ok (.aload_n 0, 1) := by decide +kernel
theorem d_MD_carry_69 : decode c_MD_carry 69 = .ok (.getfield 68, 3) := by decide +kernel
theorem d_MD_carry_72 : decode c_MD_carry 72 = .ok (.iload_n 3, 1) := by decide +kernel
theorem d_MD_carry_73 : decode c_MD_carry 73 = .ok (.iaload, 1) := by decide +kernel
theorem d_MD_carry_74 : decode c_MD_carry 74 = .ok (.if_icmp .ge 35, 3) := by decide +kernel
theorem d_MD_carry_77 : decode c_MD_carry 77 = .ok (.aload_n 0, 1) := by decide +kernel
theorem d_MD_carry_78 : decode c_MD_carry 78 = .ok (.getfield 65, 3) := by decide +kernel
theorem d_MD_carry_81 : decode c_MD_carry 81 = .ok (.bipush 80, 2) := by decide +kernel
theorem d_MD_carry_83 : decode c_MD_carry 83 = .ok (.iload_n 3, 1) := by decide +kernel
theorem d_MD_carry_84 : decode c_MD_carry 84 = .ok (.imul, 1) := by decide +kernel
theorem d_MD_carry_85 : decode c_MD_carry 85 = .ok (.iload 5, 2) := by decide +kernel
theorem d_MD_carry_87 : decode c_MD_carry 87 = .ok (.iadd, 1) := by decide +kernel
theorem d_MD_carry_88 : decode c_MD_carry 88 = .ok (.aload_n 0, 1) := by decide +kernel
theorem d_MD_carry_89 : decode c_MD_carry 89 = .ok (.getfield 65, 3) := by decide +kernel
theorem d_MD_carry_92 : decode c_MD_carry 92 = .ok (.bipush 80, 2) := by decide +kernel
theorem d_MD_carry_94 : decode c_MD_carry 94 = .ok (.iload_n 3, 1) := by decide +kernel
theorem d_MD_carry_95 : decode c_MD_carry 95 = .ok (.imul, 1) := by decide +kernel
theorem d_MD_carry_96 : decode c_MD_carry 96 = .ok (.iload 5, 2) := by decide +kernel
theorem d_MD_carry_98 : decode c_MD_carry 98 = .ok (.iadd, 1) := by decide +kernel
theorem d_MD_carry_99 : decode c_MD_carry 99 = .ok (.iconst 1, 1) := by decide +kernel
theorem d_MD_carry_100 : decode c_MD_carry 100 = .ok (.iadd, 1) := by decide +kernel
theorem d_MD_carry_101 : decode c_MD_carry 101 = .ok (.iaload, 1) := by decide +kernel
theorem d_MD_carry_102 : decode c_MD_carry 102 = .ok (.iastore, 1) := by decide +kernel
theorem d_MD_carry_103 : decode c_MD_carry 103 = .ok (.iinc 5 1, 3) := by decide +kernel
theorem d_MD_carry_106 : decode c_MD_carry 106 = .ok (.goto (-40), 3) := by decide +kernel
theorem d_MD_carry_109 : decode c_MD_carry 109 = .ok (.iload 4, 2) := by decide +kernel
theorem d_MD_carry_111 : decode c_MD_carry 111 = .ok (.sipush 256, 3) := by decide +kernel
theorem d_MD_carry_114 : decode c_MD_carry 114 = .ok (.if_icmp .ge 19, 3) := by decide +kernel
theorem d_MD_carry_117 : decode c_MD_carry 117 = .ok (.aload_n 0, 1) := by decide +kernel
theorem d_MD_carry_118 : decode c_MD_carry 118 = .ok (.getfield 53, 3) := by decide +kernel
theorem d_MD_carry_121 : decode c_MD_carry 121 = .ok (.sipush 256, 3) := by decide +kernel
theorem d_MD_carry_124 : decode c_MD_carry 124 = .ok (.iload_n 2, 1) := by decide +kernel
theorem d_MD_carry_125 : decode c_MD_carry 125 = .ok (.imul, 1) := by decide +kernel
theorem d_MD_carry_126 : decode c_MD_carry 126 = .ok (.iload 4, 2) := by decide +kernel
theorem d_MD_carry_128 : decode c_MD_carry 128 = .ok (.iadd, 1) := by decide +kernel
theorem d_MD_carry_129 : decode c_MD_carry 129 = .ok (.iconst 1, 1) := by decide +kernel
theorem d_MD_carry_130 : decode c_MD_carry 130 = .ok (.bastore, 1) := by decide +kernel
theorem d_MD_carry_131 : decode c_MD_carry 131 = .ok (.iconst 1, 1) := by decide +kernel
theorem d_MD_carry_132 : decode c_MD_carry 132 = .ok (.ireturn, 1) := by decide +kernel
theorem d_MD_carry_133 : decode c_MD_carry 133 = .ok (.iload 4, 2) := by decide +kernel
theorem d_MD_carry_135 : decode c_MD_carry 135 = .ok (.sipush 256, 3) := by decide +kernel
theorem d_MD_carry_138 : decode c_MD_carry 138 = .ok (.isub, 1) := by decide +kernel
theorem d_MD_carry_139 : decode c_MD_carry 139 = .ok (.istore 5, 2) := by decide +kernel
theorem d_MD_carry_141 : decode c_MD_carry 141 = .ok (.aload_n 0, 1) := by decide +kernel
theorem d_MD_carry_142 : decode c_MD_carry 142 = .ok (.getfield 62, 3) := by decide +kernel
theorem d_MD_carry_145 : decode c_MD_carry 145 = .ok (.bipush 64, 2) := by decide +kernel
theorem d_MD_carry_147 : decode c_MD_carry 147 = .ok (.iload_n 2, 1) := by decide +kernel
theorem d_MD_carry_148 : decode c_MD_carry 148 = .ok (.imul, 1) := by decide +kernel
theorem d_MD_carry_149 : decode c_MD_carry 149 = .ok (.iload 5, 2) := by decide +kernel
theorem d_MD_carry_151 : decode c_MD_carry 151 = .ok (.iadd, 1) := by decide +kernel
theorem d_MD_carry_152 : decode c_MD_carry 152 = .ok (.iconst 1, 1) := by decide +kernel
theorem d_MD_carry_153 : decode c_MD_carry 153 = .ok (.bastore, 1) := by decide +kernel
theorem d_MD_carry_154 : decode c_MD_carry 154 = .ok (.aload_n 0, 1) := by decide +kernel
theorem d_MD_carry_155 : decode c_MD_carry 155 = .ok (.getfield 56, 3) := by decide +kernel
theorem d_MD_carry_158 : decode c_MD_carry 158 = .ok (.iload 5, 2) := by decide +kernel
theorem d_MD_carry_160 : decode c_MD_carry 160 = .ok (.iaload, 1) := by decide +kernel
theorem d_MD_carry_161 : decode c_MD_carry 161 = .ok (.ifCond .le 74, 3) := by decide +kernel
theorem d_MD_carry_164 : decode c_MD_carry 164 = .ok (.iconst 0, 1) := by decide +kernel
theorem d_MD_carry_165 : decode c_MD_carry 165 = .ok (.istore 6, 2) := by decide +kernel
theorem d_MD_carry_167 : decode c_MD_carry 167 = .ok (.iload 6, 2) := by decide +kernel
theorem d_MD_carry_169 : decode c_MD_carry 169 = .ok (.iconst 4, 1) := by decide +kernel
theorem d_MD_carry_170 : decode c_MD_carry 170 = .ok (.if_icmp .ge 65, 3) := by decide +kernel
theorem d_MD_carry_173 : decode c_MD_carry 173 = .ok (.iconst 0, 1) := by decide +kernel
theorem d_MD_carry_174 : decode c_MD_carry 174 = .ok (.istore 7, 2) := by decide +kernel
theorem d_MD_carry_176 : decode c_MD_carry 176 = .ok (.iload 7, 2) := by decide +kernel
theorem d_MD_carry_178 : decode c_MD_carry 178 = .ok (.aload_n 0, 1) := by decide +kernel
theorem d_MD_carry_179 : decode c_MD_carry 179 = .ok (.getfield 59, 3) := by decide +kernel
theorem d_MD_carry_182 : decode c_MD_carry 182 = .ok (.iconst 4, 1) := by decide +kernel
theorem d_MD_carry_183 : decode c_MD_carry 183 = .ok (.iload 5, 2) := by decide +kernel
theorem d_MD_carry_185 : decode c_MD_carry 185 = .ok (.imul, 1) := by decide +kernel
theorem d_MD_carry_186 : decode c_MD_carry 186 = .ok (.iload 6, 2) := by decide +kernel
theorem d_MD_carry_188 : decode c_MD_carry 188 = .ok (.iadd, 1) := by decide +kernel
theorem d_MD_carry_189 : decode c_MD_carry 189 = .ok (.iaload, 1) := by decide +kernel
theorem d_MD_carry_190 : decode c_MD_carry 190 = .ok (.if_icmp .ge 39, 3) := by decide +kernel
theorem d_MD_carry_193 : decode c_MD_carry 193 = .ok (.aload_n 0, 1) := by decide +kernel
theorem d_MD_carry_194 : decode c_MD_carry 194 = .ok (.getfield 53, 3) := by decide +kernel
theorem d_MD_carry_197 : decode c_MD_carry 197 = .ok (.sipush 256, 3) := by decide +kernel
theorem d_MD_carry_200 : decode c_MD_carry 200 = .ok (.iload_n 2, 1) := by decide +kernel
theorem d_MD_carry_201 : decode c_MD_carry 201 = .ok (.imul, 1) := by decide +kernel
theorem d_MD_carry_202 : decode c_MD_carry 202 = .ok (.bipush 16, 2) := by decide +kernel
theorem d_MD_carry_204 : decode c_MD_carry 204 = .ok (.aload_n 0, 1) := by decide +kernel
theorem d_MD_carry_205 : decode c_MD_carry 205 = .ok (.getfield 56, 3) := by decide +kernel
theorem d_MD_carry_208 : decode c_MD_carry 208 = .ok (.iload 5, 2) := by decide +kernel
theorem d_MD_carry_210 : decode c_MD_carry 210 = .ok (.iaload, 1) := by decide +kernel
theorem d_MD_carry_211 : decode c_MD_carry 211 = .ok (.imul, 1) := by decide +kernel
theorem d_MD_carry_212 : decode c_MD_carry 212 = .ok (.iadd, 1) := by decide +kernel
theorem d_MD_carry_213 : decode c_MD_carry 213 = .ok (.iconst 4, 1) := by decide +kernel
theorem d_MD_carry_214 : decode c_MD_carry 214 = .ok (.iload 6, 2) := by decide +kernel
theorem d_MD_carry_216 : decode c_MD_carry 216 = .ok (.imul, 1) := by decide +kernel
theorem d_MD_carry_217 : decode c_MD_carry 217 = .ok (.iadd, 1) := by decide +kernel
theorem d_MD_carry_218 : decode c_MD_carry 218 = .ok (.iload 7, 2) := by decide +kernel
theorem d_MD_carry_220 : decode c_MD_carry 220 = .ok (.iadd, 1) := by decide +kernel
theorem d_MD_carry_221 : decode c_MD_carry 221 = .ok (.iconst 1, 1) := by decide +kernel
theorem d_MD_carry_222 : decode c_MD_carry 222 = .ok (.bastore, 1) := by decide +kernel
theorem d_MD_carry_223 : decode c_MD_carry 223 = .ok (.iinc 7 1, 3) := by decide +kernel
theorem d_MD_carry_226 : decode c_MD_carry 226 = .ok (.goto (-50), 3) := by decide +kernel
theorem d_MD_carry_229 : decode c_MD_carry 229 = .ok (.iinc 6 1, 3) := by decide +kernel
theorem d_MD_carry_232 : decode c_MD_carry 232 = .ok (.goto (-65), 3) := by decide +kernel
theorem d_MD_carry_235 : decode c_MD_carry 235 = .ok (.iconst 2, 1) := by decide +kernel
theorem d_MD_carry_236 : decode c_MD_carry 236 = .ok (.ireturn, 1) := by decide +kernel
theorem d_MD_limits_0 : decode c_MD_limits 0 = .ok (.aload_n 0, 1) := by decide +kernel
theorem d_MD_limits_1 : decode c_MD_limits 1 = .ok (.iconst 0, 1) := by decide +kernel
theorem d_MD_limits_2 : decode c_MD_limits 2 = .ok (.putfield 90, 3) := by decide +kernel
theorem d_MD_limits_5 : decode c_MD_limits 5 = .ok (.iconst 0, 1) := by decide +kernel
theorem d_MD_limits_6 : decode c_MD_limits 6 = .ok (.istore_n 2, 1) := by decide +kernel
theorem d_MD_limits_7 : decode c_MD_limits 7 = .ok (.iload_n 2, 1) := by decide +kernel
theorem d_MD_limits_8 : decode c_MD_limits 8 = .ok (.iconst 4, 1) := by decide +kernel
theorem d_MD_limits_9 : decode c_MD_limits 9 = .ok (.if_icmp .ge 29, 3) := by decide +kernel
theorem d_MD_limits_12 : decode c_MD_limits 12 = .ok (.aload_n 0, 1) := by decide +kernel
theorem d_MD_limits_13 : decode c_MD_limits 13 = .ok (.getfield 71, 3) := by decide +kernel
theorem d_MD_limits_16 : decode c_MD_limits 16 = .ok (.iload_n 2, 1) := by decide +kernel
theorem d_MD_limits_17 : decode c_MD_limits 17 = .ok (.aload_n 0, 1) := by decide +kernel
theorem d_MD_limits_18 : decode c_MD_limits 18 = .ok (.getfield 23, 3) := by decide +kernel
theorem d_MD_limits_21 : decode c_MD_limits 21 = .ok (.iload_n 1, 1) := by decide +kernel
theorem d_MD_limits_22 : decode c_MD_limits 22 = .ok (.baload, 1) := by decide +kernel
theorem d_MD_limits_23 : decode c_MD_limits 23 = .ok (.ifCond .eq 7, 3) := by decide +kernel
theorem d_MD_limits_26 : decode c_MD_limits 26 = .ok (.iconst 0, 1) := by decide +kernel
theorem d_MD_limits_27 : decode c_MD_limits 27 = .ok (.goto 4, 3) := by decide +kernel
theorem d_MD_limits_30 : decode c_MD_limits 30 = .ok (.iconst 4, 1) := by decide +kernel
theorem d_MD_limits_31 : decode c_MD_limits 31 = .ok (.iastore, 1) := by decide +kernel
theorem d_MD_limits_32 : decode c_MD_limits 32 = .ok (.iinc 2 1, 3) := by decide +kernel
theorem d_MD_limits_35 : decode c_MD_limits 35 = .ok (.goto (-28), 3) := by decide +kernel
theorem d_MD_limits_38 : decode c_MD_limits 38 = .ok (.aload_n 0, 1) := by decide +kernel
theorem d_MD_limits_39 : decode c_MD_limits 39 = .ok (.getfield 23, 3) := by decide +kernel
theorem d_MD_limits_42 : decode c_MD_limits 42 = .ok (.iload_n 1, 1) := by decide +kernel
theorem d_MD_limits_43 : decode c_MD_limits 43 = .ok (.baload, 1) := by decide +kernel
theorem d_MD_limits_44 : decode c_MD_limits 44 = .ok (.ifCond .ne 5, 3) := by decide +kernel
theorem d_MD_limits_47 : decode c_MD_limits 47 = .ok (.iconst 1, 1) := by decide +kernel
theorem d_MD_limits_48 : decode c_MD_limits 48 = .ok (.ireturn, 1) := by decide +kernel
theorem d_MD_limits_49 : decode c_MD_limits 49 = .ok (.aload_n 0, 1) := by decide +kernel
theorem d_MD_limits_50 : decode c_MD_limits 50 = .ok (.getfield 26, 3) := by decide +kernel
theorem d_MD_limits_53 : decode c_MD_limits 53 = .ok (.iload_n 1, 1) := by decide +kernel
theorem d_MD_limits_54 : decode c_MD_limits 54 = .ok (.iaload, 1) := by decide +kernel
theorem d_MD_limits_55 : decode c_MD_limits 55 = .ok (.istore_n 2, 1) := by decide +kernel
theorem d_MD_limits_56 : decode c_MD_limits 56 = .ok (.iload_n 2, 1) := by decide +kernel
theorem d_MD_limits_57 : decode c_MD_limits 57 = .ok (.ifCond .ne 5, 3) := by decide +kernel
theorem d_MD_limits_60 : decode c_MD_limits 60 = .ok (.iconst 0, 1) := by decide +kernel
theorem d_MD_limits_61 : decode c_MD_limits 61 = .ok (.ireturn, 1) := by decide +kernel
theorem d_MD_limits_62 : decode c_MD_limits 62 = .ok (.aload_n 0, 1) := by decide +kernel
theorem d_MD_limits_63 : decode c_MD_limits 63 = .ok (.getfield 41, 3) := by decide +kernel
theorem d_MD_limits_66 : decode c_MD_limits 66 = .ok (.iload_n 2, 1) := by decide +kernel
theorem d_MD_limits_67 : decode c_MD_limits 67 = .ok (.iaload, 1) := by decide +kernel
theorem d_MD_limits_68 : decode c_MD_limits 68 = .ok (.aload_n 0, 1) := by decide +kernel
theorem d_MD_limits_69 : decode c_MD_limits 69 = .ok (.iload_n 1, 1) := by decide +kernel
theorem d_MD_limits_70 : decode c_MD_limits 70 = .ok (.invokevirtual 78, 3) := by decide +kernel
theorem d_MD_limits_73 : decode c_MD_limits 73 = .ok (.iand, 1) := by decide +kernel
theorem d_MD_limits_74 : decode c_MD_limits 74 = .ok (.istore_n 3, 1) := by decide +kernel
theorem d_MD_limits_75 : decode c_MD_limits 75 = .ok (.iconst 0, 1) := by decide +kernel
theorem d_MD_limits_76 : decode c_MD_limits 76 = .ok (.istore 4, 2) := by decide +kernel
theorem d_MD_limits_78 : decode c_MD_limits 78 = .ok (.iload 4, 2) := by decide +kernel
theorem d_MD_limits_80 : decode c_MD_limits 80 = .ok (.iconst 4, 1) := by decide +kernel
theorem d_MD_limits_81 : decode c_MD_limits 81 = .ok (.if_icmp .ge 160, 3) := by decide +kernel
theorem d_MD_limits_84 : decode c_MD_limits 84 = .ok (.bipush 16, 2) := by decide +kernel
theorem d_MD_limits_86 : decode c_MD_limits 86 = .ok (.iload 4, 2) := by decide +kernel
theorem d_MD_limits_88 : decode c_MD_limits 88 = .ok (.imul, 1) := by decide +kernel
theorem d_MD_limits_89 : decode c_MD_limits 89 = .ok (.aload_n 0, 1) := by decide +kernel
theorem d_MD_limits_90 : decode c_MD_limits 90 = .ok (.getfield 44, 3) := by decide +kernel
theorem d_MD_limits_93 : decode c_MD_limits 93 = .ok (.iconst 4, 1) := by decide +kernel
theorem d_MD_limits_94 : decode c_MD_limits 94 = .ok (.iload_n 2, 1) := by decide +kernel
theorem d_MD_limits_95 : decode c_MD_limits 95 = .ok (.imul, 1) := by decide +kernel
theorem d_MD_limits_96 : decode c_MD_limits 96 = .ok (.iload 4, 2) := by decide +kernel
theorem d_MD_limits_98 : decode c_MD_limits 98 = .ok (.iadd, 1) := by decide +kernel
theorem d_MD_limits_99 : decode c_MD_limits 99 = .ok (.iaload, 1) := by decide +kernel
theorem d_MD_limits_100 : decode c_MD_limits 100 = .ok (.iadd, 1) := by decide +kernel
theorem d_MD_limits_101 : decode c_MD_limits 101 = .ok (.istore 5, 2) := by decide +kernel
theorem d_MD_limits_103 : decode c_MD_limits 103 = .ok (.iload_n 3, 1) := by decide +kernel
theorem d_MD_limits_104 : decode c_MD_limits 104 = .ok (.iload 4, 2) := by decide +kernel
theorem d_MD_limits_106 : decode c_MD_limits 106 = .ok (.ishr, 1) := by decide +kernel
theorem d_MD_limits_107 : decode c_MD_limits 107 = .ok (.iconst 1, 1) := by decide +kernel
theorem d_MD_limits_108 : decode c_MD_limits 108 = .ok (.iand, 1) := by decide +kernel
theorem d_MD_limits_109 : decode c_MD_limits 109 = .ok (.ifCond .ne 6, 3) := by decide +kernel
theorem d_MD_limits_112 : decode c_MD_limits 112 = .ok (.goto 123, 3) := by decide +kernel
theorem d_MD_limits_115 : decode c_MD_limits 115 = .ok (.aload_n 0, 1) := by decide +kernel
theorem d_MD_limits_116 : decode c_MD_limits 116 = .ok (.getfield 62, 3) := by decide +kernel
theorem d_MD_limits_119 : decode c_MD_limits 119 = .ok (.bipush 64, 2) := by decide +kernel
theorem d_MD_limits_121 : decode c_MD_limits 121 = .ok (.iload_n 1, 1) := by decide +kernel
theorem d_MD_limits_122 : decode c_MD_limits 122 = .ok (.imul, 1) := by decide +kernel
theorem d_MD_limits_123 : decode c_MD_limits 123 = .ok (.iload 5, 2) := by decide +kernel
theorem d_MD_limits_125 : decode c_MD_limits 125 = .ok (.iadd, 1) := by decide +kernel
theorem d_MD_limits_126 : decode c_MD_limits 126 = .ok (.baload, 1) := by decide +kernel
theorem d_MD_limits_127 : decode c_MD_limits 127 = .ok (.ifCond .ne 5, 3) := by decide +kernel
theorem d_MD_limits_130 : decode c_MD_limits 130 = .ok (.iconst 0, 1) := by decide +kernel
theorem d_MD_limits_131 : decode c_MD_limits 131 = .ok (.ireturn, 1) := by decide +kernel
theorem d_MD_limits_132 : decode c_MD_limits 132 = .ok (.aload_n 0, 1) := by decide +kernel
theorem d_MD_limits_133 : decode c_MD_limits 133 = .ok (.getfield 56, 3) := by decide +kernel
theorem d_MD_limits_136 : decode c_MD_limits 136 = .ok (.iload 5, 2) := by decide +kernel
theorem d_MD_limits_138 : decode c_MD_limits 138 = .ok (.iaload, 1) := by decide +kernel
theorem d_MD_limits_139 : decode c_MD_limits 139 = .ok (.aload_n 0, 1) := by decide +kernel
theorem d_MD_limits_140 : decode c_MD_limits 140 = .ok (.getfield 7, 3) := by decide +kernel
theorem d_MD_limits_143 : decode c_MD_limits 143 = .ok (.iload_n 1, 1) := by decide +kernel
theorem d_MD_limits_144 : decode c_MD_limits 144 = .ok (.iaload, 1) := by decide +kernel
theorem d_MD_limits_145 : decode c_MD_limits 145 = .ok (.if_icmp .ne 90, 3) := by decide +kernel
theorem d_MD_limits_148 : decode c_MD_limits 148 = .ok (.aload_n 0, 1) := by decide +kernel
theorem d_MD_limits_149 : decode c_MD_limits 149 = .ok (.getfield 7, 3) := by decide +kernel
theorem d_MD_limits_152 : decode c_MD_limits 152 = .ok (.iload_n 1, 1) := by decide +kernel
theorem d_MD_limits_153 : decode c_MD_limits 153 = .ok (.iaload, 1) := by decide +kernel
theorem d_MD_limits_154 : decode c_MD_limits 154 = .ok (.ifCond .ne 12, 3) := by decide +kernel
theorem d_MD_limits_157 : decode c_MD_limits 157 = .ok (.iload 4, 2) := by decide +kernel
theorem d_MD_limits_159 : decode c_MD_limits 159 = .ok (.iload_n 1, 1) := by decide +kernel
theorem d_MD_limits_160 : decode c_MD_limits 160 = .ok (.if_icmp .eq 6, 3) := by decide +kernel
theorem d_MD_limits_163 : decode c_MD_limits 163 = .ok (.goto 72, 3) := by decide +kernel
theorem d_MD_limits_166 : decode c_MD_limits 166 = .ok (.aload_n 0, 1) := by decide +kernel
theorem d_MD_limits_167 : decode c_MD_limits 167 = .ok (.aload_n 0, 1) := by decide +kernel
theorem d_MD_limits_168 : decode c_MD_limits 168 = .ok (.getfield 90, 3) := by decide +kernel
theorem d_MD_limits_171 : decode c_MD_limits 171 = .ok (.iconst 1, 1) := by decide +kernel
theorem d_MD_limits_172 : decode c_MD_limits 172 = .ok (.iload 4, 2) := by decide +kernel
theorem d_MD_limits_174 : decode c_MD_limits 174 = .ok (.ishl, 1) := by decide +kernel
theorem d_MD_limits_175 : decode c_MD_limits 175 = .ok (.ior, 1) := by decide +kernel
theorem d_MD_limits_176 : decode c_MD_limits 176 = .ok (.putfield 90, 3) := by decide +kernel
theorem d_MD_limits_179 : decode c_MD_limits 179 = .ok (.iconst 0, 1) := by decide +kernel
theorem d_MD_limits_180 : decode c_MD_limits 180 = .ok (.istore 6, 2) := by decide +kernel
theorem d_MD_limits_182 : decode c_MD_limits 182 = .ok (.iload 6, 2) := by decide +kernel
theorem d_MD_limits_184 : decode c_MD_limits 184 = .ok (.iconst 4, 1) := by decide +kernel
theorem d_MD_limits_185 : decode c_MD_limits 185 = .ok (.if_icmp .ge 50, 3) := by decide +kernel
theorem d_MD_limits_188 : decode c_MD_limits 188 = .ok (.aload_n 0, 1) := by decide +kernel
theorem d_MD_limits_189 : decode c_MD_limits 189 = .ok (.getfield 59, 3) := by decide +kernel
theorem d_MD_limits_192 : decode c_MD_limits 192 = .ok (.iconst 4, 1) := by decide +kernel
theorem d_MD_limits_193 : decode c_MD_limits 193 = .ok (.iload 5, 2) := by decide +kernel
theorem d_MD_limits_195 : decode c_MD_limits 195 = .ok (.imul, 1) := by decide +kernel
theorem d_MD_limits_196 : decode c_MD_limits 196 = .ok (.iload 6, 2) := by decide +kernel
theorem d_MD_limits_198 : decode c_MD_limits 198 = .ok (.iadd, 1) := by decide +kernel
theorem d_MD_limits_199 : decode c_MD_limits 199 = .ok (.iaload, 1) := by decide +kernel
theorem d_MD_limits_200 : decode c_MD_limits 200 = .ok (.aload_n 0, 1) := by decide +kernel
theorem d_MD_limits_201 : decode c_MD_limits 201 = .ok (.getfield 71, 3) := by decide +kernel
theorem d_MD_limits_204 : decode c_MD_limits 204 = .ok (.iload 6, 2) := by decide +kernel
theorem d_MD_limits_206 : decode c_MD_limits 206 = .ok (.iaload, 1) := by decide +kernel
theorem d_MD_limits_207 : decode c_MD_limits 207 = .ok (.if_icmp .le 22, 3) := by decide +kernel
theorem d_MD_limits_210 : decode c_MD_limits 210 = .ok (.aload_n 0, 1) := by decide +kernel
theorem d_MD_limits_211 : decode c_MD_limits 211 = .ok (.getfield 71, 3) := by decide +kernel
theorem d_MD_limits_214 : decode c_MD_limits 214 = .ok (.iload 6, 2) := by decide +kernel
theorem d_MD_limits_216 : decode c_MD_limits 216 = .ok (.aload_n 0, 1) := by decide +kernel
theorem d_MD_limits_217 : decode c_MD_limits 217 = .ok (.getfield 59, 3) := by decide +kernel
theorem d_MD_limits_220 : decode c_MD_limits 220 = .ok (.iconst 4, 1) := by decide +kernel
theorem d_MD_limits_221 : decode c_MD_limits 221 = .ok (.iload 5, 2) := by decide +kernel
theorem d_MD_limits_223 : decode c_MD_limits 223 = .ok (.imul, 1) := by decide +kernel
theorem d_MD_limits_224 : decode c_MD_limits 224 = .ok (.iload 6, 2) := by decide +kernel
theorem d_MD_limits_226 : decode c_MD_limits 226 = .ok (.iadd, 1) := by decide +kernel
theorem d_MD_limits_227 : decode c_MD_limits 227 = .ok (.iaload, 1) := by decide +kernel
theorem d_MD_limits_228 : decode c_MD_limits 228 = .ok (.iastore, 1) := by decide +kernel
theorem d_MD_limits_229 : decode c_MD_limits 229 = .ok (.iinc 6 1, 3) := by decide +kernel
theorem d_MD_limits_232 : decode c_MD_limits 232 = .ok (.goto (-50), 3) := by decide +kernel
theorem d_MD_limits_235 : decode c_MD_limits 235 = .ok (.iinc 4 1, 3) := by decide +kernel
theorem d_MD_limits_238 : decode c_MD_limits 238 = .ok (.goto (-160), 3) := by decide +kernel
theorem d_MD_limits_241 : decode c_MD_limits 241 = .ok (.iconst 2, 1) := by decide +kernel
theorem d_MD_limits_242 : decode c_MD_limits 242 = .ok (.ireturn, 1) := by decide +kernel
theorem d_MD_deliverable_0 : decode c_MD_deliverable 0 = .ok (.aload_n 0, 1) := by decide +kernel
theorem d_MD_deliverable_1 : decode c_MD_deliverable 1 = .ok (.getfield 35, 3) := by decide +kernel
theorem d_MD_deliverable_4 : decode c_MD_deliverable 4 = .ok (.iconst 4, 1) := by decide +kernel
theorem d_MD_deliverable_5 : decode c_MD_deliverable 5 = .ok (.iload_n 1, 1) := by decide +kernel
theorem d_MD_deliverable_6 : decode c_MD_deliverable 6 = .ok (.imul, 1) := by decide +kernel
theorem d_MD_deliverable_7 : decode c_MD_deliverable 7 = .ok (.iload_n 2, 1) := by decide +kernel
theorem d_MD_deliverable_8 : decode c_MD_deliverable 8 = .ok (.iadd, 1) := by decide +kernel
theorem d_MD_deliverable_9 : decode c_MD_deliverable 9 = .ok (.iaload, 1) := by decide +kernel
theorem d_MD_deliverable_10 : decode c_MD_deliverable 10 = .ok (.istore_n 3, 1) := by decide +kernel
theorem d_MD_deliverable_11 : decode c_MD_deliverable 11 = .ok (.iload_n 3, 1) := by decide +kernel
theorem d_MD_deliverable_12 : decode c_MD_deliverable 12 = .ok (.aload_n 0, 1) := by decide +kernel
theorem d_MD_deliverable_13 : decode c_MD_deliverable 13 = .ok (.getfield 71, 3) := by decide +kernel
theorem d_MD_deliverable_16 : decode c_MD_deliverable 16 = .ok (.iload_n 2, 1) := by decide +kernel
theorem d_MD_deliverable_17 : decode c_MD_deliverable 17 = .ok (.iaload, 1) := by decide +kernel
theorem d_MD_deliverable_18 : decode c_MD_deliverable 18 = .ok (.if_icmp .lt 5, 3) := by decide +kernel
theorem d_MD_deliverable_21 : decode c_MD_deliverable 21 = .ok (.iconst 0, 1) := by decide +kernel
theorem d_MD_deliverable_22 : decode c_MD_deliverable 22 = .ok (.ireturn, 1) := by decide +kernel
theorem d_MD_deliverable_23 : decode c_MD_deliverable 23 = .ok (.bipush 16, 2) := by decide +kernel
theorem d_MD_deliverable_25 : decode c_MD_deliverable 25 = .ok (.aload_n 0, 1) := by decide +kernel
theorem d_MD_deliverable_26 : decode c_MD_deliverable 26 = .ok (.getfield 7, 3) := by decide +kernel
theorem d_MD_deliverable_29 : decode c_MD_deliverable 29 = .ok (.iload_n 1, 1) := by decide +kernel
theorem d_MD_deliverable_30 : decode c_MD_deliverable 30 = .ok (.iaload, 1) := by decide +kernel
theorem d_MD_deliverable_31 : decode c_MD_deliverable 31 = .ok (.imul, 1) := by decide +kernel
theorem d_MD_deliverable_32 : decode c_MD_deliverable 32 = .ok (.iconst 4, 1) := by decide +kernel
theorem d_MD_deliverable_33 : decode c_MD_deliverable 33 = .ok (.iload_n 2, 1) := by decide +kernel
theorem d_MD_deliverable_34 : decode c_MD_deliverable 34 = .ok (.imul, 1) := by decide +kernel
theorem d_MD_deliverable_35 : decode c_MD_deliverable 35 = .ok (.iadd, 1) := by decide +kernel
theorem d_MD_deliverable_36 : decode c_MD_deliverable 36 = .ok (.iload_n 3, 1) := by decide +kernel
theorem d_MD_deliverable_37 : decode c_MD_deliverable 37 = .ok (.iadd, 1) := by decide +kernel
theorem d_MD_deliverable_38 : decode c_MD_deliverable 38 = .ok (.istore 4, 2) := by decide +kernel
theorem d_MD_deliverable_40 : decode c_MD_deliverable 40 = .ok (.aload_n 0, 1) := by decide +kernel
theorem d_MD_deliverable_41 : decode c_MD_deliverable 41 = .ok (.getfield 53, 3) := by decide +kernel
theorem d_MD_deliverable_44 : decode c_MD_deliverable 44 = .ok (.sipush 256, 3) := by decide +kernel
theorem d_MD_deliverable_47 : decode c_MD_deliverable 47 = .ok (.iload_n 1, 1) := by decide +kernel
theorem d_MD_deliverable_48 : decode c_MD_deliverable 48 = .ok (.imul, 1) := by decide +kernel
theorem d_MD_deliverable_49 : decode c_MD_deliverable 49 = .ok (.iload 4, 2) := by decide +kernel
theorem d_MD_deliverable_51 : decode c_MD_deliverable 51 = .ok (.iadd, 1) := by decide +kernel
theorem d_MD_deliverable_52 : decode c_MD_deliverable 52 = .ok (.baload, 1) := by decide +kernel
theorem d_MD_deliverable_53 : decode c_MD_deliverable 53 = .ok (.ifCond .ne 5, 3) := by decide +kernel
theorem d_MD_deliverable_56 : decode c_MD_deliverable 56 = .ok (.iconst 0, 1) := by decide +kernel
theorem d_MD_deliverable_57 : decode c_MD_deliverable 57 = .ok (.ireturn, 1) := by decide +kernel
theorem d_MD_deliverable_58 : decode c_MD_deliverable 58 = .ok (.iconst 0, 1) := by decide +kernel
theorem d_MD_deliverable_59 : decode c_MD_deliverable 59 = .ok (.istore 5, 2) := by decide +kernel
theorem d_MD_deliverable_61 : decode c_MD_deliverable 61 = .ok (.iload 5, 2) := by decide +kernel
theorem d_MD_deliverable_63 : decode c_MD_deliverable 63 = .ok (.iconst 4, 1) := by decide +kernel
theorem d_MD_deliverable_64 : decode c_MD_deliverable 64 = .ok (.if_icmp .ge 43, 3) := by decide +kernel
theorem d_MD_deliverable_67 : decode c_MD_deliverable 67 = .ok (.iload 5, 2) := by decide +kernel
theorem d_MD_deliverable_69 : decode c_MD_deliverable 69 = .ok (.iload_n 2, 1) := by decide +kernel
theorem d_MD_deliverable_70 : decode c_MD_deliverable 70 = .ok (.if_icmp .eq 31, 3) := by decide +kernel
theorem d_MD_deliverable_73 : decode c_MD_deliverable 73 = .ok (.aload_n 0, 1) := by decide +kernel
theorem d_MD_deliverable_74 : decode c_MD_deliverable 74 = .ok (.getfield 35, 3) := by decide +kernel
theorem d_MD_deliverable_77 : decode c_MD_deliverable 77 = .ok (.iconst 4, 1) := by decide +kernel
theorem d_MD_deliverable_78 : decode c_MD_deliverable 78 = .ok (.iload_n 1, 1) := by decide +kernel
theorem d_MD_deliverable_79 : decode c_MD_deliverable 79 = .ok (.imul, 1) := by decide +kernel
theorem d_MD_deliverable_80 : decode c_MD_deliverable 80 = .ok (.iload 5, 2) := by decide +kernel
theorem d_MD_deliverable_82 : decode c_MD_deliverable 82 = .ok (.iadd, 1) := by decide +kernel
theorem d_MD_deliverable_83 : decode c_MD_deliverable 83 = .ok (.iaload, 1) := by decide +kernel
theorem d_MD_deliverable_84 : decode c_MD_deliverable 84 = .ok (.aload_n 0, 1) := by decide +kernel
theorem d_MD_deliverable_85 : decode c_MD_deliverable 85 = .ok (.getfield 50, 3) := by decide +kernel
theorem d_MD_deliverable_88 : decode c_MD_deliverable 88 = .ok (.iconst 4, 1) := by decide +kernel
theorem d_MD_deliverable_89 : decode c_MD_deliverable 89 = .ok (.iload 4, 2) := by decide +kernel
theorem d_MD_deliverable_91 : decode c_MD_deliverable 91 = .ok (.imul, 1) := by decide +kernel
theorem d_MD_deliverable_92 : decode c_MD_deliverable 92 = .ok (.iload 5, 2) := by decide +kernel
theorem d_MD_deliverable_94 : decode c_MD_deliverable 94 = .ok (.iadd, 1) := by decide +kernel
theorem d_MD_deliverable_95 : decode c_MD_deliverable 95 = .ok (.iaload, 1) := by decide +kernel
theorem d_MD_deliverable_96 : decode c_MD_deliverable 96 = .ok (.if_icmp .ge 5, 3) := by decide +kernel
theorem d_MD_deliverable_99 : decode c_MD_deliverable 99 = .ok (.iconst 0, 1) := by decide +kernel
theorem d_MD_deliverable_100 : decode c_MD_deliverable 100 = .ok (.ireturn, 1) := by decide +kernel
theorem d_MD_deliverable_101 : decode c_MD_deliverable 101 = .ok (.iinc 5 1, 3) := by decide +kernel
theorem d_MD_deliverable_104 : decode c_MD_deliverable 104 = .ok (.goto (-43), 3) := by decide +kernel
theorem d_MD_deliverable_107 : decode c_MD_deliverable 107 = .ok (.iconst 1, 1) := by decide +kernel
theorem d_MD_deliverable_108 : decode c_MD_deliverable 108 = .ok (.ireturn, 1) := by decide +kernel
theorem d_MD_note_0 : decode c_MD_note 0 = .ok (.aload_n 0, 1) := by decide +kernel
theorem d_MD_note_1 : decode c_MD_note 1 = .ok (.getfield 38, 3) := by decide +kernel
theorem d_MD_note_4 : decode c_MD_note 4 = .ok (.iconst 4, 1) := by decide +kernel
theorem d_MD_note_5 : decode c_MD_note 5 = .ok (.iload_n 1, 1) := by decide +kernel
theorem d_MD_note_6 : decode c_MD_note 6 = .ok (.imul, 1) := by decide +kernel
theorem d_MD_note_7 : decode c_MD_note 7 = .ok (.iload_n 2, 1) := by decide +kernel
theorem d_MD_note_8 : decode c_MD_note 8 = .ok (.iastore, 1) := by decide +kernel
theorem d_MD_note_9 : decode c_MD_note 9 = .ok (.aload_n 0, 1) := by decide +kernel
theorem d_MD_note_10 : decode c_MD_note 10 = .ok (.getfield 38, 3) := by decide +kernel
theorem d_MD_note_13 : decode c_MD_note 13 = .ok (.iconst 4, 1) := by decide +kernel
theorem d_MD_note_14 : decode c_MD_note 14 = .ok (.iload_n 1, 1) := by decide +kernel
theorem d_MD_note_15 : decode c_MD_note 15 = .ok (.imul, 1) := by decide +kernel
theorem d_MD_note_16 : decode c_MD_note 16 = .ok (.iconst 1, 1) := by decide +kernel
theorem d_MD_note_17 : decode c_MD_note 17 = .ok (.iadd, 1) := by decide +kernel
theorem d_MD_note_18 : decode c_MD_note 18 = .ok (.iload_n 3, 1) := by decide +kernel
theorem d_MD_note_19 : decode c_MD_note 19 = .ok (.iastore, 1) := by decide +kernel
theorem d_MD_note_20 : decode c_MD_note 20 = .ok (.aload_n 0, 1) := by decide +kernel
theorem d_MD_note_21 : decode c_MD_note 21 = .ok (.getfield 38, 3) := by decide +kernel
theorem d_MD_note_24 : decode c_MD_note 24 = .ok (.iconst 4, 1) := by decide +kernel
theorem d_MD_note_25 : decode c_MD_note 25 = .ok (.iload_n 1, 1) := by decide +kernel
theorem d_MD_note_26 : decode c_MD_note 26 = .ok (.imul, 1) := by decide +kernel
theorem d_MD_note_27 : decode c_MD_note 27 = .ok (.iconst 2, 1) := by decide +kernel
theorem d_MD_note_28 : decode c_MD_note 28 = .ok (.iadd, 1) := by decide +kernel
theorem d_MD_note_29 : decode c_MD_note 29 = .ok (.iload 4, 2) := by decide +kernel
theorem d_MD_note_31 : decode c_MD_note 31 = .ok (.iastore, 1) := by decide +kernel
theorem d_MD_note_32 : decode c_MD_note 32 = .ok (.aload_n 0, 1) := by decide +kernel
theorem d_MD_note_33 : decode c_MD_note 33 = .ok (.getfield 38, 3) := by decide +kernel
theorem d_MD_note_36 : decode c_MD_note 36 = .ok (.iconst 4, 1) := by decide +kernel
theorem d_MD_note_37 : decode c_MD_note 37 = .ok (.iload_n 1, 1) := by decide +kernel
theorem d_MD_note_38 : decode c_MD_note 38 = .ok (.imul, 1) := by decide +kernel
theorem d_MD_note_39 : decode c_MD_note 39 = .ok (.iconst 3, 1) := by decide +kernel
theorem d_MD_note_40 : decode c_MD_note 40 = .ok (.iadd, 1) := by decide +kernel
theorem d_MD_note_41 : decode c_MD_note 41 = .ok (.iload 5, 2) := by decide +kernel
theorem d_MD_note_43 : decode c_MD_note 43 = .ok (.iastore, 1) := by decide +kernel
theorem d_MD_note_44 : decode c_MD_note 44 = .ok (.return_, 1) := by decide +kernel
theorem d_MD_step_0 : decode c_MD_step 0 = .ok (.iload_n 1, 1) := by decide +kernel
theorem d_MD_step_1 : decode c_MD_step 1 = .ok (.iconst 0, 1) := by decide +kernel
theorem d_MD_step_2 : decode c_MD_step 2 = .ok (.iconst 3, 1) := by decide +kernel
theorem d_MD_step_3 : decode c_MD_step 3 = .ok (.invokestatic 74, 3) := by decide +kernel
theorem d_MD_step_6 : decode c_MD_step 6 = .ok (.ifCond .ne 5, 3) := by decide +kernel
theorem d_MD_step_9 : decode c_MD_step 9 = .ok (.iconst (-1), 1) := by decide +kernel
theorem d_MD_step_10 : decode c_MD_step 10 = .ok (.ireturn, 1) := by decide +kernel
theorem d_MD_step_11 : decode c_MD_step 11 = .ok (.aload_n 0, 1) := by decide +kernel
theorem d_MD_step_12 : decode c_MD_step 12 = .ok (.iload_n 1, 1) := by decide +kernel
theorem d_MD_step_13 : decode c_MD_step 13 = .ok (.invokevirtual 93, 3) := by decide +kernel
theorem d_MD_step_16 : decode c_MD_step 16 = .ok (.istore_n 2, 1) := by decide +kernel
theorem d_MD_step_17 : decode c_MD_step 17 = .ok (.iload_n 2, 1) := by decide +kernel
theorem d_MD_step_18 : decode c_MD_step 18 = .ok (.ifCond .ne 5, 3) := by decide +kernel
theorem d_MD_step_21 : decode c_MD_step 21 = .ok (.iconst 0, 1) := by decide +kernel
theorem d_MD_step_22 : decode c_MD_step 22 = .ok (.ireturn, 1) := by decide +kernel
theorem d_MD_step_23 : decode c_MD_step 23 = .ok (.iconst 0, 1) := by decide +kernel
theorem d_MD_step_24 : decode c_MD_step 24 = .ok (.istore_n 3, 1) := by decide +kernel
theorem d_MD_step_25 : decode c_MD_step 25 = .ok (.iload_n 3, 1) := by decide +kernel
theorem d_MD_step_26 : decode c_MD_step 26 = .ok (.iconst 4, 1) := by decide +kernel
theorem d_MD_step_27 : decode c_MD_step 27 = .ok (.if_icmp .ge 87, 3) := by decide +kernel
theorem d_MD_step_30 : decode c_MD_step 30 = .ok (.aload_n 0, 1) := by decide +kernel
theorem d_MD_step_31 : decode c_MD_step 31 = .ok (.iload_n 1, 1) := by decide +kernel
theorem d_MD_step_32 : decode c_MD_step 32 = .ok (.iload_n 3, 1) := by decide +kernel
theorem d_MD_step_33 : decode c_MD_step 33 = .ok (.invokevirtual 96, 3) := by decide +kernel
theorem d_MD_step_36 : decode c_MD_step 36 = .ok (.ifCond .ne 6, 3) := by decide +kernel
theorem d_MD_step_39 : decode c_MD_step 39 = .ok (.goto 69, 3) := by decide +kernel
theorem d_MD_step_42 : decode c_MD_step 42 = .ok (.bipush 16, 2) := by decide +kernel
theorem d_MD_step_44 : decode c_MD_step 44 = .ok (.aload_n 0, 1) := by decide +kernel
theorem d_MD_step_45 : decode c_MD_step 45 = .ok (.getfield 7, 3) := by decide +kernel
theorem d_MD_step_48 : decode c_MD_step 48 = .ok (.iload_n 1, 1) := by decide +kernel
theorem d_MD_step_49 : decode c_MD_step 49 = .ok (.iaload, 1) := by decide +kernel
theorem d_MD_step_50 : decode c_MD_step 50 = .ok (.imul, 1) := by decide +kernel
theorem d_MD_step_51 : decode c_MD_step 51 = .ok (.iconst 4, 1) := by decide +kernel
theorem d_MD_step_52 : decode c_MD_step 52 = .ok (.iload_n 3, 1) := by decide +kernel
theorem d_MD_step_53 : decode c_MD_step 53 = .ok (.imul, 1) := by decide +kernel
theorem d_MD_step_54 : decode c_MD_step 54 = .ok (.iadd, 1) := by decide +kernel
theorem d_MD_step_55 : decode c_MD_step 55 = .ok (.aload_n 0, 1) := by decide +kernel
theorem d_MD_step_56 : decode c_MD_step 56 = .ok (.getfield 35, 3) := by decide +kernel
theorem d_MD_step_59 : decode c_MD_step 59 = .ok (.iconst 4, 1) := by decide +kernel
theorem d_MD_step_60 : decode c_MD_step 60 = .ok (.iload_n 1, 1) := by decide +kernel
theorem d_MD_step_61 : decode c_MD_step 61 = .ok (.imul, 1) := by decide +kernel
theorem d_MD_step_62 : decode c_MD_step 62 = .ok (.iload_n 3, 1) := by decide +kernel
theorem d_MD_step_63 : decode c_MD_step 63 = .ok (.iadd, 1) := by decide +kernel
theorem d_MD_step_64 : decode c_MD_step 64 = .ok (.iaload, 1) := by decide +kernel
theorem d_MD_step_65 : decode c_MD_step 65 = .ok (.iadd, 1) := by decide +kernel
theorem d_MD_step_66 : decode c_MD_step 66 = .ok (.istore 4, 2) := by decide +kernel
theorem d_MD_step_68 : decode c_MD_step 68 = .ok (.aload_n 0, 1) := by decide +kernel
theorem d_MD_step_69 : decode c_MD_step 69 = .ok (.getfield 35, 3) := by decide +kernel
theorem d_MD_step_72 : decode c_MD_step 72 = .ok (.iconst 4, 1) := by decide +kernel
theorem d_MD_step_73 : decode c_MD_step 73 = .ok (.iload_n 1, 1) := by decide +kernel
theorem d_MD_step_74 : decode c_MD_step 74 = .ok (.imul, 1) := by decide +kernel
theorem d_MD_step_75 : decode c_MD_step 75 = .ok (.iload_n 3, 1) := by decide +kernel
theorem d_MD_step_76 : decode c_MD_step 76 = .ok (.iadd, 1) := by decide +kernel
theorem d_MD_step_77 : decode c_MD_step 77 = .ok (.dup2, 1) := by decide +kernel
theorem d_MD_step_78 : decode c_MD_step 78 = .ok (.iaload, 1) := by decide +kernel
theorem d_MD_step_79 : decode c_MD_step 79 = .ok (.iconst 1, 1) := by decide +kernel
theorem d_MD_step_80 : decode c_MD_step 80 = .ok (.iadd, 1) := by decide +kernel
theorem d_MD_step_81 : decode c_MD_step 81 = .ok (.iastore, 1) := by decide +kernel
theorem d_MD_step_82 : decode c_MD_step 82 = .ok (.aload_n 0, 1) := by decide +kernel
theorem d_MD_step_83 : decode c_MD_step 83 = .ok (.iload_n 1, 1) := by decide +kernel
theorem d_MD_step_84 : decode c_MD_step 84 = .ok (.iconst 1, 1) := by decide +kernel
theorem d_MD_step_85 : decode c_MD_step 85 = .ok (.iload_n 3, 1) := by decide +kernel
theorem d_MD_step_86 : decode c_MD_step 86 = .ok (.aload_n 0, 1) := by decide +kernel
theorem d_MD_step_87 : decode c_MD_step 87 = .ok (.getfield 35, 3) := by decide +kernel
theorem d_MD_step_90 : decode c_MD_step 90 = .ok (.iconst 4, 1) := by decide +kernel
theorem d_MD_step_91 : decode c_MD_step 91 = .ok (.iload_n 1, 1) := by decide +kernel
theorem d_MD_step_92 : decode c_MD_step 92 = .ok (.imul, 1) := by decide +kernel
theorem d_MD_step_93 : decode c_MD_step 93 = .ok (.iload_n 3, 1) := by decide +kernel
theorem d_MD_step_94 : decode c_MD_step 94 = .ok (.iadd, 1) := by decide +kernel
theorem d_MD_step_95 : decode c_MD_step 95 = .ok (.iaload, 1) := by decide +kernel
theorem d_MD_step_96 : decode c_MD_step 96 = .ok (.aload_n 0, 1) := by decide +kernel
theorem d_MD_step_97 : decode c_MD_step 97 = .ok (.getfield 47, 3) := by decide +kernel
theorem d_MD_step_100 : decode c_MD_step 100 = .ok (.iload 4, 2) := by decide +kernel
theorem d_MD_step_102 : decode c_MD_step 102 = .ok (.iaload, 1) := by decide +kernel
theorem d_MD_step_103 : decode c_MD_step 103 = .ok (.invokevirtual 100, 3) := by decide +kernel
theorem d_MD_step_106 : decode c_MD_step 106 = .ok (.iconst 1, 1) := by decide +kernel
theorem d_MD_step_107 : decode c_MD_step 107 = .ok (.ireturn, 1) := by decide +kernel
theorem d_MD_step_108 : decode c_MD_step 108 = .ok (.iinc 3 1, 3) := by decide +kernel
theorem d_MD_step_111 : decode c_MD_step 111 = .ok (.goto (-86), 3) := by decide +kernel
theorem d_MD_step_114 : decode c_MD_step 114 = .ok (.iload_n 2, 1) := by decide +kernel
theorem d_MD_step_115 : decode c_MD_step 115 = .ok (.iconst 1, 1) := by decide +kernel
theorem d_MD_step_116 : decode c_MD_step 116 = .ok (.if_icmp .ne 5, 3) := by decide +kernel
theorem d_MD_step_119 : decode c_MD_step 119 = .ok (.iconst 0, 1) := by decide +kernel
theorem d_MD_step_120 : decode c_MD_step 120 = .ok (.ireturn, 1) := by decide +kernel
theorem d_MD_step_121 : decode c_MD_step 121 = .ok (.iconst 0, 1) := by decide +kernel
theorem d_MD_step_122 : decode c_MD_step 122 = .ok (.istore_n 3, 1) := by decide +kernel
theorem d_MD_step_123 : decode c_MD_step 123 = .ok (.iload_n 3, 1) := by decide +kernel
theorem d_MD_step_124 : decode c_MD_step 124 = .ok (.iconst 4, 1) := by decide +kernel
theorem d_MD_step_125 : decode c_MD_step 125 = .ok (.if_icmp .ge 30, 3) := by decide +kernel
theorem d_MD_step_128 : decode c_MD_step 128 = .ok (.aload_n 0, 1) := by decide +kernel
theorem d_MD_step_129 : decode c_MD_step 129 = .ok (.getfield 35, 3) := by decide +kernel
theorem d_MD_step_132 : decode c_MD_step 132 = .ok (.iconst 4, 1) := by decide +kernel
theorem d_MD_step_133 : decode c_MD_step 133 = .ok (.iload_n 1, 1) := by decide +kernel
theorem d_MD_step_134 : decode c_MD_step 134 = .ok (.imul, 1) := by decide +kernel
theorem d_MD_step_135 : decode c_MD_step 135 = .ok (.iload_n 3, 1) := by decide +kernel
theorem d_MD_step_136 : decode c_MD_step 136 = .ok (.iadd, 1) := by decide +kernel
theorem d_MD_step_137 : decode c_MD_step 137 = .ok (.iaload, 1) := by decide +kernel
theorem d_MD_step_138 : decode c_MD_step 138 = .ok (.aload_n 0, 1) := by decide +kernel
theorem d_MD_step_139 : decode c_MD_step 139 = .ok (.getfield 71, 3) := by decide +kernel
theorem d_MD_step_142 : decode c_MD_step 142 = .ok (.iload_n 3, 1) := by decide +kernel
theorem d_MD_step_143 : decode c_MD_step 143 = .ok (.iaload, 1) := by decide +kernel
theorem d_MD_step_144 : decode c_MD_step 144 = .ok (.if_icmp .eq 5, 3) := by decide +kernel
theorem d_MD_step_147 : decode c_MD_step 147 = .ok (.iconst 0, 1) := by decide +kernel
theorem d_MD_step_148 : decode c_MD_step 148 = .ok (.ireturn, 1) := by decide +kernel
theorem d_MD_step_149 : decode c_MD_step 149 = .ok (.iinc 3 1, 3) := by decide +kernel
theorem d_MD_step_152 : decode c_MD_step 152 = .ok (.goto (-29), 3) := by decide +kernel
theorem d_MD_step_155 : decode c_MD_step 155 = .ok (.aload_n 0, 1) := by decide +kernel
theorem d_MD_step_156 : decode c_MD_step 156 = .ok (.getfield 7, 3) := by decide +kernel
theorem d_MD_step_159 : decode c_MD_step 159 = .ok (.iload_n 1, 1) := by decide +kernel
theorem d_MD_step_160 : decode c_MD_step 160 = .ok (.aload_n 0, 1) := by decide +kernel
theorem d_MD_step_161 : decode c_MD_step 161 = .ok (.getfield 26, 3) := by decide +kernel
theorem d_MD_step_164 : decode c_MD_step 164 = .ok (.iload_n 1, 1) := by decide +kernel
theorem d_MD_step_165 : decode c_MD_step 165 = .ok (.iaload, 1) := by decide +kernel
theorem d_MD_step_166 : decode c_MD_step 166 = .ok (.iastore, 1) := by decide +kernel
theorem d_MD_step_167 : decode c_MD_step 167 = .ok (.aload_n 0, 1) := by decide +kernel
theorem d_MD_step_168 : decode c_MD_step 168 = .ok (.iload_n 1, 1) := by decide +kernel
theorem d_MD_step_169 : decode c_MD_step 169 = .ok (.iconst 2, 1) := by decide +kernel
theorem d_MD_step_170 : decode c_MD_step 170 = .ok (.aload_n 0, 1) := by decide +kernel
theorem d_MD_step_171 : decode c_MD_step 171 = .ok (.getfield 7, 3) := by decide +kernel
theorem d_MD_step_174 : decode c_MD_step 174 = .ok (.iload_n 1, 1) := by decide +kernel
theorem d_MD_step_175 : decode c_MD_step 175 = .ok (.iaload, 1) := by decide +kernel
theorem d_MD_step_176 : decode c_MD_step 176 = .ok (.aload_n 0, 1) := by decide +kernel
theorem d_MD_step_177 : decode c_MD_step 177 = .ok (.getfield 41, 3) := by decide +kernel
theorem d_MD_step_180 : decode c_MD_step 180 = .ok (.aload_n 0, 1) := by decide +kernel
theorem d_MD_step_181 : decode c_MD_step 181 = .ok (.getfield 7, 3) := by decide +kernel
theorem d_MD_step_184 : decode c_MD_step 184 = .ok (.iload_n 1, 1) := by decide +kernel
theorem d_MD_step_185 : decode c_MD_step 185 = .ok (.iaload, 1) := by decide +kernel
theorem d_MD_step_186 : decode c_MD_step 186 = .ok (.iaload, 1) := by decide +kernel
theorem d_MD_step_187 : decode c_MD_step 187 = .ok (.aload_n 0, 1) := by decide +kernel
theorem d_MD_step_188 : decode c_MD_step 188 = .ok (.getfield 90, 3) := by decide +kernel
theorem d_MD_step_191 : decode c_MD_step 191 = .ok (.invokevirtual 100, 3) := by decide +kernel
theorem d_MD_step_194 : decode c_MD_step 194 = .ok (.aload_n 0, 1) := by decide +kernel
theorem d_MD_step_195 : decode c_MD_step 195 = .ok (.getfield 26, 3) := by decide +kernel
theorem d_MD_step_198 : decode c_MD_step 198 = .ok (.iload_n 1, 1) := by decide +kernel
theorem d_MD_step_199 : decode c_MD_step 199 = .ok (.iconst 0, 1) := by decide +kernel
theorem d_MD_step_200 : decode c_MD_step 200 = .ok (.iastore, 1) := by decide +kernel
theorem d_MD_step_201 : decode c_MD_step 201 = .ok (.aload_n 0, 1) := by decide +kernel
theorem d_MD_step_202 : decode c_MD_step 202 = .ok (.getfield 23, 3) := by decide +kernel
theorem d_MD_step_205 : decode c_MD_step 205 = .ok (.iload_n 1, 1) := by decide +kernel
theorem d_MD_step_206 : decode c_MD_step 206 = .ok (.iconst 0, 1) := by decide +kernel
theorem d_MD_step_207 : decode c_MD_step 207 = .ok (.bastore, 1) := by decide +kernel
theorem d_MD_step_208 : decode c_MD_step 208 = .ok (.aload_n 0, 1) := by decide +kernel
theorem d_MD_step_209 : decode c_MD_step 209 = .ok (.getfield 32, 3) := by decide +kernel
theorem d_MD_step_212 : decode c_MD_step 212 = .ok (.iload_n 1, 1) := by decide +kernel
theorem d_MD_step_213 : decode c_MD_step 213 = .ok (.iconst 0, 1) := by decide +kernel
theorem d_MD_step_214 : decode c_MD_step 214 = .ok (.iastore, 1) := by decide +kernel
theorem d_MD_step_215 : decode c_MD_step 215 = .ok (.iconst 0, 1) := by decide +kernel
theorem d_MD_step_216 : decode c_MD_step 216 = .ok (.istore_n 3, 1) := by decide +kernel
theorem d_MD_step_217 : decode c_MD_step 217 = .ok (.iload_n 3, 1) := by decide +kernel
theorem d_MD_step_218 : decode c_MD_step 218 = .ok (.iconst 4, 1) := by decide +kernel
theorem d_MD_step_219 : decode c_MD_step 219 = .ok (.if_icmp .ge 20, 3) := by decide +kernel
theorem d_MD_step_222 : decode c_MD_step 222 = .ok (.aload_n 0, 1) := by decide +kernel
theorem d_MD_step_223 : decode c_MD_step 223 = .ok (.getfield 35, 3) := by decide +kernel
theorem d_MD_step_226 : decode c_MD_step 226 = .ok (.iconst 4, 1) := by decide +kernel
theorem d_MD_step_227 : decode c_MD_step 227 = .ok (.iload_n 1, 1) := by decide +kernel
theorem d_MD_step_228 : decode c_MD_step 228 = .ok (.imul, 1) := by decide +kernel
theorem d_MD_step_229 : decode c_MD_step 229 = .ok (.iload_n 3, 1) := by decide +kernel
theorem d_MD_step_230 : decode c_MD_step 230 = .ok (.iadd, 1) := by decide +kernel
theorem d_MD_step_231 : decode c_MD_step 231 = .ok (.iconst 0, 1) := by decide +kernel
theorem d_MD_step_232 : decode c_MD_step 232 = .ok (.iastore, 1) := by decide +kernel
theorem d_MD_step_233 : decode c_MD_step 233 = .ok (.iinc 3 1, 3) := by decide +kernel
theorem d_MD_step_236 : decode c_MD_step 236 = .ok (.goto (-19), 3) := by decide +kernel
theorem d_MD_step_239 : decode c_MD_step 239 = .ok (.iconst 2, 1) := by decide +kernel
theorem d_MD_step_240 : decode c_MD_step 240 = .ok (.ireturn, 1) := by decide +kernel
theorem d_MD_event_0 : decode c_MD_event 0 = .ok (.iload_n 1, 1) := by decide +kernel
theorem d_MD_event_1 : decode c_MD_event 1 = .ok (.iconst 0, 1) := by decide +kernel
theorem d_MD_event_2 : decode c_MD_event 2 = .ok (.iconst 3, 1) := by decide +kernel
theorem d_MD_event_3 : decode c_MD_event 3 = .ok (.invokestatic 74, 3) := by decide +kernel
theorem d_MD_event_6 : decode c_MD_event 6 = .ok (.ifCond .eq 25, 3) := by decide +kernel
theorem d_MD_event_9 : decode c_MD_event 9 = .ok (.iload_n 2, 1) := by decide +kernel
theorem d_MD_event_10 : decode c_MD_event 10 = .ok (.iconst 0, 1) := by decide +kernel
theorem d_MD_event_11 : decode c_MD_event 11 = .ok (.iconst 3, 1) := by decide +kernel
theorem d_MD_event_12 : decode c_MD_event 12 = .ok (.invokestatic 74, 3) := by decide +kernel
theorem d_MD_event_15 : decode c_MD_event 15 = .ok (.ifCond .eq 16, 3) := by decide +kernel
theorem d_MD_event_18 : decode c_MD_event 18 = .ok (.aload_n 0, 1) := by decide +kernel
theorem d_MD_event_19 : decode c_MD_event 19 = .ok (.getfield 38, 3) := by decide +kernel
theorem d_MD_event_22 : decode c_MD_event 22 = .ok (.iconst 4, 1) := by decide +kernel
theorem d_MD_event_23 : decode c_MD_event 23 = .ok (.iload_n 1, 1) := by decide +kernel
theorem d_MD_event_24 : decode c_MD_event 24 = .ok (.imul, 1) := by decide +kernel
theorem d_MD_event_25 : decode c_MD_event 25 = .ok (.iload_n 2, 1) := by decide +kernel
theorem d_MD_event_26 : decode c_MD_event 26 = .ok (.iadd, 1) := by decide +kernel
theorem d_MD_event_27 : decode c_MD_event 27 = .ok (.iaload, 1) := by decide +kernel
theorem d_MD_event_28 : decode c_MD_event 28 = .ok (.goto 4, 3) := by decide +kernel
theorem d_MD_event_31 : decode c_MD_event 31 = .ok (.iconst 0, 1) := by decide +kernel
theorem d_MD_event_32 : decode c_MD_event 32 = .ok (.ireturn, 1) := by decide +kernel
theorem d_MD_view_0 : decode c_MD_view 0 = .ok (.iload_n 1, 1) := by decide +kernel
theorem d_MD_view_1 : decode c_MD_view 1 = .ok (.iconst 0, 1) := by decide +kernel
theorem d_MD_view_2 : decode c_MD_view 2 = .ok (.iconst 3, 1) := by decide +kernel
theorem d_MD_view_3 : decode c_MD_view 3 = .ok (.invokestatic 74, 3) := by decide +kernel
theorem d_MD_view_6 : decode c_MD_view 6 = .ok (.ifCond .eq 12, 3) := by decide +kernel
theorem d_MD_view_9 : decode c_MD_view 9 = .ok (.aload_n 0, 1) := by decide +kernel
theorem d_MD_view_10 : decode c_MD_view 10 = .ok (.getfield 7, 3) := by decide +kernel
theorem d_MD_view_13 : decode c_MD_view 13 = .ok (.iload_n 1, 1) := by decide +kernel
theorem d_MD_view_14 : decode c_MD_view 14 = .ok (.iaload, 1) := by decide +kernel
theorem d_MD_view_15 : decode c_MD_view 15 = .ok (.goto 4, 3) := by decide +kernel
theorem d_MD_view_18 : decode c_MD_view 18 = .ok (.iconst (-1), 1) := by decide +kernel
theorem d_MD_view_19 : decode c_MD_view 19 = .ok (.ireturn, 1) := by decide +kernel
theorem d_MD_members_0 : decode c_MD_members 0 = .ok (.iload_n 1, 1) := by decide +kernel
theorem d_MD_members_1 : decode c_MD_members 1 = .ok (.iconst 1, 1) := by decide +kernel
theorem d_MD_members_2 : decode c_MD_members 2 = .ok (.aload_n 0, 1) := by decide +kernel
theorem d_MD_members_3 : decode c_MD_members 3 = .ok (.getfield 86, 3) := by decide +kernel
theorem d_MD_members_6 : decode c_MD_members 6 = .ok (.invokestatic 74, 3) := by decide +kernel
theorem d_MD_members_9 : decode c_MD_members 9 = .ok (.ifCond .eq 12, 3) := by decide +kernel
theorem d_MD_members_12 : decode c_MD_members 12 = .ok (.aload_n 0, 1) := by decide +kernel
theorem d_MD_members_13 : decode c_MD_members 13 = .ok (.getfield 41, 3) := by decide +kernel
theorem d_MD_members_16 : decode c_MD_members 16 = .ok (.iload_n 1, 1) := by decide +kernel
theorem d_MD_members_17 : decode c_MD_members 17 = .ok (.iaload, 1) := by decide +kernel
theorem d_MD_members_18 : decode c_MD_members 18 = .ok (.goto 4, 3) := by decide +kernel
theorem d_MD_members_21 : decode c_MD_members 21 = .ok (.iconst 0, 1) := by decide +kernel
theorem d_MD_members_22 : decode c_MD_members 22 = .ok (.ireturn, 1) := by decide +kernel
theorem d_MD_start_0 : decode c_MD_start 0 = .ok (.iload_n 1, 1) := by decide +kernel
theorem d_MD_start_1 : decode c_MD_start 1 = .ok (.iconst 1, 1) := by decide +kernel
theorem d_MD_start_2 : decode c_MD_start 2 = .ok (.aload_n 0, 1) := by decide +kernel
theorem d_MD_start_3 : decode c_MD_start 3 = .ok (.getfield 86, 3) := by decide +kernel
theorem d_MD_start_6 : decode c_MD_start 6 = .ok (.invokestatic 74, 3) := by decide +kernel
theorem d_MD_start_9 : decode c_MD_start 9 = .ok (.ifCond .eq 25, 3) := by decide +kernel
theorem d_MD_start_12 : decode c_MD_start 12 = .ok (.iload_n 2, 1) := by decide +kernel
theorem d_MD_start_13 : decode c_MD_start 13 = .ok (.iconst 0, 1) := by decide +kernel
theorem d_MD_start_14 : decode c_MD_start 14 = .ok (.iconst 3, 1) := by decide +kernel
theorem d_MD_start_15 : decode c_MD_start 15 = .ok (.invokestatic 74, 3) := by decide +kernel
theorem d_MD_start_18 : decode c_MD_start 18 = .ok (.ifCond .eq 16, 3) := by decide +kernel
theorem d_MD_start_21 : decode c_MD_start 21 = .ok (.aload_n 0, 1) := by decide +kernel
theorem d_MD_start_22 : decode c_MD_start 22 = .ok (.getfield 44, 3) := by decide +kernel
theorem d_MD_start_25 : decode c_MD_start 25 = .ok (.iconst 4, 1) := by decide +kernel
theorem d_MD_start_26 : decode c_MD_start 26 = .ok (.iload_n 1, 1) := by decide +kernel
theorem d_MD_start_27 : decode c_MD_start 27 = .ok (.imul, 1) := by decide +kernel
theorem d_MD_start_28 : decode c_MD_start 28 = .ok (.iload_n 2, 1) := by decide +kernel
theorem d_MD_start_29 : decode c_MD_start 29 = .ok (.iadd, 1) := by decide +kernel
theorem d_MD_start_30 : decode c_MD_start 30 = .ok (.iaload, 1) := by decide +kernel
theorem d_MD_start_31 : decode c_MD_start 31 = .ok (.goto 4, 3) := by decide +kernel
theorem d_MD_start_34 : decode c_MD_start 34 = .ok (.iconst 0, 1) := by decide +kernel
theorem d_MD_start_35 : decode c_MD_start 35 = .ok (.ireturn, 1) := by decide +kernel
theorem d_MD_blocked_0 : decode c_MD_blocked 0 = .ok (.iload_n 1, 1) := by decide +kernel
theorem d_MD_blocked_1 : decode c_MD_blocked 1 = .ok (.iconst 0, 1) := by decide +kernel
theorem d_MD_blocked_2 : decode c_MD_blocked 2 = .ok (.iconst 3, 1) := by decide +kernel
theorem d_MD_blocked_3 : decode c_MD_blocked 3 = .ok (.invokestatic 74, 3) := by decide +kernel
theorem d_MD_blocked_6 : decode c_MD_blocked 6 = .ok (.ifCond .eq 16, 3) := by decide +kernel
theorem d_MD_blocked_9 : decode c_MD_blocked 9 = .ok (.aload_n 0, 1) := by decide +kernel
theorem d_MD_blocked_10 : decode c_MD_blocked 10 = .ok (.getfield 23, 3) := by decide +kernel
theorem d_MD_blocked_13 : decode c_MD_blocked 13 = .ok (.iload_n 1, 1) := by decide +kernel
theorem d_MD_blocked_14 : decode c_MD_blocked 14 = .ok (.baload, 1) := by decide +kernel
theorem d_MD_blocked_15 : decode c_MD_blocked 15 = .ok (.ifCond .eq 7, 3) := by decide +kernel
theorem d_MD_blocked_18 : decode c_MD_blocked 18 = .ok (.iconst 1, 1) := by decide +kernel
theorem d_MD_blocked_19 : decode c_MD_blocked 19 = .ok (.goto 4, 3) := by decide +kernel
theorem d_MD_blocked_22 : decode c_MD_blocked 22 = .ok (.iconst 0, 1) := by decide +kernel
theorem d_MD_blocked_23 : decode c_MD_blocked 23 = .ok (.ireturn, 1) := by decide +kernel
theorem d_MD_pending_0 : decode c_MD_pending 0 = .ok (.iload_n 1, 1) := by decide +kernel
theorem d_MD_pending_1 : decode c_MD_pending 1 = .ok (.iconst 0, 1) := by decide +kernel
theorem d_MD_pending_2 : decode c_MD_pending 2 = .ok (.iconst 3, 1) := by decide +kernel
theorem d_MD_pending_3 : decode c_MD_pending 3 = .ok (.invokestatic 74, 3) := by decide +kernel
theorem d_MD_pending_6 : decode c_MD_pending 6 = .ok (.ifCond .eq 12, 3) := by decide +kernel
theorem d_MD_pending_9 : decode c_MD_pending 9 = .ok (.aload_n 0, 1) := by decide +kernel
theorem d_MD_pending_10 : decode c_MD_pending 10 = .ok (.getfield 26, 3) := by decide +kernel
theorem d_MD_pending_13 : decode c_MD_pending 13 = .ok (.iload_n 1, 1) := by decide +kernel
theorem d_MD_pending_14 : decode c_MD_pending 14 = .ok (.iaload, 1) := by decide +kernel
theorem d_MD_pending_15 : decode c_MD_pending 15 = .ok (.goto 4, 3) := by decide +kernel
theorem d_MD_pending_18 : decode c_MD_pending 18 = .ok (.iconst (-1), 1) := by decide +kernel
theorem d_MD_pending_19 : decode c_MD_pending 19 = .ok (.ireturn, 1) := by decide +kernel
theorem d_MD_changes_0 : decode c_MD_changes 0 = .ok (.iload_n 1, 1) := by decide +kernel
theorem d_MD_changes_1 : decode c_MD_changes 1 = .ok (.iconst 0, 1) := by decide +kernel
theorem d_MD_changes_2 : decode c_MD_changes 2 = .ok (.iconst 3, 1) := by decide +kernel
theorem d_MD_changes_3 : decode c_MD_changes 3 = .ok (.invokestatic 74, 3) := by decide +kernel
theorem d_MD_changes_6 : decode c_MD_changes 6 = .ok (.ifCond .eq 12, 3) := by decide +kernel
theorem d_MD_changes_9 : decode c_MD_changes 9 = .ok (.aload_n 0, 1) := by decide +kernel
theorem d_MD_changes_10 : decode c_MD_changes 10 = .ok (.getfield 13, 3) := by decide +kernel
theorem d_MD_changes_13 : decode c_MD_changes 13 = .ok (.iload_n 1, 1) := by decide +kernel
theorem d_MD_changes_14 : decode c_MD_changes 14 = .ok (.iaload, 1) := by decide +kernel
theorem d_MD_changes_15 : decode c_MD_changes 15 = .ok (.goto 4, 3) := by decide +kernel
theorem d_MD_changes_18 : decode c_MD_changes 18 = .ok (.iconst (-1), 1) := by decide +kernel
theorem d_MD_changes_19 : decode c_MD_changes 19 = .ok (.ireturn, 1) := by decide +kernel
theorem d_MD_sent_0 : decode c_MD_sent 0 = .ok (.iload_n 1, 1) := by decide +kernel
theorem d_MD_sent_1 : decode c_MD_sent 1 = .ok (.iconst 0, 1) := by decide +kernel
theorem d_MD_sent_2 : decode c_MD_sent 2 = .ok (.iconst 3, 1) := by decide +kernel
theorem d_MD_sent_3 : decode c_MD_sent 3 = .ok (.invokestatic 74, 3) := by decide +kernel
theorem d_MD_sent_6 : decode c_MD_sent 6 = .ok (.ifCond .eq 12, 3) := by decide +kernel
theorem d_MD_sent_9 : decode c_MD_sent 9 = .ok (.aload_n 0, 1) := by decide +kernel
theorem d_MD_sent_10 : decode c_MD_sent 10 = .ok (.getfield 32, 3) := by decide +kernel
theorem d_MD_sent_13 : decode c_MD_sent 13 = .ok (.iload_n 1, 1) := by decide +kernel
theorem d_MD_sent_14 : decode c_MD_sent 14 = .ok (.iaload, 1) := by decide +kernel
theorem d_MD_sent_15 : decode c_MD_sent 15 = .ok (.goto 4, 3) := by decide +kernel
theorem d_MD_sent_18 : decode c_MD_sent 18 = .ok (.iconst (-1), 1) := by decide +kernel
theorem d_MD_sent_19 : decode c_MD_sent 19 = .ok (.ireturn, 1) := by decide +kernel
theorem d_MD_delivered_0 : decode c_MD_delivered 0 = .ok (.iload_n 1, 1) := by decide +kernel
theorem d_MD_delivered_1 : decode c_MD_delivered 1 = .ok (.iconst 0, 1) := by decide +kernel
theorem d_MD_delivered_2 : decode c_MD_delivered 2 = .ok (.iconst 3, 1) := by decide +kernel
theorem d_MD_delivered_3 : decode c_MD_delivered 3 = .ok (.invokestatic 74, 3) := by decide +kernel
theorem d_MD_delivered_6 : decode c_MD_delivered 6 = .ok (.ifCond .eq 25, 3) := by decide +kernel
theorem d_MD_delivered_9 : decode c_MD_delivered 9 = .ok (.iload_n 2, 1) := by decide +kernel
theorem d_MD_delivered_10 : decode c_MD_delivered 10 = .ok (.iconst 0, 1) := by decide +kernel
theorem d_MD_delivered_11 : decode c_MD_delivered 11 = .ok (.iconst 3, 1) := by decide +kernel
theorem d_MD_delivered_12 : decode c_MD_delivered 12 = .ok (.invokestatic 74, 3) := by decide +kernel
theorem d_MD_delivered_15 : decode c_MD_delivered 15 = .ok (.ifCond .eq 16, 3) := by decide +kernel
theorem d_MD_delivered_18 : decode c_MD_delivered 18 = .ok (.aload_n 0, 1) := by decide +kernel
theorem d_MD_delivered_19 : decode c_MD_delivered 19 = .ok (.getfield 35, 3) := by decide +kernel
theorem d_MD_delivered_22 : decode c_MD_delivered 22 = .ok (.iconst 4, 1) := by decide +kernel
theorem d_MD_delivered_23 : decode c_MD_delivered 23 = .ok (.iload_n 1, 1) := by decide +kernel
theorem d_MD_delivered_24 : decode c_MD_delivered 24 = .ok (.imul, 1) := by decide +kernel
theorem d_MD_delivered_25 : decode c_MD_delivered 25 = .ok (.iload_n 2, 1) := by decide +kernel
theorem d_MD_delivered_26 : decode c_MD_delivered 26 = .ok (.iadd, 1) := by decide +kernel
theorem d_MD_delivered_27 : decode c_MD_delivered 27 = .ok (.iaload, 1) := by decide +kernel
theorem d_MD_delivered_28 : decode c_MD_delivered 28 = .ok (.goto 4, 3) := by decide +kernel
theorem d_MD_delivered_31 : decode c_MD_delivered 31 = .ok (.iconst (-1), 1) := by decide +kernel
theorem d_MD_delivered_32 : decode c_MD_delivered 32 = .ok (.ireturn, 1) := by decide +kernel
theorem d_MD_known_0 : decode c_MD_known 0 = .ok (.iload_n 1, 1) := by decide +kernel
theorem d_MD_known_1 : decode c_MD_known 1 = .ok (.iconst 0, 1) := by decide +kernel
theorem d_MD_known_2 : decode c_MD_known 2 = .ok (.iconst 3, 1) := by decide +kernel
theorem d_MD_known_3 : decode c_MD_known 3 = .ok (.invokestatic 74, 3) := by decide +kernel
theorem d_MD_known_6 : decode c_MD_known 6 = .ok (.ifCond .eq 12, 3) := by decide +kernel
theorem d_MD_known_9 : decode c_MD_known 9 = .ok (.iload_n 2, 1) := by decide +kernel
theorem d_MD_known_10 : decode c_MD_known 10 = .ok (.iconst 0, 1) := by decide +kernel
theorem d_MD_known_11 : decode c_MD_known 11 = .ok (.iconst 3, 1) := by decide +kernel
theorem d_MD_known_12 : decode c_MD_known 12 = .ok (.invokestatic 74, 3) := by decide +kernel
theorem d_MD_known_15 : decode c_MD_known 15 = .ok (.ifCond .ne 5, 3) := by decide +kernel
theorem d_MD_known_18 : decode c_MD_known 18 = .ok (.iconst (-1), 1) := by decide +kernel
theorem d_MD_known_19 : decode c_MD_known 19 = .ok (.ireturn, 1) := by decide +kernel
theorem d_MD_known_20 : decode c_MD_known 20 = .ok (.iconst 0, 1) := by decide +kernel
theorem d_MD_known_21 : decode c_MD_known 21 = .ok (.istore_n 3, 1) := by decide +kernel
theorem d_MD_known_22 : decode c_MD_known 22 = .ok (.iconst 0, 1) := by decide +kernel
theorem d_MD_known_23 : decode c_MD_known 23 = .ok (.istore 4, 2) := by decide +kernel
theorem d_MD_known_25 : decode c_MD_known 25 = .ok (.iload 4, 2) := by decide +kernel
theorem d_MD_known_27 : decode c_MD_known 27 = .ok (.iconst 4, 1) := by decide +kernel
theorem d_MD_known_28 : decode c_MD_known 28 = .ok (.if_icmp .ge 42, 3) := by decide +kernel
theorem d_MD_known_31 : decode c_MD_known 31 = .ok (.aload_n 0, 1) := by decide +kernel
theorem d_MD_known_32 : decode c_MD_known 32 = .ok (.getfield 53, 3) := by decide +kernel
theorem d_MD_known_35 : decode c_MD_known 35 = .ok (.sipush 256, 3) := by decide +kernel
theorem d_MD_known_38 : decode c_MD_known 38 = .ok (.iload_n 1, 1) := by decide +kernel
theorem d_MD_known_39 : decode c_MD_known 39 = .ok (.imul, 1) := by decide +kernel
theorem d_MD_known_40 : decode c_MD_known 40 = .ok (.bipush 16, 2) := by decide +kernel
theorem d_MD_known_42 : decode c_MD_known 42 = .ok (.aload_n 0, 1) := by decide +kernel
theorem d_MD_known_43 : decode c_MD_known 43 = .ok (.getfield 7, 3) := by decide +kernel
theorem d_MD_known_46 : decode c_MD_known 46 = .ok (.iload_n 1, 1) := by decide +kernel
theorem d_MD_known_47 : decode c_MD_known 47 = .ok (.iaload, 1) := by decide +kernel
theorem d_MD_known_48 : decode c_MD_known 48 = .ok (.imul, 1) := by decide +kernel
theorem d_MD_known_49 : decode c_MD_known 49 = .ok (.iadd, 1) := by decide +kernel
theorem d_MD_known_50 : decode c_MD_known 50 = .ok (.iconst 4, 1) := by decide +kernel
theorem d_MD_known_51 : decode c_MD_known 51 = .ok (.iload_n 2, 1) := by decide +kernel
theorem d_MD_known_52 : decode c_MD_known 52 = .ok (.imul, 1) := by decide +kernel
theorem d_MD_known_53 : decode c_MD_known 53 = .ok (.iadd, 1) := by decide +kernel
theorem d_MD_known_54 : decode c_MD_known 54 = .ok (.iload 4, 2) := by decide +kernel
theorem d_MD_known_56 : decode c_MD_known 56 = .ok (.iadd, 1) := by decide +kernel
theorem d_MD_known_57 : decode c_MD_known 57 = .ok (.baload, 1) := by decide +kernel
theorem d_MD_known_58 : decode c_MD_known 58 = .ok (.ifCond .eq 6, 3) := by decide +kernel
theorem d_MD_known_61 : decode c_MD_known 61 = .ok (.iinc 3 1, 3) := by decide +kernel
theorem d_MD_known_64 : decode c_MD_known 64 = .ok (.iinc 4 1, 3) := by decide +kernel
theorem d_MD_known_67 : decode c_MD_known 67 = .ok (.goto (-42), 3) := by decide +kernel
theorem d_MD_known_70 : decode c_MD_known 70 = .ok (.iload_n 3, 1) := by decide +kernel
theorem d_MD_known_71 : decode c_MD_known 71 = .ok (.ireturn, 1) := by decide +kernel
theorem d_MD_waiting_0 : decode c_MD_waiting 0 = .ok (.iload_n 1, 1) := by decide +kernel
theorem d_MD_waiting_1 : decode c_MD_waiting 1 = .ok (.iconst 0, 1) := by decide +kernel
theorem d_MD_waiting_2 : decode c_MD_waiting 2 = .ok (.iconst 3, 1) := by decide +kernel
theorem d_MD_waiting_3 : decode c_MD_waiting 3 = .ok (.invokestatic 74, 3) := by decide +kernel
theorem d_MD_waiting_6 : decode c_MD_waiting 6 = .ok (.ifCond .eq 30, 3) := by decide +kernel
theorem d_MD_waiting_9 : decode c_MD_waiting 9 = .ok (.iload_n 2, 1) := by decide +kernel
theorem d_MD_waiting_10 : decode c_MD_waiting 10 = .ok (.iconst 0, 1) := by decide +kernel
theorem d_MD_waiting_11 : decode c_MD_waiting 11 = .ok (.iconst 3, 1) := by decide +kernel
theorem d_MD_waiting_12 : decode c_MD_waiting 12 = .ok (.invokestatic 74, 3) := by decide +kernel
theorem d_MD_waiting_15 : decode c_MD_waiting 15 = .ok (.ifCond .eq 21, 3) := by decide +kernel
theorem d_MD_waiting_18 : decode c_MD_waiting 18 = .ok (.iload_n 1, 1) := by decide +kernel
theorem d_MD_waiting_19 : decode c_MD_waiting 19 = .ok (.iload_n 2, 1) := by decide +kernel
theorem d_MD_waiting_20 : decode c_MD_waiting 20 = .ok (.if_icmp .eq 16, 3) := by decide +kernel
theorem d_MD_waiting_23 : decode c_MD_waiting 23 = .ok (.aload_n 0, 1) := by decide +kernel
theorem d_MD_waiting_24 : decode c_MD_waiting 24 = .ok (.getfield 68, 3) := by decide +kernel
theorem d_MD_waiting_27 : decode c_MD_waiting 27 = .ok (.iconst 4, 1) := by decide +kernel
theorem d_MD_waiting_28 : decode c_MD_waiting 28 = .ok (.iload_n 1, 1) := by decide +kernel
theorem d_MD_waiting_29 : decode c_MD_waiting 29 = .ok (.imul, 1) := by decide +kernel
theorem d_MD_waiting_30 : decode c_MD_waiting 30 = .ok (.iload_n 2, 1) := by decide +kernel
theorem d_MD_waiting_31 : decode c_MD_waiting 31 = .ok (.iadd, 1) := by decide +kernel
theorem d_MD_waiting_32 : decode c_MD_waiting 32 = .ok (.iaload, 1) := by decide +kernel
theorem d_MD_waiting_33 : decode c_MD_waiting 33 = .ok (.goto 4, 3) := by decide +kernel
theorem d_MD_waiting_36 : decode c_MD_waiting 36 = .ok (.iconst (-1), 1) := by decide +kernel
theorem d_MD_waiting_37 : decode c_MD_waiting 37 = .ok (.ireturn, 1) := by decide +kernel
