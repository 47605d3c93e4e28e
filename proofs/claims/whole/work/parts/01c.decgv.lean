theorem d_GV_init_0 : decode c_GV_init 0 = .ok (.aload_n 0, 1) := by decide +kernel
theorem d_GV_init_1 : decode c_GV_init 1 = .ok (.invokespecial 3, 3) := by decide +kernel
theorem d_GV_init_4 : decode c_GV_init 4 = .ok (.aload_n 0, 1) := by decide +kernel
theorem d_GV_init_5 : decode c_GV_init 5 = .ok (.iconst 4, 1) := by decide +kernel
theorem d_GV_init_6 : decode c_GV_init 6 = .ok (.anewarray 9, 3) := by decide +kernel
theorem d_GV_init_9 : decode c_GV_init 9 = .ok (.putfield 11, 3) := by decide +kernel
theorem d_GV_init_12 : decode c_GV_init 12 = .ok (.aload_n 0, 1) := by decide +kernel
theorem d_GV_init_13 : decode c_GV_init 13 = .ok (.bipush 16, 2) := by decide +kernel
theorem d_GV_init_15 : decode c_GV_init 15 = .ok (.anewarray 15, 3) := by decide +kernel
theorem d_GV_init_18 : decode c_GV_init 18 = .ok (.putfield 17, 3) := by decide +kernel
theorem d_GV_init_21 : decode c_GV_init 21 = .ok (.aload_n 0, 1) := by decide +kernel
theorem d_GV_init_22 : decode c_GV_init 22 = .ok (.bipush 16, 2) := by decide +kernel
theorem d_GV_init_24 : decode c_GV_init 24 = .ok (.newarray .int, 2) := by decide +kernel
theorem d_GV_init_26 : decode c_GV_init 26 = .ok (.putfield 21, 3) := by decide +kernel
theorem d_GV_init_29 : decode c_GV_init 29 = .ok (.aload_n 0, 1) := by decide +kernel
theorem d_GV_init_30 : decode c_GV_init 30 = .ok (.bipush 64, 2) := by decide +kernel
theorem d_GV_init_32 : decode c_GV_init 32 = .ok (.newarray .int, 2) := by decide +kernel
theorem d_GV_init_34 : decode c_GV_init 34 = .ok (.putfield 25, 3) := by decide +kernel
theorem d_GV_init_37 : decode c_GV_init 37 = .ok (.iconst 0, 1) := by decide +kernel
theorem d_GV_init_38 : decode c_GV_init 38 = .ok (.istore_n 1, 1) := by decide +kernel
theorem d_GV_init_39 : decode c_GV_init 39 = .ok (.iload_n 1, 1) := by decide +kernel
theorem d_GV_init_40 : decode c_GV_init 40 = .ok (.iconst 4, 1) := by decide +kernel
theorem d_GV_init_41 : decode c_GV_init 41 = .ok (.if_icmp .ge 22, 3) := by decide +kernel
theorem d_GV_init_44 : decode c_GV_init 44 = .ok (.aload_n 0, 1) := by decide +kernel
theorem d_GV_init_45 : decode c_GV_init 45 = .ok (.getfield 11, 3) := by decide +kernel
theorem d_GV_init_48 : decode c_GV_init 48 = .ok (.iload_n 1, 1) := by decide +kernel
theorem d_GV_init_49 : decode c_GV_init 49 = .ok (.new 9, 3) := by decide +kernel
theorem d_GV_init_52 : decode c_GV_init 52 = .ok (.dup, 1) := by decide +kernel
theorem d_GV_init_53 : decode c_GV_init 53 = .ok (.invokespecial 28, 3) := by decide +kernel
theorem d_GV_init_56 : decode c_GV_init 56 = .ok (.aastore, 1) := by decide +kernel
theorem d_GV_init_57 : decode c_GV_init 57 = .ok (.iinc 1 1, 3) := by decide +kernel
theorem d_GV_init_60 : decode c_GV_init 60 = .ok (.goto (-21), 3) := by decide +kernel
theorem d_GV_init_63 : decode c_GV_init 63 = .ok (.iconst 0, 1) := by decide +kernel
theorem d_GV_init_64 : decode c_GV_init 64 = .ok (.istore_n 1, 1) := by decide +kernel
theorem d_GV_init_65 : decode c_GV_init 65 = .ok (.iload_n 1, 1) := by decide +kernel
theorem d_GV_init_66 : decode c_GV_init 66 = .ok (.aload_n 0, 1) := by decide +kernel
theorem d_GV_init_67 : decode c_GV_init 67 = .ok (.getfield 17, 3) := by decide +kernel
theorem d_GV_init_70 : decode c_GV_init 70 = .ok (.arraylength, 1) := by decide +kernel
theorem d_GV_init_71 : decode c_GV_init 71 = .ok (.if_icmp .ge 22, 3) := by decide +kernel
theorem d_GV_init_74 : decode c_GV_init 74 = .ok (.aload_n 0, 1) := by decide +kernel
theorem d_GV_init_75 : decode c_GV_init 75 = .ok (.getfield 17, 3) := by decide +kernel
theorem d_GV_init_78 : decode c_GV_init 78 = .ok (.iload_n 1, 1) := by decide +kernel
theorem d_GV_init_79 : decode c_GV_init 79 = .ok (.new 15, 3) := by decide +kernel
theorem d_GV_init_82 : decode c_GV_init 82 = .ok (.dup, 1) := by decide +kernel
theorem d_GV_init_83 : decode c_GV_init 83 = .ok (.invokespecial 29, 3) := by decide +kernel
theorem d_GV_init_86 : decode c_GV_init 86 = .ok (.aastore, 1) := by decide +kernel
theorem d_GV_init_87 : decode c_GV_init 87 = .ok (.iinc 1 1, 3) := by decide +kernel
theorem d_GV_init_90 : decode c_GV_init 90 = .ok (.goto (-25), 3) := by decide +kernel
theorem d_GV_init_93 : decode c_GV_init 93 = .ok (.return_, 1) := by decide +kernel
theorem d_GV_send_0 : decode c_GV_send 0 = .ok (.iload_n 1, 1) := by decide +kernel
theorem d_GV_send_1 : decode c_GV_send 1 = .ok (.invokestatic 30, 3) := by decide +kernel
theorem d_GV_send_4 : decode c_GV_send 4 = .ok (.ifCond .ne 5, 3) := by decide +kernel
theorem d_GV_send_7 : decode c_GV_send 7 = .ok (.iconst (-1), 1) := by decide +kernel
theorem d_GV_send_8 : decode c_GV_send 8 = .ok (.ireturn, 1) := by decide +kernel
theorem d_GV_send_9 : decode c_GV_send 9 = .ok (.aload_n 0, 1) := by decide +kernel
theorem d_GV_send_10 : decode c_GV_send 10 = .ok (.getfield 11, 3) := by decide +kernel
theorem d_GV_send_13 : decode c_GV_send 13 = .ok (.iload_n 1, 1) := by decide +kernel
theorem d_GV_send_14 : decode c_GV_send 14 = .ok (.aaload, 1) := by decide +kernel
theorem d_GV_send_15 : decode c_GV_send 15 = .ok (.astore_n 3, 1) := by decide +kernel
theorem d_GV_send_16 : decode c_GV_send 16 = .ok (.aload_n 3, 1) := by decide +kernel
theorem d_GV_send_17 : decode c_GV_send 17 = .ok (.getfield 34, 3) := by decide +kernel
theorem d_GV_send_20 : decode c_GV_send 20 = .ok (.ifCond .eq 6, 3) := by decide +kernel
theorem d_GV_send_23 : decode c_GV_send 23 = .ok (.bipush (-2), 2) := by decide +kernel
theorem d_GV_send_25 : decode c_GV_send 25 = .ok (.ireturn, 1) := by decide +kernel
theorem d_GV_send_26 : decode c_GV_send 26 = .ok (.aload_n 3, 1) := by decide +kernel
theorem d_GV_send_27 : decode c_GV_send 27 = .ok (.getfield 38, 3) := by decide +kernel
theorem d_GV_send_30 : decode c_GV_send 30 = .ok (.iconst 4, 1) := by decide +kernel
theorem d_GV_send_31 : decode c_GV_send 31 = .ok (.if_icmp .lt 6, 3) := by decide +kernel
theorem d_GV_send_34 : decode c_GV_send 34 = .ok (.bipush (-3), 2) := by decide +kernel
theorem d_GV_send_36 : decode c_GV_send 36 = .ok (.ireturn, 1) := by decide +kernel
theorem d_GV_send_37 : decode c_GV_send 37 = .ok (.aload_n 3, 1) := by decide +kernel
theorem d_GV_send_38 : decode c_GV_send 38 = .ok (.dup, 1) := by decide +kernel
theorem d_GV_send_39 : decode c_GV_send 39 = .ok (.getfield 38, 3) := by decide +kernel
theorem d_GV_send_42 : decode c_GV_send 42 = .ok (.iconst 1, 1) := by decide +kernel
theorem d_GV_send_43 : decode c_GV_send 43 = .ok (.iadd, 1) := by decide +kernel
theorem d_GV_send_44 : decode c_GV_send 44 = .ok (.putfield 38, 3) := by decide +kernel
theorem d_GV_send_47 : decode c_GV_send 47 = .ok (.aload_n 3, 1) := by decide +kernel
theorem d_GV_send_48 : decode c_GV_send 48 = .ok (.getfield 42, 3) := by decide +kernel
theorem d_GV_send_51 : decode c_GV_send 51 = .ok (.aload_n 3, 1) := by decide +kernel
theorem d_GV_send_52 : decode c_GV_send 52 = .ok (.getfield 38, 3) := by decide +kernel
theorem d_GV_send_55 : decode c_GV_send 55 = .ok (.invokestatic 45, 3) := by decide +kernel
theorem d_GV_send_58 : decode c_GV_send 58 = .ok (.istore 4, 2) := by decide +kernel
theorem d_GV_send_60 : decode c_GV_send 60 = .ok (.aload_n 3, 1) := by decide +kernel
theorem d_GV_send_61 : decode c_GV_send 61 = .ok (.getfield 49, 3) := by decide +kernel
theorem d_GV_send_64 : decode c_GV_send 64 = .ok (.iload 4, 2) := by decide +kernel
theorem d_GV_send_66 : decode c_GV_send 66 = .ok (.iload_n 2, 1) := by decide +kernel
theorem d_GV_send_67 : decode c_GV_send 67 = .ok (.iastore, 1) := by decide +kernel
theorem d_GV_send_68 : decode c_GV_send 68 = .ok (.aload_n 3, 1) := by decide +kernel
theorem d_GV_send_69 : decode c_GV_send 69 = .ok (.getfield 52, 3) := by decide +kernel
theorem d_GV_send_72 : decode c_GV_send 72 = .ok (.iload 4, 2) := by decide +kernel
theorem d_GV_send_74 : decode c_GV_send 74 = .ok (.aload_n 3, 1) := by decide +kernel
theorem d_GV_send_75 : decode c_GV_send 75 = .ok (.getfield 55, 3) := by decide +kernel
theorem d_GV_send_78 : decode c_GV_send 78 = .ok (.iload_n 1, 1) := by decide +kernel
theorem d_GV_send_79 : decode c_GV_send 79 = .ok (.iconst 0, 1) := by decide +kernel
theorem d_GV_send_80 : decode c_GV_send 80 = .ok (.invokestatic 58, 3) := by decide +kernel
theorem d_GV_send_83 : decode c_GV_send 83 = .ok (.iastore, 1) := by decide +kernel
theorem d_GV_send_84 : decode c_GV_send 84 = .ok (.aload_n 3, 1) := by decide +kernel
theorem d_GV_send_85 : decode c_GV_send 85 = .ok (.aload_n 3, 1) := by decide +kernel
theorem d_GV_send_86 : decode c_GV_send 86 = .ok (.getfield 42, 3) := by decide +kernel
theorem d_GV_send_89 : decode c_GV_send 89 = .ok (.iload_n 1, 1) := by decide +kernel
theorem d_GV_send_90 : decode c_GV_send 90 = .ok (.aload_n 3, 1) := by decide +kernel
theorem d_GV_send_91 : decode c_GV_send 91 = .ok (.getfield 38, 3) := by decide +kernel
theorem d_GV_send_94 : decode c_GV_send 94 = .ok (.invokevirtual 62, 3) := by decide +kernel
theorem d_GV_send_97 : decode c_GV_send 97 = .ok (.aload_n 0, 1) := by decide +kernel
theorem d_GV_send_98 : decode c_GV_send 98 = .ok (.iload_n 1, 1) := by decide +kernel
theorem d_GV_send_99 : decode c_GV_send 99 = .ok (.aload_n 0, 1) := by decide +kernel
theorem d_GV_send_100 : decode c_GV_send 100 = .ok (.iload_n 1, 1) := by decide +kernel
theorem d_GV_send_101 : decode c_GV_send 101 = .ok (.invokevirtual 66, 3) := by decide +kernel
theorem d_GV_send_104 : decode c_GV_send 104 = .ok (.iload 4, 2) := by decide +kernel
theorem d_GV_send_106 : decode c_GV_send 106 = .ok (.invokevirtual 70, 3) := by decide +kernel
theorem d_GV_send_109 : decode c_GV_send 109 = .ok (.aload_n 3, 1) := by decide +kernel
theorem d_GV_send_110 : decode c_GV_send 110 = .ok (.getfield 38, 3) := by decide +kernel
theorem d_GV_send_113 : decode c_GV_send 113 = .ok (.ireturn, 1) := by decide +kernel
theorem d_GV_change_0 : decode c_GV_change 0 = .ok (.iload_n 1, 1) := by decide +kernel
theorem d_GV_change_1 : decode c_GV_change 1 = .ok (.invokestatic 30, 3) := by decide +kernel
theorem d_GV_change_4 : decode c_GV_change 4 = .ok (.ifCond .ne 5, 3) := by decide +kernel
theorem d_GV_change_7 : decode c_GV_change 7 = .ok (.iconst (-1), 1) := by decide +kernel
theorem d_GV_change_8 : decode c_GV_change 8 = .ok (.ireturn, 1) := by decide +kernel
theorem d_GV_change_9 : decode c_GV_change 9 = .ok (.iload_n 2, 1) := by decide +kernel
theorem d_GV_change_10 : decode c_GV_change 10 = .ok (.invokestatic 73, 3) := by decide +kernel
theorem d_GV_change_13 : decode c_GV_change 13 = .ok (.ifCond .eq 11, 3) := by decide +kernel
theorem d_GV_change_16 : decode c_GV_change 16 = .ok (.iload_n 2, 1) := by decide +kernel
theorem d_GV_change_17 : decode c_GV_change 17 = .ok (.iload_n 1, 1) := by decide +kernel
theorem d_GV_change_18 : decode c_GV_change 18 = .ok (.invokestatic 76, 3) := by decide +kernel
theorem d_GV_change_21 : decode c_GV_change 21 = .ok (.ifCond .ne 6, 3) := by decide +kernel
theorem d_GV_change_24 : decode c_GV_change 24 = .ok (.bipush (-2), 2) := by decide +kernel
theorem d_GV_change_26 : decode c_GV_change 26 = .ok (.ireturn, 1) := by decide +kernel
theorem d_GV_change_27 : decode c_GV_change 27 = .ok (.aload_n 0, 1) := by decide +kernel
theorem d_GV_change_28 : decode c_GV_change 28 = .ok (.getfield 11, 3) := by decide +kernel
theorem d_GV_change_31 : decode c_GV_change 31 = .ok (.iload_n 1, 1) := by decide +kernel
theorem d_GV_change_32 : decode c_GV_change 32 = .ok (.aaload, 1) := by decide +kernel
theorem d_GV_change_33 : decode c_GV_change 33 = .ok (.astore_n 3, 1) := by decide +kernel
theorem d_GV_change_34 : decode c_GV_change 34 = .ok (.aload_n 3, 1) := by decide +kernel
theorem d_GV_change_35 : decode c_GV_change 35 = .ok (.getfield 80, 3) := by decide +kernel
theorem d_GV_change_38 : decode c_GV_change 38 = .ok (.bipush 15, 2) := by decide +kernel
theorem d_GV_change_40 : decode c_GV_change 40 = .ok (.if_icmp .lt 6, 3) := by decide +kernel
theorem d_GV_change_43 : decode c_GV_change 43 = .ok (.bipush (-3), 2) := by decide +kernel
theorem d_GV_change_45 : decode c_GV_change 45 = .ok (.ireturn, 1) := by decide +kernel
theorem d_GV_change_46 : decode c_GV_change 46 = .ok (.aload_n 3, 1) := by decide +kernel
theorem d_GV_change_47 : decode c_GV_change 47 = .ok (.dup, 1) := by decide +kernel
theorem d_GV_change_48 : decode c_GV_change 48 = .ok (.getfield 80, 3) := by decide +kernel
theorem d_GV_change_51 : decode c_GV_change 51 = .ok (.iconst 1, 1) := by decide +kernel
theorem d_GV_change_52 : decode c_GV_change 52 = .ok (.iadd, 1) := by decide +kernel
theorem d_GV_change_53 : decode c_GV_change 53 = .ok (.putfield 80, 3) := by decide +kernel
theorem d_GV_change_56 : decode c_GV_change 56 = .ok (.aload_n 3, 1) := by decide +kernel
theorem d_GV_change_57 : decode c_GV_change 57 = .ok (.iload_n 2, 1) := by decide +kernel
theorem d_GV_change_58 : decode c_GV_change 58 = .ok (.putfield 83, 3) := by decide +kernel
theorem d_GV_change_61 : decode c_GV_change 61 = .ok (.aload_n 3, 1) := by decide +kernel
theorem d_GV_change_62 : decode c_GV_change 62 = .ok (.iconst 1, 1) := by decide +kernel
theorem d_GV_change_63 : decode c_GV_change 63 = .ok (.putfield 34, 3) := by decide +kernel
theorem d_GV_change_66 : decode c_GV_change 66 = .ok (.aload_n 3, 1) := by decide +kernel
theorem d_GV_change_67 : decode c_GV_change 67 = .ok (.iconst 1, 1) := by decide +kernel
theorem d_GV_change_68 : decode c_GV_change 68 = .ok (.putfield 86, 3) := by decide +kernel
theorem d_GV_change_71 : decode c_GV_change 71 = .ok (.aload_n 3, 1) := by decide +kernel
theorem d_GV_change_72 : decode c_GV_change 72 = .ok (.iconst 0, 1) := by decide +kernel
theorem d_GV_change_73 : decode c_GV_change 73 = .ok (.putfield 89, 3) := by decide +kernel
theorem d_GV_change_76 : decode c_GV_change 76 = .ok (.aload_n 3, 1) := by decide +kernel
theorem d_GV_change_77 : decode c_GV_change 77 = .ok (.getfield 92, 3) := by decide +kernel
theorem d_GV_change_80 : decode c_GV_change 80 = .ok (.aload_n 3, 1) := by decide +kernel
theorem d_GV_change_81 : decode c_GV_change 81 = .ok (.getfield 80, 3) := by decide +kernel
theorem d_GV_change_84 : decode c_GV_change 84 = .ok (.aload_n 3, 1) := by decide +kernel
theorem d_GV_change_85 : decode c_GV_change 85 = .ok (.getfield 42, 3) := by decide +kernel
theorem d_GV_change_88 : decode c_GV_change 88 = .ok (.iastore, 1) := by decide +kernel
theorem d_GV_change_89 : decode c_GV_change 89 = .ok (.aload_n 3, 1) := by decide +kernel
theorem d_GV_change_90 : decode c_GV_change 90 = .ok (.getfield 95, 3) := by decide +kernel
theorem d_GV_change_93 : decode c_GV_change 93 = .ok (.aload_n 3, 1) := by decide +kernel
theorem d_GV_change_94 : decode c_GV_change 94 = .ok (.getfield 80, 3) := by decide +kernel
theorem d_GV_change_97 : decode c_GV_change 97 = .ok (.aload_n 3, 1) := by decide +kernel
theorem d_GV_change_98 : decode c_GV_change 98 = .ok (.getfield 55, 3) := by decide +kernel
theorem d_GV_change_101 : decode c_GV_change 101 = .ok (.iload_n 1, 1) := by decide +kernel
theorem d_GV_change_102 : decode c_GV_change 102 = .ok (.aload_n 3, 1) := by decide +kernel
theorem d_GV_change_103 : decode c_GV_change 103 = .ok (.getfield 38, 3) := by decide +kernel
theorem d_GV_change_106 : decode c_GV_change 106 = .ok (.invokestatic 58, 3) := by decide +kernel
theorem d_GV_change_109 : decode c_GV_change 109 = .ok (.iastore, 1) := by decide +kernel
theorem d_GV_change_110 : decode c_GV_change 110 = .ok (.aload_n 3, 1) := by decide +kernel
theorem d_GV_change_111 : decode c_GV_change 111 = .ok (.iload_n 1, 1) := by decide +kernel
theorem d_GV_change_112 : decode c_GV_change 112 = .ok (.aload_n 3, 1) := by decide +kernel
theorem d_GV_change_113 : decode c_GV_change 113 = .ok (.getfield 80, 3) := by decide +kernel
theorem d_GV_change_116 : decode c_GV_change 116 = .ok (.invokevirtual 98, 3) := by decide +kernel
theorem d_GV_change_119 : decode c_GV_change 119 = .ok (.aload_n 0, 1) := by decide +kernel
theorem d_GV_change_120 : decode c_GV_change 120 = .ok (.iload_n 1, 1) := by decide +kernel
theorem d_GV_change_121 : decode c_GV_change 121 = .ok (.iload_n 2, 1) := by decide +kernel
theorem d_GV_change_122 : decode c_GV_change 122 = .ok (.bipush 64, 2) := by decide +kernel
theorem d_GV_change_124 : decode c_GV_change 124 = .ok (.aload_n 3, 1) := by decide +kernel
theorem d_GV_change_125 : decode c_GV_change 125 = .ok (.getfield 80, 3) := by decide +kernel
theorem d_GV_change_128 : decode c_GV_change 128 = .ok (.iadd, 1) := by decide +kernel
theorem d_GV_change_129 : decode c_GV_change 129 = .ok (.invokevirtual 70, 3) := by decide +kernel
theorem d_GV_change_132 : decode c_GV_change 132 = .ok (.aload_n 3, 1) := by decide +kernel
theorem d_GV_change_133 : decode c_GV_change 133 = .ok (.getfield 80, 3) := by decide +kernel
theorem d_GV_change_136 : decode c_GV_change 136 = .ok (.ireturn, 1) := by decide +kernel
theorem d_GV_form_0 : decode c_GV_form 0 = .ok (.iload_n 1, 1) := by decide +kernel
theorem d_GV_form_1 : decode c_GV_form 1 = .ok (.invokestatic 73, 3) := by decide +kernel
theorem d_GV_form_4 : decode c_GV_form 4 = .ok (.ifCond .ne 6, 3) := by decide +kernel
theorem d_GV_form_7 : decode c_GV_form 7 = .ok (.bipush (-2), 2) := by decide +kernel
theorem d_GV_form_9 : decode c_GV_form 9 = .ok (.ireturn, 1) := by decide +kernel
theorem d_GV_form_10 : decode c_GV_form 10 = .ok (.aload_n 0, 1) := by decide +kernel
theorem d_GV_form_11 : decode c_GV_form 11 = .ok (.getfield 102, 3) := by decide +kernel
theorem d_GV_form_14 : decode c_GV_form 14 = .ok (.bipush 15, 2) := by decide +kernel
theorem d_GV_form_16 : decode c_GV_form 16 = .ok (.if_icmp .lt 6, 3) := by decide +kernel
theorem d_GV_form_19 : decode c_GV_form 19 = .ok (.bipush (-3), 2) := by decide +kernel
theorem d_GV_form_21 : decode c_GV_form 21 = .ok (.ireturn, 1) := by decide +kernel
theorem d_GV_form_22 : decode c_GV_form 22 = .ok (.aload_n 0, 1) := by decide +kernel
theorem d_GV_form_23 : decode c_GV_form 23 = .ok (.iload_n 1, 1) := by decide +kernel
theorem d_GV_form_24 : decode c_GV_form 24 = .ok (.invokevirtual 105, 3) := by decide +kernel
theorem d_GV_form_27 : decode c_GV_form 27 = .ok (.ifCond .ne 6, 3) := by decide +kernel
theorem d_GV_form_30 : decode c_GV_form 30 = .ok (.bipush (-4), 2) := by decide +kernel
theorem d_GV_form_32 : decode c_GV_form 32 = .ok (.ireturn, 1) := by decide +kernel
theorem d_GV_form_33 : decode c_GV_form 33 = .ok (.aload_n 0, 1) := by decide +kernel
theorem d_GV_form_34 : decode c_GV_form 34 = .ok (.dup, 1) := by decide +kernel
theorem d_GV_form_35 : decode c_GV_form 35 = .ok (.getfield 102, 3) := by decide +kernel
theorem d_GV_form_38 : decode c_GV_form 38 = .ok (.iconst 1, 1) := by decide +kernel
theorem d_GV_form_39 : decode c_GV_form 39 = .ok (.iadd, 1) := by decide +kernel
theorem d_GV_form_40 : decode c_GV_form 40 = .ok (.putfield 102, 3) := by decide +kernel
theorem d_GV_form_43 : decode c_GV_form 43 = .ok (.aload_n 0, 1) := by decide +kernel
theorem d_GV_form_44 : decode c_GV_form 44 = .ok (.getfield 21, 3) := by decide +kernel
theorem d_GV_form_47 : decode c_GV_form 47 = .ok (.aload_n 0, 1) := by decide +kernel
theorem d_GV_form_48 : decode c_GV_form 48 = .ok (.getfield 102, 3) := by decide +kernel
theorem d_GV_form_51 : decode c_GV_form 51 = .ok (.iload_n 1, 1) := by decide +kernel
theorem d_GV_form_52 : decode c_GV_form 52 = .ok (.iastore, 1) := by decide +kernel
theorem d_GV_form_53 : decode c_GV_form 53 = .ok (.iconst 0, 1) := by decide +kernel
theorem d_GV_form_54 : decode c_GV_form 54 = .ok (.istore_n 2, 1) := by decide +kernel
theorem d_GV_form_55 : decode c_GV_form 55 = .ok (.iload_n 2, 1) := by decide +kernel
theorem d_GV_form_56 : decode c_GV_form 56 = .ok (.iconst 4, 1) := by decide +kernel
theorem d_GV_form_57 : decode c_GV_form 57 = .ok (.if_icmp .ge 49, 3) := by decide +kernel
theorem d_GV_form_60 : decode c_GV_form 60 = .ok (.iload_n 1, 1) := by decide +kernel
theorem d_GV_form_61 : decode c_GV_form 61 = .ok (.iload_n 2, 1) := by decide +kernel
theorem d_GV_form_62 : decode c_GV_form 62 = .ok (.invokestatic 76, 3) := by decide +kernel
theorem d_GV_form_65 : decode c_GV_form 65 = .ok (.ifCond .eq 35, 3) := by decide +kernel
theorem d_GV_form_68 : decode c_GV_form 68 = .ok (.aload_n 0, 1) := by decide +kernel
theorem d_GV_form_69 : decode c_GV_form 69 = .ok (.getfield 25, 3) := by decide +kernel
theorem d_GV_form_72 : decode c_GV_form 72 = .ok (.aload_n 0, 1) := by decide +kernel
theorem d_GV_form_73 : decode c_GV_form 73 = .ok (.getfield 102, 3) := by decide +kernel
theorem d_GV_form_76 : decode c_GV_form 76 = .ok (.iload_n 2, 1) := by decide +kernel
theorem d_GV_form_77 : decode c_GV_form 77 = .ok (.invokestatic 108, 3) := by decide +kernel
theorem d_GV_form_80 : decode c_GV_form 80 = .ok (.aload_n 0, 1) := by decide +kernel
theorem d_GV_form_81 : decode c_GV_form 81 = .ok (.getfield 11, 3) := by decide +kernel
theorem d_GV_form_84 : decode c_GV_form 84 = .ok (.iload_n 2, 1) := by decide +kernel
theorem d_GV_form_85 : decode c_GV_form 85 = .ok (.aaload, 1) := by decide +kernel
theorem d_GV_form_86 : decode c_GV_form 86 = .ok (.getfield 80, 3) := by decide +kernel
theorem d_GV_form_89 : decode c_GV_form 89 = .ok (.iastore, 1) := by decide +kernel
theorem d_GV_form_90 : decode c_GV_form 90 = .ok (.aload_n 0, 1) := by decide +kernel
theorem d_GV_form_91 : decode c_GV_form 91 = .ok (.getfield 11, 3) := by decide +kernel
theorem d_GV_form_94 : decode c_GV_form 94 = .ok (.iload_n 2, 1) := by decide +kernel
theorem d_GV_form_95 : decode c_GV_form 95 = .ok (.aaload, 1) := by decide +kernel
theorem d_GV_form_96 : decode c_GV_form 96 = .ok (.iconst 0, 1) := by decide +kernel
theorem d_GV_form_97 : decode c_GV_form 97 = .ok (.putfield 86, 3) := by decide +kernel
theorem d_GV_form_100 : decode c_GV_form 100 = .ok (.iinc 2 1, 3) := by decide +kernel
theorem d_GV_form_103 : decode c_GV_form 103 = .ok (.goto (-48), 3) := by decide +kernel
theorem d_GV_form_106 : decode c_GV_form 106 = .ok (.aload_n 0, 1) := by decide +kernel
theorem d_GV_form_107 : decode c_GV_form 107 = .ok (.getfield 102, 3) := by decide +kernel
theorem d_GV_form_110 : decode c_GV_form 110 = .ok (.ireturn, 1) := by decide +kernel
theorem d_GV_tell_0 : decode c_GV_tell 0 = .ok (.iload_n 1, 1) := by decide +kernel
theorem d_GV_tell_1 : decode c_GV_tell 1 = .ok (.invokestatic 30, 3) := by decide +kernel
theorem d_GV_tell_4 : decode c_GV_tell 4 = .ok (.ifCond .ne 5, 3) := by decide +kernel
theorem d_GV_tell_7 : decode c_GV_tell 7 = .ok (.iconst (-1), 1) := by decide +kernel
theorem d_GV_tell_8 : decode c_GV_tell 8 = .ok (.ireturn, 1) := by decide +kernel
theorem d_GV_tell_9 : decode c_GV_tell 9 = .ok (.aload_n 0, 1) := by decide +kernel
theorem d_GV_tell_10 : decode c_GV_tell 10 = .ok (.iload_n 2, 1) := by decide +kernel
theorem d_GV_tell_11 : decode c_GV_tell 11 = .ok (.invokevirtual 111, 3) := by decide +kernel
theorem d_GV_tell_14 : decode c_GV_tell 14 = .ok (.ifCond .eq 16, 3) := by decide +kernel
theorem d_GV_tell_17 : decode c_GV_tell 17 = .ok (.aload_n 0, 1) := by decide +kernel
theorem d_GV_tell_18 : decode c_GV_tell 18 = .ok (.getfield 21, 3) := by decide +kernel
theorem d_GV_tell_21 : decode c_GV_tell 21 = .ok (.iload_n 2, 1) := by decide +kernel
theorem d_GV_tell_22 : decode c_GV_tell 22 = .ok (.iaload, 1) := by decide +kernel
theorem d_GV_tell_23 : decode c_GV_tell 23 = .ok (.iload_n 1, 1) := by decide +kernel
theorem d_GV_tell_24 : decode c_GV_tell 24 = .ok (.invokestatic 76, 3) := by decide +kernel
theorem d_GV_tell_27 : decode c_GV_tell 27 = .ok (.ifCond .ne 6, 3) := by decide +kernel
theorem d_GV_tell_30 : decode c_GV_tell 30 = .ok (.bipush (-2), 2) := by decide +kernel
theorem d_GV_tell_32 : decode c_GV_tell 32 = .ok (.ireturn, 1) := by decide +kernel
theorem d_GV_tell_33 : decode c_GV_tell 33 = .ok (.aload_n 0, 1) := by decide +kernel
theorem d_GV_tell_34 : decode c_GV_tell 34 = .ok (.getfield 11, 3) := by decide +kernel
theorem d_GV_tell_37 : decode c_GV_tell 37 = .ok (.iload_n 1, 1) := by decide +kernel
theorem d_GV_tell_38 : decode c_GV_tell 38 = .ok (.aaload, 1) := by decide +kernel
theorem d_GV_tell_39 : decode c_GV_tell 39 = .ok (.astore_n 3, 1) := by decide +kernel
theorem d_GV_tell_40 : decode c_GV_tell 40 = .ok (.aload_n 3, 1) := by decide +kernel
theorem d_GV_tell_41 : decode c_GV_tell 41 = .ok (.getfield 114, 3) := by decide +kernel
theorem d_GV_tell_44 : decode c_GV_tell 44 = .ok (.iload_n 2, 1) := by decide +kernel
theorem d_GV_tell_45 : decode c_GV_tell 45 = .ok (.if_icmp .lt 6, 3) := by decide +kernel
theorem d_GV_tell_48 : decode c_GV_tell 48 = .ok (.bipush (-3), 2) := by decide +kernel
theorem d_GV_tell_50 : decode c_GV_tell 50 = .ok (.ireturn, 1) := by decide +kernel
theorem d_GV_tell_51 : decode c_GV_tell 51 = .ok (.aload_n 0, 1) := by decide +kernel
theorem d_GV_tell_52 : decode c_GV_tell 52 = .ok (.getfield 25, 3) := by decide +kernel
theorem d_GV_tell_55 : decode c_GV_tell 55 = .ok (.iload_n 2, 1) := by decide +kernel
theorem d_GV_tell_56 : decode c_GV_tell 56 = .ok (.iload_n 1, 1) := by decide +kernel
theorem d_GV_tell_57 : decode c_GV_tell 57 = .ok (.invokestatic 108, 3) := by decide +kernel
theorem d_GV_tell_60 : decode c_GV_tell 60 = .ok (.iaload, 1) := by decide +kernel
theorem d_GV_tell_61 : decode c_GV_tell 61 = .ok (.aload_n 3, 1) := by decide +kernel
theorem d_GV_tell_62 : decode c_GV_tell 62 = .ok (.getfield 80, 3) := by decide +kernel
theorem d_GV_tell_65 : decode c_GV_tell 65 = .ok (.if_icmp .eq 6, 3) := by decide +kernel
theorem d_GV_tell_68 : decode c_GV_tell 68 = .ok (.bipush (-4), 2) := by decide +kernel
theorem d_GV_tell_70 : decode c_GV_tell 70 = .ok (.ireturn, 1) := by decide +kernel
theorem d_GV_tell_71 : decode c_GV_tell 71 = .ok (.aload_n 3, 1) := by decide +kernel
theorem d_GV_tell_72 : decode c_GV_tell 72 = .ok (.iload_n 2, 1) := by decide +kernel
theorem d_GV_tell_73 : decode c_GV_tell 73 = .ok (.putfield 114, 3) := by decide +kernel
theorem d_GV_tell_76 : decode c_GV_tell 76 = .ok (.aload_n 3, 1) := by decide +kernel
theorem d_GV_tell_77 : decode c_GV_tell 77 = .ok (.iload_n 2, 1) := by decide +kernel
theorem d_GV_tell_78 : decode c_GV_tell 78 = .ok (.putfield 89, 3) := by decide +kernel
theorem d_GV_tell_81 : decode c_GV_tell 81 = .ok (.iconst 0, 1) := by decide +kernel
theorem d_GV_tell_82 : decode c_GV_tell 82 = .ok (.ireturn, 1) := by decide +kernel
theorem d_GV_carry_0 : decode c_GV_carry 0 = .ok (.iload_n 1, 1) := by decide +kernel
theorem d_GV_carry_1 : decode c_GV_carry 1 = .ok (.iload_n 2, 1) := by decide +kernel
theorem d_GV_carry_2 : decode c_GV_carry 2 = .ok (.invokestatic 117, 3) := by decide +kernel
theorem d_GV_carry_5 : decode c_GV_carry 5 = .ok (.ifCond .ne 5, 3) := by decide +kernel
theorem d_GV_carry_8 : decode c_GV_carry 8 = .ok (.iconst (-1), 1) := by decide +kernel
theorem d_GV_carry_9 : decode c_GV_carry 9 = .ok (.ireturn, 1) := by decide +kernel
theorem d_GV_carry_10 : decode c_GV_carry 10 = .ok (.aload_n 0, 1) := by decide +kernel
theorem d_GV_carry_11 : decode c_GV_carry 11 = .ok (.getfield 17, 3) := by decide +kernel
theorem d_GV_carry_14 : decode c_GV_carry 14 = .ok (.iload_n 1, 1) := by decide +kernel
theorem d_GV_carry_15 : decode c_GV_carry 15 = .ok (.iload_n 2, 1) := by decide +kernel
theorem d_GV_carry_16 : decode c_GV_carry 16 = .ok (.invokestatic 120, 3) := by decide +kernel
theorem d_GV_carry_19 : decode c_GV_carry 19 = .ok (.aaload, 1) := by decide +kernel
theorem d_GV_carry_20 : decode c_GV_carry 20 = .ok (.invokevirtual 123, 3) := by decide +kernel
theorem d_GV_carry_23 : decode c_GV_carry 23 = .ok (.istore_n 3, 1) := by decide +kernel
theorem d_GV_carry_24 : decode c_GV_carry 24 = .ok (.iload_n 3, 1) := by decide +kernel
theorem d_GV_carry_25 : decode c_GV_carry 25 = .ok (.iconst (-1), 1) := by decide +kernel
theorem d_GV_carry_26 : decode c_GV_carry 26 = .ok (.if_icmp .ne 5, 3) := by decide +kernel
theorem d_GV_carry_29 : decode c_GV_carry 29 = .ok (.iconst 0, 1) := by decide +kernel
theorem d_GV_carry_30 : decode c_GV_carry 30 = .ok (.ireturn, 1) := by decide +kernel
theorem d_GV_carry_31 : decode c_GV_carry 31 = .ok (.iload_n 3, 1) := by decide +kernel
theorem d_GV_carry_32 : decode c_GV_carry 32 = .ok (.bipush 64, 2) := by decide +kernel
theorem d_GV_carry_34 : decode c_GV_carry 34 = .ok (.if_icmp .ge 23, 3) := by decide +kernel
theorem d_GV_carry_37 : decode c_GV_carry 37 = .ok (.aload_n 0, 1) := by decide +kernel
theorem d_GV_carry_38 : decode c_GV_carry 38 = .ok (.getfield 11, 3) := by decide +kernel
theorem d_GV_carry_41 : decode c_GV_carry 41 = .ok (.iload_n 2, 1) := by decide +kernel
theorem d_GV_carry_42 : decode c_GV_carry 42 = .ok (.aaload, 1) := by decide +kernel
theorem d_GV_carry_43 : decode c_GV_carry 43 = .ok (.iload_n 3, 1) := by decide +kernel
theorem d_GV_carry_44 : decode c_GV_carry 44 = .ok (.invokestatic 127, 3) := by decide +kernel
theorem d_GV_carry_47 : decode c_GV_carry 47 = .ok (.iload_n 1, 1) := by decide +kernel
theorem d_GV_carry_48 : decode c_GV_carry 48 = .ok (.iload_n 3, 1) := by decide +kernel
theorem d_GV_carry_49 : decode c_GV_carry 49 = .ok (.invokestatic 130, 3) := by decide +kernel
theorem d_GV_carry_52 : decode c_GV_carry 52 = .ok (.invokevirtual 62, 3) := by decide +kernel
theorem d_GV_carry_55 : decode c_GV_carry 55 = .ok (.iconst 1, 1) := by decide +kernel
theorem d_GV_carry_56 : decode c_GV_carry 56 = .ok (.ireturn, 1) := by decide +kernel
theorem d_GV_carry_57 : decode c_GV_carry 57 = .ok (.aload_n 0, 1) := by decide +kernel
theorem d_GV_carry_58 : decode c_GV_carry 58 = .ok (.aload_n 0, 1) := by decide +kernel
theorem d_GV_carry_59 : decode c_GV_carry 59 = .ok (.getfield 11, 3) := by decide +kernel
theorem d_GV_carry_62 : decode c_GV_carry 62 = .ok (.iload_n 2, 1) := by decide +kernel
theorem d_GV_carry_63 : decode c_GV_carry 63 = .ok (.aaload, 1) := by decide +kernel
theorem d_GV_carry_64 : decode c_GV_carry 64 = .ok (.iload_n 1, 1) := by decide +kernel
theorem d_GV_carry_65 : decode c_GV_carry 65 = .ok (.iload_n 3, 1) := by decide +kernel
theorem d_GV_carry_66 : decode c_GV_carry 66 = .ok (.bipush 64, 2) := by decide +kernel
theorem d_GV_carry_68 : decode c_GV_carry 68 = .ok (.isub, 1) := by decide +kernel
theorem d_GV_carry_69 : decode c_GV_carry 69 = .ok (.invokevirtual 133, 3) := by decide +kernel
theorem d_GV_carry_72 : decode c_GV_carry 72 = .ok (.iconst 2, 1) := by decide +kernel
theorem d_GV_carry_73 : decode c_GV_carry 73 = .ok (.ireturn, 1) := by decide +kernel
theorem d_GV_step_0 : decode c_GV_step 0 = .ok (.iload_n 1, 1) := by decide +kernel
theorem d_GV_step_1 : decode c_GV_step 1 = .ok (.invokestatic 30, 3) := by decide +kernel
theorem d_GV_step_4 : decode c_GV_step 4 = .ok (.ifCond .ne 5, 3) := by decide +kernel
theorem d_GV_step_7 : decode c_GV_step 7 = .ok (.iconst (-1), 1) := by decide +kernel
theorem d_GV_step_8 : decode c_GV_step 8 = .ok (.ireturn, 1) := by decide +kernel
theorem d_GV_step_9 : decode c_GV_step 9 = .ok (.aload_n 0, 1) := by decide +kernel
theorem d_GV_step_10 : decode c_GV_step 10 = .ok (.getfield 11, 3) := by decide +kernel
theorem d_GV_step_13 : decode c_GV_step 13 = .ok (.iload_n 1, 1) := by decide +kernel
theorem d_GV_step_14 : decode c_GV_step 14 = .ok (.aaload, 1) := by decide +kernel
theorem d_GV_step_15 : decode c_GV_step 15 = .ok (.astore_n 2, 1) := by decide +kernel
theorem d_GV_step_16 : decode c_GV_step 16 = .ok (.aload_n 2, 1) := by decide +kernel
theorem d_GV_step_17 : decode c_GV_step 17 = .ok (.getfield 34, 3) := by decide +kernel
theorem d_GV_step_20 : decode c_GV_step 20 = .ok (.ifCond .ne 11, 3) := by decide +kernel
theorem d_GV_step_23 : decode c_GV_step 23 = .ok (.aload_n 0, 1) := by decide +kernel
theorem d_GV_step_24 : decode c_GV_step 24 = .ok (.aload_n 2, 1) := by decide +kernel
theorem d_GV_step_25 : decode c_GV_step 25 = .ok (.ldc 137, 2) := by decide +kernel
theorem d_GV_step_27 : decode c_GV_step 27 = .ok (.invokevirtual 138, 3) := by decide +kernel
theorem d_GV_step_30 : decode c_GV_step 30 = .ok (.ireturn, 1) := by decide +kernel
theorem d_GV_step_31 : decode c_GV_step 31 = .ok (.aload_n 2, 1) := by decide +kernel
theorem d_GV_step_32 : decode c_GV_step 32 = .ok (.getfield 89, 3) := by decide +kernel
theorem d_GV_step_35 : decode c_GV_step 35 = .ok (.ifCond .ne 5, 3) := by decide +kernel
theorem d_GV_step_38 : decode c_GV_step 38 = .ok (.iconst 0, 1) := by decide +kernel
theorem d_GV_step_39 : decode c_GV_step 39 = .ok (.ireturn, 1) := by decide +kernel
theorem d_GV_step_40 : decode c_GV_step 40 = .ok (.aload_n 0, 1) := by decide +kernel
theorem d_GV_step_41 : decode c_GV_step 41 = .ok (.getfield 21, 3) := by decide +kernel
theorem d_GV_step_44 : decode c_GV_step 44 = .ok (.aload_n 2, 1) := by decide +kernel
theorem d_GV_step_45 : decode c_GV_step 45 = .ok (.getfield 89, 3) := by decide +kernel
theorem d_GV_step_48 : decode c_GV_step 48 = .ok (.iaload, 1) := by decide +kernel
theorem d_GV_step_49 : decode c_GV_step 49 = .ok (.aload_n 0, 1) := by decide +kernel
theorem d_GV_step_50 : decode c_GV_step 50 = .ok (.iload_n 1, 1) := by decide +kernel
theorem d_GV_step_51 : decode c_GV_step 51 = .ok (.invokevirtual 66, 3) := by decide +kernel
theorem d_GV_step_54 : decode c_GV_step 54 = .ok (.iand, 1) := by decide +kernel
theorem d_GV_step_55 : decode c_GV_step 55 = .ok (.istore_n 3, 1) := by decide +kernel
theorem d_GV_step_56 : decode c_GV_step 56 = .ok (.aload_n 0, 1) := by decide +kernel
theorem d_GV_step_57 : decode c_GV_step 57 = .ok (.aload_n 2, 1) := by decide +kernel
theorem d_GV_step_58 : decode c_GV_step 58 = .ok (.iload_n 3, 1) := by decide +kernel
theorem d_GV_step_59 : decode c_GV_step 59 = .ok (.invokevirtual 142, 3) := by decide +kernel
theorem d_GV_step_62 : decode c_GV_step 62 = .ok (.ifCond .ne 5, 3) := by decide +kernel
theorem d_GV_step_65 : decode c_GV_step 65 = .ok (.iconst 0, 1) := by decide +kernel
theorem d_GV_step_66 : decode c_GV_step 66 = .ok (.ireturn, 1) := by decide +kernel
theorem d_GV_step_67 : decode c_GV_step 67 = .ok (.aload_n 0, 1) := by decide +kernel
theorem d_GV_step_68 : decode c_GV_step 68 = .ok (.aload_n 2, 1) := by decide +kernel
theorem d_GV_step_69 : decode c_GV_step 69 = .ok (.iload_n 3, 1) := by decide +kernel
theorem d_GV_step_70 : decode c_GV_step 70 = .ok (.invokevirtual 146, 3) := by decide +kernel
theorem d_GV_step_73 : decode c_GV_step 73 = .ok (.istore 4, 2) := by decide +kernel
theorem d_GV_step_75 : decode c_GV_step 75 = .ok (.aload_n 0, 1) := by decide +kernel
theorem d_GV_step_76 : decode c_GV_step 76 = .ok (.aload_n 2, 1) := by decide +kernel
theorem d_GV_step_77 : decode c_GV_step 77 = .ok (.getfield 89, 3) := by decide +kernel
theorem d_GV_step_80 : decode c_GV_step 80 = .ok (.iload 4, 2) := by decide +kernel
theorem d_GV_step_82 : decode c_GV_step 82 = .ok (.invokevirtual 149, 3) := by decide +kernel
theorem d_GV_step_85 : decode c_GV_step 85 = .ok (.istore 5, 2) := by decide +kernel
theorem d_GV_step_87 : decode c_GV_step 87 = .ok (.aload_n 0, 1) := by decide +kernel
theorem d_GV_step_88 : decode c_GV_step 88 = .ok (.aload_n 2, 1) := by decide +kernel
theorem d_GV_step_89 : decode c_GV_step 89 = .ok (.iload 5, 2) := by decide +kernel
theorem d_GV_step_91 : decode c_GV_step 91 = .ok (.invokevirtual 138, 3) := by decide +kernel
theorem d_GV_step_94 : decode c_GV_step 94 = .ok (.iconst 1, 1) := by decide +kernel
theorem d_GV_step_95 : decode c_GV_step 95 = .ok (.if_icmp .ne 5, 3) := by decide +kernel
theorem d_GV_step_98 : decode c_GV_step 98 = .ok (.iconst 1, 1) := by decide +kernel
theorem d_GV_step_99 : decode c_GV_step 99 = .ok (.ireturn, 1) := by decide +kernel
theorem d_GV_step_100 : decode c_GV_step 100 = .ok (.aload_n 2, 1) := by decide +kernel
theorem d_GV_step_101 : decode c_GV_step 101 = .ok (.getfield 55, 3) := by decide +kernel
theorem d_GV_step_104 : decode c_GV_step 104 = .ok (.iload 5, 2) := by decide +kernel
theorem d_GV_step_106 : decode c_GV_step 106 = .ok (.if_icmp .eq 5, 3) := by decide +kernel
theorem d_GV_step_109 : decode c_GV_step 109 = .ok (.iconst 0, 1) := by decide +kernel
theorem d_GV_step_110 : decode c_GV_step 110 = .ok (.ireturn, 1) := by decide +kernel
theorem d_GV_step_111 : decode c_GV_step 111 = .ok (.aload_n 2, 1) := by decide +kernel
theorem d_GV_step_112 : decode c_GV_step 112 = .ok (.iconst 2, 1) := by decide +kernel
theorem d_GV_step_113 : decode c_GV_step 113 = .ok (.aload_n 2, 1) := by decide +kernel
theorem d_GV_step_114 : decode c_GV_step 114 = .ok (.getfield 89, 3) := by decide +kernel
theorem d_GV_step_117 : decode c_GV_step 117 = .ok (.aload_n 0, 1) := by decide +kernel
theorem d_GV_step_118 : decode c_GV_step 118 = .ok (.getfield 21, 3) := by decide +kernel
theorem d_GV_step_121 : decode c_GV_step 121 = .ok (.aload_n 2, 1) := by decide +kernel
theorem d_GV_step_122 : decode c_GV_step 122 = .ok (.getfield 89, 3) := by decide +kernel
theorem d_GV_step_125 : decode c_GV_step 125 = .ok (.iaload, 1) := by decide +kernel
theorem d_GV_step_126 : decode c_GV_step 126 = .ok (.iload 4, 2) := by decide +kernel
theorem d_GV_step_128 : decode c_GV_step 128 = .ok (.invokevirtual 152, 3) := by decide +kernel
theorem d_GV_step_131 : decode c_GV_step 131 = .ok (.aload_n 2, 1) := by decide +kernel
theorem d_GV_step_132 : decode c_GV_step 132 = .ok (.invokevirtual 156, 3) := by decide +kernel
theorem d_GV_step_135 : decode c_GV_step 135 = .ok (.iconst 2, 1) := by decide +kernel
theorem d_GV_step_136 : decode c_GV_step 136 = .ok (.ireturn, 1) := by decide +kernel
theorem d_GV_event_0 : decode c_GV_event 0 = .ok (.iload_n 1, 1) := by decide +kernel
theorem d_GV_event_1 : decode c_GV_event 1 = .ok (.invokestatic 30, 3) := by decide +kernel
theorem d_GV_event_4 : decode c_GV_event 4 = .ok (.ifCond .eq 12, 3) := by decide +kernel
theorem d_GV_event_7 : decode c_GV_event 7 = .ok (.iload_n 2, 1) := by decide +kernel
theorem d_GV_event_8 : decode c_GV_event 8 = .ok (.ifCond .lt 8, 3) := by decide +kernel
theorem d_GV_event_11 : decode c_GV_event 11 = .ok (.iload_n 2, 1) := by decide +kernel
theorem d_GV_event_12 : decode c_GV_event 12 = .ok (.iconst 3, 1) := by decide +kernel
theorem d_GV_event_13 : decode c_GV_event 13 = .ok (.if_icmp .le 5, 3) := by decide +kernel
theorem d_GV_event_16 : decode c_GV_event 16 = .ok (.iconst 0, 1) := by decide +kernel
theorem d_GV_event_17 : decode c_GV_event 17 = .ok (.ireturn, 1) := by decide +kernel
theorem d_GV_event_18 : decode c_GV_event 18 = .ok (.aload_n 0, 1) := by decide +kernel
theorem d_GV_event_19 : decode c_GV_event 19 = .ok (.getfield 11, 3) := by decide +kernel
theorem d_GV_event_22 : decode c_GV_event 22 = .ok (.iload_n 1, 1) := by decide +kernel
theorem d_GV_event_23 : decode c_GV_event 23 = .ok (.aaload, 1) := by decide +kernel
theorem d_GV_event_24 : decode c_GV_event 24 = .ok (.getfield 159, 3) := by decide +kernel
theorem d_GV_event_27 : decode c_GV_event 27 = .ok (.iload_n 2, 1) := by decide +kernel
theorem d_GV_event_28 : decode c_GV_event 28 = .ok (.iaload, 1) := by decide +kernel
theorem d_GV_event_29 : decode c_GV_event 29 = .ok (.ireturn, 1) := by decide +kernel
theorem d_GV_view_0 : decode c_GV_view 0 = .ok (.iload_n 1, 1) := by decide +kernel
theorem d_GV_view_1 : decode c_GV_view 1 = .ok (.invokestatic 30, 3) := by decide +kernel
theorem d_GV_view_4 : decode c_GV_view 4 = .ok (.ifCond .eq 15, 3) := by decide +kernel
theorem d_GV_view_7 : decode c_GV_view 7 = .ok (.aload_n 0, 1) := by decide +kernel
theorem d_GV_view_8 : decode c_GV_view 8 = .ok (.getfield 11, 3) := by decide +kernel
theorem d_GV_view_11 : decode c_GV_view 11 = .ok (.iload_n 1, 1) := by decide +kernel
theorem d_GV_view_12 : decode c_GV_view 12 = .ok (.aaload, 1) := by decide +kernel
theorem d_GV_view_13 : decode c_GV_view 13 = .ok (.getfield 42, 3) := by decide +kernel
theorem d_GV_view_16 : decode c_GV_view 16 = .ok (.goto 4, 3) := by decide +kernel
theorem d_GV_view_19 : decode c_GV_view 19 = .ok (.iconst (-1), 1) := by decide +kernel
theorem d_GV_view_20 : decode c_GV_view 20 = .ok (.ireturn, 1) := by decide +kernel
theorem d_GV_members_0 : decode c_GV_members 0 = .ok (.aload_n 0, 1) := by decide +kernel
theorem d_GV_members_1 : decode c_GV_members 1 = .ok (.iload_n 1, 1) := by decide +kernel
theorem d_GV_members_2 : decode c_GV_members 2 = .ok (.invokevirtual 111, 3) := by decide +kernel
theorem d_GV_members_5 : decode c_GV_members 5 = .ok (.ifCond .eq 12, 3) := by decide +kernel
theorem d_GV_members_8 : decode c_GV_members 8 = .ok (.aload_n 0, 1) := by decide +kernel
theorem d_GV_members_9 : decode c_GV_members 9 = .ok (.getfield 21, 3) := by decide +kernel
theorem d_GV_members_12 : decode c_GV_members 12 = .ok (.iload_n 1, 1) := by decide +kernel
theorem d_GV_members_13 : decode c_GV_members 13 = .ok (.iaload, 1) := by decide +kernel
theorem d_GV_members_14 : decode c_GV_members 14 = .ok (.goto 4, 3) := by decide +kernel
theorem d_GV_members_17 : decode c_GV_members 17 = .ok (.iconst 0, 1) := by decide +kernel
theorem d_GV_members_18 : decode c_GV_members 18 = .ok (.ireturn, 1) := by decide +kernel
theorem d_GV_start_0 : decode c_GV_start 0 = .ok (.aload_n 0, 1) := by decide +kernel
theorem d_GV_start_1 : decode c_GV_start 1 = .ok (.iload_n 1, 1) := by decide +kernel
theorem d_GV_start_2 : decode c_GV_start 2 = .ok (.invokevirtual 111, 3) := by decide +kernel
theorem d_GV_start_5 : decode c_GV_start 5 = .ok (.ifCond .eq 23, 3) := by decide +kernel
theorem d_GV_start_8 : decode c_GV_start 8 = .ok (.iload_n 2, 1) := by decide +kernel
theorem d_GV_start_9 : decode c_GV_start 9 = .ok (.invokestatic 30, 3) := by decide +kernel
theorem d_GV_start_12 : decode c_GV_start 12 = .ok (.ifCond .eq 16, 3) := by decide +kernel
theorem d_GV_start_15 : decode c_GV_start 15 = .ok (.aload_n 0, 1) := by decide +kernel
theorem d_GV_start_16 : decode c_GV_start 16 = .ok (.getfield 25, 3) := by decide +kernel
theorem d_GV_start_19 : decode c_GV_start 19 = .ok (.iload_n 1, 1) := by decide +kernel
theorem d_GV_start_20 : decode c_GV_start 20 = .ok (.iload_n 2, 1) := by decide +kernel
theorem d_GV_start_21 : decode c_GV_start 21 = .ok (.invokestatic 108, 3) := by decide +kernel
theorem d_GV_start_24 : decode c_GV_start 24 = .ok (.iaload, 1) := by decide +kernel
theorem d_GV_start_25 : decode c_GV_start 25 = .ok (.goto 4, 3) := by decide +kernel
theorem d_GV_start_28 : decode c_GV_start 28 = .ok (.iconst 0, 1) := by decide +kernel
theorem d_GV_start_29 : decode c_GV_start 29 = .ok (.ireturn, 1) := by decide +kernel
theorem d_GV_blocked_0 : decode c_GV_blocked 0 = .ok (.iload_n 1, 1) := by decide +kernel
theorem d_GV_blocked_1 : decode c_GV_blocked 1 = .ok (.invokestatic 30, 3) := by decide +kernel
theorem d_GV_blocked_4 : decode c_GV_blocked 4 = .ok (.ifCond .eq 19, 3) := by decide +kernel
theorem d_GV_blocked_7 : decode c_GV_blocked 7 = .ok (.aload_n 0, 1) := by decide +kernel
theorem d_GV_blocked_8 : decode c_GV_blocked 8 = .ok (.getfield 11, 3) := by decide +kernel
theorem d_GV_blocked_11 : decode c_GV_blocked 11 = .ok (.iload_n 1, 1) := by decide +kernel
theorem d_GV_blocked_12 : decode c_GV_blocked 12 = .ok (.aaload, 1) := by decide +kernel
theorem d_GV_blocked_13 : decode c_GV_blocked 13 = .ok (.getfield 34, 3) := by decide +kernel
theorem d_GV_blocked_16 : decode c_GV_blocked 16 = .ok (.ifCond .eq 7, 3) := by decide +kernel
theorem d_GV_blocked_19 : decode c_GV_blocked 19 = .ok (.iconst 1, 1) := by decide +kernel
theorem d_GV_blocked_20 : decode c_GV_blocked 20 = .ok (.goto 4, 3) := by decide +kernel
theorem d_GV_blocked_23 : decode c_GV_blocked 23 = .ok (.iconst 0, 1) := by decide +kernel
theorem d_GV_blocked_24 : decode c_GV_blocked 24 = .ok (.ireturn, 1) := by decide +kernel
theorem d_GV_pending_0 : decode c_GV_pending 0 = .ok (.iload_n 1, 1) := by decide +kernel
theorem d_GV_pending_1 : decode c_GV_pending 1 = .ok (.invokestatic 30, 3) := by decide +kernel
theorem d_GV_pending_4 : decode c_GV_pending 4 = .ok (.ifCond .eq 15, 3) := by decide +kernel
theorem d_GV_pending_7 : decode c_GV_pending 7 = .ok (.aload_n 0, 1) := by decide +kernel
theorem d_GV_pending_8 : decode c_GV_pending 8 = .ok (.getfield 11, 3) := by decide +kernel
theorem d_GV_pending_11 : decode c_GV_pending 11 = .ok (.iload_n 1, 1) := by decide +kernel
theorem d_GV_pending_12 : decode c_GV_pending 12 = .ok (.aaload, 1) := by decide +kernel
theorem d_GV_pending_13 : decode c_GV_pending 13 = .ok (.getfield 89, 3) := by decide +kernel
theorem d_GV_pending_16 : decode c_GV_pending 16 = .ok (.goto 4, 3) := by decide +kernel
theorem d_GV_pending_19 : decode c_GV_pending 19 = .ok (.iconst (-1), 1) := by decide +kernel
theorem d_GV_pending_20 : decode c_GV_pending 20 = .ok (.ireturn, 1) := by decide +kernel
theorem d_GV_changes_0 : decode c_GV_changes 0 = .ok (.iload_n 1, 1) := by decide +kernel
theorem d_GV_changes_1 : decode c_GV_changes 1 = .ok (.invokestatic 30, 3) := by decide +kernel
theorem d_GV_changes_4 : decode c_GV_changes 4 = .ok (.ifCond .eq 15, 3) := by decide +kernel
theorem d_GV_changes_7 : decode c_GV_changes 7 = .ok (.aload_n 0, 1) := by decide +kernel
theorem d_GV_changes_8 : decode c_GV_changes 8 = .ok (.getfield 11, 3) := by decide +kernel
theorem d_GV_changes_11 : decode c_GV_changes 11 = .ok (.iload_n 1, 1) := by decide +kernel
theorem d_GV_changes_12 : decode c_GV_changes 12 = .ok (.aaload, 1) := by decide +kernel
theorem d_GV_changes_13 : decode c_GV_changes 13 = .ok (.getfield 80, 3) := by decide +kernel
theorem d_GV_changes_16 : decode c_GV_changes 16 = .ok (.goto 4, 3) := by decide +kernel
theorem d_GV_changes_19 : decode c_GV_changes 19 = .ok (.iconst (-1), 1) := by decide +kernel
theorem d_GV_changes_20 : decode c_GV_changes 20 = .ok (.ireturn, 1) := by decide +kernel
theorem d_GV_sent_0 : decode c_GV_sent 0 = .ok (.iload_n 1, 1) := by decide +kernel
theorem d_GV_sent_1 : decode c_GV_sent 1 = .ok (.invokestatic 30, 3) := by decide +kernel
theorem d_GV_sent_4 : decode c_GV_sent 4 = .ok (.ifCond .eq 15, 3) := by decide +kernel
theorem d_GV_sent_7 : decode c_GV_sent 7 = .ok (.aload_n 0, 1) := by decide +kernel
theorem d_GV_sent_8 : decode c_GV_sent 8 = .ok (.getfield 11, 3) := by decide +kernel
theorem d_GV_sent_11 : decode c_GV_sent 11 = .ok (.iload_n 1, 1) := by decide +kernel
theorem d_GV_sent_12 : decode c_GV_sent 12 = .ok (.aaload, 1) := by decide +kernel
theorem d_GV_sent_13 : decode c_GV_sent 13 = .ok (.getfield 38, 3) := by decide +kernel
theorem d_GV_sent_16 : decode c_GV_sent 16 = .ok (.goto 4, 3) := by decide +kernel
theorem d_GV_sent_19 : decode c_GV_sent 19 = .ok (.iconst (-1), 1) := by decide +kernel
theorem d_GV_sent_20 : decode c_GV_sent 20 = .ok (.ireturn, 1) := by decide +kernel
theorem d_GV_delivered_0 : decode c_GV_delivered 0 = .ok (.iload_n 1, 1) := by decide +kernel
theorem d_GV_delivered_1 : decode c_GV_delivered 1 = .ok (.invokestatic 30, 3) := by decide +kernel
theorem d_GV_delivered_4 : decode c_GV_delivered 4 = .ok (.ifCond .eq 10, 3) := by decide +kernel
theorem d_GV_delivered_7 : decode c_GV_delivered 7 = .ok (.iload_n 2, 1) := by decide +kernel
theorem d_GV_delivered_8 : decode c_GV_delivered 8 = .ok (.invokestatic 30, 3) := by decide +kernel
theorem d_GV_delivered_11 : decode c_GV_delivered 11 = .ok (.ifCond .ne 5, 3) := by decide +kernel
theorem d_GV_delivered_14 : decode c_GV_delivered 14 = .ok (.iconst (-1), 1) := by decide +kernel
theorem d_GV_delivered_15 : decode c_GV_delivered 15 = .ok (.ireturn, 1) := by decide +kernel
theorem d_GV_delivered_16 : decode c_GV_delivered 16 = .ok (.aload_n 0, 1) := by decide +kernel
theorem d_GV_delivered_17 : decode c_GV_delivered 17 = .ok (.getfield 11, 3) := by decide +kernel
theorem d_GV_delivered_20 : decode c_GV_delivered 20 = .ok (.iload_n 1, 1) := by decide +kernel
theorem d_GV_delivered_21 : decode c_GV_delivered 21 = .ok (.aaload, 1) := by decide +kernel
theorem d_GV_delivered_22 : decode c_GV_delivered 22 = .ok (.getfield 55, 3) := by decide +kernel
theorem d_GV_delivered_25 : decode c_GV_delivered 25 = .ok (.iload_n 2, 1) := by decide +kernel
theorem d_GV_delivered_26 : decode c_GV_delivered 26 = .ok (.invokestatic 162, 3) := by decide +kernel
theorem d_GV_delivered_29 : decode c_GV_delivered 29 = .ok (.ireturn, 1) := by decide +kernel
theorem d_GV_known_0 : decode c_GV_known 0 = .ok (.iload_n 1, 1) := by decide +kernel
theorem d_GV_known_1 : decode c_GV_known 1 = .ok (.invokestatic 30, 3) := by decide +kernel
theorem d_GV_known_4 : decode c_GV_known 4 = .ok (.ifCond .eq 10, 3) := by decide +kernel
theorem d_GV_known_7 : decode c_GV_known 7 = .ok (.iload_n 2, 1) := by decide +kernel
theorem d_GV_known_8 : decode c_GV_known 8 = .ok (.invokestatic 30, 3) := by decide +kernel
theorem d_GV_known_11 : decode c_GV_known 11 = .ok (.ifCond .ne 5, 3) := by decide +kernel
theorem d_GV_known_14 : decode c_GV_known 14 = .ok (.iconst (-1), 1) := by decide +kernel
theorem d_GV_known_15 : decode c_GV_known 15 = .ok (.ireturn, 1) := by decide +kernel
theorem d_GV_known_16 : decode c_GV_known 16 = .ok (.aload_n 0, 1) := by decide +kernel
theorem d_GV_known_17 : decode c_GV_known 17 = .ok (.getfield 11, 3) := by decide +kernel
theorem d_GV_known_20 : decode c_GV_known 20 = .ok (.iload_n 1, 1) := by decide +kernel
theorem d_GV_known_21 : decode c_GV_known 21 = .ok (.aaload, 1) := by decide +kernel
theorem d_GV_known_22 : decode c_GV_known 22 = .ok (.iload_n 2, 1) := by decide +kernel
theorem d_GV_known_23 : decode c_GV_known 23 = .ok (.invokevirtual 165, 3) := by decide +kernel
theorem d_GV_known_26 : decode c_GV_known 26 = .ok (.ireturn, 1) := by decide +kernel
theorem d_GV_waiting_0 : decode c_GV_waiting 0 = .ok (.iload_n 1, 1) := by decide +kernel
theorem d_GV_waiting_1 : decode c_GV_waiting 1 = .ok (.iload_n 2, 1) := by decide +kernel
theorem d_GV_waiting_2 : decode c_GV_waiting 2 = .ok (.invokestatic 117, 3) := by decide +kernel
theorem d_GV_waiting_5 : decode c_GV_waiting 5 = .ok (.ifCond .eq 19, 3) := by decide +kernel
theorem d_GV_waiting_8 : decode c_GV_waiting 8 = .ok (.aload_n 0, 1) := by decide +kernel
theorem d_GV_waiting_9 : decode c_GV_waiting 9 = .ok (.getfield 17, 3) := by decide +kernel
theorem d_GV_waiting_12 : decode c_GV_waiting 12 = .ok (.iload_n 1, 1) := by decide +kernel
theorem d_GV_waiting_13 : decode c_GV_waiting 13 = .ok (.iload_n 2, 1) := by decide +kernel
theorem d_GV_waiting_14 : decode c_GV_waiting 14 = .ok (.invokestatic 120, 3) := by decide +kernel
theorem d_GV_waiting_17 : decode c_GV_waiting 17 = .ok (.aaload, 1) := by decide +kernel
theorem d_GV_waiting_18 : decode c_GV_waiting 18 = .ok (.invokevirtual 168, 3) := by decide +kernel
theorem d_GV_waiting_21 : decode c_GV_waiting 21 = .ok (.goto 4, 3) := by decide +kernel
theorem d_GV_waiting_24 : decode c_GV_waiting 24 = .ok (.iconst (-1), 1) := by decide +kernel
theorem d_GV_waiting_25 : decode c_GV_waiting 25 = .ok (.ireturn, 1) := by decide +kernel
theorem d_GV_canForm_0 : decode c_GV_canForm 0 = .ok (.iconst 0, 1) := by decide +kernel
theorem d_GV_canForm_1 : decode c_GV_canForm 1 = .ok (.istore_n 2, 1) := by decide +kernel
theorem d_GV_canForm_2 : decode c_GV_canForm 2 = .ok (.iload_n 2, 1) := by decide +kernel
theorem d_GV_canForm_3 : decode c_GV_canForm 3 = .ok (.iconst 4, 1) := by decide +kernel
theorem d_GV_canForm_4 : decode c_GV_canForm 4 = .ok (.if_icmp .ge 47, 3) := by decide +kernel
theorem d_GV_canForm_7 : decode c_GV_canForm 7 = .ok (.iload_n 1, 1) := by decide +kernel
theorem d_GV_canForm_8 : decode c_GV_canForm 8 = .ok (.iload_n 2, 1) := by decide +kernel
theorem d_GV_canForm_9 : decode c_GV_canForm 9 = .ok (.invokestatic 76, 3) := by decide +kernel
theorem d_GV_canForm_12 : decode c_GV_canForm 12 = .ok (.ifCond .eq 33, 3) := by decide +kernel
theorem d_GV_canForm_15 : decode c_GV_canForm 15 = .ok (.aload_n 0, 1) := by decide +kernel
theorem d_GV_canForm_16 : decode c_GV_canForm 16 = .ok (.getfield 11, 3) := by decide +kernel
theorem d_GV_canForm_19 : decode c_GV_canForm 19 = .ok (.iload_n 2, 1) := by decide +kernel
theorem d_GV_canForm_20 : decode c_GV_canForm 20 = .ok (.aaload, 1) := by decide +kernel
theorem d_GV_canForm_21 : decode c_GV_canForm 21 = .ok (.getfield 86, 3) := by decide +kernel
theorem d_GV_canForm_24 : decode c_GV_canForm 24 = .ok (.ifCond .eq 19, 3) := by decide +kernel
theorem d_GV_canForm_27 : decode c_GV_canForm 27 = .ok (.iload_n 1, 1) := by decide +kernel
theorem d_GV_canForm_28 : decode c_GV_canForm 28 = .ok (.aload_n 0, 1) := by decide +kernel
theorem d_GV_canForm_29 : decode c_GV_canForm 29 = .ok (.getfield 11, 3) := by decide +kernel
theorem d_GV_canForm_32 : decode c_GV_canForm 32 = .ok (.iload_n 2, 1) := by decide +kernel
theorem d_GV_canForm_33 : decode c_GV_canForm 33 = .ok (.aaload, 1) := by decide +kernel
theorem d_GV_canForm_34 : decode c_GV_canForm 34 = .ok (.getfield 83, 3) := by decide +kernel
theorem d_GV_canForm_37 : decode c_GV_canForm 37 = .ok (.iconst (-1), 1) := by decide +kernel
theorem d_GV_canForm_38 : decode c_GV_canForm 38 = .ok (.ixor, 1) := by decide +kernel
theorem d_GV_canForm_39 : decode c_GV_canForm 39 = .ok (.iand, 1) := by decide +kernel
theorem d_GV_canForm_40 : decode c_GV_canForm 40 = .ok (.ifCond .eq 5, 3) := by decide +kernel
theorem d_GV_canForm_43 : decode c_GV_canForm 43 = .ok (.iconst 0, 1) := by decide +kernel
theorem d_GV_canForm_44 : decode c_GV_canForm 44 = .ok (.ireturn, 1) := by decide +kernel
theorem d_GV_canForm_45 : decode c_GV_canForm 45 = .ok (.iinc 2 1, 3) := by decide +kernel
theorem d_GV_canForm_48 : decode c_GV_canForm 48 = .ok (.goto (-46), 3) := by decide +kernel
theorem d_GV_canForm_51 : decode c_GV_canForm 51 = .ok (.iconst 1, 1) := by decide +kernel
theorem d_GV_canForm_52 : decode c_GV_canForm 52 = .ok (.ireturn, 1) := by decide +kernel
theorem d_GV_putToOthers_0 : decode c_GV_putToOthers 0 = .ok (.iconst 0, 1) := by decide +kernel
theorem d_GV_putToOthers_1 : decode c_GV_putToOthers 1 = .ok (.istore 4, 2) := by decide +kernel
theorem d_GV_putToOthers_3 : decode c_GV_putToOthers 3 = .ok (.iload 4, 2) := by decide +kernel
theorem d_GV_putToOthers_5 : decode c_GV_putToOthers 5 = .ok (.iconst 4, 1) := by decide +kernel
theorem d_GV_putToOthers_6 : decode c_GV_putToOthers 6 = .ok (.if_icmp .ge 39, 3) := by decide +kernel
theorem d_GV_putToOthers_9 : decode c_GV_putToOthers 9 = .ok (.iload 4, 2) := by decide +kernel
theorem d_GV_putToOthers_11 : decode c_GV_putToOthers 11 = .ok (.iload_n 1, 1) := by decide +kernel
theorem d_GV_putToOthers_12 : decode c_GV_putToOthers 12 = .ok (.if_icmp .eq 27, 3) := by decide +kernel
theorem d_GV_putToOthers_15 : decode c_GV_putToOthers 15 = .ok (.iload_n 2, 1) := by decide +kernel
theorem d_GV_putToOthers_16 : decode c_GV_putToOthers 16 = .ok (.iload 4, 2) := by decide +kernel
theorem d_GV_putToOthers_18 : decode c_GV_putToOthers 18 = .ok (.invokestatic 76, 3) := by decide +kernel
theorem d_GV_putToOthers_21 : decode c_GV_putToOthers 21 = .ok (.ifCond .eq 18, 3) := by decide +kernel
theorem d_GV_putToOthers_24 : decode c_GV_putToOthers 24 = .ok (.aload_n 0, 1) := by decide +kernel
theorem d_GV_putToOthers_25 : decode c_GV_putToOthers 25 = .ok (.getfield 17, 3) := by decide +kernel
theorem d_GV_putToOthers_28 : decode c_GV_putToOthers 28 = .ok (.iload_n 1, 1) := by decide +kernel
theorem d_GV_putToOthers_29 : decode c_GV_putToOthers 29 = .ok (.iload 4, 2) := by decide +kernel
theorem d_GV_putToOthers_31 : decode c_GV_putToOthers 31 = .ok (.invokestatic 120, 3) := by decide +kernel
theorem d_GV_putToOthers_34 : decode c_GV_putToOthers 34 = .ok (.aaload, 1) := by decide +kernel
theorem d_GV_putToOthers_35 : decode c_GV_putToOthers 35 = .ok (.iload_n 3, 1) := by decide +kernel
theorem d_GV_putToOthers_36 : decode c_GV_putToOthers 36 = .ok (.invokevirtual 171, 3) := by decide +kernel
theorem d_GV_putToOthers_39 : decode c_GV_putToOthers 39 = .ok (.iinc 4 1, 3) := by decide +kernel
theorem d_GV_putToOthers_42 : decode c_GV_putToOthers 42 = .ok (.goto (-39), 3) := by decide +kernel
theorem d_GV_putToOthers_45 : decode c_GV_putToOthers 45 = .ok (.return_, 1) := by decide +kernel
theorem d_GV_receiveSync_0 : decode c_GV_receiveSync 0 = .ok (.aload_n 1, 1) := by decide +kernel
theorem d_GV_receiveSync_1 : decode c_GV_receiveSync 1 = .ok (.iload_n 2, 1) := by decide +kernel
theorem d_GV_receiveSync_2 : decode c_GV_receiveSync 2 = .ok (.iload_n 3, 1) := by decide +kernel
theorem d_GV_receiveSync_3 : decode c_GV_receiveSync 3 = .ok (.invokevirtual 98, 3) := by decide +kernel
theorem d_GV_receiveSync_6 : decode c_GV_receiveSync 6 = .ok (.aload_n 0, 1) := by decide +kernel
theorem d_GV_receiveSync_7 : decode c_GV_receiveSync 7 = .ok (.getfield 11, 3) := by decide +kernel
theorem d_GV_receiveSync_10 : decode c_GV_receiveSync 10 = .ok (.iload_n 2, 1) := by decide +kernel
theorem d_GV_receiveSync_11 : decode c_GV_receiveSync 11 = .ok (.aaload, 1) := by decide +kernel
theorem d_GV_receiveSync_12 : decode c_GV_receiveSync 12 = .ok (.getfield 92, 3) := by decide +kernel
theorem d_GV_receiveSync_15 : decode c_GV_receiveSync 15 = .ok (.iload_n 3, 1) := by decide +kernel
theorem d_GV_receiveSync_16 : decode c_GV_receiveSync 16 = .ok (.iaload, 1) := by decide +kernel
theorem d_GV_receiveSync_17 : decode c_GV_receiveSync 17 = .ok (.istore 4, 2) := by decide +kernel
theorem d_GV_receiveSync_19 : decode c_GV_receiveSync 19 = .ok (.iload 4, 2) := by decide +kernel
theorem d_GV_receiveSync_21 : decode c_GV_receiveSync 21 = .ok (.ifCond .ne 4, 3) := by decide +kernel
theorem d_GV_receiveSync_24 : decode c_GV_receiveSync 24 = .ok (.return_, 1) := by decide +kernel
theorem d_GV_receiveSync_25 : decode c_GV_receiveSync 25 = .ok (.aload_n 0, 1) := by decide +kernel
theorem d_GV_receiveSync_26 : decode c_GV_receiveSync 26 = .ok (.getfield 11, 3) := by decide +kernel
theorem d_GV_receiveSync_29 : decode c_GV_receiveSync 29 = .ok (.iload_n 2, 1) := by decide +kernel
theorem d_GV_receiveSync_30 : decode c_GV_receiveSync 30 = .ok (.aaload, 1) := by decide +kernel
theorem d_GV_receiveSync_31 : decode c_GV_receiveSync 31 = .ok (.getfield 95, 3) := by decide +kernel
theorem d_GV_receiveSync_34 : decode c_GV_receiveSync 34 = .ok (.iload_n 3, 1) := by decide +kernel
theorem d_GV_receiveSync_35 : decode c_GV_receiveSync 35 = .ok (.iaload, 1) := by decide +kernel
theorem d_GV_receiveSync_36 : decode c_GV_receiveSync 36 = .ok (.istore 5, 2) := by decide +kernel
theorem d_GV_receiveSync_38 : decode c_GV_receiveSync 38 = .ok (.iconst 0, 1) := by decide +kernel
theorem d_GV_receiveSync_39 : decode c_GV_receiveSync 39 = .ok (.istore 6, 2) := by decide +kernel
theorem d_GV_receiveSync_41 : decode c_GV_receiveSync 41 = .ok (.iload 6, 2) := by decide +kernel
theorem d_GV_receiveSync_43 : decode c_GV_receiveSync 43 = .ok (.iconst 4, 1) := by decide +kernel
theorem d_GV_receiveSync_44 : decode c_GV_receiveSync 44 = .ok (.if_icmp .ge 40, 3) := by decide +kernel
theorem d_GV_receiveSync_47 : decode c_GV_receiveSync 47 = .ok (.iconst 1, 1) := by decide +kernel
theorem d_GV_receiveSync_48 : decode c_GV_receiveSync 48 = .ok (.istore 7, 2) := by decide +kernel
theorem d_GV_receiveSync_50 : decode c_GV_receiveSync 50 = .ok (.iload 7, 2) := by decide +kernel
theorem d_GV_receiveSync_52 : decode c_GV_receiveSync 52 = .ok (.iload 5, 2) := by decide +kernel
theorem d_GV_receiveSync_54 : decode c_GV_receiveSync 54 = .ok (.iload 6, 2) := by decide +kernel
theorem d_GV_receiveSync_56 : decode c_GV_receiveSync 56 = .ok (.invokestatic 162, 3) := by decide +kernel
theorem d_GV_receiveSync_59 : decode c_GV_receiveSync 59 = .ok (.if_icmp .gt 19, 3) := by decide +kernel
theorem d_GV_receiveSync_62 : decode c_GV_receiveSync 62 = .ok (.aload_n 1, 1) := by decide +kernel
theorem d_GV_receiveSync_63 : decode c_GV_receiveSync 63 = .ok (.iload 4, 2) := by decide +kernel
theorem d_GV_receiveSync_65 : decode c_GV_receiveSync 65 = .ok (.iload 6, 2) := by decide +kernel
theorem d_GV_receiveSync_67 : decode c_GV_receiveSync 67 = .ok (.iload 7, 2) := by decide +kernel
theorem d_GV_receiveSync_69 : decode c_GV_receiveSync 69 = .ok (.invokevirtual 62, 3) := by decide +kernel
theorem d_GV_receiveSync_72 : decode c_GV_receiveSync 72 = .ok (.iinc 7 1, 3) := by decide +kernel
theorem d_GV_receiveSync_75 : decode c_GV_receiveSync 75 = .ok (.goto (-25), 3) := by decide +kernel
theorem d_GV_receiveSync_78 : decode c_GV_receiveSync 78 = .ok (.iinc 6 1, 3) := by decide +kernel
theorem d_GV_receiveSync_81 : decode c_GV_receiveSync 81 = .ok (.goto (-40), 3) := by decide +kernel
theorem d_GV_receiveSync_84 : decode c_GV_receiveSync 84 = .ok (.return_, 1) := by decide +kernel
theorem d_GV_deliverOne_0 : decode c_GV_deliverOne 0 = .ok (.iconst 0, 1) := by decide +kernel
theorem d_GV_deliverOne_1 : decode c_GV_deliverOne 1 = .ok (.istore_n 3, 1) := by decide +kernel
theorem d_GV_deliverOne_2 : decode c_GV_deliverOne 2 = .ok (.iload_n 3, 1) := by decide +kernel
theorem d_GV_deliverOne_3 : decode c_GV_deliverOne 3 = .ok (.iconst 4, 1) := by decide +kernel
theorem d_GV_deliverOne_4 : decode c_GV_deliverOne 4 = .ok (.if_icmp .ge 78, 3) := by decide +kernel
theorem d_GV_deliverOne_7 : decode c_GV_deliverOne 7 = .ok (.aload_n 0, 1) := by decide +kernel
theorem d_GV_deliverOne_8 : decode c_GV_deliverOne 8 = .ok (.aload_n 1, 1) := by decide +kernel
theorem d_GV_deliverOne_9 : decode c_GV_deliverOne 9 = .ok (.iload_n 3, 1) := by decide +kernel
theorem d_GV_deliverOne_10 : decode c_GV_deliverOne 10 = .ok (.iload_n 2, 1) := by decide +kernel
theorem d_GV_deliverOne_11 : decode c_GV_deliverOne 11 = .ok (.invokevirtual 175, 3) := by decide +kernel
theorem d_GV_deliverOne_14 : decode c_GV_deliverOne 14 = .ok (.ifCond .eq 62, 3) := by decide +kernel
theorem d_GV_deliverOne_17 : decode c_GV_deliverOne 17 = .ok (.aload_n 1, 1) := by decide +kernel
theorem d_GV_deliverOne_18 : decode c_GV_deliverOne 18 = .ok (.getfield 55, 3) := by decide +kernel
theorem d_GV_deliverOne_21 : decode c_GV_deliverOne 21 = .ok (.iload_n 3, 1) := by decide +kernel
theorem d_GV_deliverOne_22 : decode c_GV_deliverOne 22 = .ok (.invokestatic 162, 3) := by decide +kernel
theorem d_GV_deliverOne_25 : decode c_GV_deliverOne 25 = .ok (.iconst 1, 1) := by decide +kernel
theorem d_GV_deliverOne_26 : decode c_GV_deliverOne 26 = .ok (.iadd, 1) := by decide +kernel
theorem d_GV_deliverOne_27 : decode c_GV_deliverOne 27 = .ok (.istore 4, 2) := by decide +kernel
theorem d_GV_deliverOne_29 : decode c_GV_deliverOne 29 = .ok (.aload_n 0, 1) := by decide +kernel
theorem d_GV_deliverOne_30 : decode c_GV_deliverOne 30 = .ok (.getfield 11, 3) := by decide +kernel
theorem d_GV_deliverOne_33 : decode c_GV_deliverOne 33 = .ok (.iload_n 3, 1) := by decide +kernel
theorem d_GV_deliverOne_34 : decode c_GV_deliverOne 34 = .ok (.aaload, 1) := by decide +kernel
theorem d_GV_deliverOne_35 : decode c_GV_deliverOne 35 = .ok (.getfield 49, 3) := by decide +kernel
theorem d_GV_deliverOne_38 : decode c_GV_deliverOne 38 = .ok (.aload_n 1, 1) := by decide +kernel
theorem d_GV_deliverOne_39 : decode c_GV_deliverOne 39 = .ok (.getfield 42, 3) := by decide +kernel
theorem d_GV_deliverOne_42 : decode c_GV_deliverOne 42 = .ok (.iload 4, 2) := by decide +kernel
theorem d_GV_deliverOne_44 : decode c_GV_deliverOne 44 = .ok (.invokestatic 45, 3) := by decide +kernel
theorem d_GV_deliverOne_47 : decode c_GV_deliverOne 47 = .ok (.iaload, 1) := by decide +kernel
theorem d_GV_deliverOne_48 : decode c_GV_deliverOne 48 = .ok (.istore 5, 2) := by decide +kernel
theorem d_GV_deliverOne_50 : decode c_GV_deliverOne 50 = .ok (.aload_n 1, 1) := by decide +kernel
theorem d_GV_deliverOne_51 : decode c_GV_deliverOne 51 = .ok (.aload_n 1, 1) := by decide +kernel
theorem d_GV_deliverOne_52 : decode c_GV_deliverOne 52 = .ok (.getfield 55, 3) := by decide +kernel
theorem d_GV_deliverOne_55 : decode c_GV_deliverOne 55 = .ok (.iload_n 3, 1) := by decide +kernel
theorem d_GV_deliverOne_56 : decode c_GV_deliverOne 56 = .ok (.iload 4, 2) := by decide +kernel
theorem d_GV_deliverOne_58 : decode c_GV_deliverOne 58 = .ok (.invokestatic 58, 3) := by decide +kernel
theorem d_GV_deliverOne_61 : decode c_GV_deliverOne 61 = .ok (.putfield 55, 3) := by decide +kernel
theorem d_GV_deliverOne_64 : decode c_GV_deliverOne 64 = .ok (.aload_n 1, 1) := by decide +kernel
theorem d_GV_deliverOne_65 : decode c_GV_deliverOne 65 = .ok (.iconst 1, 1) := by decide +kernel
theorem d_GV_deliverOne_66 : decode c_GV_deliverOne 66 = .ok (.iload_n 3, 1) := by decide +kernel
theorem d_GV_deliverOne_67 : decode c_GV_deliverOne 67 = .ok (.iload 4, 2) := by decide +kernel
theorem d_GV_deliverOne_69 : decode c_GV_deliverOne 69 = .ok (.iload 5, 2) := by decide +kernel
theorem d_GV_deliverOne_71 : decode c_GV_deliverOne 71 = .ok (.invokevirtual 152, 3) := by decide +kernel
theorem d_GV_deliverOne_74 : decode c_GV_deliverOne 74 = .ok (.iconst 1, 1) := by decide +kernel
theorem d_GV_deliverOne_75 : decode c_GV_deliverOne 75 = .ok (.ireturn, 1) := by decide +kernel
theorem d_GV_deliverOne_76 : decode c_GV_deliverOne 76 = .ok (.iinc 3 1, 3) := by decide +kernel
theorem d_GV_deliverOne_79 : decode c_GV_deliverOne 79 = .ok (.goto (-77), 3) := by decide +kernel
theorem d_GV_deliverOne_82 : decode c_GV_deliverOne 82 = .ok (.iconst 0, 1) := by decide +kernel
theorem d_GV_deliverOne_83 : decode c_GV_deliverOne 83 = .ok (.ireturn, 1) := by decide +kernel
theorem d_GV_isDeliverable_0 : decode c_GV_isDeliverable 0 = .ok (.aload_n 1, 1) := by decide +kernel
theorem d_GV_isDeliverable_1 : decode c_GV_isDeliverable 1 = .ok (.getfield 55, 3) := by decide +kernel
theorem d_GV_isDeliverable_4 : decode c_GV_isDeliverable 4 = .ok (.iload_n 2, 1) := by decide +kernel
theorem d_GV_isDeliverable_5 : decode c_GV_isDeliverable 5 = .ok (.invokestatic 162, 3) := by decide +kernel
theorem d_GV_isDeliverable_8 : decode c_GV_isDeliverable 8 = .ok (.istore 4, 2) := by decide +kernel
theorem d_GV_isDeliverable_10 : decode c_GV_isDeliverable 10 = .ok (.iload 4, 2) := by decide +kernel
theorem d_GV_isDeliverable_12 : decode c_GV_isDeliverable 12 = .ok (.iload_n 3, 1) := by decide +kernel
theorem d_GV_isDeliverable_13 : decode c_GV_isDeliverable 13 = .ok (.iload_n 2, 1) := by decide +kernel
theorem d_GV_isDeliverable_14 : decode c_GV_isDeliverable 14 = .ok (.invokestatic 162, 3) := by decide +kernel
theorem d_GV_isDeliverable_17 : decode c_GV_isDeliverable 17 = .ok (.if_icmp .ge 15, 3) := by decide +kernel
theorem d_GV_isDeliverable_20 : decode c_GV_isDeliverable 20 = .ok (.aload_n 1, 1) := by decide +kernel
theorem d_GV_isDeliverable_21 : decode c_GV_isDeliverable 21 = .ok (.iload_n 2, 1) := by decide +kernel
theorem d_GV_isDeliverable_22 : decode c_GV_isDeliverable 22 = .ok (.iload 4, 2) := by decide +kernel
theorem d_GV_isDeliverable_24 : decode c_GV_isDeliverable 24 = .ok (.iconst 1, 1) := by decide +kernel
theorem d_GV_isDeliverable_25 : decode c_GV_isDeliverable 25 = .ok (.iadd, 1) := by decide +kernel
theorem d_GV_isDeliverable_26 : decode c_GV_isDeliverable 26 = .ok (.invokevirtual 179, 3) := by decide +kernel
theorem d_GV_isDeliverable_29 : decode c_GV_isDeliverable 29 = .ok (.ifCond .ne 5, 3) := by decide +kernel
theorem d_GV_isDeliverable_32 : decode c_GV_isDeliverable 32 = .ok (.iconst 0, 1) := by decide +kernel
theorem d_GV_isDeliverable_33 : decode c_GV_isDeliverable 33 = .ok (.ireturn, 1) := by decide +kernel
theorem d_GV_isDeliverable_34 : decode c_GV_isDeliverable 34 = .ok (.aload_n 0, 1) := by decide +kernel
theorem d_GV_isDeliverable_35 : decode c_GV_isDeliverable 35 = .ok (.getfield 11, 3) := by decide +kernel
theorem d_GV_isDeliverable_38 : decode c_GV_isDeliverable 38 = .ok (.iload_n 2, 1) := by decide +kernel
theorem d_GV_isDeliverable_39 : decode c_GV_isDeliverable 39 = .ok (.aaload, 1) := by decide +kernel
theorem d_GV_isDeliverable_40 : decode c_GV_isDeliverable 40 = .ok (.getfield 52, 3) := by decide +kernel
theorem d_GV_isDeliverable_43 : decode c_GV_isDeliverable 43 = .ok (.aload_n 1, 1) := by decide +kernel
theorem d_GV_isDeliverable_44 : decode c_GV_isDeliverable 44 = .ok (.getfield 42, 3) := by decide +kernel
theorem d_GV_isDeliverable_47 : decode c_GV_isDeliverable 47 = .ok (.iload 4, 2) := by decide +kernel
theorem d_GV_isDeliverable_49 : decode c_GV_isDeliverable 49 = .ok (.iconst 1, 1) := by decide +kernel
theorem d_GV_isDeliverable_50 : decode c_GV_isDeliverable 50 = .ok (.iadd, 1) := by decide +kernel
theorem d_GV_isDeliverable_51 : decode c_GV_isDeliverable 51 = .ok (.invokestatic 45, 3) := by decide +kernel
theorem d_GV_isDeliverable_54 : decode c_GV_isDeliverable 54 = .ok (.iaload, 1) := by decide +kernel
theorem d_GV_isDeliverable_55 : decode c_GV_isDeliverable 55 = .ok (.istore 5, 2) := by decide +kernel
theorem d_GV_isDeliverable_57 : decode c_GV_isDeliverable 57 = .ok (.iconst 0, 1) := by decide +kernel
theorem d_GV_isDeliverable_58 : decode c_GV_isDeliverable 58 = .ok (.istore 6, 2) := by decide +kernel
theorem d_GV_isDeliverable_60 : decode c_GV_isDeliverable 60 = .ok (.iload 6, 2) := by decide +kernel
theorem d_GV_isDeliverable_62 : decode c_GV_isDeliverable 62 = .ok (.iconst 4, 1) := by decide +kernel
theorem d_GV_isDeliverable_63 : decode c_GV_isDeliverable 63 = .ok (.if_icmp .ge 30, 3) := by decide +kernel
theorem d_GV_isDeliverable_66 : decode c_GV_isDeliverable 66 = .ok (.aload_n 1, 1) := by decide +kernel
theorem d_GV_isDeliverable_67 : decode c_GV_isDeliverable 67 = .ok (.getfield 55, 3) := by decide +kernel
theorem d_GV_isDeliverable_70 : decode c_GV_isDeliverable 70 = .ok (.iload 6, 2) := by decide +kernel
theorem d_GV_isDeliverable_72 : decode c_GV_isDeliverable 72 = .ok (.invokestatic 162, 3) := by decide +kernel
theorem d_GV_isDeliverable_75 : decode c_GV_isDeliverable 75 = .ok (.iload 5, 2) := by decide +kernel
theorem d_GV_isDeliverable_77 : decode c_GV_isDeliverable 77 = .ok (.iload 6, 2) := by decide +kernel
theorem d_GV_isDeliverable_79 : decode c_GV_isDeliverable 79 = .ok (.invokestatic 162, 3) := by decide +kernel
theorem d_GV_isDeliverable_82 : decode c_GV_isDeliverable 82 = .ok (.if_icmp .ge 5, 3) := by decide +kernel
theorem d_GV_isDeliverable_85 : decode c_GV_isDeliverable 85 = .ok (.iconst 0, 1) := by decide +kernel
theorem d_GV_isDeliverable_86 : decode c_GV_isDeliverable 86 = .ok (.ireturn, 1) := by decide +kernel
theorem d_GV_isDeliverable_87 : decode c_GV_isDeliverable 87 = .ok (.iinc 6 1, 3) := by decide +kernel
theorem d_GV_isDeliverable_90 : decode c_GV_isDeliverable 90 = .ok (.goto (-30), 3) := by decide +kernel
theorem d_GV_isDeliverable_93 : decode c_GV_isDeliverable 93 = .ok (.iconst 1, 1) := by decide +kernel
theorem d_GV_isDeliverable_94 : decode c_GV_isDeliverable 94 = .ok (.ireturn, 1) := by decide +kernel
theorem d_GV_isReady_0 : decode c_GV_isReady 0 = .ok (.iconst 0, 1) := by decide +kernel
theorem d_GV_isReady_1 : decode c_GV_isReady 1 = .ok (.istore_n 3, 1) := by decide +kernel
theorem d_GV_isReady_2 : decode c_GV_isReady 2 = .ok (.iload_n 3, 1) := by decide +kernel
theorem d_GV_isReady_3 : decode c_GV_isReady 3 = .ok (.iconst 4, 1) := by decide +kernel
theorem d_GV_isReady_4 : decode c_GV_isReady 4 = .ok (.if_icmp .ge 40, 3) := by decide +kernel
theorem d_GV_isReady_7 : decode c_GV_isReady 7 = .ok (.iload_n 2, 1) := by decide +kernel
theorem d_GV_isReady_8 : decode c_GV_isReady 8 = .ok (.iload_n 3, 1) := by decide +kernel
theorem d_GV_isReady_9 : decode c_GV_isReady 9 = .ok (.invokestatic 76, 3) := by decide +kernel
theorem d_GV_isReady_12 : decode c_GV_isReady 12 = .ok (.ifCond .eq 26, 3) := by decide +kernel
theorem d_GV_isReady_15 : decode c_GV_isReady 15 = .ok (.aload_n 1, 1) := by decide +kernel
theorem d_GV_isReady_16 : decode c_GV_isReady 16 = .ok (.iload_n 3, 1) := by decide +kernel
theorem d_GV_isReady_17 : decode c_GV_isReady 17 = .ok (.aload_n 0, 1) := by decide +kernel
theorem d_GV_isReady_18 : decode c_GV_isReady 18 = .ok (.getfield 25, 3) := by decide +kernel
theorem d_GV_isReady_21 : decode c_GV_isReady 21 = .ok (.aload_n 1, 1) := by decide +kernel
theorem d_GV_isReady_22 : decode c_GV_isReady 22 = .ok (.getfield 89, 3) := by decide +kernel
theorem d_GV_isReady_25 : decode c_GV_isReady 25 = .ok (.iload_n 3, 1) := by decide +kernel
theorem d_GV_isReady_26 : decode c_GV_isReady 26 = .ok (.invokestatic 108, 3) := by decide +kernel
theorem d_GV_isReady_29 : decode c_GV_isReady 29 = .ok (.iaload, 1) := by decide +kernel
theorem d_GV_isReady_30 : decode c_GV_isReady 30 = .ok (.invokevirtual 182, 3) := by decide +kernel
theorem d_GV_isReady_33 : decode c_GV_isReady 33 = .ok (.ifCond .ne 5, 3) := by decide +kernel
theorem d_GV_isReady_36 : decode c_GV_isReady 36 = .ok (.iconst 0, 1) := by decide +kernel
theorem d_GV_isReady_37 : decode c_GV_isReady 37 = .ok (.ireturn, 1) := by decide +kernel
theorem d_GV_isReady_38 : decode c_GV_isReady 38 = .ok (.iinc 3 1, 3) := by decide +kernel
theorem d_GV_isReady_41 : decode c_GV_isReady 41 = .ok (.goto (-39), 3) := by decide +kernel
theorem d_GV_isReady_44 : decode c_GV_isReady 44 = .ok (.iconst 1, 1) := by decide +kernel
theorem d_GV_isReady_45 : decode c_GV_isReady 45 = .ok (.ireturn, 1) := by decide +kernel
theorem d_GV_companionsAmong_0 : decode c_GV_companionsAmong 0 = .ok (.iconst 0, 1) := by decide +kernel
theorem d_GV_companionsAmong_1 : decode c_GV_companionsAmong 1 = .ok (.istore_n 3, 1) := by decide +kernel
theorem d_GV_companionsAmong_2 : decode c_GV_companionsAmong 2 = .ok (.iconst 0, 1) := by decide +kernel
theorem d_GV_companionsAmong_3 : decode c_GV_companionsAmong 3 = .ok (.istore 4, 2) := by decide +kernel
theorem d_GV_companionsAmong_5 : decode c_GV_companionsAmong 5 = .ok (.iload 4, 2) := by decide +kernel
theorem d_GV_companionsAmong_7 : decode c_GV_companionsAmong 7 = .ok (.iconst 4, 1) := by decide +kernel
theorem d_GV_companionsAmong_8 : decode c_GV_companionsAmong 8 = .ok (.if_icmp .ge 61, 3) := by decide +kernel
theorem d_GV_companionsAmong_11 : decode c_GV_companionsAmong 11 = .ok (.aload_n 0, 1) := by decide +kernel
theorem d_GV_companionsAmong_12 : decode c_GV_companionsAmong 12 = .ok (.getfield 25, 3) := by decide +kernel
theorem d_GV_companionsAmong_15 : decode c_GV_companionsAmong 15 = .ok (.aload_n 1, 1) := by decide +kernel
theorem d_GV_companionsAmong_16 : decode c_GV_companionsAmong 16 = .ok (.getfield 89, 3) := by decide +kernel
theorem d_GV_companionsAmong_19 : decode c_GV_companionsAmong 19 = .ok (.iload 4, 2) := by decide +kernel
theorem d_GV_companionsAmong_21 : decode c_GV_companionsAmong 21 = .ok (.invokestatic 108, 3) := by decide +kernel
theorem d_GV_companionsAmong_24 : decode c_GV_companionsAmong 24 = .ok (.iaload, 1) := by decide +kernel
theorem d_GV_companionsAmong_25 : decode c_GV_companionsAmong 25 = .ok (.istore 5, 2) := by decide +kernel
theorem d_GV_companionsAmong_27 : decode c_GV_companionsAmong 27 = .ok (.iload_n 2, 1) := by decide +kernel
theorem d_GV_companionsAmong_28 : decode c_GV_companionsAmong 28 = .ok (.iload 4, 2) := by decide +kernel
theorem d_GV_companionsAmong_30 : decode c_GV_companionsAmong 30 = .ok (.invokestatic 76, 3) := by decide +kernel
theorem d_GV_companionsAmong_33 : decode c_GV_companionsAmong 33 = .ok (.ifCond .eq 30, 3) := by decide +kernel
theorem d_GV_companionsAmong_36 : decode c_GV_companionsAmong 36 = .ok (.aload_n 0, 1) := by decide +kernel
theorem d_GV_companionsAmong_37 : decode c_GV_companionsAmong 37 = .ok (.getfield 11, 3) := by decide +kernel
theorem d_GV_companionsAmong_40 : decode c_GV_companionsAmong 40 = .ok (.iload 4, 2) := by decide +kernel
theorem d_GV_companionsAmong_42 : decode c_GV_companionsAmong 42 = .ok (.aaload, 1) := by decide +kernel
theorem d_GV_companionsAmong_43 : decode c_GV_companionsAmong 43 = .ok (.getfield 92, 3) := by decide +kernel
theorem d_GV_companionsAmong_46 : decode c_GV_companionsAmong 46 = .ok (.iload 5, 2) := by decide +kernel
theorem d_GV_companionsAmong_48 : decode c_GV_companionsAmong 48 = .ok (.iaload, 1) := by decide +kernel
theorem d_GV_companionsAmong_49 : decode c_GV_companionsAmong 49 = .ok (.aload_n 1, 1) := by decide +kernel
theorem d_GV_companionsAmong_50 : decode c_GV_companionsAmong 50 = .ok (.getfield 42, 3) := by decide +kernel
theorem d_GV_companionsAmong_53 : decode c_GV_companionsAmong 53 = .ok (.if_icmp .ne 10, 3) := by decide +kernel
theorem d_GV_companionsAmong_56 : decode c_GV_companionsAmong 56 = .ok (.iload_n 3, 1) := by decide +kernel
theorem d_GV_companionsAmong_57 : decode c_GV_companionsAmong 57 = .ok (.iconst 1, 1) := by decide +kernel
theorem d_GV_companionsAmong_58 : decode c_GV_companionsAmong 58 = .ok (.iload 4, 2) := by decide +kernel
theorem d_GV_companionsAmong_60 : decode c_GV_companionsAmong 60 = .ok (.ishl, 1) := by decide +kernel
theorem d_GV_companionsAmong_61 : decode c_GV_companionsAmong 61 = .ok (.ior, 1) := by decide +kernel
theorem d_GV_companionsAmong_62 : decode c_GV_companionsAmong 62 = .ok (.istore_n 3, 1) := by decide +kernel
theorem d_GV_companionsAmong_63 : decode c_GV_companionsAmong 63 = .ok (.iinc 4 1, 3) := by decide +kernel
theorem d_GV_companionsAmong_66 : decode c_GV_companionsAmong 66 = .ok (.goto (-61), 3) := by decide +kernel
theorem d_GV_companionsAmong_69 : decode c_GV_companionsAmong 69 = .ok (.iload_n 3, 1) := by decide +kernel
theorem d_GV_companionsAmong_70 : decode c_GV_companionsAmong 70 = .ok (.ireturn, 1) := by decide +kernel
theorem d_GV_limitsOf_0 : decode c_GV_limitsOf 0 = .ok (.iconst 0, 1) := by decide +kernel
theorem d_GV_limitsOf_1 : decode c_GV_limitsOf 1 = .ok (.istore_n 3, 1) := by decide +kernel
theorem d_GV_limitsOf_2 : decode c_GV_limitsOf 2 = .ok (.iconst 0, 1) := by decide +kernel
theorem d_GV_limitsOf_3 : decode c_GV_limitsOf 3 = .ok (.istore 4, 2) := by decide +kernel
theorem d_GV_limitsOf_5 : decode c_GV_limitsOf 5 = .ok (.iload 4, 2) := by decide +kernel
theorem d_GV_limitsOf_7 : decode c_GV_limitsOf 7 = .ok (.iconst 4, 1) := by decide +kernel
theorem d_GV_limitsOf_8 : decode c_GV_limitsOf 8 = .ok (.if_icmp .ge 45, 3) := by decide +kernel
theorem d_GV_limitsOf_11 : decode c_GV_limitsOf 11 = .ok (.iload_n 2, 1) := by decide +kernel
theorem d_GV_limitsOf_12 : decode c_GV_limitsOf 12 = .ok (.iload 4, 2) := by decide +kernel
theorem d_GV_limitsOf_14 : decode c_GV_limitsOf 14 = .ok (.invokestatic 76, 3) := by decide +kernel
theorem d_GV_limitsOf_17 : decode c_GV_limitsOf 17 = .ok (.ifCond .eq 30, 3) := by decide +kernel
theorem d_GV_limitsOf_20 : decode c_GV_limitsOf 20 = .ok (.iload_n 3, 1) := by decide +kernel
theorem d_GV_limitsOf_21 : decode c_GV_limitsOf 21 = .ok (.aload_n 0, 1) := by decide +kernel
theorem d_GV_limitsOf_22 : decode c_GV_limitsOf 22 = .ok (.getfield 11, 3) := by decide +kernel
theorem d_GV_limitsOf_25 : decode c_GV_limitsOf 25 = .ok (.iload 4, 2) := by decide +kernel
theorem d_GV_limitsOf_27 : decode c_GV_limitsOf 27 = .ok (.aaload, 1) := by decide +kernel
theorem d_GV_limitsOf_28 : decode c_GV_limitsOf 28 = .ok (.getfield 95, 3) := by decide +kernel
theorem d_GV_limitsOf_31 : decode c_GV_limitsOf 31 = .ok (.aload_n 0, 1) := by decide +kernel
theorem d_GV_limitsOf_32 : decode c_GV_limitsOf 32 = .ok (.getfield 25, 3) := by decide +kernel
theorem d_GV_limitsOf_35 : decode c_GV_limitsOf 35 = .ok (.iload_n 1, 1) := by decide +kernel
theorem d_GV_limitsOf_36 : decode c_GV_limitsOf 36 = .ok (.iload 4, 2) := by decide +kernel
theorem d_GV_limitsOf_38 : decode c_GV_limitsOf 38 = .ok (.invokestatic 108, 3) := by decide +kernel
theorem d_GV_limitsOf_41 : decode c_GV_limitsOf 41 = .ok (.iaload, 1) := by decide +kernel
theorem d_GV_limitsOf_42 : decode c_GV_limitsOf 42 = .ok (.iaload, 1) := by decide +kernel
theorem d_GV_limitsOf_43 : decode c_GV_limitsOf 43 = .ok (.invokestatic 185, 3) := by decide +kernel
theorem d_GV_limitsOf_46 : decode c_GV_limitsOf 46 = .ok (.istore_n 3, 1) := by decide +kernel
theorem d_GV_limitsOf_47 : decode c_GV_limitsOf 47 = .ok (.iinc 4 1, 3) := by decide +kernel
theorem d_GV_limitsOf_50 : decode c_GV_limitsOf 50 = .ok (.goto (-45), 3) := by decide +kernel
theorem d_GV_limitsOf_53 : decode c_GV_limitsOf 53 = .ok (.iload_n 3, 1) := by decide +kernel
theorem d_GV_limitsOf_54 : decode c_GV_limitsOf 54 = .ok (.ireturn, 1) := by decide +kernel
theorem d_GV_presentSet_0 : decode c_GV_presentSet 0 = .ok (.aload_n 0, 1) := by decide +kernel
theorem d_GV_presentSet_1 : decode c_GV_presentSet 1 = .ok (.getfield 11, 3) := by decide +kernel
theorem d_GV_presentSet_4 : decode c_GV_presentSet 4 = .ok (.iload_n 1, 1) := by decide +kernel
theorem d_GV_presentSet_5 : decode c_GV_presentSet 5 = .ok (.aaload, 1) := by decide +kernel
theorem d_GV_presentSet_6 : decode c_GV_presentSet 6 = .ok (.getfield 42, 3) := by decide +kernel
theorem d_GV_presentSet_9 : decode c_GV_presentSet 9 = .ok (.istore_n 2, 1) := by decide +kernel
theorem d_GV_presentSet_10 : decode c_GV_presentSet 10 = .ok (.iload_n 2, 1) := by decide +kernel
theorem d_GV_presentSet_11 : decode c_GV_presentSet 11 = .ok (.ifCond .ne 9, 3) := by decide +kernel
theorem d_GV_presentSet_14 : decode c_GV_presentSet 14 = .ok (.iconst 1, 1) := by decide +kernel
theorem d_GV_presentSet_15 : decode c_GV_presentSet 15 = .ok (.iload_n 1, 1) := by decide +kernel
theorem d_GV_presentSet_16 : decode c_GV_presentSet 16 = .ok (.ishl, 1) := by decide +kernel
theorem d_GV_presentSet_17 : decode c_GV_presentSet 17 = .ok (.goto 9, 3) := by decide +kernel
theorem d_GV_presentSet_20 : decode c_GV_presentSet 20 = .ok (.aload_n 0, 1) := by decide +kernel
theorem d_GV_presentSet_21 : decode c_GV_presentSet 21 = .ok (.getfield 21, 3) := by decide +kernel
theorem d_GV_presentSet_24 : decode c_GV_presentSet 24 = .ok (.iload_n 2, 1) := by decide +kernel
theorem d_GV_presentSet_25 : decode c_GV_presentSet 25 = .ok (.iaload, 1) := by decide +kernel
theorem d_GV_presentSet_26 : decode c_GV_presentSet 26 = .ok (.ireturn, 1) := by decide +kernel
theorem d_GV_isFormed_0 : decode c_GV_isFormed 0 = .ok (.iload_n 1, 1) := by decide +kernel
theorem d_GV_isFormed_1 : decode c_GV_isFormed 1 = .ok (.iconst 1, 1) := by decide +kernel
theorem d_GV_isFormed_2 : decode c_GV_isFormed 2 = .ok (.if_icmp .lt 15, 3) := by decide +kernel
theorem d_GV_isFormed_5 : decode c_GV_isFormed 5 = .ok (.iload_n 1, 1) := by decide +kernel
theorem d_GV_isFormed_6 : decode c_GV_isFormed 6 = .ok (.aload_n 0, 1) := by decide +kernel
theorem d_GV_isFormed_7 : decode c_GV_isFormed 7 = .ok (.getfield 102, 3) := by decide +kernel
theorem d_GV_isFormed_10 : decode c_GV_isFormed 10 = .ok (.if_icmp .gt 7, 3) := by decide +kernel
theorem d_GV_isFormed_13 : decode c_GV_isFormed 13 = .ok (.iconst 1, 1) := by decide +kernel
theorem d_GV_isFormed_14 : decode c_GV_isFormed 14 = .ok (.goto 4, 3) := by decide +kernel
theorem d_GV_isFormed_17 : decode c_GV_isFormed 17 = .ok (.iconst 0, 1) := by decide +kernel
theorem d_GV_isFormed_18 : decode c_GV_isFormed 18 = .ok (.ireturn, 1) := by decide +kernel
theorem d_GV_isProcess_0 : decode c_GV_isProcess 0 = .ok (.iload_n 0, 1) := by decide +kernel
theorem d_GV_isProcess_1 : decode c_GV_isProcess 1 = .ok (.ifCond .lt 12, 3) := by decide +kernel
theorem d_GV_isProcess_4 : decode c_GV_isProcess 4 = .ok (.iload_n 0, 1) := by decide +kernel
theorem d_GV_isProcess_5 : decode c_GV_isProcess 5 = .ok (.iconst 4, 1) := by decide +kernel
theorem d_GV_isProcess_6 : decode c_GV_isProcess 6 = .ok (.if_icmp .ge 7, 3) := by decide +kernel
theorem d_GV_isProcess_9 : decode c_GV_isProcess 9 = .ok (.iconst 1, 1) := by decide +kernel
theorem d_GV_isProcess_10 : decode c_GV_isProcess 10 = .ok (.goto 4, 3) := by decide +kernel
theorem d_GV_isProcess_13 : decode c_GV_isProcess 13 = .ok (.iconst 0, 1) := by decide +kernel
theorem d_GV_isProcess_14 : decode c_GV_isProcess 14 = .ok (.ireturn, 1) := by decide +kernel
theorem d_GV_isLine_0 : decode c_GV_isLine 0 = .ok (.iload_n 0, 1) := by decide +kernel
theorem d_GV_isLine_1 : decode c_GV_isLine 1 = .ok (.invokestatic 30, 3) := by decide +kernel
theorem d_GV_isLine_4 : decode c_GV_isLine 4 = .ok (.ifCond .eq 19, 3) := by decide +kernel
theorem d_GV_isLine_7 : decode c_GV_isLine 7 = .ok (.iload_n 1, 1) := by decide +kernel
theorem d_GV_isLine_8 : decode c_GV_isLine 8 = .ok (.invokestatic 30, 3) := by decide +kernel
theorem d_GV_isLine_11 : decode c_GV_isLine 11 = .ok (.ifCond .eq 12, 3) := by decide +kernel
theorem d_GV_isLine_14 : decode c_GV_isLine 14 = .ok (.iload_n 0, 1) := by decide +kernel
theorem d_GV_isLine_15 : decode c_GV_isLine 15 = .ok (.iload_n 1, 1) := by decide +kernel
theorem d_GV_isLine_16 : decode c_GV_isLine 16 = .ok (.if_icmp .eq 7, 3) := by decide +kernel
theorem d_GV_isLine_19 : decode c_GV_isLine 19 = .ok (.iconst 1, 1) := by decide +kernel
theorem d_GV_isLine_20 : decode c_GV_isLine 20 = .ok (.goto 4, 3) := by decide +kernel
theorem d_GV_isLine_23 : decode c_GV_isLine 23 = .ok (.iconst 0, 1) := by decide +kernel
theorem d_GV_isLine_24 : decode c_GV_isLine 24 = .ok (.ireturn, 1) := by decide +kernel
theorem d_GV_isNonEmptySet_0 : decode c_GV_isNonEmptySet 0 = .ok (.iload_n 0, 1) := by decide +kernel
theorem d_GV_isNonEmptySet_1 : decode c_GV_isNonEmptySet 1 = .ok (.iconst 1, 1) := by decide +kernel
theorem d_GV_isNonEmptySet_2 : decode c_GV_isNonEmptySet 2 = .ok (.if_icmp .lt 13, 3) := by decide +kernel
theorem d_GV_isNonEmptySet_5 : decode c_GV_isNonEmptySet 5 = .ok (.iload_n 0, 1) := by decide +kernel
theorem d_GV_isNonEmptySet_6 : decode c_GV_isNonEmptySet 6 = .ok (.bipush 15, 2) := by decide +kernel
theorem d_GV_isNonEmptySet_8 : decode c_GV_isNonEmptySet 8 = .ok (.if_icmp .gt 7, 3) := by decide +kernel
theorem d_GV_isNonEmptySet_11 : decode c_GV_isNonEmptySet 11 = .ok (.iconst 1, 1) := by decide +kernel
theorem d_GV_isNonEmptySet_12 : decode c_GV_isNonEmptySet 12 = .ok (.goto 4, 3) := by decide +kernel
theorem d_GV_isNonEmptySet_15 : decode c_GV_isNonEmptySet 15 = .ok (.iconst 0, 1) := by decide +kernel
theorem d_GV_isNonEmptySet_16 : decode c_GV_isNonEmptySet 16 = .ok (.ireturn, 1) := by decide +kernel
theorem d_GV_has_0 : decode c_GV_has 0 = .ok (.iload_n 0, 1) := by decide +kernel
theorem d_GV_has_1 : decode c_GV_has 1 = .ok (.iload_n 1, 1) := by decide +kernel
theorem d_GV_has_2 : decode c_GV_has 2 = .ok (.ishr, 1) := by decide +kernel
theorem d_GV_has_3 : decode c_GV_has 3 = .ok (.iconst 1, 1) := by decide +kernel
theorem d_GV_has_4 : decode c_GV_has 4 = .ok (.iand, 1) := by decide +kernel
theorem d_GV_has_5 : decode c_GV_has 5 = .ok (.iconst 1, 1) := by decide +kernel
theorem d_GV_has_6 : decode c_GV_has 6 = .ok (.if_icmp .ne 7, 3) := by decide +kernel
theorem d_GV_has_9 : decode c_GV_has 9 = .ok (.iconst 1, 1) := by decide +kernel
theorem d_GV_has_10 : decode c_GV_has 10 = .ok (.goto 4, 3) := by decide +kernel
theorem d_GV_has_13 : decode c_GV_has 13 = .ok (.iconst 0, 1) := by decide +kernel
theorem d_GV_has_14 : decode c_GV_has 14 = .ok (.ireturn, 1) := by decide +kernel
theorem d_GV_lineIndex_0 : decode c_GV_lineIndex 0 = .ok (.iload_n 0, 1) := by decide +kernel
theorem d_GV_lineIndex_1 : decode c_GV_lineIndex 1 = .ok (.iconst 4, 1) := by decide +kernel
theorem d_GV_lineIndex_2 : decode c_GV_lineIndex 2 = .ok (.imul, 1) := by decide +kernel
theorem d_GV_lineIndex_3 : decode c_GV_lineIndex 3 = .ok (.iload_n 1, 1) := by decide +kernel
theorem d_GV_lineIndex_4 : decode c_GV_lineIndex 4 = .ok (.iadd, 1) := by decide +kernel
theorem d_GV_lineIndex_5 : decode c_GV_lineIndex 5 = .ok (.ireturn, 1) := by decide +kernel
theorem d_GV_startIndex_0 : decode c_GV_startIndex 0 = .ok (.iload_n 0, 1) := by decide +kernel
theorem d_GV_startIndex_1 : decode c_GV_startIndex 1 = .ok (.iconst 4, 1) := by decide +kernel
theorem d_GV_startIndex_2 : decode c_GV_startIndex 2 = .ok (.imul, 1) := by decide +kernel
theorem d_GV_startIndex_3 : decode c_GV_startIndex 3 = .ok (.iload_n 1, 1) := by decide +kernel
theorem d_GV_startIndex_4 : decode c_GV_startIndex 4 = .ok (.iadd, 1) := by decide +kernel
theorem d_GV_startIndex_5 : decode c_GV_startIndex 5 = .ok (.ireturn, 1) := by decide +kernel
theorem d_GV_slotOf_0 : decode c_GV_slotOf 0 = .ok (.iload_n 0, 1) := by decide +kernel
theorem d_GV_slotOf_1 : decode c_GV_slotOf 1 = .ok (.iconst 4, 1) := by decide +kernel
theorem d_GV_slotOf_2 : decode c_GV_slotOf 2 = .ok (.imul, 1) := by decide +kernel
theorem d_GV_slotOf_3 : decode c_GV_slotOf 3 = .ok (.iload_n 1, 1) := by decide +kernel
theorem d_GV_slotOf_4 : decode c_GV_slotOf 4 = .ok (.iadd, 1) := by decide +kernel
theorem d_GV_slotOf_5 : decode c_GV_slotOf 5 = .ok (.iconst 1, 1) := by decide +kernel
theorem d_GV_slotOf_6 : decode c_GV_slotOf 6 = .ok (.isub, 1) := by decide +kernel
theorem d_GV_slotOf_7 : decode c_GV_slotOf 7 = .ok (.ireturn, 1) := by decide +kernel
theorem d_GV_viewOfSlot_0 : decode c_GV_viewOfSlot 0 = .ok (.iload_n 0, 1) := by decide +kernel
theorem d_GV_viewOfSlot_1 : decode c_GV_viewOfSlot 1 = .ok (.iconst 4, 1) := by decide +kernel
theorem d_GV_viewOfSlot_2 : decode c_GV_viewOfSlot 2 = .ok (.idiv, 1) := by decide +kernel
theorem d_GV_viewOfSlot_3 : decode c_GV_viewOfSlot 3 = .ok (.ireturn, 1) := by decide +kernel
theorem d_GV_numberOfSlot_0 : decode c_GV_numberOfSlot 0 = .ok (.iload_n 0, 1) := by decide +kernel
theorem d_GV_numberOfSlot_1 : decode c_GV_numberOfSlot 1 = .ok (.iconst 4, 1) := by decide +kernel
theorem d_GV_numberOfSlot_2 : decode c_GV_numberOfSlot 2 = .ok (.irem, 1) := by decide +kernel
theorem d_GV_numberOfSlot_3 : decode c_GV_numberOfSlot 3 = .ok (.iconst 1, 1) := by decide +kernel
theorem d_GV_numberOfSlot_4 : decode c_GV_numberOfSlot 4 = .ok (.iadd, 1) := by decide +kernel
theorem d_GV_numberOfSlot_5 : decode c_GV_numberOfSlot 5 = .ok (.ireturn, 1) := by decide +kernel
theorem d_GV_countOf_0 : decode c_GV_countOf 0 = .ok (.iload_n 0, 1) := by decide +kernel
theorem d_GV_countOf_1 : decode c_GV_countOf 1 = .ok (.iload_n 1, 1) := by decide +kernel
theorem d_GV_countOf_2 : decode c_GV_countOf 2 = .ok (.bipush 8, 2) := by decide +kernel
theorem d_GV_countOf_4 : decode c_GV_countOf 4 = .ok (.imul, 1) := by decide +kernel
theorem d_GV_countOf_5 : decode c_GV_countOf 5 = .ok (.ishr, 1) := by decide +kernel
theorem d_GV_countOf_6 : decode c_GV_countOf 6 = .ok (.sipush 255, 3) := by decide +kernel
theorem d_GV_countOf_9 : decode c_GV_countOf 9 = .ok (.iand, 1) := by decide +kernel
theorem d_GV_countOf_10 : decode c_GV_countOf 10 = .ok (.ireturn, 1) := by decide +kernel
theorem d_GV_withCount_0 : decode c_GV_withCount 0 = .ok (.iload_n 1, 1) := by decide +kernel
theorem d_GV_withCount_1 : decode c_GV_withCount 1 = .ok (.bipush 8, 2) := by decide +kernel
theorem d_GV_withCount_3 : decode c_GV_withCount 3 = .ok (.imul, 1) := by decide +kernel
theorem d_GV_withCount_4 : decode c_GV_withCount 4 = .ok (.istore_n 3, 1) := by decide +kernel
theorem d_GV_withCount_5 : decode c_GV_withCount 5 = .ok (.iload_n 0, 1) := by decide +kernel
theorem d_GV_withCount_6 : decode c_GV_withCount 6 = .ok (.sipush 255, 3) := by decide +kernel
theorem d_GV_withCount_9 : decode c_GV_withCount 9 = .ok (.iload_n 3, 1) := by decide +kernel
theorem d_GV_withCount_10 : decode c_GV_withCount 10 = .ok (.ishl, 1) := by decide +kernel
theorem d_GV_withCount_11 : decode c_GV_withCount 11 = .ok (.iconst (-1), 1) := by decide +kernel
theorem d_GV_withCount_12 : decode c_GV_withCount 12 = .ok (.ixor, 1) := by decide +kernel
theorem d_GV_withCount_13 : decode c_GV_withCount 13 = .ok (.iand, 1) := by decide +kernel
theorem d_GV_withCount_14 : decode c_GV_withCount 14 = .ok (.iload_n 2, 1) := by decide +kernel
theorem d_GV_withCount_15 : decode c_GV_withCount 15 = .ok (.iload_n 3, 1) := by decide +kernel
theorem d_GV_withCount_16 : decode c_GV_withCount 16 = .ok (.ishl, 1) := by decide +kernel
theorem d_GV_withCount_17 : decode c_GV_withCount 17 = .ok (.ior, 1) := by decide +kernel
theorem d_GV_withCount_18 : decode c_GV_withCount 18 = .ok (.ireturn, 1) := by decide +kernel
theorem d_GV_greatestOfEach_0 : decode c_GV_greatestOfEach 0 = .ok (.iconst 0, 1) := by decide +kernel
theorem d_GV_greatestOfEach_1 : decode c_GV_greatestOfEach 1 = .ok (.istore_n 2, 1) := by decide +kernel
theorem d_GV_greatestOfEach_2 : decode c_GV_greatestOfEach 2 = .ok (.iconst 0, 1) := by decide +kernel
theorem d_GV_greatestOfEach_3 : decode c_GV_greatestOfEach 3 = .ok (.istore_n 3, 1) := by decide +kernel
theorem d_GV_greatestOfEach_4 : decode c_GV_greatestOfEach 4 = .ok (.iload_n 3, 1) := by decide +kernel
theorem d_GV_greatestOfEach_5 : decode c_GV_greatestOfEach 5 = .ok (.iconst 4, 1) := by decide +kernel
theorem d_GV_greatestOfEach_6 : decode c_GV_greatestOfEach 6 = .ok (.if_icmp .ge 28, 3) := by decide +kernel
theorem d_GV_greatestOfEach_9 : decode c_GV_greatestOfEach 9 = .ok (.iload_n 2, 1) := by decide +kernel
theorem d_GV_greatestOfEach_10 : decode c_GV_greatestOfEach 10 = .ok (.iload_n 3, 1) := by decide +kernel
theorem d_GV_greatestOfEach_11 : decode c_GV_greatestOfEach 11 = .ok (.iload_n 0, 1) := by decide +kernel
theorem d_GV_greatestOfEach_12 : decode c_GV_greatestOfEach 12 = .ok (.iload_n 3, 1) := by decide +kernel
theorem d_GV_greatestOfEach_13 : decode c_GV_greatestOfEach 13 = .ok (.invokestatic 162, 3) := by decide +kernel
theorem d_GV_greatestOfEach_16 : decode c_GV_greatestOfEach 16 = .ok (.iload_n 1, 1) := by decide +kernel
theorem d_GV_greatestOfEach_17 : decode c_GV_greatestOfEach 17 = .ok (.iload_n 3, 1) := by decide +kernel
theorem d_GV_greatestOfEach_18 : decode c_GV_greatestOfEach 18 = .ok (.invokestatic 162, 3) := by decide +kernel
theorem d_GV_greatestOfEach_21 : decode c_GV_greatestOfEach 21 = .ok (.invokestatic 188, 3) := by decide +kernel
theorem d_GV_greatestOfEach_24 : decode c_GV_greatestOfEach 24 = .ok (.invokestatic 58, 3) := by decide +kernel
theorem d_GV_greatestOfEach_27 : decode c_GV_greatestOfEach 27 = .ok (.istore_n 2, 1) := by decide +kernel
theorem d_GV_greatestOfEach_28 : decode c_GV_greatestOfEach 28 = .ok (.iinc 3 1, 3) := by decide +kernel
theorem d_GV_greatestOfEach_31 : decode c_GV_greatestOfEach 31 = .ok (.goto (-27), 3) := by decide +kernel
theorem d_GV_greatestOfEach_34 : decode c_GV_greatestOfEach 34 = .ok (.iload_n 2, 1) := by decide +kernel
theorem d_GV_greatestOfEach_35 : decode c_GV_greatestOfEach 35 = .ok (.ireturn, 1) := by decide +kernel
