theorem d_LN_init_0 : decode c_LN_init 0 = .ok (.aload_n 0, 1) := by decide +kernel
theorem d_LN_init_1 : decode c_LN_init 1 = .ok (.invokespecial 3, 3) := by decide +kernel
theorem d_LN_init_4 : decode c_LN_init 4 = .ok (.aload_n 0, 1) := by decide +kernel
theorem d_LN_init_5 : decode c_LN_init 5 = .ok (.bipush 75, 2) := by decide +kernel
theorem d_LN_init_7 : decode c_LN_init 7 = .ok (.newarray .int, 2) := by decide +kernel
theorem d_LN_init_9 : decode c_LN_init 9 = .ok (.putfield 9, 3) := by decide +kernel
theorem d_LN_init_12 : decode c_LN_init 12 = .ok (.return_, 1) := by decide +kernel
theorem d_LN_put_0 : decode c_LN_put 0 = .ok (.aload_n 0, 1) := by decide +kernel
theorem d_LN_put_1 : decode c_LN_put 1 = .ok (.getfield 15, 3) := by decide +kernel
theorem d_LN_put_4 : decode c_LN_put 4 = .ok (.aload_n 0, 1) := by decide +kernel
theorem d_LN_put_5 : decode c_LN_put 5 = .ok (.getfield 9, 3) := by decide +kernel
theorem d_LN_put_8 : decode c_LN_put 8 = .ok (.arraylength, 1) := by decide +kernel
theorem d_LN_put_9 : decode c_LN_put 9 = .ok (.if_icmp .ge 23, 3) := by decide +kernel
theorem d_LN_put_12 : decode c_LN_put 12 = .ok (.aload_n 0, 1) := by decide +kernel
theorem d_LN_put_13 : decode c_LN_put 13 = .ok (.getfield 9, 3) := by decide +kernel
theorem d_LN_put_16 : decode c_LN_put 16 = .ok (.aload_n 0, 1) := by decide +kernel
theorem d_LN_put_17 : decode c_LN_put 17 = .ok (.getfield 15, 3) := by decide +kernel
theorem d_LN_put_20 : decode c_LN_put 20 = .ok (.iload_n 1, 1) := by decide +kernel
theorem d_LN_put_21 : decode c_LN_put 21 = .ok (.iastore, 1) := by decide +kernel
theorem d_LN_put_22 : decode c_LN_put 22 = .ok (.aload_n 0, 1) := by decide +kernel
theorem d_LN_put_23 : decode c_LN_put 23 = .ok (.dup, 1) := by decide +kernel
theorem d_LN_put_24 : decode c_LN_put 24 = .ok (.getfield 15, 3) := by decide +kernel
theorem d_LN_put_27 : decode c_LN_put 27 = .ok (.iconst 1, 1) := by decide +kernel
theorem d_LN_put_28 : decode c_LN_put 28 = .ok (.iadd, 1) := by decide +kernel
theorem d_LN_put_29 : decode c_LN_put 29 = .ok (.putfield 15, 3) := by decide +kernel
theorem d_LN_put_32 : decode c_LN_put 32 = .ok (.return_, 1) := by decide +kernel
theorem d_LN_takeFirst_0 : decode c_LN_takeFirst 0 = .ok (.aload_n 0, 1) := by decide +kernel
theorem d_LN_takeFirst_1 : decode c_LN_takeFirst 1 = .ok (.getfield 19, 3) := by decide +kernel
theorem d_LN_takeFirst_4 : decode c_LN_takeFirst 4 = .ok (.aload_n 0, 1) := by decide +kernel
theorem d_LN_takeFirst_5 : decode c_LN_takeFirst 5 = .ok (.getfield 15, 3) := by decide +kernel
theorem d_LN_takeFirst_8 : decode c_LN_takeFirst 8 = .ok (.if_icmp .lt 5, 3) := by decide +kernel
theorem d_LN_takeFirst_11 : decode c_LN_takeFirst 11 = .ok (.iconst (-1), 1) := by decide +kernel
theorem d_LN_takeFirst_12 : decode c_LN_takeFirst 12 = .ok (.ireturn, 1) := by decide +kernel
theorem d_LN_takeFirst_13 : decode c_LN_takeFirst 13 = .ok (.aload_n 0, 1) := by decide +kernel
theorem d_LN_takeFirst_14 : decode c_LN_takeFirst 14 = .ok (.getfield 9, 3) := by decide +kernel
theorem d_LN_takeFirst_17 : decode c_LN_takeFirst 17 = .ok (.aload_n 0, 1) := by decide +kernel
theorem d_LN_takeFirst_18 : decode c_LN_takeFirst 18 = .ok (.getfield 19, 3) := by decide +kernel
theorem d_LN_takeFirst_21 : decode c_LN_takeFirst 21 = .ok (.iaload, 1) := by decide +kernel
theorem d_LN_takeFirst_22 : decode c_LN_takeFirst 22 = .ok (.istore_n 1, 1) := by decide +kernel
theorem d_LN_takeFirst_23 : decode c_LN_takeFirst 23 = .ok (.aload_n 0, 1) := by decide +kernel
theorem d_LN_takeFirst_24 : decode c_LN_takeFirst 24 = .ok (.dup, 1) := by decide +kernel
theorem d_LN_takeFirst_25 : decode c_LN_takeFirst 25 = .ok (.getfield 19, 3) := by decide +kernel
theorem d_LN_takeFirst_28 : decode c_LN_takeFirst 28 = .ok (.iconst 1, 1) := by decide +kernel
theorem d_LN_takeFirst_29 : decode c_LN_takeFirst 29 = .ok (.iadd, 1) := by decide +kernel
theorem d_LN_takeFirst_30 : decode c_LN_takeFirst 30 = .ok (.putfield 19, 3) := by decide +kernel
theorem d_LN_takeFirst_33 : decode c_LN_takeFirst 33 = .ok (.iload_n 1, 1) := by decide +kernel
theorem d_LN_takeFirst_34 : decode c_LN_takeFirst 34 = .ok (.ireturn, 1) := by decide +kernel
theorem d_LN_length_0 : decode c_LN_length 0 = .ok (.aload_n 0, 1) := by decide +kernel
theorem d_LN_length_1 : decode c_LN_length 1 = .ok (.getfield 15, 3) := by decide +kernel
theorem d_LN_length_4 : decode c_LN_length 4 = .ok (.aload_n 0, 1) := by decide +kernel
theorem d_LN_length_5 : decode c_LN_length 5 = .ok (.getfield 19, 3) := by decide +kernel
theorem d_LN_length_8 : decode c_LN_length 8 = .ok (.isub, 1) := by decide +kernel
theorem d_LN_length_9 : decode c_LN_length 9 = .ok (.ireturn, 1) := by decide +kernel
theorem d_PS_init_0 : decode c_PS_init 0 = .ok (.aload_n 0, 1) := by decide +kernel
theorem d_PS_init_1 : decode c_PS_init 1 = .ok (.invokespecial 3, 3) := by decide +kernel
theorem d_PS_init_4 : decode c_PS_init 4 = .ok (.aload_n 0, 1) := by decide +kernel
theorem d_PS_init_5 : decode c_PS_init 5 = .ok (.bipush 64, 2) := by decide +kernel
theorem d_PS_init_7 : decode c_PS_init 7 = .ok (.newarray .int, 2) := by decide +kernel
theorem d_PS_init_9 : decode c_PS_init 9 = .ok (.putfield 9, 3) := by decide +kernel
theorem d_PS_init_12 : decode c_PS_init 12 = .ok (.aload_n 0, 1) := by decide +kernel
theorem d_PS_init_13 : decode c_PS_init 13 = .ok (.iconst 4, 1) := by decide +kernel
theorem d_PS_init_14 : decode c_PS_init 14 = .ok (.newarray .int, 2) := by decide +kernel
theorem d_PS_init_16 : decode c_PS_init 16 = .ok (.putfield 15, 3) := by decide +kernel
theorem d_PS_init_19 : decode c_PS_init 19 = .ok (.aload_n 0, 1) := by decide +kernel
theorem d_PS_init_20 : decode c_PS_init 20 = .ok (.bipush 64, 2) := by decide +kernel
theorem d_PS_init_22 : decode c_PS_init 22 = .ok (.newarray .int, 2) := by decide +kernel
theorem d_PS_init_24 : decode c_PS_init 24 = .ok (.putfield 18, 3) := by decide +kernel
theorem d_PS_init_27 : decode c_PS_init 27 = .ok (.aload_n 0, 1) := by decide +kernel
theorem d_PS_init_28 : decode c_PS_init 28 = .ok (.bipush 64, 2) := by decide +kernel
theorem d_PS_init_30 : decode c_PS_init 30 = .ok (.newarray .int, 2) := by decide +kernel
theorem d_PS_init_32 : decode c_PS_init 32 = .ok (.putfield 21, 3) := by decide +kernel
theorem d_PS_init_35 : decode c_PS_init 35 = .ok (.aload_n 0, 1) := by decide +kernel
theorem d_PS_init_36 : decode c_PS_init 36 = .ok (.bipush 16, 2) := by decide +kernel
theorem d_PS_init_38 : decode c_PS_init 38 = .ok (.newarray .int, 2) := by decide +kernel
theorem d_PS_init_40 : decode c_PS_init 40 = .ok (.putfield 24, 3) := by decide +kernel
theorem d_PS_init_43 : decode c_PS_init 43 = .ok (.aload_n 0, 1) := by decide +kernel
theorem d_PS_init_44 : decode c_PS_init 44 = .ok (.bipush 16, 2) := by decide +kernel
theorem d_PS_init_46 : decode c_PS_init 46 = .ok (.newarray .int, 2) := by decide +kernel
theorem d_PS_init_48 : decode c_PS_init 48 = .ok (.putfield 27, 3) := by decide +kernel
theorem d_PS_init_51 : decode c_PS_init 51 = .ok (.aload_n 0, 1) := by decide +kernel
theorem d_PS_init_52 : decode c_PS_init 52 = .ok (.iconst 4, 1) := by decide +kernel
theorem d_PS_init_53 : decode c_PS_init 53 = .ok (.newarray .int, 2) := by decide +kernel
theorem d_PS_init_55 : decode c_PS_init 55 = .ok (.putfield 30, 3) := by decide +kernel
theorem d_PS_init_58 : decode c_PS_init 58 = .ok (.return_, 1) := by decide +kernel
theorem d_PS_learnMessage_0 : decode c_PS_learnMessage 0 = .ok (.aload_n 0, 1) := by decide +kernel
theorem d_PS_learnMessage_1 : decode c_PS_learnMessage 1 = .ok (.getfield 9, 3) := by decide +kernel
theorem d_PS_learnMessage_4 : decode c_PS_learnMessage 4 = .ok (.iload_n 1, 1) := by decide +kernel
theorem d_PS_learnMessage_5 : decode c_PS_learnMessage 5 = .ok (.iconst 4, 1) := by decide +kernel
theorem d_PS_learnMessage_6 : decode c_PS_learnMessage 6 = .ok (.imul, 1) := by decide +kernel
theorem d_PS_learnMessage_7 : decode c_PS_learnMessage 7 = .ok (.iload_n 2, 1) := by decide +kernel
theorem d_PS_learnMessage_8 : decode c_PS_learnMessage 8 = .ok (.iadd, 1) := by decide +kernel
theorem d_PS_learnMessage_9 : decode c_PS_learnMessage 9 = .ok (.dup2, 1) := by decide +kernel
theorem d_PS_learnMessage_10 : decode c_PS_learnMessage 10 = .ok (.iaload, 1) := by decide +kernel
theorem d_PS_learnMessage_11 : decode c_PS_learnMessage 11 = .ok (.iconst 1, 1) := by decide +kernel
theorem d_PS_learnMessage_12 : decode c_PS_learnMessage 12 = .ok (.iload_n 3, 1) := by decide +kernel
theorem d_PS_learnMessage_13 : decode c_PS_learnMessage 13 = .ok (.ishl, 1) := by decide +kernel
theorem d_PS_learnMessage_14 : decode c_PS_learnMessage 14 = .ok (.ior, 1) := by decide +kernel
theorem d_PS_learnMessage_15 : decode c_PS_learnMessage 15 = .ok (.iastore, 1) := by decide +kernel
theorem d_PS_learnMessage_16 : decode c_PS_learnMessage 16 = .ok (.return_, 1) := by decide +kernel
theorem d_PS_knowsMessage_0 : decode c_PS_knowsMessage 0 = .ok (.aload_n 0, 1) := by decide +kernel
theorem d_PS_knowsMessage_1 : decode c_PS_knowsMessage 1 = .ok (.getfield 9, 3) := by decide +kernel
theorem d_PS_knowsMessage_4 : decode c_PS_knowsMessage 4 = .ok (.aload_n 0, 1) := by decide +kernel
theorem d_PS_knowsMessage_5 : decode c_PS_knowsMessage 5 = .ok (.getfield 33, 3) := by decide +kernel
theorem d_PS_knowsMessage_8 : decode c_PS_knowsMessage 8 = .ok (.iconst 4, 1) := by decide +kernel
theorem d_PS_knowsMessage_9 : decode c_PS_knowsMessage 9 = .ok (.imul, 1) := by decide +kernel
theorem d_PS_knowsMessage_10 : decode c_PS_knowsMessage 10 = .ok (.iload_n 1, 1) := by decide +kernel
theorem d_PS_knowsMessage_11 : decode c_PS_knowsMessage 11 = .ok (.iadd, 1) := by decide +kernel
theorem d_PS_knowsMessage_12 : decode c_PS_knowsMessage 12 = .ok (.iaload, 1) := by decide +kernel
theorem d_PS_knowsMessage_13 : decode c_PS_knowsMessage 13 = .ok (.iload_n 2, 1) := by decide +kernel
theorem d_PS_knowsMessage_14 : decode c_PS_knowsMessage 14 = .ok (.ishr, 1) := by decide +kernel
theorem d_PS_knowsMessage_15 : decode c_PS_knowsMessage 15 = .ok (.iconst 1, 1) := by decide +kernel
theorem d_PS_knowsMessage_16 : decode c_PS_knowsMessage 16 = .ok (.iand, 1) := by decide +kernel
theorem d_PS_knowsMessage_17 : decode c_PS_knowsMessage 17 = .ok (.iconst 1, 1) := by decide +kernel
theorem d_PS_knowsMessage_18 : decode c_PS_knowsMessage 18 = .ok (.if_icmp .ne 7, 3) := by decide +kernel
theorem d_PS_knowsMessage_21 : decode c_PS_knowsMessage 21 = .ok (.iconst 1, 1) := by decide +kernel
theorem d_PS_knowsMessage_22 : decode c_PS_knowsMessage 22 = .ok (.goto 4, 3) := by decide +kernel
theorem d_PS_knowsMessage_25 : decode c_PS_knowsMessage 25 = .ok (.iconst 0, 1) := by decide +kernel
theorem d_PS_knowsMessage_26 : decode c_PS_knowsMessage 26 = .ok (.ireturn, 1) := by decide +kernel
theorem d_PS_messagesKnownOf_0 : decode c_PS_messagesKnownOf 0 = .ok (.aload_n 0, 1) := by decide +kernel
theorem d_PS_messagesKnownOf_1 : decode c_PS_messagesKnownOf 1 = .ok (.getfield 9, 3) := by decide +kernel
theorem d_PS_messagesKnownOf_4 : decode c_PS_messagesKnownOf 4 = .ok (.aload_n 0, 1) := by decide +kernel
theorem d_PS_messagesKnownOf_5 : decode c_PS_messagesKnownOf 5 = .ok (.getfield 33, 3) := by decide +kernel
theorem d_PS_messagesKnownOf_8 : decode c_PS_messagesKnownOf 8 = .ok (.iconst 4, 1) := by decide +kernel
theorem d_PS_messagesKnownOf_9 : decode c_PS_messagesKnownOf 9 = .ok (.imul, 1) := by decide +kernel
theorem d_PS_messagesKnownOf_10 : decode c_PS_messagesKnownOf 10 = .ok (.iload_n 1, 1) := by decide +kernel
theorem d_PS_messagesKnownOf_11 : decode c_PS_messagesKnownOf 11 = .ok (.iadd, 1) := by decide +kernel
theorem d_PS_messagesKnownOf_12 : decode c_PS_messagesKnownOf 12 = .ok (.iaload, 1) := by decide +kernel
theorem d_PS_messagesKnownOf_13 : decode c_PS_messagesKnownOf 13 = .ok (.invokestatic 37, 3) := by decide +kernel
theorem d_PS_messagesKnownOf_16 : decode c_PS_messagesKnownOf 16 = .ok (.ireturn, 1) := by decide +kernel
theorem d_PS_learnSync_0 : decode c_PS_learnSync 0 = .ok (.aload_n 0, 1) := by decide +kernel
theorem d_PS_learnSync_1 : decode c_PS_learnSync 1 = .ok (.getfield 15, 3) := by decide +kernel
theorem d_PS_learnSync_4 : decode c_PS_learnSync 4 = .ok (.iload_n 1, 1) := by decide +kernel
theorem d_PS_learnSync_5 : decode c_PS_learnSync 5 = .ok (.dup2, 1) := by decide +kernel
theorem d_PS_learnSync_6 : decode c_PS_learnSync 6 = .ok (.iaload, 1) := by decide +kernel
theorem d_PS_learnSync_7 : decode c_PS_learnSync 7 = .ok (.iconst 1, 1) := by decide +kernel
theorem d_PS_learnSync_8 : decode c_PS_learnSync 8 = .ok (.iload_n 2, 1) := by decide +kernel
theorem d_PS_learnSync_9 : decode c_PS_learnSync 9 = .ok (.ishl, 1) := by decide +kernel
theorem d_PS_learnSync_10 : decode c_PS_learnSync 10 = .ok (.ior, 1) := by decide +kernel
theorem d_PS_learnSync_11 : decode c_PS_learnSync 11 = .ok (.iastore, 1) := by decide +kernel
theorem d_PS_learnSync_12 : decode c_PS_learnSync 12 = .ok (.return_, 1) := by decide +kernel
theorem d_PS_knowsSync_0 : decode c_PS_knowsSync 0 = .ok (.aload_n 0, 1) := by decide +kernel
theorem d_PS_knowsSync_1 : decode c_PS_knowsSync 1 = .ok (.getfield 15, 3) := by decide +kernel
theorem d_PS_knowsSync_4 : decode c_PS_knowsSync 4 = .ok (.iload_n 1, 1) := by decide +kernel
theorem d_PS_knowsSync_5 : decode c_PS_knowsSync 5 = .ok (.iaload, 1) := by decide +kernel
theorem d_PS_knowsSync_6 : decode c_PS_knowsSync 6 = .ok (.iload_n 2, 1) := by decide +kernel
theorem d_PS_knowsSync_7 : decode c_PS_knowsSync 7 = .ok (.ishr, 1) := by decide +kernel
theorem d_PS_knowsSync_8 : decode c_PS_knowsSync 8 = .ok (.iconst 1, 1) := by decide +kernel
theorem d_PS_knowsSync_9 : decode c_PS_knowsSync 9 = .ok (.iand, 1) := by decide +kernel
theorem d_PS_knowsSync_10 : decode c_PS_knowsSync 10 = .ok (.iconst 1, 1) := by decide +kernel
theorem d_PS_knowsSync_11 : decode c_PS_knowsSync 11 = .ok (.if_icmp .ne 7, 3) := by decide +kernel
theorem d_PS_knowsSync_14 : decode c_PS_knowsSync 14 = .ok (.iconst 1, 1) := by decide +kernel
theorem d_PS_knowsSync_15 : decode c_PS_knowsSync 15 = .ok (.goto 4, 3) := by decide +kernel
theorem d_PS_knowsSync_18 : decode c_PS_knowsSync 18 = .ok (.iconst 0, 1) := by decide +kernel
theorem d_PS_knowsSync_19 : decode c_PS_knowsSync 19 = .ok (.ireturn, 1) := by decide +kernel
theorem d_PS_setEvent_0 : decode c_PS_setEvent 0 = .ok (.aload_n 0, 1) := by decide +kernel
theorem d_PS_setEvent_1 : decode c_PS_setEvent 1 = .ok (.getfield 30, 3) := by decide +kernel
theorem d_PS_setEvent_4 : decode c_PS_setEvent 4 = .ok (.iconst 0, 1) := by decide +kernel
theorem d_PS_setEvent_5 : decode c_PS_setEvent 5 = .ok (.iload_n 1, 1) := by decide +kernel
theorem d_PS_setEvent_6 : decode c_PS_setEvent 6 = .ok (.iastore, 1) := by decide +kernel
theorem d_PS_setEvent_7 : decode c_PS_setEvent 7 = .ok (.aload_n 0, 1) := by decide +kernel
theorem d_PS_setEvent_8 : decode c_PS_setEvent 8 = .ok (.getfield 30, 3) := by decide +kernel
theorem d_PS_setEvent_11 : decode c_PS_setEvent 11 = .ok (.iconst 1, 1) := by decide +kernel
theorem d_PS_setEvent_12 : decode c_PS_setEvent 12 = .ok (.iload_n 2, 1) := by decide +kernel
theorem d_PS_setEvent_13 : decode c_PS_setEvent 13 = .ok (.iastore, 1) := by decide +kernel
theorem d_PS_setEvent_14 : decode c_PS_setEvent 14 = .ok (.aload_n 0, 1) := by decide +kernel
theorem d_PS_setEvent_15 : decode c_PS_setEvent 15 = .ok (.getfield 30, 3) := by decide +kernel
theorem d_PS_setEvent_18 : decode c_PS_setEvent 18 = .ok (.iconst 2, 1) := by decide +kernel
theorem d_PS_setEvent_19 : decode c_PS_setEvent 19 = .ok (.iload_n 3, 1) := by decide +kernel
theorem d_PS_setEvent_20 : decode c_PS_setEvent 20 = .ok (.iastore, 1) := by decide +kernel
theorem d_PS_setEvent_21 : decode c_PS_setEvent 21 = .ok (.aload_n 0, 1) := by decide +kernel
theorem d_PS_setEvent_22 : decode c_PS_setEvent 22 = .ok (.getfield 30, 3) := by decide +kernel
theorem d_PS_setEvent_25 : decode c_PS_setEvent 25 = .ok (.iconst 3, 1) := by decide +kernel
theorem d_PS_setEvent_26 : decode c_PS_setEvent 26 = .ok (.iload 4, 2) := by decide +kernel
theorem d_PS_setEvent_28 : decode c_PS_setEvent 28 = .ok (.iastore, 1) := by decide +kernel
theorem d_PS_setEvent_29 : decode c_PS_setEvent 29 = .ok (.return_, 1) := by decide +kernel
theorem d_PS_enterPending_0 : decode c_PS_enterPending 0 = .ok (.aload_n 0, 1) := by decide +kernel
theorem d_PS_enterPending_1 : decode c_PS_enterPending 1 = .ok (.aload_n 0, 1) := by decide +kernel
theorem d_PS_enterPending_2 : decode c_PS_enterPending 2 = .ok (.getfield 43, 3) := by decide +kernel
theorem d_PS_enterPending_5 : decode c_PS_enterPending 5 = .ok (.putfield 33, 3) := by decide +kernel
theorem d_PS_enterPending_8 : decode c_PS_enterPending 8 = .ok (.aload_n 0, 1) := by decide +kernel
theorem d_PS_enterPending_9 : decode c_PS_enterPending 9 = .ok (.iconst 0, 1) := by decide +kernel
theorem d_PS_enterPending_10 : decode c_PS_enterPending 10 = .ok (.putfield 43, 3) := by decide +kernel
theorem d_PS_enterPending_13 : decode c_PS_enterPending 13 = .ok (.aload_n 0, 1) := by decide +kernel
theorem d_PS_enterPending_14 : decode c_PS_enterPending 14 = .ok (.iconst 0, 1) := by decide +kernel
theorem d_PS_enterPending_15 : decode c_PS_enterPending 15 = .ok (.putfield 46, 3) := by decide +kernel
theorem d_PS_enterPending_18 : decode c_PS_enterPending 18 = .ok (.aload_n 0, 1) := by decide +kernel
theorem d_PS_enterPending_19 : decode c_PS_enterPending 19 = .ok (.iconst 0, 1) := by decide +kernel
theorem d_PS_enterPending_20 : decode c_PS_enterPending 20 = .ok (.putfield 50, 3) := by decide +kernel
theorem d_PS_enterPending_23 : decode c_PS_enterPending 23 = .ok (.aload_n 0, 1) := by decide +kernel
theorem d_PS_enterPending_24 : decode c_PS_enterPending 24 = .ok (.iconst 0, 1) := by decide +kernel
theorem d_PS_enterPending_25 : decode c_PS_enterPending 25 = .ok (.putfield 53, 3) := by decide +kernel
theorem d_PS_enterPending_28 : decode c_PS_enterPending 28 = .ok (.return_, 1) := by decide +kernel
theorem d_IN_bitCount_0 : decode c_IN_bitCount 0 = .ok (.iload_n 0, 1) := by decide +kernel
theorem d_IN_bitCount_1 : decode c_IN_bitCount 1 = .ok (.iload_n 0, 1) := by decide +kernel
theorem d_IN_bitCount_2 : decode c_IN_bitCount 2 = .ok (.iconst 1, 1) := by decide +kernel
theorem d_IN_bitCount_3 : decode c_IN_bitCount 3 = .ok (.iushr, 1) := by decide +kernel
theorem d_IN_bitCount_4 : decode c_IN_bitCount 4 = .ok (.ldc_w 265, 3) := by decide +kernel
theorem d_IN_bitCount_7 : decode c_IN_bitCount 7 = .ok (.iand, 1) := by decide +kernel
theorem d_IN_bitCount_8 : decode c_IN_bitCount 8 = .ok (.isub, 1) := by decide +kernel
theorem d_IN_bitCount_9 : decode c_IN_bitCount 9 = .ok (.istore_n 0, 1) := by decide +kernel
theorem d_IN_bitCount_10 : decode c_IN_bitCount 10 = .ok (.iload_n 0, 1) := by decide +kernel
theorem d_IN_bitCount_11 : decode c_IN_bitCount 11 = .ok (.ldc_w 266, 3) := by decide +kernel
theorem d_IN_bitCount_14 : decode c_IN_bitCount 14 = .ok (.iand, 1) := by decide +kernel
theorem d_IN_bitCount_15 : decode c_IN_bitCount 15 = .ok (.iload_n 0, 1) := by decide +kernel
theorem d_IN_bitCount_16 : decode c_IN_bitCount 16 = .ok (.iconst 2, 1) := by decide +kernel
theorem d_IN_bitCount_17 : decode c_IN_bitCount 17 = .ok (.iushr, 1) := by decide +kernel
theorem d_IN_bitCount_18 : decode c_IN_bitCount 18 = .ok (.ldc_w 266, 3) := by decide +kernel
theorem d_IN_bitCount_21 : decode c_IN_bitCount 21 = .ok (.iand, 1) := by decide +kernel
theorem d_IN_bitCount_22 : decode c_IN_bitCount 22 = .ok (.iadd, 1) := by decide +kernel
theorem d_IN_bitCount_23 : decode c_IN_bitCount 23 = .ok (.istore_n 0, 1) := by decide +kernel
theorem d_IN_bitCount_24 : decode c_IN_bitCount 24 = .ok (.iload_n 0, 1) := by decide +kernel
theorem d_IN_bitCount_25 : decode c_IN_bitCount 25 = .ok (.iload_n 0, 1) := by decide +kernel
theorem d_IN_bitCount_26 : decode c_IN_bitCount 26 = .ok (.iconst 4, 1) := by decide +kernel
theorem d_IN_bitCount_27 : decode c_IN_bitCount 27 = .ok (.iushr, 1) := by decide +kernel
theorem d_IN_bitCount_28 : decode c_IN_bitCount 28 = .ok (.iadd, 1) := by decide +kernel
theorem d_IN_bitCount_29 : decode c_IN_bitCount 29 = .ok (.ldc_w 267, 3) := by decide +kernel
theorem d_IN_bitCount_32 : decode c_IN_bitCount 32 = .ok (.iand, 1) := by decide +kernel
theorem d_IN_bitCount_33 : decode c_IN_bitCount 33 = .ok (.istore_n 0, 1) := by decide +kernel
theorem d_IN_bitCount_34 : decode c_IN_bitCount 34 = .ok (.iload_n 0, 1) := by decide +kernel
theorem d_IN_bitCount_35 : decode c_IN_bitCount 35 = .ok (.iload_n 0, 1) := by decide +kernel
theorem d_IN_bitCount_36 : decode c_IN_bitCount 36 = .ok (.bipush 8, 2) := by decide +kernel
theorem d_IN_bitCount_38 : decode c_IN_bitCount 38 = .ok (.iushr, 1) := by decide +kernel
theorem d_IN_bitCount_39 : decode c_IN_bitCount 39 = .ok (.iadd, 1) := by decide +kernel
theorem d_IN_bitCount_40 : decode c_IN_bitCount 40 = .ok (.istore_n 0, 1) := by decide +kernel
theorem d_IN_bitCount_41 : decode c_IN_bitCount 41 = .ok (.iload_n 0, 1) := by decide +kernel
theorem d_IN_bitCount_42 : decode c_IN_bitCount 42 = .ok (.iload_n 0, 1) := by decide +kernel
theorem d_IN_bitCount_43 : decode c_IN_bitCount 43 = .ok (.bipush 16, 2) := by decide +kernel
theorem d_IN_bitCount_45 : decode c_IN_bitCount 45 = .ok (.iushr, 1) := by decide +kernel
theorem d_IN_bitCount_46 : decode c_IN_bitCount 46 = .ok (.iadd, 1) := by decide +kernel
theorem d_IN_bitCount_47 : decode c_IN_bitCount 47 = .ok (.istore_n 0, 1) := by decide +kernel
theorem d_IN_bitCount_48 : decode c_IN_bitCount 48 = .ok (.iload_n 0, 1) := by decide +kernel
theorem d_IN_bitCount_49 : decode c_IN_bitCount 49 = .ok (.bipush 63, 2) := by decide +kernel
theorem d_IN_bitCount_51 : decode c_IN_bitCount 51 = .ok (.iand, 1) := by decide +kernel
theorem d_IN_bitCount_52 : decode c_IN_bitCount 52 = .ok (.ireturn, 1) := by decide +kernel
