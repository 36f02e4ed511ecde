theorem dX0_checkOf_3 : decode cX0_checkOf 3 = .ok (.lstore_n 2, 1) := by decide +kernel
theorem dX0_checkOf_4 : decode cX0_checkOf 4 = .ok (.iconst 0, 1) := by decide +kernel
theorem dX0_checkOf_5 : decode cX0_checkOf 5 = .ok (.istore 4, 2) := by decide +kernel
theorem dX0_checkOf_7 : decode cX0_checkOf 7 = .ok (.iload 4, 2) := by decide +kernel
theorem dX0_checkOf_9 : decode cX0_checkOf 9 = .ok (.bipush 66, 2) := by decide +kernel
theorem dX0_checkOf_11 : decode cX0_checkOf 11 = .ok (.if_icmp .ge 61, 3) := by decide +kernel
theorem dX0_checkOf_14 : decode cX0_checkOf 14 = .ok (.lload_n 2, 1) := by decide +kernel
theorem dX0_checkOf_15 : decode cX0_checkOf 15 = .ok (.aload_n 0, 1) := by decide +kernel
theorem dX0_checkOf_16 : decode cX0_checkOf 16 = .ok (.getfield 9, 3) := by decide +kernel
theorem dX0_checkOf_19 : decode cX0_checkOf 19 = .ok (.iload_n 1, 1) := by decide +kernel
theorem dX0_checkOf_20 : decode cX0_checkOf 20 = .ok (.iload 4, 2) := by decide +kernel
theorem dX0_checkOf_22 : decode cX0_checkOf 22 = .ok (.invokestatic 122, 3) := by decide +kernel
theorem dX0_checkOf_25 : decode cX0_checkOf 25 = .ok (.i2l, 1) := by decide +kernel
theorem dX0_checkOf_26 : decode cX0_checkOf 26 = .ok (.lxor, 1) := by decide +kernel
theorem dX0_checkOf_27 : decode cX0_checkOf 27 = .ok (.lstore_n 2, 1) := by decide +kernel
theorem dX0_checkOf_28 : decode cX0_checkOf 28 = .ok (.iconst 0, 1) := by decide +kernel
theorem dX0_checkOf_29 : decode cX0_checkOf 29 = .ok (.istore 5, 2) := by decide +kernel
theorem dX0_checkOf_31 : decode cX0_checkOf 31 = .ok (.iload 5, 2) := by decide +kernel
theorem dX0_checkOf_33 : decode cX0_checkOf 33 = .ok (.bipush 8, 2) := by decide +kernel
theorem dX0_checkOf_35 : decode cX0_checkOf 35 = .ok (.if_icmp .ge 31, 3) := by decide +kernel
theorem dX0_checkOf_38 : decode cX0_checkOf 38 = .ok (.lload_n 2, 1) := by decide +kernel
theorem dX0_checkOf_39 : decode cX0_checkOf 39 = .ok (.lconst 1, 1) := by decide +kernel
theorem dX0_checkOf_40 : decode cX0_checkOf 40 = .ok (.land, 1) := by decide +kernel
theorem dX0_checkOf_41 : decode cX0_checkOf 41 = .ok (.lconst 0, 1) := by decide +kernel
theorem dX0_checkOf_42 : decode cX0_checkOf 42 = .ok (.lcmp, 1) := by decide +kernel
theorem dX0_checkOf_43 : decode cX0_checkOf 43 = .ok (.ifCond .eq 13, 3) := by decide +kernel
theorem dX0_checkOf_46 : decode cX0_checkOf 46 = .ok (.lload_n 2, 1) := by decide +kernel
theorem dX0_checkOf_47 : decode cX0_checkOf 47 = .ok (.iconst 1, 1) := by decide +kernel
theorem dX0_checkOf_48 : decode cX0_checkOf 48 = .ok (.lushr, 1) := by decide +kernel
theorem dX0_checkOf_49 : decode cX0_checkOf 49 = .ok (.ldc2_w 173, 3) := by decide +kernel
theorem dX0_checkOf_52 : decode cX0_checkOf 52 = .ok (.lxor, 1) := by decide +kernel
theorem dX0_checkOf_53 : decode cX0_checkOf 53 = .ok (.goto 6, 3) := by decide +kernel
theorem dX0_checkOf_56 : decode cX0_checkOf 56 = .ok (.lload_n 2, 1) := by decide +kernel
theorem dX0_checkOf_57 : decode cX0_checkOf 57 = .ok (.iconst 1, 1) := by decide +kernel
theorem dX0_checkOf_58 : decode cX0_checkOf 58 = .ok (.lushr, 1) := by decide +kernel
theorem dX0_checkOf_59 : decode cX0_checkOf 59 = .ok (.lstore_n 2, 1) := by decide +kernel
theorem dX0_checkOf_60 : decode cX0_checkOf 60 = .ok (.iinc 5 1, 3) := by decide +kernel
theorem dX0_checkOf_63 : decode cX0_checkOf 63 = .ok (.goto (-32), 3) := by decide +kernel
theorem dX0_checkOf_66 : decode cX0_checkOf 66 = .ok (.iinc 4 1, 3) := by decide +kernel
theorem dX0_checkOf_69 : decode cX0_checkOf 69 = .ok (.goto (-62), 3) := by decide +kernel
theorem dX0_checkOf_72 : decode cX0_checkOf 72 = .ok (.lload_n 2, 1) := by decide +kernel
theorem dX0_checkOf_73 : decode cX0_checkOf 73 = .ok (.ldc2_w 171, 3) := by decide +kernel
theorem dX0_checkOf_76 : decode cX0_checkOf 76 = .ok (.lxor, 1) := by decide +kernel
theorem dX0_checkOf_77 : decode cX0_checkOf 77 = .ok (.lreturn, 1) := by decide +kernel
theorem dX0_byteOf_0 : decode cX0_byteOf 0 = .ok (.aload_n 0, 1) := by decide +kernel
theorem dX0_byteOf_1 : decode cX0_byteOf 1 = .ok (.iload_n 1, 1) := by decide +kernel
theorem dX0_byteOf_2 : decode cX0_byteOf 2 = .ok (.iload_n 2, 1) := by decide +kernel
theorem dX0_byteOf_3 : decode cX0_byteOf 3 = .ok (.bipush 8, 2) := by decide +kernel
theorem dX0_byteOf_5 : decode cX0_byteOf 5 = .ok (.idiv, 1) := by decide +kernel
theorem dX0_byteOf_6 : decode cX0_byteOf 6 = .ok (.iadd, 1) := by decide +kernel
theorem dX0_byteOf_7 : decode cX0_byteOf 7 = .ok (.laload, 1) := by decide +kernel
theorem dX0_byteOf_8 : decode cX0_byteOf 8 = .ok (.iload_n 2, 1) := by decide +kernel
theorem dX0_byteOf_9 : decode cX0_byteOf 9 = .ok (.bipush 8, 2) := by decide +kernel
theorem dX0_byteOf_11 : decode cX0_byteOf 11 = .ok (.irem, 1) := by decide +kernel
theorem dX0_byteOf_12 : decode cX0_byteOf 12 = .ok (.bipush 8, 2) := by decide +kernel
theorem dX0_byteOf_14 : decode cX0_byteOf 14 = .ok (.imul, 1) := by decide +kernel
theorem dX0_byteOf_15 : decode cX0_byteOf 15 = .ok (.lushr, 1) := by decide +kernel
theorem dX0_byteOf_16 : decode cX0_byteOf 16 = .ok (.l2i, 1) := by decide +kernel
theorem dX0_byteOf_17 : decode cX0_byteOf 17 = .ok (.sipush 255, 3) := by decide +kernel
theorem dX0_byteOf_20 : decode cX0_byteOf 20 = .ok (.iand, 1) := by decide +kernel
theorem dX0_byteOf_21 : decode cX0_byteOf 21 = .ok (.ireturn, 1) := by decide +kernel
theorem dX0_turnBytes_0 : decode cX0_turnBytes 0 = .ok (.iconst 0, 1) := by decide +kernel
theorem dX0_turnBytes_1 : decode cX0_turnBytes 1 = .ok (.istore 6, 2) := by decide +kernel
theorem dX0_turnBytes_3 : decode cX0_turnBytes 3 = .ok (.iload 6, 2) := by decide +kernel
theorem dX0_turnBytes_5 : decode cX0_turnBytes 5 = .ok (.iload 5, 2) := by decide +kernel
theorem dX0_turnBytes_7 : decode cX0_turnBytes 7 = .ok (.if_icmp .ge 47, 3) := by decide +kernel
theorem dX0_turnBytes_10 : decode cX0_turnBytes 10 = .ok (.iload_n 2, 1) := by decide +kernel
theorem dX0_turnBytes_11 : decode cX0_turnBytes 11 = .ok (.iload 6, 2) := by decide +kernel
theorem dX0_turnBytes_13 : decode cX0_turnBytes 13 = .ok (.iadd, 1) := by decide +kernel
theorem dX0_turnBytes_14 : decode cX0_turnBytes 14 = .ok (.istore 7, 2) := by decide +kernel
theorem dX0_turnBytes_16 : decode cX0_turnBytes 16 = .ok (.aload_n 0, 1) := by decide +kernel
theorem dX0_turnBytes_17 : decode cX0_turnBytes 17 = .ok (.iload_n 1, 1) := by decide +kernel
theorem dX0_turnBytes_18 : decode cX0_turnBytes 18 = .ok (.iload 7, 2) := by decide +kernel
theorem dX0_turnBytes_20 : decode cX0_turnBytes 20 = .ok (.bipush 8, 2) := by decide +kernel
theorem dX0_turnBytes_22 : decode cX0_turnBytes 22 = .ok (.idiv, 1) := by decide +kernel
theorem dX0_turnBytes_23 : decode cX0_turnBytes 23 = .ok (.iadd, 1) := by decide +kernel
theorem dX0_turnBytes_24 : decode cX0_turnBytes 24 = .ok (.dup2, 1) := by decide +kernel
theorem dX0_turnBytes_25 : decode cX0_turnBytes 25 = .ok (.laload, 1) := by decide +kernel
theorem dX0_turnBytes_26 : decode cX0_turnBytes 26 = .ok (.lload_n 3, 1) := by decide +kernel
theorem dX0_turnBytes_27 : decode cX0_turnBytes 27 = .ok (.iload 6, 2) := by decide +kernel
theorem dX0_turnBytes_29 : decode cX0_turnBytes 29 = .ok (.bipush 8, 2) := by decide +kernel
theorem dX0_turnBytes_31 : decode cX0_turnBytes 31 = .ok (.imul, 1) := by decide +kernel
theorem dX0_turnBytes_32 : decode cX0_turnBytes 32 = .ok (.lushr, 1) := by decide +kernel
theorem dX0_turnBytes_33 : decode cX0_turnBytes 33 = .ok (.ldc2_w 175, 3) := by decide +kernel
theorem dX0_turnBytes_36 : decode cX0_turnBytes 36 = .ok (.land, 1) := by decide +kernel
theorem dX0_turnBytes_37 : decode cX0_turnBytes 37 = .ok (.iload 7, 2) := by decide +kernel
theorem dX0_turnBytes_39 : decode cX0_turnBytes 39 = .ok (.bipush 8, 2) := by decide +kernel
theorem dX0_turnBytes_41 : decode cX0_turnBytes 41 = .ok (.irem, 1) := by decide +kernel
theorem dX0_turnBytes_42 : decode cX0_turnBytes 42 = .ok (.bipush 8, 2) := by decide +kernel
theorem dX0_turnBytes_44 : decode cX0_turnBytes 44 = .ok (.imul, 1) := by decide +kernel
theorem dX0_turnBytes_45 : decode cX0_turnBytes 45 = .ok (.lshl, 1) := by decide +kernel
theorem dX0_turnBytes_46 : decode cX0_turnBytes 46 = .ok (.lxor, 1) := by decide +kernel
theorem dX0_turnBytes_47 : decode cX0_turnBytes 47 = .ok (.lastore, 1) := by decide +kernel
theorem dX0_turnBytes_48 : decode cX0_turnBytes 48 = .ok (.iinc 6 1, 3) := by decide +kernel
theorem dX0_turnBytes_51 : decode cX0_turnBytes 51 = .ok (.goto (-48), 3) := by decide +kernel
theorem dX0_turnBytes_54 : decode cX0_turnBytes 54 = .ok (.return_, 1) := by decide +kernel
theorem dX1_init_0 : decode cX1_init 0 = .ok (.aload_n 0, 1) := by decide +kernel
theorem dX1_init_1 : decode cX1_init 1 = .ok (.invokespecial 1, 3) := by decide +kernel
theorem dX1_init_4 : decode cX1_init 4 = .ok (.aload_n 0, 1) := by decide +kernel
theorem dX1_init_5 : decode cX1_init 5 = .ok (.bipush 64, 2) := by decide +kernel
theorem dX1_init_7 : decode cX1_init 7 = .ok (.newarray .int, 2) := by decide +kernel
theorem dX1_init_9 : decode cX1_init 9 = .ok (.putfield 7, 3) := by decide +kernel
theorem dX1_init_12 : decode cX1_init 12 = .ok (.aload_n 0, 1) := by decide +kernel
theorem dX1_init_13 : decode cX1_init 13 = .ok (.bipush 64, 2) := by decide +kernel
theorem dX1_init_15 : decode cX1_init 15 = .ok (.newarray .int, 2) := by decide +kernel
theorem dX1_init_17 : decode cX1_init 17 = .ok (.putfield 13, 3) := by decide +kernel
theorem dX1_init_20 : decode cX1_init 20 = .ok (.aload_n 0, 1) := by decide +kernel
theorem dX1_init_21 : decode cX1_init 21 = .ok (.bipush 16, 2) := by decide +kernel
theorem dX1_init_23 : decode cX1_init 23 = .ok (.newarray .boolean, 2) := by decide +kernel
theorem dX1_init_25 : decode cX1_init 25 = .ok (.putfield 16, 3) := by decide +kernel
theorem dX1_init_28 : decode cX1_init 28 = .ok (.aload_n 0, 1) := by decide +kernel
theorem dX1_init_29 : decode cX1_init 29 = .ok (.sipush 1056, 3) := by decide +kernel
theorem dX1_init_32 : decode cX1_init 32 = .ok (.newarray .boolean, 2) := by decide +kernel
theorem dX1_init_34 : decode cX1_init 34 = .ok (.putfield 20, 3) := by decide +kernel
theorem dX1_init_37 : decode cX1_init 37 = .ok (.aload_n 0, 1) := by decide +kernel
theorem dX1_init_38 : decode cX1_init 38 = .ok (.ldc 23, 2) := by decide +kernel
theorem dX1_init_40 : decode cX1_init 40 = .ok (.newarray .byte, 2) := by decide +kernel
theorem dX1_init_42 : decode cX1_init 42 = .ok (.putfield 24, 3) := by decide +kernel
theorem dX1_init_45 : decode cX1_init 45 = .ok (.aload_n 0, 1) := by decide +kernel
theorem dX1_init_46 : decode cX1_init 46 = .ok (.ldc 23, 2) := by decide +kernel
theorem dX1_init_48 : decode cX1_init 48 = .ok (.newarray .byte, 2) := by decide +kernel
theorem dX1_init_50 : decode cX1_init 50 = .ok (.putfield 28, 3) := by decide +kernel
theorem dX1_init_53 : decode cX1_init 53 = .ok (.aload_n 0, 1) := by decide +kernel
theorem dX1_init_54 : decode cX1_init 54 = .ok (.ldc2_w 31, 3) := by decide +kernel
theorem dX1_init_57 : decode cX1_init 57 = .ok (.putfield 33, 3) := by decide +kernel
theorem dX1_init_60 : decode cX1_init 60 = .ok (.aload_n 0, 1) := by decide +kernel
theorem dX1_init_61 : decode cX1_init 61 = .ok (.sipush 560, 3) := by decide +kernel
theorem dX1_init_64 : decode cX1_init 64 = .ok (.newarray .boolean, 2) := by decide +kernel
theorem dX1_init_66 : decode cX1_init 66 = .ok (.putfield 37, 3) := by decide +kernel
theorem dX1_init_69 : decode cX1_init 69 = .ok (.iconst 0, 1) := by decide +kernel
theorem dX1_init_70 : decode cX1_init 70 = .ok (.istore_n 1, 1) := by decide +kernel
theorem dX1_init_71 : decode cX1_init 71 = .ok (.iload_n 1, 1) := by decide +kernel
theorem dX1_init_72 : decode cX1_init 72 = .ok (.bipush 16, 2) := by decide +kernel
theorem dX1_init_74 : decode cX1_init 74 = .ok (.if_icmp .ge 16, 3) := by decide +kernel
theorem dX1_init_77 : decode cX1_init 77 = .ok (.aload_n 0, 1) := by decide +kernel
theorem dX1_init_78 : decode cX1_init 78 = .ok (.getfield 16, 3) := by decide +kernel
theorem dX1_init_81 : decode cX1_init 81 = .ok (.iload_n 1, 1) := by decide +kernel
theorem dX1_init_82 : decode cX1_init 82 = .ok (.iconst 1, 1) := by decide +kernel
theorem dX1_init_83 : decode cX1_init 83 = .ok (.bastore, 1) := by decide +kernel
theorem dX1_init_84 : decode cX1_init 84 = .ok (.iinc 1 1, 3) := by decide +kernel
theorem dX1_init_87 : decode cX1_init 87 = .ok (.goto (-16), 3) := by decide +kernel
theorem dX1_init_90 : decode cX1_init 90 = .ok (.return_, 1) := by decide +kernel
theorem dX1_thrown_0 : decode cX1_thrown 0 = .ok (.aload_n 0, 1) := by decide +kernel
theorem dX1_thrown_1 : decode cX1_thrown 1 = .ok (.getfield 40, 3) := by decide +kernel
theorem dX1_thrown_4 : decode cX1_thrown 4 = .ok (.ireturn, 1) := by decide +kernel
theorem dX1_fails_0 : decode cX1_fails 0 = .ok (.aload_n 0, 1) := by decide +kernel
theorem dX1_fails_1 : decode cX1_fails 1 = .ok (.iload_n 1, 1) := by decide +kernel
theorem dX1_fails_2 : decode cX1_fails 2 = .ok (.ifCond .eq 7, 3) := by decide +kernel
theorem dX1_fails_5 : decode cX1_fails 5 = .ok (.iload_n 2, 1) := by decide +kernel
theorem dX1_fails_6 : decode cX1_fails 6 = .ok (.goto 4, 3) := by decide +kernel
theorem dX1_fails_9 : decode cX1_fails 9 = .ok (.iconst 0, 1) := by decide +kernel
theorem dX1_fails_10 : decode cX1_fails 10 = .ok (.putfield 40, 3) := by decide +kernel
theorem dX1_fails_13 : decode cX1_fails 13 = .ok (.iload_n 1, 1) := by decide +kernel
theorem dX1_fails_14 : decode cX1_fails 14 = .ok (.ireturn, 1) := by decide +kernel
theorem dX1_within_0 : decode cX1_within 0 = .ok (.iload_n 0, 1) := by decide +kernel
theorem dX1_within_1 : decode cX1_within 1 = .ok (.iload_n 1, 1) := by decide +kernel
theorem dX1_within_2 : decode cX1_within 2 = .ok (.if_icmp .lt 12, 3) := by decide +kernel
theorem dX1_within_5 : decode cX1_within 5 = .ok (.iload_n 0, 1) := by decide +kernel
theorem dX1_within_6 : decode cX1_within 6 = .ok (.iload_n 2, 1) := by decide +kernel
theorem dX1_within_7 : decode cX1_within 7 = .ok (.if_icmp .gt 7, 3) := by decide +kernel
theorem dX1_within_10 : decode cX1_within 10 = .ok (.iconst 1, 1) := by decide +kernel
theorem dX1_within_11 : decode cX1_within 11 = .ok (.goto 4, 3) := by decide +kernel
theorem dX1_within_14 : decode cX1_within 14 = .ok (.iconst 0, 1) := by decide +kernel
theorem dX1_within_15 : decode cX1_within 15 = .ok (.ireturn, 1) := by decide +kernel
theorem dX1_none_0 : decode cX1_none 0 = .ok (.iload_n 0, 1) := by decide +kernel
theorem dX1_none_1 : decode cX1_none 1 = .ok (.iconst 0, 1) := by decide +kernel
theorem dX1_none_2 : decode cX1_none 2 = .ok (.bipush 15, 2) := by decide +kernel
theorem dX1_none_4 : decode cX1_none 4 = .ok (.invokestatic 44, 3) := by decide +kernel
theorem dX1_none_7 : decode cX1_none 7 = .ok (.ifCond .eq 13, 3) := by decide +kernel
theorem dX1_none_10 : decode cX1_none 10 = .ok (.iload_n 1, 1) := by decide +kernel
theorem dX1_none_11 : decode cX1_none 11 = .ok (.iconst 0, 1) := by decide +kernel
theorem dX1_none_12 : decode cX1_none 12 = .ok (.bipush 65, 2) := by decide +kernel
theorem dX1_none_14 : decode cX1_none 14 = .ok (.invokestatic 44, 3) := by decide +kernel
theorem dX1_none_17 : decode cX1_none 17 = .ok (.ifCond .ne 7, 3) := by decide +kernel
theorem dX1_none_20 : decode cX1_none 20 = .ok (.iconst 1, 1) := by decide +kernel
theorem dX1_none_21 : decode cX1_none 21 = .ok (.goto 4, 3) := by decide +kernel
theorem dX1_none_24 : decode cX1_none 24 = .ok (.iconst 0, 1) := by decide +kernel
theorem dX1_none_25 : decode cX1_none 25 = .ok (.ireturn, 1) := by decide +kernel
theorem dX1_spot_0 : decode cX1_spot 0 = .ok (.bipush 66, 2) := by decide +kernel
theorem dX1_spot_2 : decode cX1_spot 2 = .ok (.iload_n 0, 1) := by decide +kernel
theorem dX1_spot_3 : decode cX1_spot 3 = .ok (.imul, 1) := by decide +kernel
theorem dX1_spot_4 : decode cX1_spot 4 = .ok (.iload_n 1, 1) := by decide +kernel
theorem dX1_spot_5 : decode cX1_spot 5 = .ok (.iadd, 1) := by decide +kernel
theorem dX1_spot_6 : decode cX1_spot 6 = .ok (.ireturn, 1) := by decide +kernel
theorem dX1_divide_0 : decode cX1_divide 0 = .ok (.iconst 0, 1) := by decide +kernel
theorem dX1_divide_1 : decode cX1_divide 1 = .ok (.istore_n 2, 1) := by decide +kernel
theorem dX1_divide_2 : decode cX1_divide 2 = .ok (.iload_n 2, 1) := by decide +kernel
theorem dX1_divide_3 : decode cX1_divide 3 = .ok (.bipush 32, 2) := by decide +kernel
theorem dX1_divide_5 : decode cX1_divide 5 = .ok (.iadd, 1) := by decide +kernel
theorem dX1_divide_6 : decode cX1_divide 6 = .ok (.iload_n 1, 1) := by decide +kernel
theorem dX1_divide_7 : decode cX1_divide 7 = .ok (.if_icmp .ge 63, 3) := by decide +kernel
theorem dX1_divide_10 : decode cX1_divide 10 = .ok (.aload_n 0, 1) := by decide +kernel
theorem dX1_divide_11 : decode cX1_divide 11 = .ok (.getfield 37, 3) := by decide +kernel
theorem dX1_divide_14 : decode cX1_divide 14 = .ok (.iload_n 2, 1) := by decide +kernel
theorem dX1_divide_15 : decode cX1_divide 15 = .ok (.baload, 1) := by decide +kernel
theorem dX1_divide_16 : decode cX1_divide 16 = .ok (.ifCond .ne 6, 3) := by decide +kernel
theorem dX1_divide_19 : decode cX1_divide 19 = .ok (.goto 45, 3) := by decide +kernel
theorem dX1_divide_22 : decode cX1_divide 22 = .ok (.iconst 0, 1) := by decide +kernel
theorem dX1_divide_23 : decode cX1_divide 23 = .ok (.istore_n 3, 1) := by decide +kernel
theorem dX1_divide_24 : decode cX1_divide 24 = .ok (.iload_n 3, 1) := by decide +kernel
theorem dX1_divide_25 : decode cX1_divide 25 = .ok (.bipush 33, 2) := by decide +kernel
theorem dX1_divide_27 : decode cX1_divide 27 = .ok (.if_icmp .ge 37, 3) := by decide +kernel
theorem dX1_divide_30 : decode cX1_divide 30 = .ok (.aload_n 0, 1) := by decide +kernel
theorem dX1_divide_31 : decode cX1_divide 31 = .ok (.getfield 37, 3) := by decide +kernel
theorem dX1_divide_34 : decode cX1_divide 34 = .ok (.iload_n 2, 1) := by decide +kernel
theorem dX1_divide_35 : decode cX1_divide 35 = .ok (.iload_n 3, 1) := by decide +kernel
theorem dX1_divide_36 : decode cX1_divide 36 = .ok (.iadd, 1) := by decide +kernel
theorem dX1_divide_37 : decode cX1_divide 37 = .ok (.dup2, 1) := by decide +kernel
theorem dX1_divide_38 : decode cX1_divide 38 = .ok (.baload, 1) := by decide +kernel
theorem dX1_divide_39 : decode cX1_divide 39 = .ok (.ldc2_w 48, 3) := by decide +kernel
theorem dX1_divide_42 : decode cX1_divide 42 = .ok (.iload_n 3, 1) := by decide +kernel
theorem dX1_divide_43 : decode cX1_divide 43 = .ok (.lshr, 1) := by decide +kernel
theorem dX1_divide_44 : decode cX1_divide 44 = .ok (.lconst 1, 1) := by decide +kernel
theorem dX1_divide_45 : decode cX1_divide 45 = .ok (.land, 1) := by decide +kernel
theorem dX1_divide_46 : decode cX1_divide 46 = .ok (.lconst 1, 1) := by decide +kernel
theorem dX1_divide_47 : decode cX1_divide 47 = .ok (.lcmp, 1) := by decide +kernel
theorem dX1_divide_48 : decode cX1_divide 48 = .ok (.ifCond .ne 7, 3) := by decide +kernel
theorem dX1_divide_51 : decode cX1_divide 51 = .ok (.iconst 1, 1) := by decide +kernel
theorem dX1_divide_52 : decode cX1_divide 52 = .ok (.goto 4, 3) := by decide +kernel
theorem dX1_divide_55 : decode cX1_divide 55 = .ok (.iconst 0, 1) := by decide +kernel
theorem dX1_divide_56 : decode cX1_divide 56 = .ok (.ixor, 1) := by decide +kernel
theorem dX1_divide_57 : decode cX1_divide 57 = .ok (.bastore, 1) := by decide +kernel
theorem dX1_divide_58 : decode cX1_divide 58 = .ok (.iinc 3 1, 3) := by decide +kernel
theorem dX1_divide_61 : decode cX1_divide 61 = .ok (.goto (-37), 3) := by decide +kernel
theorem dX1_divide_64 : decode cX1_divide 64 = .ok (.iinc 2 1, 3) := by decide +kernel
theorem dX1_divide_67 : decode cX1_divide 67 = .ok (.goto (-65), 3) := by decide +kernel
theorem dX1_divide_70 : decode cX1_divide 70 = .ok (.return_, 1) := by decide +kernel
theorem dX1_spread_0 : decode cX1_spread 0 = .ok (.iconst 0, 1) := by decide +kernel
theorem dX1_spread_1 : decode cX1_spread 1 = .ok (.istore 4, 2) := by decide +kernel
theorem dX1_spread_3 : decode cX1_spread 3 = .ok (.iload 4, 2) := by decide +kernel
theorem dX1_spread_5 : decode cX1_spread 5 = .ok (.bipush 8, 2) := by decide +kernel
theorem dX1_spread_7 : decode cX1_spread 7 = .ok (.iload_n 3, 1) := by decide +kernel
theorem dX1_spread_8 : decode cX1_spread 8 = .ok (.imul, 1) := by decide +kernel
theorem dX1_spread_9 : decode cX1_spread 9 = .ok (.if_icmp .ge 42, 3) := by decide +kernel
theorem dX1_spread_12 : decode cX1_spread 12 = .ok (.aload_n 0, 1) := by decide +kernel
theorem dX1_spread_13 : decode cX1_spread 13 = .ok (.getfield 37, 3) := by decide +kernel
theorem dX1_spread_16 : decode cX1_spread 16 = .ok (.iload 4, 2) := by decide +kernel
theorem dX1_spread_18 : decode cX1_spread 18 = .ok (.aload_n 1, 1) := by decide +kernel
theorem dX1_spread_19 : decode cX1_spread 19 = .ok (.iload_n 2, 1) := by decide +kernel
theorem dX1_spread_20 : decode cX1_spread 20 = .ok (.iload 4, 2) := by decide +kernel
theorem dX1_spread_22 : decode cX1_spread 22 = .ok (.bipush 8, 2) := by decide +kernel
theorem dX1_spread_24 : decode cX1_spread 24 = .ok (.idiv, 1) := by decide +kernel
theorem dX1_spread_25 : decode cX1_spread 25 = .ok (.iadd, 1) := by decide +kernel
theorem dX1_spread_26 : decode cX1_spread 26 = .ok (.baload, 1) := by decide +kernel
theorem dX1_spread_27 : decode cX1_spread 27 = .ok (.iload 4, 2) := by decide +kernel
theorem dX1_spread_29 : decode cX1_spread 29 = .ok (.bipush 8, 2) := by decide +kernel
theorem dX1_spread_31 : decode cX1_spread 31 = .ok (.irem, 1) := by decide +kernel
theorem dX1_spread_32 : decode cX1_spread 32 = .ok (.ishr, 1) := by decide +kernel
theorem dX1_spread_33 : decode cX1_spread 33 = .ok (.iconst 1, 1) := by decide +kernel
theorem dX1_spread_34 : decode cX1_spread 34 = .ok (.iand, 1) := by decide +kernel
theorem dX1_spread_35 : decode cX1_spread 35 = .ok (.iconst 1, 1) := by decide +kernel
theorem dX1_spread_36 : decode cX1_spread 36 = .ok (.if_icmp .ne 7, 3) := by decide +kernel
theorem dX1_spread_39 : decode cX1_spread 39 = .ok (.iconst 1, 1) := by decide +kernel
theorem dX1_spread_40 : decode cX1_spread 40 = .ok (.goto 4, 3) := by decide +kernel
theorem dX1_spread_43 : decode cX1_spread 43 = .ok (.iconst 0, 1) := by decide +kernel
theorem dX1_spread_44 : decode cX1_spread 44 = .ok (.bastore, 1) := by decide +kernel
theorem dX1_spread_45 : decode cX1_spread 45 = .ok (.iinc 4 1, 3) := by decide +kernel
theorem dX1_spread_48 : decode cX1_spread 48 = .ok (.goto (-45), 3) := by decide +kernel
theorem dX1_spread_51 : decode cX1_spread 51 = .ok (.return_, 1) := by decide +kernel
theorem dX1_check_0 : decode cX1_check 0 = .ok (.aload_n 0, 1) := by decide +kernel
theorem dX1_check_1 : decode cX1_check 1 = .ok (.aload_n 0, 1) := by decide +kernel
theorem dX1_check_2 : decode cX1_check 2 = .ok (.getfield 24, 3) := by decide +kernel
theorem dX1_check_5 : decode cX1_check 5 = .ok (.iload_n 1, 1) := by decide +kernel
theorem dX1_check_6 : decode cX1_check 6 = .ok (.bipush 66, 2) := by decide +kernel
theorem dX1_check_8 : decode cX1_check 8 = .ok (.invokevirtual 50, 3) := by decide +kernel
theorem dX1_check_11 : decode cX1_check 11 = .ok (.sipush 528, 3) := by decide +kernel
theorem dX1_check_14 : decode cX1_check 14 = .ok (.istore_n 2, 1) := by decide +kernel
theorem dX1_check_15 : decode cX1_check 15 = .ok (.iload_n 2, 1) := by decide +kernel
theorem dX1_check_16 : decode cX1_check 16 = .ok (.sipush 560, 3) := by decide +kernel
theorem dX1_check_19 : decode cX1_check 19 = .ok (.if_icmp .ge 16, 3) := by decide +kernel
theorem dX1_check_22 : decode cX1_check 22 = .ok (.aload_n 0, 1) := by decide +kernel
theorem dX1_check_23 : decode cX1_check 23 = .ok (.getfield 37, 3) := by decide +kernel
theorem dX1_check_26 : decode cX1_check 26 = .ok (.iload_n 2, 1) := by decide +kernel
theorem dX1_check_27 : decode cX1_check 27 = .ok (.iconst 0, 1) := by decide +kernel
theorem dX1_check_28 : decode cX1_check 28 = .ok (.bastore, 1) := by decide +kernel
theorem dX1_check_29 : decode cX1_check 29 = .ok (.iinc 2 1, 3) := by decide +kernel
theorem dX1_check_32 : decode cX1_check 32 = .ok (.goto (-17), 3) := by decide +kernel
theorem dX1_check_35 : decode cX1_check 35 = .ok (.iconst 0, 1) := by decide +kernel
theorem dX1_check_36 : decode cX1_check 36 = .ok (.istore_n 2, 1) := by decide +kernel
theorem dX1_check_37 : decode cX1_check 37 = .ok (.iload_n 2, 1) := by decide +kernel
theorem dX1_check_38 : decode cX1_check 38 = .ok (.bipush 32, 2) := by decide +kernel
theorem dX1_check_40 : decode cX1_check 40 = .ok (.if_icmp .ge 29, 3) := by decide +kernel
theorem dX1_check_43 : decode cX1_check 43 = .ok (.aload_n 0, 1) := by decide +kernel
theorem dX1_check_44 : decode cX1_check 44 = .ok (.getfield 37, 3) := by decide +kernel
theorem dX1_check_47 : decode cX1_check 47 = .ok (.iload_n 2, 1) := by decide +kernel
theorem dX1_check_48 : decode cX1_check 48 = .ok (.aload_n 0, 1) := by decide +kernel
theorem dX1_check_49 : decode cX1_check 49 = .ok (.getfield 37, 3) := by decide +kernel
theorem dX1_check_52 : decode cX1_check 52 = .ok (.iload_n 2, 1) := by decide +kernel
theorem dX1_check_53 : decode cX1_check 53 = .ok (.baload, 1) := by decide +kernel
theorem dX1_check_54 : decode cX1_check 54 = .ok (.ifCond .ne 7, 3) := by decide +kernel
theorem dX1_check_57 : decode cX1_check 57 = .ok (.iconst 1, 1) := by decide +kernel
theorem dX1_check_58 : decode cX1_check 58 = .ok (.goto 4, 3) := by decide +kernel
theorem dX1_check_61 : decode cX1_check 61 = .ok (.iconst 0, 1) := by decide +kernel
theorem dX1_check_62 : decode cX1_check 62 = .ok (.bastore, 1) := by decide +kernel
theorem dX1_check_63 : decode cX1_check 63 = .ok (.iinc 2 1, 3) := by decide +kernel
theorem dX1_check_66 : decode cX1_check 66 = .ok (.goto (-29), 3) := by decide +kernel
theorem dX1_check_69 : decode cX1_check 69 = .ok (.aload_n 0, 1) := by decide +kernel
theorem dX1_check_70 : decode cX1_check 70 = .ok (.sipush 560, 3) := by decide +kernel
theorem dX1_check_73 : decode cX1_check 73 = .ok (.invokevirtual 54, 3) := by decide +kernel
theorem dX1_check_76 : decode cX1_check 76 = .ok (.bipush 66, 2) := by decide +kernel
theorem dX1_check_78 : decode cX1_check 78 = .ok (.istore_n 2, 1) := by decide +kernel
theorem dX1_check_79 : decode cX1_check 79 = .ok (.iload_n 2, 1) := by decide +kernel
theorem dX1_check_80 : decode cX1_check 80 = .ok (.bipush 70, 2) := by decide +kernel
theorem dX1_check_82 : decode cX1_check 82 = .ok (.if_icmp .ge 63, 3) := by decide +kernel
theorem dX1_check_85 : decode cX1_check 85 = .ok (.iconst 0, 1) := by decide +kernel
theorem dX1_check_86 : decode cX1_check 86 = .ok (.istore_n 3, 1) := by decide +kernel
theorem dX1_check_87 : decode cX1_check 87 = .ok (.iconst 0, 1) := by decide +kernel
theorem dX1_check_88 : decode cX1_check 88 = .ok (.istore 4, 2) := by decide +kernel
theorem dX1_check_90 : decode cX1_check 90 = .ok (.iload 4, 2) := by decide +kernel
theorem dX1_check_92 : decode cX1_check 92 = .ok (.bipush 8, 2) := by decide +kernel
theorem dX1_check_94 : decode cX1_check 94 = .ok (.if_icmp .ge 35, 3) := by decide +kernel
theorem dX1_check_97 : decode cX1_check 97 = .ok (.iload_n 3, 1) := by decide +kernel
theorem dX1_check_98 : decode cX1_check 98 = .ok (.aload_n 0, 1) := by decide +kernel
theorem dX1_check_99 : decode cX1_check 99 = .ok (.getfield 37, 3) := by decide +kernel
theorem dX1_check_102 : decode cX1_check 102 = .ok (.bipush 8, 2) := by decide +kernel
theorem dX1_check_104 : decode cX1_check 104 = .ok (.iload_n 2, 1) := by decide +kernel
theorem dX1_check_105 : decode cX1_check 105 = .ok (.imul, 1) := by decide +kernel
theorem dX1_check_106 : decode cX1_check 106 = .ok (.iload 4, 2) := by decide +kernel
theorem dX1_check_108 : decode cX1_check 108 = .ok (.iadd, 1) := by decide +kernel
theorem dX1_check_109 : decode cX1_check 109 = .ok (.baload, 1) := by decide +kernel
theorem dX1_check_110 : decode cX1_check 110 = .ok (.ifCond .eq 7, 3) := by decide +kernel
theorem dX1_check_113 : decode cX1_check 113 = .ok (.iconst 0, 1) := by decide +kernel
theorem dX1_check_114 : decode cX1_check 114 = .ok (.goto 7, 3) := by decide +kernel
theorem dX1_check_117 : decode cX1_check 117 = .ok (.iconst 1, 1) := by decide +kernel
theorem dX1_check_118 : decode cX1_check 118 = .ok (.iload 4, 2) := by decide +kernel
theorem dX1_check_120 : decode cX1_check 120 = .ok (.ishl, 1) := by decide +kernel
theorem dX1_check_121 : decode cX1_check 121 = .ok (.iadd, 1) := by decide +kernel
theorem dX1_check_122 : decode cX1_check 122 = .ok (.istore_n 3, 1) := by decide +kernel
theorem dX1_check_123 : decode cX1_check 123 = .ok (.iinc 4 1, 3) := by decide +kernel
theorem dX1_check_126 : decode cX1_check 126 = .ok (.goto (-36), 3) := by decide +kernel
theorem dX1_check_129 : decode cX1_check 129 = .ok (.aload_n 0, 1) := by decide +kernel
theorem dX1_check_130 : decode cX1_check 130 = .ok (.getfield 24, 3) := by decide +kernel
theorem dX1_check_133 : decode cX1_check 133 = .ok (.iload_n 1, 1) := by decide +kernel
theorem dX1_check_134 : decode cX1_check 134 = .ok (.iload_n 2, 1) := by decide +kernel
theorem dX1_check_135 : decode cX1_check 135 = .ok (.iadd, 1) := by decide +kernel
theorem dX1_check_136 : decode cX1_check 136 = .ok (.iload_n 3, 1) := by decide +kernel
theorem dX1_check_137 : decode cX1_check 137 = .ok (.i2b, 1) := by decide +kernel
theorem dX1_check_138 : decode cX1_check 138 = .ok (.bastore, 1) := by decide +kernel
theorem dX1_check_139 : decode cX1_check 139 = .ok (.iinc 2 1, 3) := by decide +kernel
theorem dX1_check_142 : decode cX1_check 142 = .ok (.goto (-63), 3) := by decide +kernel
theorem dX1_check_145 : decode cX1_check 145 = .ok (.return_, 1) := by decide +kernel
theorem dX1_isDamaged_0 : decode cX1_isDamaged 0 = .ok (.iconst 0, 1) := by decide +kernel
theorem dX1_isDamaged_1 : decode cX1_isDamaged 1 = .ok (.istore_n 2, 1) := by decide +kernel
theorem dX1_isDamaged_2 : decode cX1_isDamaged 2 = .ok (.iconst 0, 1) := by decide +kernel
theorem dX1_isDamaged_3 : decode cX1_isDamaged 3 = .ok (.istore_n 3, 1) := by decide +kernel
theorem dX1_isDamaged_4 : decode cX1_isDamaged 4 = .ok (.iload_n 3, 1) := by decide +kernel
theorem dX1_isDamaged_5 : decode cX1_isDamaged 5 = .ok (.bipush 70, 2) := by decide +kernel
theorem dX1_isDamaged_7 : decode cX1_isDamaged 7 = .ok (.if_icmp .ge 33, 3) := by decide +kernel
theorem dX1_isDamaged_10 : decode cX1_isDamaged 10 = .ok (.iload_n 2, 1) := by decide +kernel
theorem dX1_isDamaged_11 : decode cX1_isDamaged 11 = .ok (.ifCond .ne 17, 3) := by decide +kernel
theorem dX1_isDamaged_14 : decode cX1_isDamaged 14 = .ok (.aload_n 0, 1) := by decide +kernel
theorem dX1_isDamaged_15 : decode cX1_isDamaged 15 = .ok (.getfield 28, 3) := by decide +kernel
theorem dX1_isDamaged_18 : decode cX1_isDamaged 18 = .ok (.bipush 70, 2) := by decide +kernel
theorem dX1_isDamaged_20 : decode cX1_isDamaged 20 = .ok (.iload_n 1, 1) := by decide +kernel
theorem dX1_isDamaged_21 : decode cX1_isDamaged 21 = .ok (.imul, 1) := by decide +kernel
theorem dX1_isDamaged_22 : decode cX1_isDamaged 22 = .ok (.iload_n 3, 1) := by decide +kernel
theorem dX1_isDamaged_23 : decode cX1_isDamaged 23 = .ok (.iadd, 1) := by decide +kernel
theorem dX1_isDamaged_24 : decode cX1_isDamaged 24 = .ok (.baload, 1) := by decide +kernel
theorem dX1_isDamaged_25 : decode cX1_isDamaged 25 = .ok (.ifCond .eq 7, 3) := by decide +kernel
theorem dX1_isDamaged_28 : decode cX1_isDamaged 28 = .ok (.iconst 1, 1) := by decide +kernel
theorem dX1_isDamaged_29 : decode cX1_isDamaged 29 = .ok (.goto 4, 3) := by decide +kernel
theorem dX1_isDamaged_32 : decode cX1_isDamaged 32 = .ok (.iconst 0, 1) := by decide +kernel
theorem dX1_isDamaged_33 : decode cX1_isDamaged 33 = .ok (.istore_n 2, 1) := by decide +kernel
theorem dX1_isDamaged_34 : decode cX1_isDamaged 34 = .ok (.iinc 3 1, 3) := by decide +kernel
theorem dX1_isDamaged_37 : decode cX1_isDamaged 37 = .ok (.goto (-33), 3) := by decide +kernel
theorem dX1_isDamaged_40 : decode cX1_isDamaged 40 = .ok (.iload_n 2, 1) := by decide +kernel
theorem dX1_isDamaged_41 : decode cX1_isDamaged 41 = .ok (.ireturn, 1) := by decide +kernel
theorem dX1_isUnseen_0 : decode cX1_isUnseen 0 = .ok (.aload_n 0, 1) := by decide +kernel
theorem dX1_isUnseen_1 : decode cX1_isUnseen 1 = .ok (.aload_n 0, 1) := by decide +kernel
theorem dX1_isUnseen_2 : decode cX1_isUnseen 2 = .ok (.getfield 28, 3) := by decide +kernel
theorem dX1_isUnseen_5 : decode cX1_isUnseen 5 = .ok (.bipush 70, 2) := by decide +kernel
theorem dX1_isUnseen_7 : decode cX1_isUnseen 7 = .ok (.iload_n 1, 1) := by decide +kernel
theorem dX1_isUnseen_8 : decode cX1_isUnseen 8 = .ok (.imul, 1) := by decide +kernel
theorem dX1_isUnseen_9 : decode cX1_isUnseen 9 = .ok (.bipush 70, 2) := by decide +kernel
theorem dX1_isUnseen_11 : decode cX1_isUnseen 11 = .ok (.invokevirtual 50, 3) := by decide +kernel
theorem dX1_isUnseen_14 : decode cX1_isUnseen 14 = .ok (.aload_n 0, 1) := by decide +kernel
theorem dX1_isUnseen_15 : decode cX1_isUnseen 15 = .ok (.sipush 560, 3) := by decide +kernel
theorem dX1_isUnseen_18 : decode cX1_isUnseen 18 = .ok (.invokevirtual 54, 3) := by decide +kernel
theorem dX1_isUnseen_21 : decode cX1_isUnseen 21 = .ok (.iconst 1, 1) := by decide +kernel
theorem dX1_isUnseen_22 : decode cX1_isUnseen 22 = .ok (.istore_n 2, 1) := by decide +kernel
theorem dX1_isUnseen_23 : decode cX1_isUnseen 23 = .ok (.sipush 528, 3) := by decide +kernel
theorem dX1_isUnseen_26 : decode cX1_isUnseen 26 = .ok (.istore_n 3, 1) := by decide +kernel
theorem dX1_isUnseen_27 : decode cX1_isUnseen 27 = .ok (.iload_n 3, 1) := by decide +kernel
theorem dX1_isUnseen_28 : decode cX1_isUnseen 28 = .ok (.sipush 560, 3) := by decide +kernel
theorem dX1_isUnseen_31 : decode cX1_isUnseen 31 = .ok (.if_icmp .ge 28, 3) := by decide +kernel
theorem dX1_isUnseen_34 : decode cX1_isUnseen 34 = .ok (.iload_n 2, 1) := by decide +kernel
theorem dX1_isUnseen_35 : decode cX1_isUnseen 35 = .ok (.ifCond .eq 16, 3) := by decide +kernel
theorem dX1_isUnseen_38 : decode cX1_isUnseen 38 = .ok (.aload_n 0, 1) := by decide +kernel
theorem dX1_isUnseen_39 : decode cX1_isUnseen 39 = .ok (.getfield 37, 3) := by decide +kernel
theorem dX1_isUnseen_42 : decode cX1_isUnseen 42 = .ok (.iload_n 3, 1) := by decide +kernel
theorem dX1_isUnseen_43 : decode cX1_isUnseen 43 = .ok (.baload, 1) := by decide +kernel
theorem dX1_isUnseen_44 : decode cX1_isUnseen 44 = .ok (.ifCond .ne 7, 3) := by decide +kernel
theorem dX1_isUnseen_47 : decode cX1_isUnseen 47 = .ok (.iconst 1, 1) := by decide +kernel
theorem dX1_isUnseen_48 : decode cX1_isUnseen 48 = .ok (.goto 4, 3) := by decide +kernel
theorem dX1_isUnseen_51 : decode cX1_isUnseen 51 = .ok (.iconst 0, 1) := by decide +kernel
theorem dX1_isUnseen_52 : decode cX1_isUnseen 52 = .ok (.istore_n 2, 1) := by decide +kernel
theorem dX1_isUnseen_53 : decode cX1_isUnseen 53 = .ok (.iinc 3 1, 3) := by decide +kernel
theorem dX1_isUnseen_56 : decode cX1_isUnseen 56 = .ok (.goto (-29), 3) := by decide +kernel
theorem dX1_isUnseen_59 : decode cX1_isUnseen 59 = .ok (.iload_n 2, 1) := by decide +kernel
theorem dX1_isUnseen_60 : decode cX1_isUnseen 60 = .ok (.ireturn, 1) := by decide +kernel
theorem dX1_stateOf_0 : decode cX1_stateOf 0 = .ok (.aload_n 0, 1) := by decide +kernel
theorem dX1_stateOf_1 : decode cX1_stateOf 1 = .ok (.getfield 16, 3) := by decide +kernel
theorem dX1_stateOf_4 : decode cX1_stateOf 4 = .ok (.iload_n 1, 1) := by decide +kernel
theorem dX1_stateOf_5 : decode cX1_stateOf 5 = .ok (.baload, 1) := by decide +kernel
theorem dX1_stateOf_6 : decode cX1_stateOf 6 = .ok (.ifCond .ne 5, 3) := by decide +kernel
theorem dX1_stateOf_9 : decode cX1_stateOf 9 = .ok (.iconst 0, 1) := by decide +kernel
theorem dX1_stateOf_10 : decode cX1_stateOf 10 = .ok (.ireturn, 1) := by decide +kernel
theorem dX1_stateOf_11 : decode cX1_stateOf 11 = .ok (.aload_n 0, 1) := by decide +kernel
theorem dX1_stateOf_12 : decode cX1_stateOf 12 = .ok (.getfield 20, 3) := by decide +kernel
theorem dX1_stateOf_15 : decode cX1_stateOf 15 = .ok (.iload_n 1, 1) := by decide +kernel
theorem dX1_stateOf_16 : decode cX1_stateOf 16 = .ok (.iload_n 2, 1) := by decide +kernel
theorem dX1_stateOf_17 : decode cX1_stateOf 17 = .ok (.invokestatic 58, 3) := by decide +kernel
theorem dX1_stateOf_20 : decode cX1_stateOf 20 = .ok (.baload, 1) := by decide +kernel
theorem dX1_stateOf_21 : decode cX1_stateOf 21 = .ok (.ifCond .ne 7, 3) := by decide +kernel
theorem dX1_stateOf_24 : decode cX1_stateOf 24 = .ok (.iconst 1, 1) := by decide +kernel
theorem dX1_stateOf_25 : decode cX1_stateOf 25 = .ok (.goto 20, 3) := by decide +kernel
theorem dX1_stateOf_28 : decode cX1_stateOf 28 = .ok (.aload_n 0, 1) := by decide +kernel
theorem dX1_stateOf_29 : decode cX1_stateOf 29 = .ok (.iload_n 1, 1) := by decide +kernel
theorem dX1_stateOf_30 : decode cX1_stateOf 30 = .ok (.iload_n 2, 1) := by decide +kernel
theorem dX1_stateOf_31 : decode cX1_stateOf 31 = .ok (.invokestatic 58, 3) := by decide +kernel
theorem dX1_stateOf_34 : decode cX1_stateOf 34 = .ok (.invokevirtual 62, 3) := by decide +kernel
theorem dX1_stateOf_37 : decode cX1_stateOf 37 = .ok (.ifCond .eq 7, 3) := by decide +kernel
theorem dX1_stateOf_40 : decode cX1_stateOf 40 = .ok (.iconst 3, 1) := by decide +kernel
theorem dX1_stateOf_41 : decode cX1_stateOf 41 = .ok (.goto 4, 3) := by decide +kernel
theorem dX1_stateOf_44 : decode cX1_stateOf 44 = .ok (.iconst 2, 1) := by decide +kernel
theorem dX1_stateOf_45 : decode cX1_stateOf 45 = .ok (.ireturn, 1) := by decide +kernel
theorem dX1_feed_0 : decode cX1_feed 0 = .ok (.aload_n 0, 1) := by decide +kernel
theorem dX1_feed_1 : decode cX1_feed 1 = .ok (.iload_n 1, 1) := by decide +kernel
theorem dX1_feed_2 : decode cX1_feed 2 = .ok (.iconst 1, 1) := by decide +kernel
theorem dX1_feed_3 : decode cX1_feed 3 = .ok (.bipush 8, 2) := by decide +kernel
theorem dX1_feed_5 : decode cX1_feed 5 = .ok (.invokestatic 44, 3) := by decide +kernel
theorem dX1_feed_8 : decode cX1_feed 8 = .ok (.ifCond .ne 7, 3) := by decide +kernel
theorem dX1_feed_11 : decode cX1_feed 11 = .ok (.iconst 1, 1) := by decide +kernel
theorem dX1_feed_12 : decode cX1_feed 12 = .ok (.goto 4, 3) := by decide +kernel
theorem dX1_feed_15 : decode cX1_feed 15 = .ok (.iconst 0, 1) := by decide +kernel
theorem dX1_feed_16 : decode cX1_feed 16 = .ok (.iconst 1, 1) := by decide +kernel
theorem dX1_feed_17 : decode cX1_feed 17 = .ok (.invokevirtual 66, 3) := by decide +kernel
theorem dX1_feed_20 : decode cX1_feed 20 = .ok (.ifCond .ne 27, 3) := by decide +kernel
theorem dX1_feed_23 : decode cX1_feed 23 = .ok (.aload_n 0, 1) := by decide +kernel
theorem dX1_feed_24 : decode cX1_feed 24 = .ok (.aload_n 0, 1) := by decide +kernel
theorem dX1_feed_25 : decode cX1_feed 25 = .ok (.getfield 70, 3) := by decide +kernel
theorem dX1_feed_28 : decode cX1_feed 28 = .ok (.iload_n 1, 1) := by decide +kernel
theorem dX1_feed_29 : decode cX1_feed 29 = .ok (.iadd, 1) := by decide +kernel
theorem dX1_feed_30 : decode cX1_feed 30 = .ok (.bipush 64, 2) := by decide +kernel
theorem dX1_feed_32 : decode cX1_feed 32 = .ok (.if_icmp .le 7, 3) := by decide +kernel
theorem dX1_feed_35 : decode cX1_feed 35 = .ok (.iconst 1, 1) := by decide +kernel
theorem dX1_feed_36 : decode cX1_feed 36 = .ok (.goto 4, 3) := by decide +kernel
theorem dX1_feed_39 : decode cX1_feed 39 = .ok (.iconst 0, 1) := by decide +kernel
theorem dX1_feed_40 : decode cX1_feed 40 = .ok (.iconst 2, 1) := by decide +kernel
theorem dX1_feed_41 : decode cX1_feed 41 = .ok (.invokevirtual 66, 3) := by decide +kernel
theorem dX1_feed_44 : decode cX1_feed 44 = .ok (.ifCond .eq 5, 3) := by decide +kernel
theorem dX1_feed_47 : decode cX1_feed 47 = .ok (.iconst 0, 1) := by decide +kernel
theorem dX1_feed_48 : decode cX1_feed 48 = .ok (.ireturn, 1) := by decide +kernel
theorem dX1_feed_49 : decode cX1_feed 49 = .ok (.iconst 0, 1) := by decide +kernel
theorem dX1_feed_50 : decode cX1_feed 50 = .ok (.istore 4, 2) := by decide +kernel
theorem dX1_feed_52 : decode cX1_feed 52 = .ok (.iload 4, 2) := by decide +kernel
theorem dX1_feed_54 : decode cX1_feed 54 = .ok (.iload_n 1, 1) := by decide +kernel
theorem dX1_feed_55 : decode cX1_feed 55 = .ok (.if_icmp .ge 33, 3) := by decide +kernel
theorem dX1_feed_58 : decode cX1_feed 58 = .ok (.aload_n 0, 1) := by decide +kernel
theorem dX1_feed_59 : decode cX1_feed 59 = .ok (.getfield 7, 3) := by decide +kernel
theorem dX1_feed_62 : decode cX1_feed 62 = .ok (.aload_n 0, 1) := by decide +kernel
theorem dX1_feed_63 : decode cX1_feed 63 = .ok (.getfield 70, 3) := by decide +kernel
theorem dX1_feed_66 : decode cX1_feed 66 = .ok (.iload 4, 2) := by decide +kernel
theorem dX1_feed_68 : decode cX1_feed 68 = .ok (.iadd, 1) := by decide +kernel
theorem dX1_feed_69 : decode cX1_feed 69 = .ok (.lload_n 2, 1) := by decide +kernel
theorem dX1_feed_70 : decode cX1_feed 70 = .ok (.bipush 8, 2) := by decide +kernel
theorem dX1_feed_72 : decode cX1_feed 72 = .ok (.iload 4, 2) := by decide +kernel
theorem dX1_feed_74 : decode cX1_feed 74 = .ok (.imul, 1) := by decide +kernel
theorem dX1_feed_75 : decode cX1_feed 75 = .ok (.lshr, 1) := by decide +kernel
theorem dX1_feed_76 : decode cX1_feed 76 = .ok (.ldc2_w 73, 3) := by decide +kernel
theorem dX1_feed_79 : decode cX1_feed 79 = .ok (.land, 1) := by decide +kernel
theorem dX1_feed_80 : decode cX1_feed 80 = .ok (.l2i, 1) := by decide +kernel
theorem dX1_feed_81 : decode cX1_feed 81 = .ok (.iastore, 1) := by decide +kernel
theorem dX1_feed_82 : decode cX1_feed 82 = .ok (.iinc 4 1, 3) := by decide +kernel
theorem dX1_feed_85 : decode cX1_feed 85 = .ok (.goto (-33), 3) := by decide +kernel
theorem dX1_feed_88 : decode cX1_feed 88 = .ok (.aload_n 0, 1) := by decide +kernel
theorem dX1_feed_89 : decode cX1_feed 89 = .ok (.dup, 1) := by decide +kernel
theorem dX1_feed_90 : decode cX1_feed 90 = .ok (.getfield 70, 3) := by decide +kernel
theorem dX1_feed_93 : decode cX1_feed 93 = .ok (.iload_n 1, 1) := by decide +kernel
theorem dX1_feed_94 : decode cX1_feed 94 = .ok (.iadd, 1) := by decide +kernel
theorem dX1_feed_95 : decode cX1_feed 95 = .ok (.putfield 70, 3) := by decide +kernel
theorem dX1_feed_98 : decode cX1_feed 98 = .ok (.aload_n 0, 1) := by decide +kernel
theorem dX1_feed_99 : decode cX1_feed 99 = .ok (.getfield 70, 3) := by decide +kernel
theorem dX1_feed_102 : decode cX1_feed 102 = .ok (.ireturn, 1) := by decide +kernel
theorem dX1_write_0 : decode cX1_write 0 = .ok (.aload_n 0, 1) := by decide +kernel
theorem dX1_write_1 : decode cX1_write 1 = .ok (.iload_n 1, 1) := by decide +kernel
theorem dX1_write_2 : decode cX1_write 2 = .ok (.iload_n 2, 1) := by decide +kernel
theorem dX1_write_3 : decode cX1_write 3 = .ok (.invokestatic 75, 3) := by decide +kernel
theorem dX1_write_6 : decode cX1_write 6 = .ok (.ifCond .ne 13, 3) := by decide +kernel
theorem dX1_write_9 : decode cX1_write 9 = .ok (.iload_n 3, 1) := by decide +kernel
theorem dX1_write_10 : decode cX1_write 10 = .ok (.iconst 0, 1) := by decide +kernel
theorem dX1_write_11 : decode cX1_write 11 = .ok (.ldc 79, 2) := by decide +kernel
theorem dX1_write_13 : decode cX1_write 13 = .ok (.invokestatic 44, 3) := by decide +kernel
theorem dX1_write_16 : decode cX1_write 16 = .ok (.ifCond .ne 7, 3) := by decide +kernel
theorem dX1_write_19 : decode cX1_write 19 = .ok (.iconst 1, 1) := by decide +kernel
theorem dX1_write_20 : decode cX1_write 20 = .ok (.goto 4, 3) := by decide +kernel
theorem dX1_write_23 : decode cX1_write 23 = .ok (.iconst 0, 1) := by decide +kernel
theorem dX1_write_24 : decode cX1_write 24 = .ok (.iconst 1, 1) := by decide +kernel
theorem dX1_write_25 : decode cX1_write 25 = .ok (.invokevirtual 66, 3) := by decide +kernel
theorem dX1_write_28 : decode cX1_write 28 = .ok (.ifCond .ne 25, 3) := by decide +kernel
theorem dX1_write_31 : decode cX1_write 31 = .ok (.aload_n 0, 1) := by decide +kernel
theorem dX1_write_32 : decode cX1_write 32 = .ok (.aload_n 0, 1) := by decide +kernel
theorem dX1_write_33 : decode cX1_write 33 = .ok (.getfield 16, 3) := by decide +kernel
theorem dX1_write_36 : decode cX1_write 36 = .ok (.iload_n 1, 1) := by decide +kernel
theorem dX1_write_37 : decode cX1_write 37 = .ok (.baload, 1) := by decide +kernel
theorem dX1_write_38 : decode cX1_write 38 = .ok (.ifCond .ne 7, 3) := by decide +kernel
theorem dX1_write_41 : decode cX1_write 41 = .ok (.iconst 1, 1) := by decide +kernel
theorem dX1_write_42 : decode cX1_write 42 = .ok (.goto 4, 3) := by decide +kernel
theorem dX1_write_45 : decode cX1_write 45 = .ok (.iconst 0, 1) := by decide +kernel
theorem dX1_write_46 : decode cX1_write 46 = .ok (.iconst 2, 1) := by decide +kernel
theorem dX1_write_47 : decode cX1_write 47 = .ok (.invokevirtual 66, 3) := by decide +kernel
theorem dX1_write_50 : decode cX1_write 50 = .ok (.ifCond .eq 5, 3) := by decide +kernel
theorem dX1_write_53 : decode cX1_write 53 = .ok (.iconst 0, 1) := by decide +kernel
theorem dX1_write_54 : decode cX1_write 54 = .ok (.ireturn, 1) := by decide +kernel
theorem dX1_write_55 : decode cX1_write 55 = .ok (.aload_n 0, 1) := by decide +kernel
theorem dX1_write_56 : decode cX1_write 56 = .ok (.getfield 70, 3) := by decide +kernel
theorem dX1_write_59 : decode cX1_write 59 = .ok (.istore 4, 2) := by decide +kernel
theorem dX1_write_61 : decode cX1_write 61 = .ok (.aload_n 0, 1) := by decide +kernel
theorem dX1_write_62 : decode cX1_write 62 = .ok (.iconst 0, 1) := by decide +kernel
theorem dX1_write_63 : decode cX1_write 63 = .ok (.putfield 70, 3) := by decide +kernel
theorem dX1_write_66 : decode cX1_write 66 = .ok (.aload_n 0, 1) := by decide +kernel
theorem dX1_write_67 : decode cX1_write 67 = .ok (.aload_n 0, 1) := by decide +kernel
theorem dX1_write_68 : decode cX1_write 68 = .ok (.getfield 80, 3) := by decide +kernel
theorem dX1_write_71 : decode cX1_write 71 = .ok (.ifCond .ne 12, 3) := by decide +kernel
theorem dX1_write_74 : decode cX1_write 74 = .ok (.aload_n 0, 1) := by decide +kernel
theorem dX1_write_75 : decode cX1_write 75 = .ok (.getfield 33, 3) := by decide +kernel
theorem dX1_write_78 : decode cX1_write 78 = .ok (.lconst 0, 1) := by decide +kernel
theorem dX1_write_79 : decode cX1_write 79 = .ok (.lcmp, 1) := by decide +kernel
theorem dX1_write_80 : decode cX1_write 80 = .ok (.ifCond .ne 7, 3) := by decide +kernel
theorem dX1_write_83 : decode cX1_write 83 = .ok (.iconst 1, 1) := by decide +kernel
theorem dX1_write_84 : decode cX1_write 84 = .ok (.goto 4, 3) := by decide +kernel
theorem dX1_write_87 : decode cX1_write 87 = .ok (.iconst 0, 1) := by decide +kernel
theorem dX1_write_88 : decode cX1_write 88 = .ok (.putfield 80, 3) := by decide +kernel
theorem dX1_write_91 : decode cX1_write 91 = .ok (.aload_n 0, 1) := by decide +kernel
theorem dX1_write_92 : decode cX1_write 92 = .ok (.getfield 80, 3) := by decide +kernel
theorem dX1_write_95 : decode cX1_write 95 = .ok (.ifCond .eq 5, 3) := by decide +kernel
theorem dX1_write_98 : decode cX1_write 98 = .ok (.iconst 0, 1) := by decide +kernel
theorem dX1_write_99 : decode cX1_write 99 = .ok (.ireturn, 1) := by decide +kernel
theorem dX1_write_100 : decode cX1_write 100 = .ok (.aload_n 0, 1) := by decide +kernel
theorem dX1_write_101 : decode cX1_write 101 = .ok (.dup, 1) := by decide +kernel
theorem dX1_write_102 : decode cX1_write 102 = .ok (.getfield 33, 3) := by decide +kernel
theorem dX1_write_105 : decode cX1_write 105 = .ok (.aload_n 0, 1) := by decide +kernel
theorem dX1_write_106 : decode cX1_write 106 = .ok (.getfield 33, 3) := by decide +kernel
theorem dX1_write_109 : decode cX1_write 109 = .ok (.lconst 0, 1) := by decide +kernel
theorem dX1_write_110 : decode cX1_write 110 = .ok (.lcmp, 1) := by decide +kernel
theorem dX1_write_111 : decode cX1_write 111 = .ok (.ifCond .le 7, 3) := by decide +kernel
theorem dX1_write_114 : decode cX1_write 114 = .ok (.lconst 1, 1) := by decide +kernel
theorem dX1_write_115 : decode cX1_write 115 = .ok (.goto 4, 3) := by decide +kernel
theorem dX1_write_118 : decode cX1_write 118 = .ok (.lconst 0, 1) := by decide +kernel
theorem dX1_write_119 : decode cX1_write 119 = .ok (.lsub, 1) := by decide +kernel
theorem dX1_write_120 : decode cX1_write 120 = .ok (.putfield 33, 3) := by decide +kernel
theorem dX1_write_123 : decode cX1_write 123 = .ok (.aload_n 0, 1) := by decide +kernel
theorem dX1_write_124 : decode cX1_write 124 = .ok (.dup, 1) := by decide +kernel
theorem dX1_write_125 : decode cX1_write 125 = .ok (.getfield 84, 3) := by decide +kernel
theorem dX1_write_128 : decode cX1_write 128 = .ok (.lconst 1, 1) := by decide +kernel
theorem dX1_write_129 : decode cX1_write 129 = .ok (.ladd, 1) := by decide +kernel
theorem dX1_write_130 : decode cX1_write 130 = .ok (.putfield 84, 3) := by decide +kernel
theorem dX1_write_133 : decode cX1_write 133 = .ok (.iload_n 1, 1) := by decide +kernel
theorem dX1_write_134 : decode cX1_write 134 = .ok (.iload_n 2, 1) := by decide +kernel
theorem dX1_write_135 : decode cX1_write 135 = .ok (.invokestatic 58, 3) := by decide +kernel
theorem dX1_write_138 : decode cX1_write 138 = .ok (.istore 5, 2) := by decide +kernel
theorem dX1_write_140 : decode cX1_write 140 = .ok (.aload_n 0, 1) := by decide +kernel
theorem dX1_write_141 : decode cX1_write 141 = .ok (.getfield 20, 3) := by decide +kernel
theorem dX1_write_144 : decode cX1_write 144 = .ok (.iload 5, 2) := by decide +kernel
theorem dX1_write_146 : decode cX1_write 146 = .ok (.iconst 1, 1) := by decide +kernel
theorem dX1_write_147 : decode cX1_write 147 = .ok (.bastore, 1) := by decide +kernel
theorem dX1_write_148 : decode cX1_write 148 = .ok (.iconst 0, 1) := by decide +kernel
theorem dX1_write_149 : decode cX1_write 149 = .ok (.istore 6, 2) := by decide +kernel
theorem dX1_write_151 : decode cX1_write 151 = .ok (.iload 6, 2) := by decide +kernel
theorem dX1_write_153 : decode cX1_write 153 = .ok (.bipush 70, 2) := by decide +kernel
theorem dX1_write_155 : decode cX1_write 155 = .ok (.if_icmp .ge 84, 3) := by decide +kernel
theorem dX1_write_158 : decode cX1_write 158 = .ok (.aload_n 0, 1) := by decide +kernel
theorem dX1_write_159 : decode cX1_write 159 = .ok (.getfield 28, 3) := by decide +kernel
theorem dX1_write_162 : decode cX1_write 162 = .ok (.bipush 70, 2) := by decide +kernel
theorem dX1_write_164 : decode cX1_write 164 = .ok (.iload 5, 2) := by decide +kernel
theorem dX1_write_166 : decode cX1_write 166 = .ok (.imul, 1) := by decide +kernel
theorem dX1_write_167 : decode cX1_write 167 = .ok (.iload 6, 2) := by decide +kernel
theorem dX1_write_169 : decode cX1_write 169 = .ok (.iadd, 1) := by decide +kernel
theorem dX1_write_170 : decode cX1_write 170 = .ok (.iconst 0, 1) := by decide +kernel
theorem dX1_write_171 : decode cX1_write 171 = .ok (.bastore, 1) := by decide +kernel
theorem dX1_write_172 : decode cX1_write 172 = .ok (.aload_n 0, 1) := by decide +kernel
theorem dX1_write_173 : decode cX1_write 173 = .ok (.getfield 24, 3) := by decide +kernel
theorem dX1_write_176 : decode cX1_write 176 = .ok (.bipush 70, 2) := by decide +kernel
theorem dX1_write_178 : decode cX1_write 178 = .ok (.iload 5, 2) := by decide +kernel
theorem dX1_write_180 : decode cX1_write 180 = .ok (.imul, 1) := by decide +kernel
theorem dX1_write_181 : decode cX1_write 181 = .ok (.iload 6, 2) := by decide +kernel
theorem dX1_write_183 : decode cX1_write 183 = .ok (.iadd, 1) := by decide +kernel
theorem dX1_write_184 : decode cX1_write 184 = .ok (.iload 6, 2) := by decide +kernel
theorem dX1_write_186 : decode cX1_write 186 = .ok (.iload 4, 2) := by decide +kernel
theorem dX1_write_188 : decode cX1_write 188 = .ok (.if_icmp .ge 13, 3) := by decide +kernel
theorem dX1_write_191 : decode cX1_write 191 = .ok (.aload_n 0, 1) := by decide +kernel
theorem dX1_write_192 : decode cX1_write 192 = .ok (.getfield 7, 3) := by decide +kernel
theorem dX1_write_195 : decode cX1_write 195 = .ok (.iload 6, 2) := by decide +kernel
theorem dX1_write_197 : decode cX1_write 197 = .ok (.iaload, 1) := by decide +kernel
theorem dX1_write_198 : decode cX1_write 198 = .ok (.goto 33, 3) := by decide +kernel
theorem dX1_write_201 : decode cX1_write 201 = .ok (.iload 6, 2) := by decide +kernel
theorem dX1_write_203 : decode cX1_write 203 = .ok (.bipush 64, 2) := by decide +kernel
theorem dX1_write_205 : decode cX1_write 205 = .ok (.if_icmp .ne 11, 3) := by decide +kernel
theorem dX1_write_208 : decode cX1_write 208 = .ok (.iload_n 3, 1) := by decide +kernel
theorem dX1_write_209 : decode cX1_write 209 = .ok (.sipush 255, 3) := by decide +kernel
theorem dX1_write_212 : decode cX1_write 212 = .ok (.iand, 1) := by decide +kernel
theorem dX1_write_213 : decode cX1_write 213 = .ok (.goto 18, 3) := by decide +kernel
theorem dX1_write_216 : decode cX1_write 216 = .ok (.iload 6, 2) := by decide +kernel
theorem dX1_write_218 : decode cX1_write 218 = .ok (.bipush 65, 2) := by decide +kernel
theorem dX1_write_220 : decode cX1_write 220 = .ok (.if_icmp .ne 10, 3) := by decide +kernel
theorem dX1_write_223 : decode cX1_write 223 = .ok (.iload_n 3, 1) := by decide +kernel
theorem dX1_write_224 : decode cX1_write 224 = .ok (.bipush 8, 2) := by decide +kernel
theorem dX1_write_226 : decode cX1_write 226 = .ok (.ishr, 1) := by decide +kernel
theorem dX1_write_227 : decode cX1_write 227 = .ok (.goto 4, 3) := by decide +kernel
theorem dX1_write_230 : decode cX1_write 230 = .ok (.iconst 0, 1) := by decide +kernel
theorem dX1_write_231 : decode cX1_write 231 = .ok (.i2b, 1) := by decide +kernel
theorem dX1_write_232 : decode cX1_write 232 = .ok (.bastore, 1) := by decide +kernel
theorem dX1_write_233 : decode cX1_write 233 = .ok (.iinc 6 1, 3) := by decide +kernel
theorem dX1_write_236 : decode cX1_write 236 = .ok (.goto (-85), 3) := by decide +kernel
theorem dX1_write_239 : decode cX1_write 239 = .ok (.aload_n 0, 1) := by decide +kernel
theorem dX1_write_240 : decode cX1_write 240 = .ok (.bipush 70, 2) := by decide +kernel
theorem dX1_write_242 : decode cX1_write 242 = .ok (.iload 5, 2) := by decide +kernel
theorem dX1_write_244 : decode cX1_write 244 = .ok (.imul, 1) := by decide +kernel
theorem dX1_write_245 : decode cX1_write 245 = .ok (.invokevirtual 87, 3) := by decide +kernel
theorem dX1_write_248 : decode cX1_write 248 = .ok (.iconst 1, 1) := by decide +kernel
theorem dX1_write_249 : decode cX1_write 249 = .ok (.ireturn, 1) := by decide +kernel
theorem dX1_byteAt_0 : decode cX1_byteAt 0 = .ok (.aload_n 0, 1) := by decide +kernel
theorem dX1_byteAt_1 : decode cX1_byteAt 1 = .ok (.getfield 24, 3) := by decide +kernel
theorem dX1_byteAt_4 : decode cX1_byteAt 4 = .ok (.bipush 70, 2) := by decide +kernel
theorem dX1_byteAt_6 : decode cX1_byteAt 6 = .ok (.iload_n 1, 1) := by decide +kernel
theorem dX1_byteAt_7 : decode cX1_byteAt 7 = .ok (.imul, 1) := by decide +kernel
theorem dX1_byteAt_8 : decode cX1_byteAt 8 = .ok (.iload_n 2, 1) := by decide +kernel
theorem dX1_byteAt_9 : decode cX1_byteAt 9 = .ok (.iadd, 1) := by decide +kernel
theorem dX1_byteAt_10 : decode cX1_byteAt 10 = .ok (.baload, 1) := by decide +kernel
theorem dX1_byteAt_11 : decode cX1_byteAt 11 = .ok (.aload_n 0, 1) := by decide +kernel
theorem dX1_byteAt_12 : decode cX1_byteAt 12 = .ok (.getfield 28, 3) := by decide +kernel
theorem dX1_byteAt_15 : decode cX1_byteAt 15 = .ok (.bipush 70, 2) := by decide +kernel
theorem dX1_byteAt_17 : decode cX1_byteAt 17 = .ok (.iload_n 1, 1) := by decide +kernel
theorem dX1_byteAt_18 : decode cX1_byteAt 18 = .ok (.imul, 1) := by decide +kernel
theorem dX1_byteAt_19 : decode cX1_byteAt 19 = .ok (.iload_n 2, 1) := by decide +kernel
theorem dX1_byteAt_20 : decode cX1_byteAt 20 = .ok (.iadd, 1) := by decide +kernel
theorem dX1_byteAt_21 : decode cX1_byteAt 21 = .ok (.baload, 1) := by decide +kernel
theorem dX1_byteAt_22 : decode cX1_byteAt 22 = .ok (.ixor, 1) := by decide +kernel
theorem dX1_byteAt_23 : decode cX1_byteAt 23 = .ok (.sipush 255, 3) := by decide +kernel
theorem dX1_byteAt_26 : decode cX1_byteAt 26 = .ok (.iand, 1) := by decide +kernel
theorem dX1_byteAt_27 : decode cX1_byteAt 27 = .ok (.ireturn, 1) := by decide +kernel
theorem dX1_read_0 : decode cX1_read 0 = .ok (.aload_n 0, 1) := by decide +kernel
theorem dX1_read_1 : decode cX1_read 1 = .ok (.iload_n 1, 1) := by decide +kernel
theorem dX1_read_2 : decode cX1_read 2 = .ok (.iload_n 2, 1) := by decide +kernel
theorem dX1_read_3 : decode cX1_read 3 = .ok (.invokestatic 75, 3) := by decide +kernel
theorem dX1_read_6 : decode cX1_read 6 = .ok (.iconst 1, 1) := by decide +kernel
theorem dX1_read_7 : decode cX1_read 7 = .ok (.invokevirtual 66, 3) := by decide +kernel
theorem dX1_read_10 : decode cX1_read 10 = .ok (.ifCond .eq 5, 3) := by decide +kernel
theorem dX1_read_13 : decode cX1_read 13 = .ok (.iconst 0, 1) := by decide +kernel
theorem dX1_read_14 : decode cX1_read 14 = .ok (.ireturn, 1) := by decide +kernel
theorem dX1_read_15 : decode cX1_read 15 = .ok (.aload_n 0, 1) := by decide +kernel
theorem dX1_read_16 : decode cX1_read 16 = .ok (.iconst 0, 1) := by decide +kernel
theorem dX1_read_17 : decode cX1_read 17 = .ok (.putfield 90, 3) := by decide +kernel
theorem dX1_read_20 : decode cX1_read 20 = .ok (.aload_n 0, 1) := by decide +kernel
theorem dX1_read_21 : decode cX1_read 21 = .ok (.iload_n 1, 1) := by decide +kernel
theorem dX1_read_22 : decode cX1_read 22 = .ok (.iload_n 2, 1) := by decide +kernel
theorem dX1_read_23 : decode cX1_read 23 = .ok (.invokevirtual 93, 3) := by decide +kernel
theorem dX1_read_26 : decode cX1_read 26 = .ok (.iconst 2, 1) := by decide +kernel
theorem dX1_read_27 : decode cX1_read 27 = .ok (.if_icmp .eq 5, 3) := by decide +kernel
theorem dX1_read_30 : decode cX1_read 30 = .ok (.iconst 0, 1) := by decide +kernel
theorem dX1_read_31 : decode cX1_read 31 = .ok (.ireturn, 1) := by decide +kernel
theorem dX1_read_32 : decode cX1_read 32 = .ok (.iconst 0, 1) := by decide +kernel
theorem dX1_read_33 : decode cX1_read 33 = .ok (.istore_n 3, 1) := by decide +kernel
theorem dX1_read_34 : decode cX1_read 34 = .ok (.iload_n 3, 1) := by decide +kernel
theorem dX1_read_35 : decode cX1_read 35 = .ok (.bipush 64, 2) := by decide +kernel
theorem dX1_read_37 : decode cX1_read 37 = .ok (.if_icmp .ge 25, 3) := by decide +kernel
theorem dX1_read_40 : decode cX1_read 40 = .ok (.aload_n 0, 1) := by decide +kernel
theorem dX1_read_41 : decode cX1_read 41 = .ok (.getfield 13, 3) := by decide +kernel
theorem dX1_read_44 : decode cX1_read 44 = .ok (.iload_n 3, 1) := by decide +kernel
theorem dX1_read_45 : decode cX1_read 45 = .ok (.aload_n 0, 1) := by decide +kernel
theorem dX1_read_46 : decode cX1_read 46 = .ok (.iload_n 1, 1) := by decide +kernel
theorem dX1_read_47 : decode cX1_read 47 = .ok (.iload_n 2, 1) := by decide +kernel
theorem dX1_read_48 : decode cX1_read 48 = .ok (.invokestatic 58, 3) := by decide +kernel
theorem dX1_read_51 : decode cX1_read 51 = .ok (.iload_n 3, 1) := by decide +kernel
theorem dX1_read_52 : decode cX1_read 52 = .ok (.invokevirtual 96, 3) := by decide +kernel
theorem dX1_read_55 : decode cX1_read 55 = .ok (.iastore, 1) := by decide +kernel
theorem dX1_read_56 : decode cX1_read 56 = .ok (.iinc 3 1, 3) := by decide +kernel
theorem dX1_read_59 : decode cX1_read 59 = .ok (.goto (-25), 3) := by decide +kernel
theorem dX1_read_62 : decode cX1_read 62 = .ok (.aload_n 0, 1) := by decide +kernel
theorem dX1_read_63 : decode cX1_read 63 = .ok (.bipush 64, 2) := by decide +kernel
theorem dX1_read_65 : decode cX1_read 65 = .ok (.putfield 90, 3) := by decide +kernel
theorem dX1_read_68 : decode cX1_read 68 = .ok (.iconst 1, 1) := by decide +kernel
theorem dX1_read_69 : decode cX1_read 69 = .ok (.ireturn, 1) := by decide +kernel
theorem dX1_outs_0 : decode cX1_outs 0 = .ok (.aload_n 0, 1) := by decide +kernel
theorem dX1_outs_1 : decode cX1_outs 1 = .ok (.iload_n 1, 1) := by decide +kernel
theorem dX1_outs_2 : decode cX1_outs 2 = .ok (.ifCond .lt 11, 3) := by decide +kernel
theorem dX1_outs_5 : decode cX1_outs 5 = .ok (.iload_n 1, 1) := by decide +kernel
theorem dX1_outs_6 : decode cX1_outs 6 = .ok (.aload_n 0, 1) := by decide +kernel
theorem dX1_outs_7 : decode cX1_outs 7 = .ok (.getfield 90, 3) := by decide +kernel
theorem dX1_outs_10 : decode cX1_outs 10 = .ok (.if_icmp .lt 7, 3) := by decide +kernel
theorem dX1_outs_13 : decode cX1_outs 13 = .ok (.iconst 1, 1) := by decide +kernel
theorem dX1_outs_14 : decode cX1_outs 14 = .ok (.goto 4, 3) := by decide +kernel
theorem dX1_outs_17 : decode cX1_outs 17 = .ok (.iconst 0, 1) := by decide +kernel
theorem dX1_outs_18 : decode cX1_outs 18 = .ok (.iconst 1, 1) := by decide +kernel
theorem dX1_outs_19 : decode cX1_outs 19 = .ok (.invokevirtual 66, 3) := by decide +kernel
theorem dX1_outs_22 : decode cX1_outs 22 = .ok (.ifCond .eq 5, 3) := by decide +kernel
theorem dX1_outs_25 : decode cX1_outs 25 = .ok (.lconst 0, 1) := by decide +kernel
theorem dX1_outs_26 : decode cX1_outs 26 = .ok (.lreturn, 1) := by decide +kernel
theorem dX1_outs_27 : decode cX1_outs 27 = .ok (.lconst 0, 1) := by decide +kernel
theorem dX1_outs_28 : decode cX1_outs 28 = .ok (.lstore_n 2, 1) := by decide +kernel
