theorem dX0_init_0 : decode cX0_init 0 = .ok (.aload_n 0, 1) := by decide +kernel
theorem dX0_init_1 : decode cX0_init 1 = .ok (.invokespecial 3, 3) := by decide +kernel
theorem dX0_init_4 : decode cX0_init 4 = .ok (.aload_n 0, 1) := by decide +kernel
theorem dX0_init_5 : decode cX0_init 5 = .ok (.sipush 9504, 3) := by decide +kernel
theorem dX0_init_8 : decode cX0_init 8 = .ok (.newarray .long, 2) := by decide +kernel
theorem dX0_init_10 : decode cX0_init 10 = .ok (.putfield 9, 3) := by decide +kernel
theorem dX0_init_13 : decode cX0_init 13 = .ok (.aload_n 0, 1) := by decide +kernel
theorem dX0_init_14 : decode cX0_init 14 = .ok (.sipush 9504, 3) := by decide +kernel
theorem dX0_init_17 : decode cX0_init 17 = .ok (.newarray .long, 2) := by decide +kernel
theorem dX0_init_19 : decode cX0_init 19 = .ok (.putfield 13, 3) := by decide +kernel
theorem dX0_init_22 : decode cX0_init 22 = .ok (.aload_n 0, 1) := by decide +kernel
theorem dX0_init_23 : decode cX0_init 23 = .ok (.sipush 1056, 3) := by decide +kernel
theorem dX0_init_26 : decode cX0_init 26 = .ok (.newarray .int, 2) := by decide +kernel
theorem dX0_init_28 : decode cX0_init 28 = .ok (.putfield 16, 3) := by decide +kernel
theorem dX0_init_31 : decode cX0_init 31 = .ok (.aload_n 0, 1) := by decide +kernel
theorem dX0_init_32 : decode cX0_init 32 = .ok (.getfield 16, 3) := by decide +kernel
theorem dX0_init_35 : decode cX0_init 35 = .ok (.iconst 1, 1) := by decide +kernel
theorem dX0_init_36 : decode cX0_init 36 = .ok (.invokestatic 20, 3) := by decide +kernel
theorem dX0_init_39 : decode cX0_init 39 = .ok (.aload_n 0, 1) := by decide +kernel
theorem dX0_init_40 : decode cX0_init 40 = .ok (.iconst 4, 1) := by decide +kernel
theorem dX0_init_41 : decode cX0_init 41 = .ok (.newarray .int, 2) := by decide +kernel
theorem dX0_init_43 : decode cX0_init 43 = .ok (.putfield 26, 3) := by decide +kernel
theorem dX0_init_46 : decode cX0_init 46 = .ok (.aload_n 0, 1) := by decide +kernel
theorem dX0_init_47 : decode cX0_init 47 = .ok (.getfield 26, 3) := by decide +kernel
theorem dX0_init_50 : decode cX0_init 50 = .ok (.iconst 1, 1) := by decide +kernel
theorem dX0_init_51 : decode cX0_init 51 = .ok (.sipush 1056, 3) := by decide +kernel
theorem dX0_init_54 : decode cX0_init 54 = .ok (.iastore, 1) := by decide +kernel
theorem dX0_init_55 : decode cX0_init 55 = .ok (.aload_n 0, 1) := by decide +kernel
theorem dX0_init_56 : decode cX0_init 56 = .ok (.bipush 16, 2) := by decide +kernel
theorem dX0_init_58 : decode cX0_init 58 = .ok (.putfield 29, 3) := by decide +kernel
theorem dX0_init_61 : decode cX0_init 61 = .ok (.aload_n 0, 1) := by decide +kernel
theorem dX0_init_62 : decode cX0_init 62 = .ok (.bipush 8, 2) := by decide +kernel
theorem dX0_init_64 : decode cX0_init 64 = .ok (.newarray .long, 2) := by decide +kernel
theorem dX0_init_66 : decode cX0_init 66 = .ok (.putfield 33, 3) := by decide +kernel
theorem dX0_init_69 : decode cX0_init 69 = .ok (.aload_n 0, 1) := by decide +kernel
theorem dX0_init_70 : decode cX0_init 70 = .ok (.iconst 0, 1) := by decide +kernel
theorem dX0_init_71 : decode cX0_init 71 = .ok (.putfield 36, 3) := by decide +kernel
theorem dX0_init_74 : decode cX0_init 74 = .ok (.aload_n 0, 1) := by decide +kernel
theorem dX0_init_75 : decode cX0_init 75 = .ok (.bipush 8, 2) := by decide +kernel
theorem dX0_init_77 : decode cX0_init 77 = .ok (.newarray .long, 2) := by decide +kernel
theorem dX0_init_79 : decode cX0_init 79 = .ok (.putfield 39, 3) := by decide +kernel
theorem dX0_init_82 : decode cX0_init 82 = .ok (.aload_n 0, 1) := by decide +kernel
theorem dX0_init_83 : decode cX0_init 83 = .ok (.iconst 0, 1) := by decide +kernel
theorem dX0_init_84 : decode cX0_init 84 = .ok (.putfield 42, 3) := by decide +kernel
theorem dX0_init_87 : decode cX0_init 87 = .ok (.aload_n 0, 1) := by decide +kernel
theorem dX0_init_88 : decode cX0_init 88 = .ok (.iconst 0, 1) := by decide +kernel
theorem dX0_init_89 : decode cX0_init 89 = .ok (.putfield 45, 3) := by decide +kernel
theorem dX0_init_92 : decode cX0_init 92 = .ok (.aload_n 0, 1) := by decide +kernel
theorem dX0_init_93 : decode cX0_init 93 = .ok (.iconst (-1), 1) := by decide +kernel
theorem dX0_init_94 : decode cX0_init 94 = .ok (.putfield 49, 3) := by decide +kernel
theorem dX0_init_97 : decode cX0_init 97 = .ok (.aload_n 0, 1) := by decide +kernel
theorem dX0_init_98 : decode cX0_init 98 = .ok (.lconst 0, 1) := by decide +kernel
theorem dX0_init_99 : decode cX0_init 99 = .ok (.putfield 52, 3) := by decide +kernel
theorem dX0_init_102 : decode cX0_init 102 = .ok (.return_, 1) := by decide +kernel
theorem dX0_feed_0 : decode cX0_feed 0 = .ok (.iload_n 1, 1) := by decide +kernel
theorem dX0_feed_1 : decode cX0_feed 1 = .ok (.invokestatic 56, 3) := by decide +kernel
theorem dX0_feed_4 : decode cX0_feed 4 = .ok (.ifCond .ne 13, 3) := by decide +kernel
theorem dX0_feed_7 : decode cX0_feed 7 = .ok (.new 60, 3) := by decide +kernel
theorem dX0_feed_10 : decode cX0_feed 10 = .ok (.dup, 1) := by decide +kernel
theorem dX0_feed_11 : decode cX0_feed 11 = .ok (.ldc 62, 2) := by decide +kernel
theorem dX0_feed_13 : decode cX0_feed 13 = .ok (.invokespecial 64, 3) := by decide +kernel
theorem dX0_feed_16 : decode cX0_feed 16 = .ok (.athrow, 1) := by decide +kernel
theorem dX0_feed_17 : decode cX0_feed 17 = .ok (.aload_n 0, 1) := by decide +kernel
theorem dX0_feed_18 : decode cX0_feed 18 = .ok (.getfield 36, 3) := by decide +kernel
theorem dX0_feed_21 : decode cX0_feed 21 = .ok (.iload_n 1, 1) := by decide +kernel
theorem dX0_feed_22 : decode cX0_feed 22 = .ok (.iadd, 1) := by decide +kernel
theorem dX0_feed_23 : decode cX0_feed 23 = .ok (.bipush 64, 2) := by decide +kernel
theorem dX0_feed_25 : decode cX0_feed 25 = .ok (.if_icmp .le 13, 3) := by decide +kernel
theorem dX0_feed_28 : decode cX0_feed 28 = .ok (.new 67, 3) := by decide +kernel
theorem dX0_feed_31 : decode cX0_feed 31 = .ok (.dup, 1) := by decide +kernel
theorem dX0_feed_32 : decode cX0_feed 32 = .ok (.ldc 69, 2) := by decide +kernel
theorem dX0_feed_34 : decode cX0_feed 34 = .ok (.invokespecial 71, 3) := by decide +kernel
theorem dX0_feed_37 : decode cX0_feed 37 = .ok (.athrow, 1) := by decide +kernel
theorem dX0_feed_38 : decode cX0_feed 38 = .ok (.aload_n 0, 1) := by decide +kernel
theorem dX0_feed_39 : decode cX0_feed 39 = .ok (.getfield 33, 3) := by decide +kernel
theorem dX0_feed_42 : decode cX0_feed 42 = .ok (.iconst 0, 1) := by decide +kernel
theorem dX0_feed_43 : decode cX0_feed 43 = .ok (.aload_n 0, 1) := by decide +kernel
theorem dX0_feed_44 : decode cX0_feed 44 = .ok (.getfield 36, 3) := by decide +kernel
theorem dX0_feed_47 : decode cX0_feed 47 = .ok (.lload_n 2, 1) := by decide +kernel
theorem dX0_feed_48 : decode cX0_feed 48 = .ok (.iload_n 1, 1) := by decide +kernel
theorem dX0_feed_49 : decode cX0_feed 49 = .ok (.invokestatic 72, 3) := by decide +kernel
theorem dX0_feed_52 : decode cX0_feed 52 = .ok (.aload_n 0, 1) := by decide +kernel
theorem dX0_feed_53 : decode cX0_feed 53 = .ok (.dup, 1) := by decide +kernel
theorem dX0_feed_54 : decode cX0_feed 54 = .ok (.getfield 36, 3) := by decide +kernel
theorem dX0_feed_57 : decode cX0_feed 57 = .ok (.iload_n 1, 1) := by decide +kernel
theorem dX0_feed_58 : decode cX0_feed 58 = .ok (.iadd, 1) := by decide +kernel
theorem dX0_feed_59 : decode cX0_feed 59 = .ok (.putfield 36, 3) := by decide +kernel
theorem dX0_feed_62 : decode cX0_feed 62 = .ok (.aload_n 0, 1) := by decide +kernel
theorem dX0_feed_63 : decode cX0_feed 63 = .ok (.getfield 36, 3) := by decide +kernel
theorem dX0_feed_66 : decode cX0_feed 66 = .ok (.ireturn, 1) := by decide +kernel
theorem dX0_write_0 : decode cX0_write 0 = .ok (.iload_n 1, 1) := by decide +kernel
theorem dX0_write_1 : decode cX0_write 1 = .ok (.iload_n 2, 1) := by decide +kernel
theorem dX0_write_2 : decode cX0_write 2 = .ok (.invokestatic 76, 3) := by decide +kernel
theorem dX0_write_5 : decode cX0_write 5 = .ok (.ifCond .eq 13, 3) := by decide +kernel
theorem dX0_write_8 : decode cX0_write 8 = .ok (.iload_n 3, 1) := by decide +kernel
theorem dX0_write_9 : decode cX0_write 9 = .ok (.ifCond .lt 9, 3) := by decide +kernel
theorem dX0_write_12 : decode cX0_write 12 = .ok (.iload_n 3, 1) := by decide +kernel
theorem dX0_write_13 : decode cX0_write 13 = .ok (.ldc 80, 2) := by decide +kernel
theorem dX0_write_15 : decode cX0_write 15 = .ok (.if_icmp .le 13, 3) := by decide +kernel
theorem dX0_write_18 : decode cX0_write 18 = .ok (.new 60, 3) := by decide +kernel
theorem dX0_write_21 : decode cX0_write 21 = .ok (.dup, 1) := by decide +kernel
theorem dX0_write_22 : decode cX0_write 22 = .ok (.ldc 81, 2) := by decide +kernel
theorem dX0_write_24 : decode cX0_write 24 = .ok (.invokespecial 64, 3) := by decide +kernel
theorem dX0_write_27 : decode cX0_write 27 = .ok (.athrow, 1) := by decide +kernel
theorem dX0_write_28 : decode cX0_write 28 = .ok (.aload_n 0, 1) := by decide +kernel
theorem dX0_write_29 : decode cX0_write 29 = .ok (.iload_n 1, 1) := by decide +kernel
theorem dX0_write_30 : decode cX0_write 30 = .ok (.invokevirtual 83, 3) := by decide +kernel
theorem dX0_write_33 : decode cX0_write 33 = .ok (.ifCond .ne 13, 3) := by decide +kernel
theorem dX0_write_36 : decode cX0_write 36 = .ok (.new 67, 3) := by decide +kernel
theorem dX0_write_39 : decode cX0_write 39 = .ok (.dup, 1) := by decide +kernel
theorem dX0_write_40 : decode cX0_write 40 = .ok (.ldc 86, 2) := by decide +kernel
theorem dX0_write_42 : decode cX0_write 42 = .ok (.invokespecial 71, 3) := by decide +kernel
theorem dX0_write_45 : decode cX0_write 45 = .ok (.athrow, 1) := by decide +kernel
theorem dX0_write_46 : decode cX0_write 46 = .ok (.aload_n 0, 1) := by decide +kernel
theorem dX0_write_47 : decode cX0_write 47 = .ok (.invokevirtual 88, 3) := by decide +kernel
theorem dX0_write_50 : decode cX0_write 50 = .ok (.istore 4, 2) := by decide +kernel
theorem dX0_write_52 : decode cX0_write 52 = .ok (.iload 4, 2) := by decide +kernel
theorem dX0_write_54 : decode cX0_write 54 = .ok (.ifCond .eq 23, 3) := by decide +kernel
theorem dX0_write_57 : decode cX0_write 57 = .ok (.aload_n 0, 1) := by decide +kernel
theorem dX0_write_58 : decode cX0_write 58 = .ok (.iload_n 1, 1) := by decide +kernel
theorem dX0_write_59 : decode cX0_write 59 = .ok (.iload_n 2, 1) := by decide +kernel
theorem dX0_write_60 : decode cX0_write 60 = .ok (.invokestatic 92, 3) := by decide +kernel
theorem dX0_write_63 : decode cX0_write 63 = .ok (.iload_n 3, 1) := by decide +kernel
theorem dX0_write_64 : decode cX0_write 64 = .ok (.invokevirtual 96, 3) := by decide +kernel
theorem dX0_write_67 : decode cX0_write 67 = .ok (.aload_n 0, 1) := by decide +kernel
theorem dX0_write_68 : decode cX0_write 68 = .ok (.dup, 1) := by decide +kernel
theorem dX0_write_69 : decode cX0_write 69 = .ok (.getfield 52, 3) := by decide +kernel
theorem dX0_write_72 : decode cX0_write 72 = .ok (.lconst 1, 1) := by decide +kernel
theorem dX0_write_73 : decode cX0_write 73 = .ok (.ladd, 1) := by decide +kernel
theorem dX0_write_74 : decode cX0_write 74 = .ok (.putfield 52, 3) := by decide +kernel
theorem dX0_write_77 : decode cX0_write 77 = .ok (.aload_n 0, 1) := by decide +kernel
theorem dX0_write_78 : decode cX0_write 78 = .ok (.invokevirtual 100, 3) := by decide +kernel
theorem dX0_write_81 : decode cX0_write 81 = .ok (.iload 4, 2) := by decide +kernel
theorem dX0_write_83 : decode cX0_write 83 = .ok (.ireturn, 1) := by decide +kernel
theorem dX0_read_0 : decode cX0_read 0 = .ok (.iload_n 1, 1) := by decide +kernel
theorem dX0_read_1 : decode cX0_read 1 = .ok (.iload_n 2, 1) := by decide +kernel
theorem dX0_read_2 : decode cX0_read 2 = .ok (.invokestatic 103, 3) := by decide +kernel
theorem dX0_read_5 : decode cX0_read 5 = .ok (.iload_n 1, 1) := by decide +kernel
theorem dX0_read_6 : decode cX0_read 6 = .ok (.iload_n 2, 1) := by decide +kernel
theorem dX0_read_7 : decode cX0_read 7 = .ok (.invokestatic 92, 3) := by decide +kernel
theorem dX0_read_10 : decode cX0_read 10 = .ok (.istore_n 3, 1) := by decide +kernel
theorem dX0_read_11 : decode cX0_read 11 = .ok (.aload_n 0, 1) := by decide +kernel
theorem dX0_read_12 : decode cX0_read 12 = .ok (.getfield 16, 3) := by decide +kernel
theorem dX0_read_15 : decode cX0_read 15 = .ok (.iload_n 3, 1) := by decide +kernel
theorem dX0_read_16 : decode cX0_read 16 = .ok (.iaload, 1) := by decide +kernel
theorem dX0_read_17 : decode cX0_read 17 = .ok (.iconst 2, 1) := by decide +kernel
theorem dX0_read_18 : decode cX0_read 18 = .ok (.if_icmp .ne 7, 3) := by decide +kernel
theorem dX0_read_21 : decode cX0_read 21 = .ok (.iconst 1, 1) := by decide +kernel
theorem dX0_read_22 : decode cX0_read 22 = .ok (.goto 4, 3) := by decide +kernel
theorem dX0_read_25 : decode cX0_read 25 = .ok (.iconst 0, 1) := by decide +kernel
theorem dX0_read_26 : decode cX0_read 26 = .ok (.istore 4, 2) := by decide +kernel
theorem dX0_read_28 : decode cX0_read 28 = .ok (.iload 4, 2) := by decide +kernel
theorem dX0_read_30 : decode cX0_read 30 = .ok (.ifCond .eq 21, 3) := by decide +kernel
theorem dX0_read_33 : decode cX0_read 33 = .ok (.aload_n 0, 1) := by decide +kernel
theorem dX0_read_34 : decode cX0_read 34 = .ok (.getfield 9, 3) := by decide +kernel
theorem dX0_read_37 : decode cX0_read 37 = .ok (.iload_n 3, 1) := by decide +kernel
theorem dX0_read_38 : decode cX0_read 38 = .ok (.bipush 9, 2) := by decide +kernel
theorem dX0_read_40 : decode cX0_read 40 = .ok (.imul, 1) := by decide +kernel
theorem dX0_read_41 : decode cX0_read 41 = .ok (.aload_n 0, 1) := by decide +kernel
theorem dX0_read_42 : decode cX0_read 42 = .ok (.getfield 39, 3) := by decide +kernel
theorem dX0_read_45 : decode cX0_read 45 = .ok (.iconst 0, 1) := by decide +kernel
theorem dX0_read_46 : decode cX0_read 46 = .ok (.bipush 8, 2) := by decide +kernel
theorem dX0_read_48 : decode cX0_read 48 = .ok (.invokestatic 106, 3) := by decide +kernel
theorem dX0_read_51 : decode cX0_read 51 = .ok (.aload_n 0, 1) := by decide +kernel
theorem dX0_read_52 : decode cX0_read 52 = .ok (.iload 4, 2) := by decide +kernel
theorem dX0_read_54 : decode cX0_read 54 = .ok (.ifCond .eq 8, 3) := by decide +kernel
theorem dX0_read_57 : decode cX0_read 57 = .ok (.bipush 64, 2) := by decide +kernel
theorem dX0_read_59 : decode cX0_read 59 = .ok (.goto 4, 3) := by decide +kernel
theorem dX0_read_62 : decode cX0_read 62 = .ok (.iconst 0, 1) := by decide +kernel
theorem dX0_read_63 : decode cX0_read 63 = .ok (.putfield 42, 3) := by decide +kernel
theorem dX0_read_66 : decode cX0_read 66 = .ok (.iload 4, 2) := by decide +kernel
theorem dX0_read_68 : decode cX0_read 68 = .ok (.ireturn, 1) := by decide +kernel
theorem dX0_outs_0 : decode cX0_outs 0 = .ok (.iload_n 1, 1) := by decide +kernel
theorem dX0_outs_1 : decode cX0_outs 1 = .ok (.ifCond .lt 11, 3) := by decide +kernel
theorem dX0_outs_4 : decode cX0_outs 4 = .ok (.iload_n 1, 1) := by decide +kernel
theorem dX0_outs_5 : decode cX0_outs 5 = .ok (.aload_n 0, 1) := by decide +kernel
theorem dX0_outs_6 : decode cX0_outs 6 = .ok (.getfield 42, 3) := by decide +kernel
theorem dX0_outs_9 : decode cX0_outs 9 = .ok (.if_icmp .lt 13, 3) := by decide +kernel
theorem dX0_outs_12 : decode cX0_outs 12 = .ok (.new 112, 3) := by decide +kernel
theorem dX0_outs_15 : decode cX0_outs 15 = .ok (.dup, 1) := by decide +kernel
theorem dX0_outs_16 : decode cX0_outs 16 = .ok (.ldc 114, 2) := by decide +kernel
theorem dX0_outs_18 : decode cX0_outs 18 = .ok (.invokespecial 116, 3) := by decide +kernel
theorem dX0_outs_21 : decode cX0_outs 21 = .ok (.athrow, 1) := by decide +kernel
theorem dX0_outs_22 : decode cX0_outs 22 = .ok (.iload_n 1, 1) := by decide +kernel
theorem dX0_outs_23 : decode cX0_outs 23 = .ok (.bipush 8, 2) := by decide +kernel
theorem dX0_outs_25 : decode cX0_outs 25 = .ok (.iadd, 1) := by decide +kernel
theorem dX0_outs_26 : decode cX0_outs 26 = .ok (.aload_n 0, 1) := by decide +kernel
theorem dX0_outs_27 : decode cX0_outs 27 = .ok (.getfield 42, 3) := by decide +kernel
theorem dX0_outs_30 : decode cX0_outs 30 = .ok (.invokestatic 117, 3) := by decide +kernel
theorem dX0_outs_33 : decode cX0_outs 33 = .ok (.istore_n 2, 1) := by decide +kernel
theorem dX0_outs_34 : decode cX0_outs 34 = .ok (.lconst 0, 1) := by decide +kernel
theorem dX0_outs_35 : decode cX0_outs 35 = .ok (.lstore_n 3, 1) := by decide +kernel
theorem dX0_outs_36 : decode cX0_outs 36 = .ok (.iload_n 2, 1) := by decide +kernel
theorem dX0_outs_37 : decode cX0_outs 37 = .ok (.iconst 1, 1) := by decide +kernel
theorem dX0_outs_38 : decode cX0_outs 38 = .ok (.isub, 1) := by decide +kernel
theorem dX0_outs_39 : decode cX0_outs 39 = .ok (.istore 5, 2) := by decide +kernel
theorem dX0_outs_41 : decode cX0_outs 41 = .ok (.iload 5, 2) := by decide +kernel
theorem dX0_outs_43 : decode cX0_outs 43 = .ok (.iload_n 1, 1) := by decide +kernel
theorem dX0_outs_44 : decode cX0_outs 44 = .ok (.if_icmp .lt 26, 3) := by decide +kernel
theorem dX0_outs_47 : decode cX0_outs 47 = .ok (.lload_n 3, 1) := by decide +kernel
theorem dX0_outs_48 : decode cX0_outs 48 = .ok (.bipush 8, 2) := by decide +kernel
theorem dX0_outs_50 : decode cX0_outs 50 = .ok (.lshl, 1) := by decide +kernel
theorem dX0_outs_51 : decode cX0_outs 51 = .ok (.aload_n 0, 1) := by decide +kernel
theorem dX0_outs_52 : decode cX0_outs 52 = .ok (.getfield 39, 3) := by decide +kernel
theorem dX0_outs_55 : decode cX0_outs 55 = .ok (.iconst 0, 1) := by decide +kernel
theorem dX0_outs_56 : decode cX0_outs 56 = .ok (.iload 5, 2) := by decide +kernel
theorem dX0_outs_58 : decode cX0_outs 58 = .ok (.invokestatic 122, 3) := by decide +kernel
theorem dX0_outs_61 : decode cX0_outs 61 = .ok (.i2l, 1) := by decide +kernel
theorem dX0_outs_62 : decode cX0_outs 62 = .ok (.lor, 1) := by decide +kernel
theorem dX0_outs_63 : decode cX0_outs 63 = .ok (.lstore_n 3, 1) := by decide +kernel
theorem dX0_outs_64 : decode cX0_outs 64 = .ok (.iinc 5 (-1), 3) := by decide +kernel
theorem dX0_outs_67 : decode cX0_outs 67 = .ok (.goto (-26), 3) := by decide +kernel
theorem dX0_outs_70 : decode cX0_outs 70 = .ok (.lload_n 3, 1) := by decide +kernel
theorem dX0_outs_71 : decode cX0_outs 71 = .ok (.lreturn, 1) := by decide +kernel
theorem dX0_tag_0 : decode cX0_tag 0 = .ok (.iload_n 1, 1) := by decide +kernel
theorem dX0_tag_1 : decode cX0_tag 1 = .ok (.iload_n 2, 1) := by decide +kernel
theorem dX0_tag_2 : decode cX0_tag 2 = .ok (.invokestatic 103, 3) := by decide +kernel
theorem dX0_tag_5 : decode cX0_tag 5 = .ok (.iload_n 1, 1) := by decide +kernel
theorem dX0_tag_6 : decode cX0_tag 6 = .ok (.iload_n 2, 1) := by decide +kernel
theorem dX0_tag_7 : decode cX0_tag 7 = .ok (.invokestatic 92, 3) := by decide +kernel
theorem dX0_tag_10 : decode cX0_tag 10 = .ok (.istore_n 3, 1) := by decide +kernel
theorem dX0_tag_11 : decode cX0_tag 11 = .ok (.aload_n 0, 1) := by decide +kernel
theorem dX0_tag_12 : decode cX0_tag 12 = .ok (.getfield 16, 3) := by decide +kernel
theorem dX0_tag_15 : decode cX0_tag 15 = .ok (.iload_n 3, 1) := by decide +kernel
theorem dX0_tag_16 : decode cX0_tag 16 = .ok (.iaload, 1) := by decide +kernel
theorem dX0_tag_17 : decode cX0_tag 17 = .ok (.iconst 2, 1) := by decide +kernel
theorem dX0_tag_18 : decode cX0_tag 18 = .ok (.if_icmp .ne 23, 3) := by decide +kernel
theorem dX0_tag_21 : decode cX0_tag 21 = .ok (.aload_n 0, 1) := by decide +kernel
theorem dX0_tag_22 : decode cX0_tag 22 = .ok (.getfield 9, 3) := by decide +kernel
theorem dX0_tag_25 : decode cX0_tag 25 = .ok (.iload_n 3, 1) := by decide +kernel
theorem dX0_tag_26 : decode cX0_tag 26 = .ok (.bipush 9, 2) := by decide +kernel
theorem dX0_tag_28 : decode cX0_tag 28 = .ok (.imul, 1) := by decide +kernel
theorem dX0_tag_29 : decode cX0_tag 29 = .ok (.bipush 8, 2) := by decide +kernel
theorem dX0_tag_31 : decode cX0_tag 31 = .ok (.iadd, 1) := by decide +kernel
theorem dX0_tag_32 : decode cX0_tag 32 = .ok (.laload, 1) := by decide +kernel
theorem dX0_tag_33 : decode cX0_tag 33 = .ok (.ldc2_w 126, 3) := by decide +kernel
theorem dX0_tag_36 : decode cX0_tag 36 = .ok (.land, 1) := by decide +kernel
theorem dX0_tag_37 : decode cX0_tag 37 = .ok (.l2i, 1) := by decide +kernel
theorem dX0_tag_38 : decode cX0_tag 38 = .ok (.goto 4, 3) := by decide +kernel
theorem dX0_tag_41 : decode cX0_tag 41 = .ok (.iconst (-1), 1) := by decide +kernel
theorem dX0_tag_42 : decode cX0_tag 42 = .ok (.ireturn, 1) := by decide +kernel
theorem dX0_cell_0 : decode cX0_cell 0 = .ok (.iload_n 1, 1) := by decide +kernel
theorem dX0_cell_1 : decode cX0_cell 1 = .ok (.iload_n 2, 1) := by decide +kernel
theorem dX0_cell_2 : decode cX0_cell 2 = .ok (.invokestatic 103, 3) := by decide +kernel
theorem dX0_cell_5 : decode cX0_cell 5 = .ok (.aload_n 0, 1) := by decide +kernel
theorem dX0_cell_6 : decode cX0_cell 6 = .ok (.getfield 16, 3) := by decide +kernel
theorem dX0_cell_9 : decode cX0_cell 9 = .ok (.iload_n 1, 1) := by decide +kernel
theorem dX0_cell_10 : decode cX0_cell 10 = .ok (.iload_n 2, 1) := by decide +kernel
theorem dX0_cell_11 : decode cX0_cell 11 = .ok (.invokestatic 92, 3) := by decide +kernel
theorem dX0_cell_14 : decode cX0_cell 14 = .ok (.iaload, 1) := by decide +kernel
theorem dX0_cell_15 : decode cX0_cell 15 = .ok (.ireturn, 1) := by decide +kernel
theorem dX0_at_0 : decode cX0_at 0 = .ok (.iload_n 1, 1) := by decide +kernel
theorem dX0_at_1 : decode cX0_at 1 = .ok (.iload_n 2, 1) := by decide +kernel
theorem dX0_at_2 : decode cX0_at 2 = .ok (.invokestatic 103, 3) := by decide +kernel
theorem dX0_at_5 : decode cX0_at 5 = .ok (.iload_n 1, 1) := by decide +kernel
theorem dX0_at_6 : decode cX0_at 6 = .ok (.iload_n 2, 1) := by decide +kernel
theorem dX0_at_7 : decode cX0_at 7 = .ok (.invokestatic 92, 3) := by decide +kernel
theorem dX0_at_10 : decode cX0_at 10 = .ok (.istore 4, 2) := by decide +kernel
theorem dX0_at_12 : decode cX0_at 12 = .ok (.aload_n 0, 1) := by decide +kernel
theorem dX0_at_13 : decode cX0_at 13 = .ok (.iload 4, 2) := by decide +kernel
theorem dX0_at_15 : decode cX0_at 15 = .ok (.invokevirtual 128, 3) := by decide +kernel
theorem dX0_at_18 : decode cX0_at 18 = .ok (.ifCond .eq 13, 3) := by decide +kernel
theorem dX0_at_21 : decode cX0_at 21 = .ok (.iload_n 3, 1) := by decide +kernel
theorem dX0_at_22 : decode cX0_at 22 = .ok (.ifCond .lt 9, 3) := by decide +kernel
theorem dX0_at_25 : decode cX0_at 25 = .ok (.iload_n 3, 1) := by decide +kernel
theorem dX0_at_26 : decode cX0_at 26 = .ok (.bipush 70, 2) := by decide +kernel
theorem dX0_at_28 : decode cX0_at 28 = .ok (.if_icmp .lt 13, 3) := by decide +kernel
theorem dX0_at_31 : decode cX0_at 31 = .ok (.new 112, 3) := by decide +kernel
theorem dX0_at_34 : decode cX0_at 34 = .ok (.dup, 1) := by decide +kernel
theorem dX0_at_35 : decode cX0_at 35 = .ok (.ldc 131, 2) := by decide +kernel
theorem dX0_at_37 : decode cX0_at 37 = .ok (.invokespecial 116, 3) := by decide +kernel
theorem dX0_at_40 : decode cX0_at 40 = .ok (.athrow, 1) := by decide +kernel
theorem dX0_at_41 : decode cX0_at 41 = .ok (.aload_n 0, 1) := by decide +kernel
theorem dX0_at_42 : decode cX0_at 42 = .ok (.getfield 9, 3) := by decide +kernel
theorem dX0_at_45 : decode cX0_at 45 = .ok (.iload 4, 2) := by decide +kernel
theorem dX0_at_47 : decode cX0_at 47 = .ok (.bipush 9, 2) := by decide +kernel
theorem dX0_at_49 : decode cX0_at 49 = .ok (.imul, 1) := by decide +kernel
theorem dX0_at_50 : decode cX0_at 50 = .ok (.iload_n 3, 1) := by decide +kernel
theorem dX0_at_51 : decode cX0_at 51 = .ok (.invokestatic 122, 3) := by decide +kernel
theorem dX0_at_54 : decode cX0_at 54 = .ok (.ireturn, 1) := by decide +kernel
theorem dX0_fail_0 : decode cX0_fail 0 = .ok (.iload_n 1, 1) := by decide +kernel
theorem dX0_fail_1 : decode cX0_fail 1 = .ok (.invokestatic 133, 3) := by decide +kernel
theorem dX0_fail_4 : decode cX0_fail 4 = .ok (.aload_n 0, 1) := by decide +kernel
theorem dX0_fail_5 : decode cX0_fail 5 = .ok (.iload_n 1, 1) := by decide +kernel
theorem dX0_fail_6 : decode cX0_fail 6 = .ok (.invokevirtual 83, 3) := by decide +kernel
theorem dX0_fail_9 : decode cX0_fail 9 = .ok (.ifCond .ne 5, 3) := by decide +kernel
theorem dX0_fail_12 : decode cX0_fail 12 = .ok (.iconst 0, 1) := by decide +kernel
theorem dX0_fail_13 : decode cX0_fail 13 = .ok (.ireturn, 1) := by decide +kernel
theorem dX0_fail_14 : decode cX0_fail 14 = .ok (.aload_n 0, 1) := by decide +kernel
theorem dX0_fail_15 : decode cX0_fail 15 = .ok (.iload_n 1, 1) := by decide +kernel
theorem dX0_fail_16 : decode cX0_fail 16 = .ok (.iconst 0, 1) := by decide +kernel
theorem dX0_fail_17 : decode cX0_fail 17 = .ok (.invokevirtual 137, 3) := by decide +kernel
theorem dX0_fail_20 : decode cX0_fail 20 = .ok (.aload_n 0, 1) := by decide +kernel
theorem dX0_fail_21 : decode cX0_fail 21 = .ok (.dup, 1) := by decide +kernel
theorem dX0_fail_22 : decode cX0_fail 22 = .ok (.getfield 29, 3) := by decide +kernel
theorem dX0_fail_25 : decode cX0_fail 25 = .ok (.iconst 1, 1) := by decide +kernel
theorem dX0_fail_26 : decode cX0_fail 26 = .ok (.isub, 1) := by decide +kernel
theorem dX0_fail_27 : decode cX0_fail 27 = .ok (.putfield 29, 3) := by decide +kernel
theorem dX0_fail_30 : decode cX0_fail 30 = .ok (.iconst 1, 1) := by decide +kernel
theorem dX0_fail_31 : decode cX0_fail 31 = .ok (.ireturn, 1) := by decide +kernel
theorem dX0_replace_0 : decode cX0_replace 0 = .ok (.iload_n 1, 1) := by decide +kernel
theorem dX0_replace_1 : decode cX0_replace 1 = .ok (.invokestatic 133, 3) := by decide +kernel
theorem dX0_replace_4 : decode cX0_replace 4 = .ok (.aload_n 0, 1) := by decide +kernel
theorem dX0_replace_5 : decode cX0_replace 5 = .ok (.iload_n 1, 1) := by decide +kernel
theorem dX0_replace_6 : decode cX0_replace 6 = .ok (.invokevirtual 83, 3) := by decide +kernel
theorem dX0_replace_9 : decode cX0_replace 9 = .ok (.ifCond .eq 5, 3) := by decide +kernel
theorem dX0_replace_12 : decode cX0_replace 12 = .ok (.iconst 0, 1) := by decide +kernel
theorem dX0_replace_13 : decode cX0_replace 13 = .ok (.ireturn, 1) := by decide +kernel
theorem dX0_replace_14 : decode cX0_replace 14 = .ok (.aload_n 0, 1) := by decide +kernel
theorem dX0_replace_15 : decode cX0_replace 15 = .ok (.iload_n 1, 1) := by decide +kernel
theorem dX0_replace_16 : decode cX0_replace 16 = .ok (.iconst 1, 1) := by decide +kernel
theorem dX0_replace_17 : decode cX0_replace 17 = .ok (.invokevirtual 137, 3) := by decide +kernel
theorem dX0_replace_20 : decode cX0_replace 20 = .ok (.aload_n 0, 1) := by decide +kernel
theorem dX0_replace_21 : decode cX0_replace 21 = .ok (.dup, 1) := by decide +kernel
theorem dX0_replace_22 : decode cX0_replace 22 = .ok (.getfield 29, 3) := by decide +kernel
theorem dX0_replace_25 : decode cX0_replace 25 = .ok (.iconst 1, 1) := by decide +kernel
theorem dX0_replace_26 : decode cX0_replace 26 = .ok (.iadd, 1) := by decide +kernel
theorem dX0_replace_27 : decode cX0_replace 27 = .ok (.putfield 29, 3) := by decide +kernel
theorem dX0_replace_30 : decode cX0_replace 30 = .ok (.iconst 1, 1) := by decide +kernel
theorem dX0_replace_31 : decode cX0_replace 31 = .ok (.ireturn, 1) := by decide +kernel
theorem dX0_corrupt_0 : decode cX0_corrupt 0 = .ok (.iload_n 1, 1) := by decide +kernel
theorem dX0_corrupt_1 : decode cX0_corrupt 1 = .ok (.iload_n 2, 1) := by decide +kernel
theorem dX0_corrupt_2 : decode cX0_corrupt 2 = .ok (.invokestatic 76, 3) := by decide +kernel
theorem dX0_corrupt_5 : decode cX0_corrupt 5 = .ok (.ifCond .eq 24, 3) := by decide +kernel
theorem dX0_corrupt_8 : decode cX0_corrupt 8 = .ok (.iload 6, 2) := by decide +kernel
theorem dX0_corrupt_10 : decode cX0_corrupt 10 = .ok (.invokestatic 56, 3) := by decide +kernel
theorem dX0_corrupt_13 : decode cX0_corrupt 13 = .ok (.ifCond .eq 16, 3) := by decide +kernel
theorem dX0_corrupt_16 : decode cX0_corrupt 16 = .ok (.iload_n 3, 1) := by decide +kernel
theorem dX0_corrupt_17 : decode cX0_corrupt 17 = .ok (.ifCond .lt 12, 3) := by decide +kernel
theorem dX0_corrupt_20 : decode cX0_corrupt 20 = .ok (.iload_n 3, 1) := by decide +kernel
theorem dX0_corrupt_21 : decode cX0_corrupt 21 = .ok (.bipush 70, 2) := by decide +kernel
theorem dX0_corrupt_23 : decode cX0_corrupt 23 = .ok (.iload 6, 2) := by decide +kernel
theorem dX0_corrupt_25 : decode cX0_corrupt 25 = .ok (.isub, 1) := by decide +kernel
theorem dX0_corrupt_26 : decode cX0_corrupt 26 = .ok (.if_icmp .le 13, 3) := by decide +kernel
theorem dX0_corrupt_29 : decode cX0_corrupt 29 = .ok (.new 60, 3) := by decide +kernel
theorem dX0_corrupt_32 : decode cX0_corrupt 32 = .ok (.dup, 1) := by decide +kernel
theorem dX0_corrupt_33 : decode cX0_corrupt 33 = .ok (.ldc 140, 2) := by decide +kernel
theorem dX0_corrupt_35 : decode cX0_corrupt 35 = .ok (.invokespecial 64, 3) := by decide +kernel
theorem dX0_corrupt_38 : decode cX0_corrupt 38 = .ok (.athrow, 1) := by decide +kernel
theorem dX0_corrupt_39 : decode cX0_corrupt 39 = .ok (.iload_n 1, 1) := by decide +kernel
theorem dX0_corrupt_40 : decode cX0_corrupt 40 = .ok (.iload_n 2, 1) := by decide +kernel
theorem dX0_corrupt_41 : decode cX0_corrupt 41 = .ok (.invokestatic 92, 3) := by decide +kernel
theorem dX0_corrupt_44 : decode cX0_corrupt 44 = .ok (.istore 7, 2) := by decide +kernel
theorem dX0_corrupt_46 : decode cX0_corrupt 46 = .ok (.aload_n 0, 1) := by decide +kernel
theorem dX0_corrupt_47 : decode cX0_corrupt 47 = .ok (.iload 7, 2) := by decide +kernel
theorem dX0_corrupt_49 : decode cX0_corrupt 49 = .ok (.invokevirtual 128, 3) := by decide +kernel
theorem dX0_corrupt_52 : decode cX0_corrupt 52 = .ok (.ifCond .ne 5, 3) := by decide +kernel
theorem dX0_corrupt_55 : decode cX0_corrupt 55 = .ok (.iconst 0, 1) := by decide +kernel
theorem dX0_corrupt_56 : decode cX0_corrupt 56 = .ok (.ireturn, 1) := by decide +kernel
theorem dX0_corrupt_57 : decode cX0_corrupt 57 = .ok (.iload 7, 2) := by decide +kernel
theorem dX0_corrupt_59 : decode cX0_corrupt 59 = .ok (.bipush 9, 2) := by decide +kernel
theorem dX0_corrupt_61 : decode cX0_corrupt 61 = .ok (.imul, 1) := by decide +kernel
theorem dX0_corrupt_62 : decode cX0_corrupt 62 = .ok (.istore 8, 2) := by decide +kernel
theorem dX0_corrupt_64 : decode cX0_corrupt 64 = .ok (.aload_n 0, 1) := by decide +kernel
theorem dX0_corrupt_65 : decode cX0_corrupt 65 = .ok (.getfield 9, 3) := by decide +kernel
theorem dX0_corrupt_68 : decode cX0_corrupt 68 = .ok (.iload 8, 2) := by decide +kernel
theorem dX0_corrupt_70 : decode cX0_corrupt 70 = .ok (.iload_n 3, 1) := by decide +kernel
theorem dX0_corrupt_71 : decode cX0_corrupt 71 = .ok (.lload 4, 2) := by decide +kernel
theorem dX0_corrupt_73 : decode cX0_corrupt 73 = .ok (.iload 6, 2) := by decide +kernel
theorem dX0_corrupt_75 : decode cX0_corrupt 75 = .ok (.invokestatic 72, 3) := by decide +kernel
theorem dX0_corrupt_78 : decode cX0_corrupt 78 = .ok (.aload_n 0, 1) := by decide +kernel
theorem dX0_corrupt_79 : decode cX0_corrupt 79 = .ok (.iload 8, 2) := by decide +kernel
theorem dX0_corrupt_81 : decode cX0_corrupt 81 = .ok (.invokevirtual 142, 3) := by decide +kernel
theorem dX0_corrupt_84 : decode cX0_corrupt 84 = .ok (.ifCond .eq 12, 3) := by decide +kernel
theorem dX0_corrupt_87 : decode cX0_corrupt 87 = .ok (.aload_n 0, 1) := by decide +kernel
theorem dX0_corrupt_88 : decode cX0_corrupt 88 = .ok (.iload 7, 2) := by decide +kernel
theorem dX0_corrupt_90 : decode cX0_corrupt 90 = .ok (.iconst 2, 1) := by decide +kernel
theorem dX0_corrupt_91 : decode cX0_corrupt 91 = .ok (.invokevirtual 145, 3) := by decide +kernel
theorem dX0_corrupt_94 : decode cX0_corrupt 94 = .ok (.iconst 1, 1) := by decide +kernel
theorem dX0_corrupt_95 : decode cX0_corrupt 95 = .ok (.ireturn, 1) := by decide +kernel
theorem dX0_corrupt_96 : decode cX0_corrupt 96 = .ok (.aload_n 0, 1) := by decide +kernel
theorem dX0_corrupt_97 : decode cX0_corrupt 97 = .ok (.iload 8, 2) := by decide +kernel
theorem dX0_corrupt_99 : decode cX0_corrupt 99 = .ok (.invokevirtual 148, 3) := by decide +kernel
theorem dX0_corrupt_102 : decode cX0_corrupt 102 = .ok (.ifCond .eq 19, 3) := by decide +kernel
theorem dX0_corrupt_105 : decode cX0_corrupt 105 = .ok (.aload_n 0, 1) := by decide +kernel
theorem dX0_corrupt_106 : decode cX0_corrupt 106 = .ok (.getfield 9, 3) := by decide +kernel
theorem dX0_corrupt_109 : decode cX0_corrupt 109 = .ok (.iload 8, 2) := by decide +kernel
theorem dX0_corrupt_111 : decode cX0_corrupt 111 = .ok (.iload_n 3, 1) := by decide +kernel
theorem dX0_corrupt_112 : decode cX0_corrupt 112 = .ok (.lload 4, 2) := by decide +kernel
theorem dX0_corrupt_114 : decode cX0_corrupt 114 = .ok (.iload 6, 2) := by decide +kernel
theorem dX0_corrupt_116 : decode cX0_corrupt 116 = .ok (.invokestatic 72, 3) := by decide +kernel
theorem dX0_corrupt_119 : decode cX0_corrupt 119 = .ok (.iconst 0, 1) := by decide +kernel
theorem dX0_corrupt_120 : decode cX0_corrupt 120 = .ok (.ireturn, 1) := by decide +kernel
theorem dX0_corrupt_121 : decode cX0_corrupt 121 = .ok (.aload_n 0, 1) := by decide +kernel
theorem dX0_corrupt_122 : decode cX0_corrupt 122 = .ok (.iload 7, 2) := by decide +kernel
theorem dX0_corrupt_124 : decode cX0_corrupt 124 = .ok (.iconst 3, 1) := by decide +kernel
theorem dX0_corrupt_125 : decode cX0_corrupt 125 = .ok (.invokevirtual 145, 3) := by decide +kernel
theorem dX0_corrupt_128 : decode cX0_corrupt 128 = .ok (.iconst 1, 1) := by decide +kernel
theorem dX0_corrupt_129 : decode cX0_corrupt 129 = .ok (.ireturn, 1) := by decide +kernel
theorem dX0_lose_0 : decode cX0_lose 0 = .ok (.iload_n 1, 1) := by decide +kernel
theorem dX0_lose_1 : decode cX0_lose 1 = .ok (.iconst 1, 1) := by decide +kernel
theorem dX0_lose_2 : decode cX0_lose 2 = .ok (.if_icmp .ge 13, 3) := by decide +kernel
theorem dX0_lose_5 : decode cX0_lose 5 = .ok (.new 60, 3) := by decide +kernel
theorem dX0_lose_8 : decode cX0_lose 8 = .ok (.dup, 1) := by decide +kernel
theorem dX0_lose_9 : decode cX0_lose 9 = .ok (.ldc 151, 2) := by decide +kernel
theorem dX0_lose_11 : decode cX0_lose 11 = .ok (.invokespecial 64, 3) := by decide +kernel
theorem dX0_lose_14 : decode cX0_lose 14 = .ok (.athrow, 1) := by decide +kernel
theorem dX0_lose_15 : decode cX0_lose 15 = .ok (.aload_n 0, 1) := by decide +kernel
theorem dX0_lose_16 : decode cX0_lose 16 = .ok (.getfield 45, 3) := by decide +kernel
theorem dX0_lose_19 : decode cX0_lose 19 = .ok (.ifCond .eq 13, 3) := by decide +kernel
theorem dX0_lose_22 : decode cX0_lose 22 = .ok (.new 67, 3) := by decide +kernel
theorem dX0_lose_25 : decode cX0_lose 25 = .ok (.dup, 1) := by decide +kernel
theorem dX0_lose_26 : decode cX0_lose 26 = .ok (.ldc 153, 2) := by decide +kernel
theorem dX0_lose_28 : decode cX0_lose 28 = .ok (.invokespecial 71, 3) := by decide +kernel
theorem dX0_lose_31 : decode cX0_lose 31 = .ok (.athrow, 1) := by decide +kernel
theorem dX0_lose_32 : decode cX0_lose 32 = .ok (.aload_n 0, 1) := by decide +kernel
theorem dX0_lose_33 : decode cX0_lose 33 = .ok (.iload_n 1, 1) := by decide +kernel
theorem dX0_lose_34 : decode cX0_lose 34 = .ok (.iconst 1, 1) := by decide +kernel
theorem dX0_lose_35 : decode cX0_lose 35 = .ok (.isub, 1) := by decide +kernel
theorem dX0_lose_36 : decode cX0_lose 36 = .ok (.putfield 49, 3) := by decide +kernel
theorem dX0_lose_39 : decode cX0_lose 39 = .ok (.return_, 1) := by decide +kernel
theorem dX0_power_0 : decode cX0_power 0 = .ok (.aload_n 0, 1) := by decide +kernel
theorem dX0_power_1 : decode cX0_power 1 = .ok (.getfield 45, 3) := by decide +kernel
theorem dX0_power_4 : decode cX0_power 4 = .ok (.istore_n 1, 1) := by decide +kernel
theorem dX0_power_5 : decode cX0_power 5 = .ok (.aload_n 0, 1) := by decide +kernel
theorem dX0_power_6 : decode cX0_power 6 = .ok (.iconst 0, 1) := by decide +kernel
theorem dX0_power_7 : decode cX0_power 7 = .ok (.putfield 45, 3) := by decide +kernel
theorem dX0_power_10 : decode cX0_power 10 = .ok (.aload_n 0, 1) := by decide +kernel
theorem dX0_power_11 : decode cX0_power 11 = .ok (.iconst (-1), 1) := by decide +kernel
theorem dX0_power_12 : decode cX0_power 12 = .ok (.putfield 49, 3) := by decide +kernel
theorem dX0_power_15 : decode cX0_power 15 = .ok (.iload_n 1, 1) := by decide +kernel
theorem dX0_power_16 : decode cX0_power 16 = .ok (.ireturn, 1) := by decide +kernel
theorem dX0_look_0 : decode cX0_look 0 = .ok (.iload_n 1, 1) := by decide +kernel
theorem dX0_look_1 : decode cX0_look 1 = .ok (.tableswitch 85 0 5 #[39, 44, 57, 63, 69, 77], 39) := by decide +kernel
theorem dX0_look_40 : decode cX0_look 40 = .ok (.aload_n 0, 1) := by decide +kernel
theorem dX0_look_41 : decode cX0_look 41 = .ok (.getfield 52, 3) := by decide +kernel
theorem dX0_look_44 : decode cX0_look 44 = .ok (.lreturn, 1) := by decide +kernel
theorem dX0_look_45 : decode cX0_look 45 = .ok (.aload_n 0, 1) := by decide +kernel
theorem dX0_look_46 : decode cX0_look 46 = .ok (.getfield 45, 3) := by decide +kernel
theorem dX0_look_49 : decode cX0_look 49 = .ok (.ifCond .eq 7, 3) := by decide +kernel
theorem dX0_look_52 : decode cX0_look 52 = .ok (.lconst 1, 1) := by decide +kernel
theorem dX0_look_53 : decode cX0_look 53 = .ok (.goto 4, 3) := by decide +kernel
theorem dX0_look_56 : decode cX0_look 56 = .ok (.lconst 0, 1) := by decide +kernel
theorem dX0_look_57 : decode cX0_look 57 = .ok (.lreturn, 1) := by decide +kernel
theorem dX0_look_58 : decode cX0_look 58 = .ok (.aload_n 0, 1) := by decide +kernel
theorem dX0_look_59 : decode cX0_look 59 = .ok (.getfield 49, 3) := by decide +kernel
theorem dX0_look_62 : decode cX0_look 62 = .ok (.i2l, 1) := by decide +kernel
theorem dX0_look_63 : decode cX0_look 63 = .ok (.lreturn, 1) := by decide +kernel
theorem dX0_look_64 : decode cX0_look 64 = .ok (.aload_n 0, 1) := by decide +kernel
theorem dX0_look_65 : decode cX0_look 65 = .ok (.getfield 29, 3) := by decide +kernel
theorem dX0_look_68 : decode cX0_look 68 = .ok (.i2l, 1) := by decide +kernel
theorem dX0_look_69 : decode cX0_look 69 = .ok (.lreturn, 1) := by decide +kernel
theorem dX0_look_70 : decode cX0_look 70 = .ok (.aload_n 0, 1) := by decide +kernel
theorem dX0_look_71 : decode cX0_look 71 = .ok (.getfield 26, 3) := by decide +kernel
theorem dX0_look_74 : decode cX0_look 74 = .ok (.iconst 2, 1) := by decide +kernel
theorem dX0_look_75 : decode cX0_look 75 = .ok (.iaload, 1) := by decide +kernel
theorem dX0_look_76 : decode cX0_look 76 = .ok (.i2l, 1) := by decide +kernel
theorem dX0_look_77 : decode cX0_look 77 = .ok (.lreturn, 1) := by decide +kernel
theorem dX0_look_78 : decode cX0_look 78 = .ok (.aload_n 0, 1) := by decide +kernel
theorem dX0_look_79 : decode cX0_look 79 = .ok (.getfield 26, 3) := by decide +kernel
theorem dX0_look_82 : decode cX0_look 82 = .ok (.iconst 3, 1) := by decide +kernel
theorem dX0_look_83 : decode cX0_look 83 = .ok (.iaload, 1) := by decide +kernel
theorem dX0_look_84 : decode cX0_look 84 = .ok (.i2l, 1) := by decide +kernel
theorem dX0_look_85 : decode cX0_look 85 = .ok (.lreturn, 1) := by decide +kernel
theorem dX0_look_86 : decode cX0_look 86 = .ok (.new 112, 3) := by decide +kernel
theorem dX0_look_89 : decode cX0_look 89 = .ok (.dup, 1) := by decide +kernel
theorem dX0_look_90 : decode cX0_look 90 = .ok (.ldc 155, 2) := by decide +kernel
theorem dX0_look_92 : decode cX0_look 92 = .ok (.invokespecial 116, 3) := by decide +kernel
theorem dX0_look_95 : decode cX0_look 95 = .ok (.athrow, 1) := by decide +kernel
theorem dX0_isDisk_0 : decode cX0_isDisk 0 = .ok (.iload_n 0, 1) := by decide +kernel
theorem dX0_isDisk_1 : decode cX0_isDisk 1 = .ok (.ifCond .lt 13, 3) := by decide +kernel
theorem dX0_isDisk_4 : decode cX0_isDisk 4 = .ok (.iload_n 0, 1) := by decide +kernel
theorem dX0_isDisk_5 : decode cX0_isDisk 5 = .ok (.bipush 16, 2) := by decide +kernel
theorem dX0_isDisk_7 : decode cX0_isDisk 7 = .ok (.if_icmp .ge 7, 3) := by decide +kernel
theorem dX0_isDisk_10 : decode cX0_isDisk 10 = .ok (.iconst 1, 1) := by decide +kernel
theorem dX0_isDisk_11 : decode cX0_isDisk 11 = .ok (.goto 4, 3) := by decide +kernel
theorem dX0_isDisk_14 : decode cX0_isDisk 14 = .ok (.iconst 0, 1) := by decide +kernel
theorem dX0_isDisk_15 : decode cX0_isDisk 15 = .ok (.ireturn, 1) := by decide +kernel
theorem dX0_isCell_0 : decode cX0_isCell 0 = .ok (.iload_n 0, 1) := by decide +kernel
theorem dX0_isCell_1 : decode cX0_isCell 1 = .ok (.invokestatic 157, 3) := by decide +kernel
theorem dX0_isCell_4 : decode cX0_isCell 4 = .ok (.ifCond .eq 17, 3) := by decide +kernel
theorem dX0_isCell_7 : decode cX0_isCell 7 = .ok (.iload_n 1, 1) := by decide +kernel
theorem dX0_isCell_8 : decode cX0_isCell 8 = .ok (.ifCond .lt 13, 3) := by decide +kernel
theorem dX0_isCell_11 : decode cX0_isCell 11 = .ok (.iload_n 1, 1) := by decide +kernel
theorem dX0_isCell_12 : decode cX0_isCell 12 = .ok (.bipush 66, 2) := by decide +kernel
theorem dX0_isCell_14 : decode cX0_isCell 14 = .ok (.if_icmp .ge 7, 3) := by decide +kernel
theorem dX0_isCell_17 : decode cX0_isCell 17 = .ok (.iconst 1, 1) := by decide +kernel
theorem dX0_isCell_18 : decode cX0_isCell 18 = .ok (.goto 4, 3) := by decide +kernel
theorem dX0_isCell_21 : decode cX0_isCell 21 = .ok (.iconst 0, 1) := by decide +kernel
theorem dX0_isCell_22 : decode cX0_isCell 22 = .ok (.ireturn, 1) := by decide +kernel
theorem dX0_isCount_0 : decode cX0_isCount 0 = .ok (.iload_n 0, 1) := by decide +kernel
theorem dX0_isCount_1 : decode cX0_isCount 1 = .ok (.iconst 1, 1) := by decide +kernel
theorem dX0_isCount_2 : decode cX0_isCount 2 = .ok (.if_icmp .lt 13, 3) := by decide +kernel
theorem dX0_isCount_5 : decode cX0_isCount 5 = .ok (.iload_n 0, 1) := by decide +kernel
theorem dX0_isCount_6 : decode cX0_isCount 6 = .ok (.bipush 8, 2) := by decide +kernel
theorem dX0_isCount_8 : decode cX0_isCount 8 = .ok (.if_icmp .gt 7, 3) := by decide +kernel
theorem dX0_isCount_11 : decode cX0_isCount 11 = .ok (.iconst 1, 1) := by decide +kernel
theorem dX0_isCount_12 : decode cX0_isCount 12 = .ok (.goto 4, 3) := by decide +kernel
theorem dX0_isCount_15 : decode cX0_isCount 15 = .ok (.iconst 0, 1) := by decide +kernel
theorem dX0_isCount_16 : decode cX0_isCount 16 = .ok (.ireturn, 1) := by decide +kernel
theorem dX0_needDisk_0 : decode cX0_needDisk 0 = .ok (.iload_n 0, 1) := by decide +kernel
theorem dX0_needDisk_1 : decode cX0_needDisk 1 = .ok (.invokestatic 157, 3) := by decide +kernel
theorem dX0_needDisk_4 : decode cX0_needDisk 4 = .ok (.ifCond .ne 13, 3) := by decide +kernel
theorem dX0_needDisk_7 : decode cX0_needDisk 7 = .ok (.new 60, 3) := by decide +kernel
theorem dX0_needDisk_10 : decode cX0_needDisk 10 = .ok (.dup, 1) := by decide +kernel
theorem dX0_needDisk_11 : decode cX0_needDisk 11 = .ok (.ldc 160, 2) := by decide +kernel
theorem dX0_needDisk_13 : decode cX0_needDisk 13 = .ok (.invokespecial 64, 3) := by decide +kernel
theorem dX0_needDisk_16 : decode cX0_needDisk 16 = .ok (.athrow, 1) := by decide +kernel
theorem dX0_needDisk_17 : decode cX0_needDisk 17 = .ok (.return_, 1) := by decide +kernel
theorem dX0_needCell_0 : decode cX0_needCell 0 = .ok (.iload_n 0, 1) := by decide +kernel
theorem dX0_needCell_1 : decode cX0_needCell 1 = .ok (.iload_n 1, 1) := by decide +kernel
theorem dX0_needCell_2 : decode cX0_needCell 2 = .ok (.invokestatic 76, 3) := by decide +kernel
theorem dX0_needCell_5 : decode cX0_needCell 5 = .ok (.ifCond .ne 13, 3) := by decide +kernel
theorem dX0_needCell_8 : decode cX0_needCell 8 = .ok (.new 60, 3) := by decide +kernel
theorem dX0_needCell_11 : decode cX0_needCell 11 = .ok (.dup, 1) := by decide +kernel
theorem dX0_needCell_12 : decode cX0_needCell 12 = .ok (.ldc 162, 2) := by decide +kernel
theorem dX0_needCell_14 : decode cX0_needCell 14 = .ok (.invokespecial 64, 3) := by decide +kernel
theorem dX0_needCell_17 : decode cX0_needCell 17 = .ok (.athrow, 1) := by decide +kernel
theorem dX0_needCell_18 : decode cX0_needCell 18 = .ok (.return_, 1) := by decide +kernel
theorem dX0_spotOf_0 : decode cX0_spotOf 0 = .ok (.iload_n 0, 1) := by decide +kernel
theorem dX0_spotOf_1 : decode cX0_spotOf 1 = .ok (.bipush 66, 2) := by decide +kernel
theorem dX0_spotOf_3 : decode cX0_spotOf 3 = .ok (.imul, 1) := by decide +kernel
theorem dX0_spotOf_4 : decode cX0_spotOf 4 = .ok (.iload_n 1, 1) := by decide +kernel
theorem dX0_spotOf_5 : decode cX0_spotOf 5 = .ok (.iadd, 1) := by decide +kernel
theorem dX0_spotOf_6 : decode cX0_spotOf 6 = .ok (.ireturn, 1) := by decide +kernel
theorem dX0_isLive_0 : decode cX0_isLive 0 = .ok (.aload_n 0, 1) := by decide +kernel
theorem dX0_isLive_1 : decode cX0_isLive 1 = .ok (.getfield 16, 3) := by decide +kernel
theorem dX0_isLive_4 : decode cX0_isLive 4 = .ok (.iload_n 1, 1) := by decide +kernel
theorem dX0_isLive_5 : decode cX0_isLive 5 = .ok (.iconst 0, 1) := by decide +kernel
theorem dX0_isLive_6 : decode cX0_isLive 6 = .ok (.invokestatic 92, 3) := by decide +kernel
theorem dX0_isLive_9 : decode cX0_isLive 9 = .ok (.iaload, 1) := by decide +kernel
theorem dX0_isLive_10 : decode cX0_isLive 10 = .ok (.ifCond .eq 7, 3) := by decide +kernel
theorem dX0_isLive_13 : decode cX0_isLive 13 = .ok (.iconst 1, 1) := by decide +kernel
theorem dX0_isLive_14 : decode cX0_isLive 14 = .ok (.goto 4, 3) := by decide +kernel
theorem dX0_isLive_17 : decode cX0_isLive 17 = .ok (.iconst 0, 1) := by decide +kernel
theorem dX0_isLive_18 : decode cX0_isLive 18 = .ok (.ireturn, 1) := by decide +kernel
theorem dX0_hasBytes_0 : decode cX0_hasBytes 0 = .ok (.aload_n 0, 1) := by decide +kernel
theorem dX0_hasBytes_1 : decode cX0_hasBytes 1 = .ok (.getfield 16, 3) := by decide +kernel
theorem dX0_hasBytes_4 : decode cX0_hasBytes 4 = .ok (.iload_n 1, 1) := by decide +kernel
theorem dX0_hasBytes_5 : decode cX0_hasBytes 5 = .ok (.iaload, 1) := by decide +kernel
theorem dX0_hasBytes_6 : decode cX0_hasBytes 6 = .ok (.iconst 2, 1) := by decide +kernel
theorem dX0_hasBytes_7 : decode cX0_hasBytes 7 = .ok (.if_icmp .eq 13, 3) := by decide +kernel
theorem dX0_hasBytes_10 : decode cX0_hasBytes 10 = .ok (.aload_n 0, 1) := by decide +kernel
theorem dX0_hasBytes_11 : decode cX0_hasBytes 11 = .ok (.getfield 16, 3) := by decide +kernel
theorem dX0_hasBytes_14 : decode cX0_hasBytes 14 = .ok (.iload_n 1, 1) := by decide +kernel
theorem dX0_hasBytes_15 : decode cX0_hasBytes 15 = .ok (.iaload, 1) := by decide +kernel
theorem dX0_hasBytes_16 : decode cX0_hasBytes 16 = .ok (.iconst 3, 1) := by decide +kernel
theorem dX0_hasBytes_17 : decode cX0_hasBytes 17 = .ok (.if_icmp .ne 7, 3) := by decide +kernel
theorem dX0_hasBytes_20 : decode cX0_hasBytes 20 = .ok (.iconst 1, 1) := by decide +kernel
theorem dX0_hasBytes_21 : decode cX0_hasBytes 21 = .ok (.goto 4, 3) := by decide +kernel
theorem dX0_hasBytes_24 : decode cX0_hasBytes 24 = .ok (.iconst 0, 1) := by decide +kernel
theorem dX0_hasBytes_25 : decode cX0_hasBytes 25 = .ok (.ireturn, 1) := by decide +kernel
theorem dX0_setKind_0 : decode cX0_setKind 0 = .ok (.aload_n 0, 1) := by decide +kernel
theorem dX0_setKind_1 : decode cX0_setKind 1 = .ok (.getfield 26, 3) := by decide +kernel
theorem dX0_setKind_4 : decode cX0_setKind 4 = .ok (.aload_n 0, 1) := by decide +kernel
theorem dX0_setKind_5 : decode cX0_setKind 5 = .ok (.getfield 16, 3) := by decide +kernel
theorem dX0_setKind_8 : decode cX0_setKind 8 = .ok (.iload_n 1, 1) := by decide +kernel
theorem dX0_setKind_9 : decode cX0_setKind 9 = .ok (.iaload, 1) := by decide +kernel
theorem dX0_setKind_10 : decode cX0_setKind 10 = .ok (.dup2, 1) := by decide +kernel
theorem dX0_setKind_11 : decode cX0_setKind 11 = .ok (.iaload, 1) := by decide +kernel
theorem dX0_setKind_12 : decode cX0_setKind 12 = .ok (.iconst 1, 1) := by decide +kernel
theorem dX0_setKind_13 : decode cX0_setKind 13 = .ok (.isub, 1) := by decide +kernel
theorem dX0_setKind_14 : decode cX0_setKind 14 = .ok (.iastore, 1) := by decide +kernel
theorem dX0_setKind_15 : decode cX0_setKind 15 = .ok (.aload_n 0, 1) := by decide +kernel
theorem dX0_setKind_16 : decode cX0_setKind 16 = .ok (.getfield 16, 3) := by decide +kernel
theorem dX0_setKind_19 : decode cX0_setKind 19 = .ok (.iload_n 1, 1) := by decide +kernel
theorem dX0_setKind_20 : decode cX0_setKind 20 = .ok (.iload_n 2, 1) := by decide +kernel
theorem dX0_setKind_21 : decode cX0_setKind 21 = .ok (.iastore, 1) := by decide +kernel
theorem dX0_setKind_22 : decode cX0_setKind 22 = .ok (.aload_n 0, 1) := by decide +kernel
theorem dX0_setKind_23 : decode cX0_setKind 23 = .ok (.getfield 26, 3) := by decide +kernel
theorem dX0_setKind_26 : decode cX0_setKind 26 = .ok (.iload_n 2, 1) := by decide +kernel
theorem dX0_setKind_27 : decode cX0_setKind 27 = .ok (.dup2, 1) := by decide +kernel
theorem dX0_setKind_28 : decode cX0_setKind 28 = .ok (.iaload, 1) := by decide +kernel
theorem dX0_setKind_29 : decode cX0_setKind 29 = .ok (.iconst 1, 1) := by decide +kernel
theorem dX0_setKind_30 : decode cX0_setKind 30 = .ok (.iadd, 1) := by decide +kernel
theorem dX0_setKind_31 : decode cX0_setKind 31 = .ok (.iastore, 1) := by decide +kernel
theorem dX0_setKind_32 : decode cX0_setKind 32 = .ok (.return_, 1) := by decide +kernel
theorem dX0_setKindOfAll_0 : decode cX0_setKindOfAll 0 = .ok (.iconst 0, 1) := by decide +kernel
theorem dX0_setKindOfAll_1 : decode cX0_setKindOfAll 1 = .ok (.istore_n 3, 1) := by decide +kernel
theorem dX0_setKindOfAll_2 : decode cX0_setKindOfAll 2 = .ok (.iload_n 3, 1) := by decide +kernel
theorem dX0_setKindOfAll_3 : decode cX0_setKindOfAll 3 = .ok (.bipush 66, 2) := by decide +kernel
theorem dX0_setKindOfAll_5 : decode cX0_setKindOfAll 5 = .ok (.if_icmp .ge 19, 3) := by decide +kernel
theorem dX0_setKindOfAll_8 : decode cX0_setKindOfAll 8 = .ok (.aload_n 0, 1) := by decide +kernel
theorem dX0_setKindOfAll_9 : decode cX0_setKindOfAll 9 = .ok (.iload_n 1, 1) := by decide +kernel
theorem dX0_setKindOfAll_10 : decode cX0_setKindOfAll 10 = .ok (.iload_n 3, 1) := by decide +kernel
theorem dX0_setKindOfAll_11 : decode cX0_setKindOfAll 11 = .ok (.invokestatic 92, 3) := by decide +kernel
theorem dX0_setKindOfAll_14 : decode cX0_setKindOfAll 14 = .ok (.iload_n 2, 1) := by decide +kernel
theorem dX0_setKindOfAll_15 : decode cX0_setKindOfAll 15 = .ok (.invokevirtual 145, 3) := by decide +kernel
theorem dX0_setKindOfAll_18 : decode cX0_setKindOfAll 18 = .ok (.iinc 3 1, 3) := by decide +kernel
theorem dX0_setKindOfAll_21 : decode cX0_setKindOfAll 21 = .ok (.goto (-19), 3) := by decide +kernel
theorem dX0_setKindOfAll_24 : decode cX0_setKindOfAll 24 = .ok (.return_, 1) := by decide +kernel
theorem dX0_drawPower_0 : decode cX0_drawPower 0 = .ok (.aload_n 0, 1) := by decide +kernel
theorem dX0_drawPower_1 : decode cX0_drawPower 1 = .ok (.getfield 49, 3) := by decide +kernel
theorem dX0_drawPower_4 : decode cX0_drawPower 4 = .ok (.ifCond .ne 8, 3) := by decide +kernel
theorem dX0_drawPower_7 : decode cX0_drawPower 7 = .ok (.aload_n 0, 1) := by decide +kernel
theorem dX0_drawPower_8 : decode cX0_drawPower 8 = .ok (.iconst 1, 1) := by decide +kernel
theorem dX0_drawPower_9 : decode cX0_drawPower 9 = .ok (.putfield 45, 3) := by decide +kernel
theorem dX0_drawPower_12 : decode cX0_drawPower 12 = .ok (.aload_n 0, 1) := by decide +kernel
theorem dX0_drawPower_13 : decode cX0_drawPower 13 = .ok (.getfield 45, 3) := by decide +kernel
theorem dX0_drawPower_16 : decode cX0_drawPower 16 = .ok (.ifCond .eq 5, 3) := by decide +kernel
theorem dX0_drawPower_19 : decode cX0_drawPower 19 = .ok (.iconst 0, 1) := by decide +kernel
theorem dX0_drawPower_20 : decode cX0_drawPower 20 = .ok (.ireturn, 1) := by decide +kernel
theorem dX0_drawPower_21 : decode cX0_drawPower 21 = .ok (.aload_n 0, 1) := by decide +kernel
theorem dX0_drawPower_22 : decode cX0_drawPower 22 = .ok (.getfield 49, 3) := by decide +kernel
theorem dX0_drawPower_25 : decode cX0_drawPower 25 = .ok (.iconst (-1), 1) := by decide +kernel
theorem dX0_drawPower_26 : decode cX0_drawPower 26 = .ok (.if_icmp .eq 13, 3) := by decide +kernel
theorem dX0_drawPower_29 : decode cX0_drawPower 29 = .ok (.aload_n 0, 1) := by decide +kernel
theorem dX0_drawPower_30 : decode cX0_drawPower 30 = .ok (.dup, 1) := by decide +kernel
theorem dX0_drawPower_31 : decode cX0_drawPower 31 = .ok (.getfield 49, 3) := by decide +kernel
theorem dX0_drawPower_34 : decode cX0_drawPower 34 = .ok (.iconst 1, 1) := by decide +kernel
theorem dX0_drawPower_35 : decode cX0_drawPower 35 = .ok (.isub, 1) := by decide +kernel
theorem dX0_drawPower_36 : decode cX0_drawPower 36 = .ok (.putfield 49, 3) := by decide +kernel
theorem dX0_drawPower_39 : decode cX0_drawPower 39 = .ok (.iconst 1, 1) := by decide +kernel
theorem dX0_drawPower_40 : decode cX0_drawPower 40 = .ok (.ireturn, 1) := by decide +kernel
theorem dX0_putTape_0 : decode cX0_putTape 0 = .ok (.iload_n 1, 1) := by decide +kernel
theorem dX0_putTape_1 : decode cX0_putTape 1 = .ok (.bipush 9, 2) := by decide +kernel
theorem dX0_putTape_3 : decode cX0_putTape 3 = .ok (.imul, 1) := by decide +kernel
theorem dX0_putTape_4 : decode cX0_putTape 4 = .ok (.istore_n 3, 1) := by decide +kernel
theorem dX0_putTape_5 : decode cX0_putTape 5 = .ok (.aload_n 0, 1) := by decide +kernel
theorem dX0_putTape_6 : decode cX0_putTape 6 = .ok (.getfield 33, 3) := by decide +kernel
theorem dX0_putTape_9 : decode cX0_putTape 9 = .ok (.iconst 0, 1) := by decide +kernel
theorem dX0_putTape_10 : decode cX0_putTape 10 = .ok (.aload_n 0, 1) := by decide +kernel
theorem dX0_putTape_11 : decode cX0_putTape 11 = .ok (.getfield 9, 3) := by decide +kernel
theorem dX0_putTape_14 : decode cX0_putTape 14 = .ok (.iload_n 3, 1) := by decide +kernel
theorem dX0_putTape_15 : decode cX0_putTape 15 = .ok (.bipush 8, 2) := by decide +kernel
theorem dX0_putTape_17 : decode cX0_putTape 17 = .ok (.invokestatic 106, 3) := by decide +kernel
theorem dX0_putTape_20 : decode cX0_putTape 20 = .ok (.aload_n 0, 1) := by decide +kernel
theorem dX0_putTape_21 : decode cX0_putTape 21 = .ok (.getfield 9, 3) := by decide +kernel
theorem dX0_putTape_24 : decode cX0_putTape 24 = .ok (.iload_n 3, 1) := by decide +kernel
theorem dX0_putTape_25 : decode cX0_putTape 25 = .ok (.bipush 8, 2) := by decide +kernel
theorem dX0_putTape_27 : decode cX0_putTape 27 = .ok (.iadd, 1) := by decide +kernel
theorem dX0_putTape_28 : decode cX0_putTape 28 = .ok (.iload_n 2, 1) := by decide +kernel
theorem dX0_putTape_29 : decode cX0_putTape 29 = .ok (.i2l, 1) := by decide +kernel
theorem dX0_putTape_30 : decode cX0_putTape 30 = .ok (.lastore, 1) := by decide +kernel
theorem dX0_putTape_31 : decode cX0_putTape 31 = .ok (.aload_n 0, 1) := by decide +kernel
theorem dX0_putTape_32 : decode cX0_putTape 32 = .ok (.getfield 9, 3) := by decide +kernel
theorem dX0_putTape_35 : decode cX0_putTape 35 = .ok (.iload_n 3, 1) := by decide +kernel
theorem dX0_putTape_36 : decode cX0_putTape 36 = .ok (.bipush 8, 2) := by decide +kernel
theorem dX0_putTape_38 : decode cX0_putTape 38 = .ok (.iadd, 1) := by decide +kernel
theorem dX0_putTape_39 : decode cX0_putTape 39 = .ok (.dup2, 1) := by decide +kernel
theorem dX0_putTape_40 : decode cX0_putTape 40 = .ok (.laload, 1) := by decide +kernel
theorem dX0_putTape_41 : decode cX0_putTape 41 = .ok (.aload_n 0, 1) := by decide +kernel
theorem dX0_putTape_42 : decode cX0_putTape 42 = .ok (.iload_n 3, 1) := by decide +kernel
theorem dX0_putTape_43 : decode cX0_putTape 43 = .ok (.invokevirtual 164, 3) := by decide +kernel
theorem dX0_putTape_46 : decode cX0_putTape 46 = .ok (.bipush 16, 2) := by decide +kernel
theorem dX0_putTape_48 : decode cX0_putTape 48 = .ok (.lshl, 1) := by decide +kernel
theorem dX0_putTape_49 : decode cX0_putTape 49 = .ok (.lor, 1) := by decide +kernel
theorem dX0_putTape_50 : decode cX0_putTape 50 = .ok (.lastore, 1) := by decide +kernel
theorem dX0_putTape_51 : decode cX0_putTape 51 = .ok (.aload_n 0, 1) := by decide +kernel
theorem dX0_putTape_52 : decode cX0_putTape 52 = .ok (.getfield 9, 3) := by decide +kernel
theorem dX0_putTape_55 : decode cX0_putTape 55 = .ok (.iload_n 3, 1) := by decide +kernel
theorem dX0_putTape_56 : decode cX0_putTape 56 = .ok (.aload_n 0, 1) := by decide +kernel
theorem dX0_putTape_57 : decode cX0_putTape 57 = .ok (.getfield 13, 3) := by decide +kernel
theorem dX0_putTape_60 : decode cX0_putTape 60 = .ok (.iload_n 3, 1) := by decide +kernel
theorem dX0_putTape_61 : decode cX0_putTape 61 = .ok (.bipush 9, 2) := by decide +kernel
theorem dX0_putTape_63 : decode cX0_putTape 63 = .ok (.invokestatic 106, 3) := by decide +kernel
theorem dX0_putTape_66 : decode cX0_putTape 66 = .ok (.aload_n 0, 1) := by decide +kernel
theorem dX0_putTape_67 : decode cX0_putTape 67 = .ok (.iload_n 1, 1) := by decide +kernel
theorem dX0_putTape_68 : decode cX0_putTape 68 = .ok (.iconst 2, 1) := by decide +kernel
theorem dX0_putTape_69 : decode cX0_putTape 69 = .ok (.invokevirtual 145, 3) := by decide +kernel
theorem dX0_putTape_72 : decode cX0_putTape 72 = .ok (.return_, 1) := by decide +kernel
theorem dX0_clearTape_0 : decode cX0_clearTape 0 = .ok (.aload_n 0, 1) := by decide +kernel
theorem dX0_clearTape_1 : decode cX0_clearTape 1 = .ok (.getfield 33, 3) := by decide +kernel
theorem dX0_clearTape_4 : decode cX0_clearTape 4 = .ok (.lconst 0, 1) := by decide +kernel
theorem dX0_clearTape_5 : decode cX0_clearTape 5 = .ok (.invokestatic 168, 3) := by decide +kernel
theorem dX0_clearTape_8 : decode cX0_clearTape 8 = .ok (.aload_n 0, 1) := by decide +kernel
theorem dX0_clearTape_9 : decode cX0_clearTape 9 = .ok (.iconst 0, 1) := by decide +kernel
theorem dX0_clearTape_10 : decode cX0_clearTape 10 = .ok (.putfield 36, 3) := by decide +kernel
theorem dX0_clearTape_13 : decode cX0_clearTape 13 = .ok (.return_, 1) := by decide +kernel
theorem dX0_isAsWritten_0 : decode cX0_isAsWritten 0 = .ok (.iload_n 1, 1) := by decide +kernel
theorem dX0_isAsWritten_1 : decode cX0_isAsWritten 1 = .ok (.istore_n 2, 1) := by decide +kernel
theorem dX0_isAsWritten_2 : decode cX0_isAsWritten 2 = .ok (.iload_n 2, 1) := by decide +kernel
theorem dX0_isAsWritten_3 : decode cX0_isAsWritten 3 = .ok (.iload_n 1, 1) := by decide +kernel
theorem dX0_isAsWritten_4 : decode cX0_isAsWritten 4 = .ok (.bipush 9, 2) := by decide +kernel
theorem dX0_isAsWritten_6 : decode cX0_isAsWritten 6 = .ok (.iadd, 1) := by decide +kernel
theorem dX0_isAsWritten_7 : decode cX0_isAsWritten 7 = .ok (.if_icmp .ge 27, 3) := by decide +kernel
theorem dX0_isAsWritten_10 : decode cX0_isAsWritten 10 = .ok (.aload_n 0, 1) := by decide +kernel
theorem dX0_isAsWritten_11 : decode cX0_isAsWritten 11 = .ok (.getfield 9, 3) := by decide +kernel
theorem dX0_isAsWritten_14 : decode cX0_isAsWritten 14 = .ok (.iload_n 2, 1) := by decide +kernel
theorem dX0_isAsWritten_15 : decode cX0_isAsWritten 15 = .ok (.laload, 1) := by decide +kernel
theorem dX0_isAsWritten_16 : decode cX0_isAsWritten 16 = .ok (.aload_n 0, 1) := by decide +kernel
theorem dX0_isAsWritten_17 : decode cX0_isAsWritten 17 = .ok (.getfield 13, 3) := by decide +kernel
theorem dX0_isAsWritten_20 : decode cX0_isAsWritten 20 = .ok (.iload_n 2, 1) := by decide +kernel
theorem dX0_isAsWritten_21 : decode cX0_isAsWritten 21 = .ok (.laload, 1) := by decide +kernel
theorem dX0_isAsWritten_22 : decode cX0_isAsWritten 22 = .ok (.lcmp, 1) := by decide +kernel
theorem dX0_isAsWritten_23 : decode cX0_isAsWritten 23 = .ok (.ifCond .eq 5, 3) := by decide +kernel
theorem dX0_isAsWritten_26 : decode cX0_isAsWritten 26 = .ok (.iconst 0, 1) := by decide +kernel
theorem dX0_isAsWritten_27 : decode cX0_isAsWritten 27 = .ok (.ireturn, 1) := by decide +kernel
theorem dX0_isAsWritten_28 : decode cX0_isAsWritten 28 = .ok (.iinc 2 1, 3) := by decide +kernel
theorem dX0_isAsWritten_31 : decode cX0_isAsWritten 31 = .ok (.goto (-29), 3) := by decide +kernel
theorem dX0_isAsWritten_34 : decode cX0_isAsWritten 34 = .ok (.iconst 1, 1) := by decide +kernel
theorem dX0_isAsWritten_35 : decode cX0_isAsWritten 35 = .ok (.ireturn, 1) := by decide +kernel
theorem dX0_hasItsCheck_0 : decode cX0_hasItsCheck 0 = .ok (.aload_n 0, 1) := by decide +kernel
theorem dX0_hasItsCheck_1 : decode cX0_hasItsCheck 1 = .ok (.getfield 9, 3) := by decide +kernel
theorem dX0_hasItsCheck_4 : decode cX0_hasItsCheck 4 = .ok (.iload_n 1, 1) := by decide +kernel
theorem dX0_hasItsCheck_5 : decode cX0_hasItsCheck 5 = .ok (.bipush 8, 2) := by decide +kernel
theorem dX0_hasItsCheck_7 : decode cX0_hasItsCheck 7 = .ok (.iadd, 1) := by decide +kernel
theorem dX0_hasItsCheck_8 : decode cX0_hasItsCheck 8 = .ok (.laload, 1) := by decide +kernel
theorem dX0_hasItsCheck_9 : decode cX0_hasItsCheck 9 = .ok (.bipush 16, 2) := by decide +kernel
theorem dX0_hasItsCheck_11 : decode cX0_hasItsCheck 11 = .ok (.lushr, 1) := by decide +kernel
theorem dX0_hasItsCheck_12 : decode cX0_hasItsCheck 12 = .ok (.aload_n 0, 1) := by decide +kernel
theorem dX0_hasItsCheck_13 : decode cX0_hasItsCheck 13 = .ok (.iload_n 1, 1) := by decide +kernel
theorem dX0_hasItsCheck_14 : decode cX0_hasItsCheck 14 = .ok (.invokevirtual 164, 3) := by decide +kernel
theorem dX0_hasItsCheck_17 : decode cX0_hasItsCheck 17 = .ok (.lcmp, 1) := by decide +kernel
theorem dX0_hasItsCheck_18 : decode cX0_hasItsCheck 18 = .ok (.ifCond .ne 7, 3) := by decide +kernel
theorem dX0_hasItsCheck_21 : decode cX0_hasItsCheck 21 = .ok (.iconst 1, 1) := by decide +kernel
theorem dX0_hasItsCheck_22 : decode cX0_hasItsCheck 22 = .ok (.goto 4, 3) := by decide +kernel
theorem dX0_hasItsCheck_25 : decode cX0_hasItsCheck 25 = .ok (.iconst 0, 1) := by decide +kernel
theorem dX0_hasItsCheck_26 : decode cX0_hasItsCheck 26 = .ok (.ireturn, 1) := by decide +kernel
theorem dX0_checkOf_0 : decode cX0_checkOf 0 = .ok (.ldc2_w 171, 3) := by decide +kernel
