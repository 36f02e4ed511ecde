theorem dX1_outs_29 : decode cX1_outs 29 = .ok (.iconst 0, 1) := by decide +kernel
theorem dX1_outs_30 : decode cX1_outs 30 = .ok (.istore 4, 2) := by decide +kernel
theorem dX1_outs_32 : decode cX1_outs 32 = .ok (.iload 4, 2) := by decide +kernel
theorem dX1_outs_34 : decode cX1_outs 34 = .ok (.bipush 8, 2) := by decide +kernel
theorem dX1_outs_36 : decode cX1_outs 36 = .ok (.if_icmp .ge 39, 3) := by decide +kernel
theorem dX1_outs_39 : decode cX1_outs 39 = .ok (.iload_n 1, 1) := by decide +kernel
theorem dX1_outs_40 : decode cX1_outs 40 = .ok (.iload 4, 2) := by decide +kernel
theorem dX1_outs_42 : decode cX1_outs 42 = .ok (.iadd, 1) := by decide +kernel
theorem dX1_outs_43 : decode cX1_outs 43 = .ok (.aload_n 0, 1) := by decide +kernel
theorem dX1_outs_44 : decode cX1_outs 44 = .ok (.getfield 90, 3) := by decide +kernel
theorem dX1_outs_47 : decode cX1_outs 47 = .ok (.if_icmp .ge 28, 3) := by decide +kernel
theorem dX1_outs_50 : decode cX1_outs 50 = .ok (.lload_n 2, 1) := by decide +kernel
theorem dX1_outs_51 : decode cX1_outs 51 = .ok (.aload_n 0, 1) := by decide +kernel
theorem dX1_outs_52 : decode cX1_outs 52 = .ok (.getfield 13, 3) := by decide +kernel
theorem dX1_outs_55 : decode cX1_outs 55 = .ok (.iload_n 1, 1) := by decide +kernel
theorem dX1_outs_56 : decode cX1_outs 56 = .ok (.iload 4, 2) := by decide +kernel
theorem dX1_outs_58 : decode cX1_outs 58 = .ok (.iadd, 1) := by decide +kernel
theorem dX1_outs_59 : decode cX1_outs 59 = .ok (.iaload, 1) := by decide +kernel
theorem dX1_outs_60 : decode cX1_outs 60 = .ok (.i2l, 1) := by decide +kernel
theorem dX1_outs_61 : decode cX1_outs 61 = .ok (.bipush 8, 2) := by decide +kernel
theorem dX1_outs_63 : decode cX1_outs 63 = .ok (.iload 4, 2) := by decide +kernel
theorem dX1_outs_65 : decode cX1_outs 65 = .ok (.imul, 1) := by decide +kernel
theorem dX1_outs_66 : decode cX1_outs 66 = .ok (.lshl, 1) := by decide +kernel
theorem dX1_outs_67 : decode cX1_outs 67 = .ok (.lor, 1) := by decide +kernel
theorem dX1_outs_68 : decode cX1_outs 68 = .ok (.lstore_n 2, 1) := by decide +kernel
theorem dX1_outs_69 : decode cX1_outs 69 = .ok (.iinc 4 1, 3) := by decide +kernel
theorem dX1_outs_72 : decode cX1_outs 72 = .ok (.goto (-40), 3) := by decide +kernel
theorem dX1_outs_75 : decode cX1_outs 75 = .ok (.lload_n 2, 1) := by decide +kernel
theorem dX1_outs_76 : decode cX1_outs 76 = .ok (.lreturn, 1) := by decide +kernel
theorem dX1_tag_0 : decode cX1_tag 0 = .ok (.aload_n 0, 1) := by decide +kernel
theorem dX1_tag_1 : decode cX1_tag 1 = .ok (.iload_n 1, 1) := by decide +kernel
theorem dX1_tag_2 : decode cX1_tag 2 = .ok (.iload_n 2, 1) := by decide +kernel
theorem dX1_tag_3 : decode cX1_tag 3 = .ok (.invokestatic 75, 3) := by decide +kernel
theorem dX1_tag_6 : decode cX1_tag 6 = .ok (.iconst 1, 1) := by decide +kernel
theorem dX1_tag_7 : decode cX1_tag 7 = .ok (.invokevirtual 66, 3) := by decide +kernel
theorem dX1_tag_10 : decode cX1_tag 10 = .ok (.ifCond .eq 5, 3) := by decide +kernel
theorem dX1_tag_13 : decode cX1_tag 13 = .ok (.iconst 0, 1) := by decide +kernel
theorem dX1_tag_14 : decode cX1_tag 14 = .ok (.ireturn, 1) := by decide +kernel
theorem dX1_tag_15 : decode cX1_tag 15 = .ok (.iload_n 1, 1) := by decide +kernel
theorem dX1_tag_16 : decode cX1_tag 16 = .ok (.iload_n 2, 1) := by decide +kernel
theorem dX1_tag_17 : decode cX1_tag 17 = .ok (.invokestatic 58, 3) := by decide +kernel
theorem dX1_tag_20 : decode cX1_tag 20 = .ok (.istore_n 3, 1) := by decide +kernel
theorem dX1_tag_21 : decode cX1_tag 21 = .ok (.aload_n 0, 1) := by decide +kernel
theorem dX1_tag_22 : decode cX1_tag 22 = .ok (.iload_n 1, 1) := by decide +kernel
theorem dX1_tag_23 : decode cX1_tag 23 = .ok (.iload_n 2, 1) := by decide +kernel
theorem dX1_tag_24 : decode cX1_tag 24 = .ok (.invokevirtual 93, 3) := by decide +kernel
theorem dX1_tag_27 : decode cX1_tag 27 = .ok (.iconst 2, 1) := by decide +kernel
theorem dX1_tag_28 : decode cX1_tag 28 = .ok (.if_icmp .eq 7, 3) := by decide +kernel
theorem dX1_tag_31 : decode cX1_tag 31 = .ok (.iconst (-1), 1) := by decide +kernel
theorem dX1_tag_32 : decode cX1_tag 32 = .ok (.goto 22, 3) := by decide +kernel
theorem dX1_tag_35 : decode cX1_tag 35 = .ok (.aload_n 0, 1) := by decide +kernel
theorem dX1_tag_36 : decode cX1_tag 36 = .ok (.iload_n 3, 1) := by decide +kernel
theorem dX1_tag_37 : decode cX1_tag 37 = .ok (.bipush 64, 2) := by decide +kernel
theorem dX1_tag_39 : decode cX1_tag 39 = .ok (.invokevirtual 96, 3) := by decide +kernel
theorem dX1_tag_42 : decode cX1_tag 42 = .ok (.sipush 256, 3) := by decide +kernel
theorem dX1_tag_45 : decode cX1_tag 45 = .ok (.aload_n 0, 1) := by decide +kernel
theorem dX1_tag_46 : decode cX1_tag 46 = .ok (.iload_n 3, 1) := by decide +kernel
theorem dX1_tag_47 : decode cX1_tag 47 = .ok (.bipush 65, 2) := by decide +kernel
theorem dX1_tag_49 : decode cX1_tag 49 = .ok (.invokevirtual 96, 3) := by decide +kernel
theorem dX1_tag_52 : decode cX1_tag 52 = .ok (.imul, 1) := by decide +kernel
theorem dX1_tag_53 : decode cX1_tag 53 = .ok (.iadd, 1) := by decide +kernel
theorem dX1_tag_54 : decode cX1_tag 54 = .ok (.ireturn, 1) := by decide +kernel
theorem dX1_cell_0 : decode cX1_cell 0 = .ok (.aload_n 0, 1) := by decide +kernel
theorem dX1_cell_1 : decode cX1_cell 1 = .ok (.iload_n 1, 1) := by decide +kernel
theorem dX1_cell_2 : decode cX1_cell 2 = .ok (.iload_n 2, 1) := by decide +kernel
theorem dX1_cell_3 : decode cX1_cell 3 = .ok (.invokestatic 75, 3) := by decide +kernel
theorem dX1_cell_6 : decode cX1_cell 6 = .ok (.iconst 1, 1) := by decide +kernel
theorem dX1_cell_7 : decode cX1_cell 7 = .ok (.invokevirtual 66, 3) := by decide +kernel
theorem dX1_cell_10 : decode cX1_cell 10 = .ok (.ifCond .eq 7, 3) := by decide +kernel
theorem dX1_cell_13 : decode cX1_cell 13 = .ok (.iconst 0, 1) := by decide +kernel
theorem dX1_cell_14 : decode cX1_cell 14 = .ok (.goto 9, 3) := by decide +kernel
theorem dX1_cell_17 : decode cX1_cell 17 = .ok (.aload_n 0, 1) := by decide +kernel
theorem dX1_cell_18 : decode cX1_cell 18 = .ok (.iload_n 1, 1) := by decide +kernel
theorem dX1_cell_19 : decode cX1_cell 19 = .ok (.iload_n 2, 1) := by decide +kernel
theorem dX1_cell_20 : decode cX1_cell 20 = .ok (.invokevirtual 93, 3) := by decide +kernel
theorem dX1_cell_23 : decode cX1_cell 23 = .ok (.ireturn, 1) := by decide +kernel
theorem dX1_at_0 : decode cX1_at 0 = .ok (.aload_n 0, 1) := by decide +kernel
theorem dX1_at_1 : decode cX1_at 1 = .ok (.iload_n 1, 1) := by decide +kernel
theorem dX1_at_2 : decode cX1_at 2 = .ok (.iload_n 2, 1) := by decide +kernel
theorem dX1_at_3 : decode cX1_at 3 = .ok (.invokestatic 75, 3) := by decide +kernel
theorem dX1_at_6 : decode cX1_at 6 = .ok (.iconst 1, 1) := by decide +kernel
theorem dX1_at_7 : decode cX1_at 7 = .ok (.invokevirtual 66, 3) := by decide +kernel
theorem dX1_at_10 : decode cX1_at 10 = .ok (.ifCond .ne 36, 3) := by decide +kernel
theorem dX1_at_13 : decode cX1_at 13 = .ok (.aload_n 0, 1) := by decide +kernel
theorem dX1_at_14 : decode cX1_at 14 = .ok (.aload_n 0, 1) := by decide +kernel
theorem dX1_at_15 : decode cX1_at 15 = .ok (.iload_n 1, 1) := by decide +kernel
theorem dX1_at_16 : decode cX1_at 16 = .ok (.iload_n 2, 1) := by decide +kernel
theorem dX1_at_17 : decode cX1_at 17 = .ok (.invokevirtual 93, 3) := by decide +kernel
theorem dX1_at_20 : decode cX1_at 20 = .ok (.iconst 2, 1) := by decide +kernel
theorem dX1_at_21 : decode cX1_at 21 = .ok (.if_icmp .lt 13, 3) := by decide +kernel
theorem dX1_at_24 : decode cX1_at 24 = .ok (.iload_n 3, 1) := by decide +kernel
theorem dX1_at_25 : decode cX1_at 25 = .ok (.iconst 0, 1) := by decide +kernel
theorem dX1_at_26 : decode cX1_at 26 = .ok (.bipush 69, 2) := by decide +kernel
theorem dX1_at_28 : decode cX1_at 28 = .ok (.invokestatic 44, 3) := by decide +kernel
theorem dX1_at_31 : decode cX1_at 31 = .ok (.ifCond .ne 7, 3) := by decide +kernel
theorem dX1_at_34 : decode cX1_at 34 = .ok (.iconst 1, 1) := by decide +kernel
theorem dX1_at_35 : decode cX1_at 35 = .ok (.goto 4, 3) := by decide +kernel
theorem dX1_at_38 : decode cX1_at 38 = .ok (.iconst 0, 1) := by decide +kernel
theorem dX1_at_39 : decode cX1_at 39 = .ok (.iconst 2, 1) := by decide +kernel
theorem dX1_at_40 : decode cX1_at 40 = .ok (.invokevirtual 66, 3) := by decide +kernel
theorem dX1_at_43 : decode cX1_at 43 = .ok (.ifCond .eq 5, 3) := by decide +kernel
theorem dX1_at_46 : decode cX1_at 46 = .ok (.iconst 0, 1) := by decide +kernel
theorem dX1_at_47 : decode cX1_at 47 = .ok (.ireturn, 1) := by decide +kernel
theorem dX1_at_48 : decode cX1_at 48 = .ok (.aload_n 0, 1) := by decide +kernel
theorem dX1_at_49 : decode cX1_at 49 = .ok (.iload_n 1, 1) := by decide +kernel
theorem dX1_at_50 : decode cX1_at 50 = .ok (.iload_n 2, 1) := by decide +kernel
theorem dX1_at_51 : decode cX1_at 51 = .ok (.invokestatic 58, 3) := by decide +kernel
theorem dX1_at_54 : decode cX1_at 54 = .ok (.iload_n 3, 1) := by decide +kernel
theorem dX1_at_55 : decode cX1_at 55 = .ok (.invokevirtual 96, 3) := by decide +kernel
theorem dX1_at_58 : decode cX1_at 58 = .ok (.ireturn, 1) := by decide +kernel
theorem dX1_noDisk_0 : decode cX1_noDisk 0 = .ok (.iload_n 0, 1) := by decide +kernel
theorem dX1_noDisk_1 : decode cX1_noDisk 1 = .ok (.iconst 0, 1) := by decide +kernel
theorem dX1_noDisk_2 : decode cX1_noDisk 2 = .ok (.bipush 15, 2) := by decide +kernel
theorem dX1_noDisk_4 : decode cX1_noDisk 4 = .ok (.invokestatic 44, 3) := by decide +kernel
theorem dX1_noDisk_7 : decode cX1_noDisk 7 = .ok (.ifCond .ne 7, 3) := by decide +kernel
theorem dX1_noDisk_10 : decode cX1_noDisk 10 = .ok (.iconst 1, 1) := by decide +kernel
theorem dX1_noDisk_11 : decode cX1_noDisk 11 = .ok (.goto 4, 3) := by decide +kernel
theorem dX1_noDisk_14 : decode cX1_noDisk 14 = .ok (.iconst 0, 1) := by decide +kernel
theorem dX1_noDisk_15 : decode cX1_noDisk 15 = .ok (.ireturn, 1) := by decide +kernel
theorem dX1_fail_0 : decode cX1_fail 0 = .ok (.aload_n 0, 1) := by decide +kernel
theorem dX1_fail_1 : decode cX1_fail 1 = .ok (.iload_n 1, 1) := by decide +kernel
theorem dX1_fail_2 : decode cX1_fail 2 = .ok (.invokestatic 99, 3) := by decide +kernel
theorem dX1_fail_5 : decode cX1_fail 5 = .ok (.iconst 1, 1) := by decide +kernel
theorem dX1_fail_6 : decode cX1_fail 6 = .ok (.invokevirtual 66, 3) := by decide +kernel
theorem dX1_fail_9 : decode cX1_fail 9 = .ok (.ifCond .ne 12, 3) := by decide +kernel
theorem dX1_fail_12 : decode cX1_fail 12 = .ok (.aload_n 0, 1) := by decide +kernel
theorem dX1_fail_13 : decode cX1_fail 13 = .ok (.getfield 16, 3) := by decide +kernel
theorem dX1_fail_16 : decode cX1_fail 16 = .ok (.iload_n 1, 1) := by decide +kernel
theorem dX1_fail_17 : decode cX1_fail 17 = .ok (.baload, 1) := by decide +kernel
theorem dX1_fail_18 : decode cX1_fail 18 = .ok (.ifCond .ne 5, 3) := by decide +kernel
theorem dX1_fail_21 : decode cX1_fail 21 = .ok (.iconst 0, 1) := by decide +kernel
theorem dX1_fail_22 : decode cX1_fail 22 = .ok (.ireturn, 1) := by decide +kernel
theorem dX1_fail_23 : decode cX1_fail 23 = .ok (.aload_n 0, 1) := by decide +kernel
theorem dX1_fail_24 : decode cX1_fail 24 = .ok (.getfield 16, 3) := by decide +kernel
theorem dX1_fail_27 : decode cX1_fail 27 = .ok (.iload_n 1, 1) := by decide +kernel
theorem dX1_fail_28 : decode cX1_fail 28 = .ok (.iconst 0, 1) := by decide +kernel
theorem dX1_fail_29 : decode cX1_fail 29 = .ok (.bastore, 1) := by decide +kernel
theorem dX1_fail_30 : decode cX1_fail 30 = .ok (.iconst 1, 1) := by decide +kernel
theorem dX1_fail_31 : decode cX1_fail 31 = .ok (.ireturn, 1) := by decide +kernel
theorem dX1_replace_0 : decode cX1_replace 0 = .ok (.aload_n 0, 1) := by decide +kernel
theorem dX1_replace_1 : decode cX1_replace 1 = .ok (.iload_n 1, 1) := by decide +kernel
theorem dX1_replace_2 : decode cX1_replace 2 = .ok (.invokestatic 99, 3) := by decide +kernel
theorem dX1_replace_5 : decode cX1_replace 5 = .ok (.iconst 1, 1) := by decide +kernel
theorem dX1_replace_6 : decode cX1_replace 6 = .ok (.invokevirtual 66, 3) := by decide +kernel
theorem dX1_replace_9 : decode cX1_replace 9 = .ok (.ifCond .ne 12, 3) := by decide +kernel
theorem dX1_replace_12 : decode cX1_replace 12 = .ok (.aload_n 0, 1) := by decide +kernel
theorem dX1_replace_13 : decode cX1_replace 13 = .ok (.getfield 16, 3) := by decide +kernel
theorem dX1_replace_16 : decode cX1_replace 16 = .ok (.iload_n 1, 1) := by decide +kernel
theorem dX1_replace_17 : decode cX1_replace 17 = .ok (.baload, 1) := by decide +kernel
theorem dX1_replace_18 : decode cX1_replace 18 = .ok (.ifCond .eq 5, 3) := by decide +kernel
theorem dX1_replace_21 : decode cX1_replace 21 = .ok (.iconst 0, 1) := by decide +kernel
theorem dX1_replace_22 : decode cX1_replace 22 = .ok (.ireturn, 1) := by decide +kernel
theorem dX1_replace_23 : decode cX1_replace 23 = .ok (.aload_n 0, 1) := by decide +kernel
theorem dX1_replace_24 : decode cX1_replace 24 = .ok (.getfield 16, 3) := by decide +kernel
theorem dX1_replace_27 : decode cX1_replace 27 = .ok (.iload_n 1, 1) := by decide +kernel
theorem dX1_replace_28 : decode cX1_replace 28 = .ok (.iconst 1, 1) := by decide +kernel
theorem dX1_replace_29 : decode cX1_replace 29 = .ok (.bastore, 1) := by decide +kernel
theorem dX1_replace_30 : decode cX1_replace 30 = .ok (.iconst 0, 1) := by decide +kernel
theorem dX1_replace_31 : decode cX1_replace 31 = .ok (.istore_n 2, 1) := by decide +kernel
theorem dX1_replace_32 : decode cX1_replace 32 = .ok (.iload_n 2, 1) := by decide +kernel
theorem dX1_replace_33 : decode cX1_replace 33 = .ok (.bipush 66, 2) := by decide +kernel
theorem dX1_replace_35 : decode cX1_replace 35 = .ok (.if_icmp .ge 20, 3) := by decide +kernel
theorem dX1_replace_38 : decode cX1_replace 38 = .ok (.aload_n 0, 1) := by decide +kernel
theorem dX1_replace_39 : decode cX1_replace 39 = .ok (.getfield 20, 3) := by decide +kernel
theorem dX1_replace_42 : decode cX1_replace 42 = .ok (.iload_n 1, 1) := by decide +kernel
theorem dX1_replace_43 : decode cX1_replace 43 = .ok (.iload_n 2, 1) := by decide +kernel
theorem dX1_replace_44 : decode cX1_replace 44 = .ok (.invokestatic 58, 3) := by decide +kernel
theorem dX1_replace_47 : decode cX1_replace 47 = .ok (.iconst 0, 1) := by decide +kernel
theorem dX1_replace_48 : decode cX1_replace 48 = .ok (.bastore, 1) := by decide +kernel
theorem dX1_replace_49 : decode cX1_replace 49 = .ok (.iinc 2 1, 3) := by decide +kernel
theorem dX1_replace_52 : decode cX1_replace 52 = .ok (.goto (-20), 3) := by decide +kernel
theorem dX1_replace_55 : decode cX1_replace 55 = .ok (.iconst 1, 1) := by decide +kernel
theorem dX1_replace_56 : decode cX1_replace 56 = .ok (.ireturn, 1) := by decide +kernel
theorem dX1_corrupt_0 : decode cX1_corrupt 0 = .ok (.aload_n 0, 1) := by decide +kernel
theorem dX1_corrupt_1 : decode cX1_corrupt 1 = .ok (.iload_n 1, 1) := by decide +kernel
theorem dX1_corrupt_2 : decode cX1_corrupt 2 = .ok (.iload_n 2, 1) := by decide +kernel
theorem dX1_corrupt_3 : decode cX1_corrupt 3 = .ok (.invokestatic 75, 3) := by decide +kernel
theorem dX1_corrupt_6 : decode cX1_corrupt 6 = .ok (.ifCond .ne 27, 3) := by decide +kernel
theorem dX1_corrupt_9 : decode cX1_corrupt 9 = .ok (.iload 6, 2) := by decide +kernel
theorem dX1_corrupt_11 : decode cX1_corrupt 11 = .ok (.iconst 1, 1) := by decide +kernel
theorem dX1_corrupt_12 : decode cX1_corrupt 12 = .ok (.bipush 8, 2) := by decide +kernel
theorem dX1_corrupt_14 : decode cX1_corrupt 14 = .ok (.invokestatic 44, 3) := by decide +kernel
theorem dX1_corrupt_17 : decode cX1_corrupt 17 = .ok (.ifCond .eq 16, 3) := by decide +kernel
theorem dX1_corrupt_20 : decode cX1_corrupt 20 = .ok (.iload_n 3, 1) := by decide +kernel
theorem dX1_corrupt_21 : decode cX1_corrupt 21 = .ok (.iconst 0, 1) := by decide +kernel
theorem dX1_corrupt_22 : decode cX1_corrupt 22 = .ok (.bipush 70, 2) := by decide +kernel
theorem dX1_corrupt_24 : decode cX1_corrupt 24 = .ok (.iload 6, 2) := by decide +kernel
theorem dX1_corrupt_26 : decode cX1_corrupt 26 = .ok (.isub, 1) := by decide +kernel
theorem dX1_corrupt_27 : decode cX1_corrupt 27 = .ok (.invokestatic 44, 3) := by decide +kernel
theorem dX1_corrupt_30 : decode cX1_corrupt 30 = .ok (.ifCond .ne 7, 3) := by decide +kernel
theorem dX1_corrupt_33 : decode cX1_corrupt 33 = .ok (.iconst 1, 1) := by decide +kernel
theorem dX1_corrupt_34 : decode cX1_corrupt 34 = .ok (.goto 4, 3) := by decide +kernel
theorem dX1_corrupt_37 : decode cX1_corrupt 37 = .ok (.iconst 0, 1) := by decide +kernel
theorem dX1_corrupt_38 : decode cX1_corrupt 38 = .ok (.iconst 1, 1) := by decide +kernel
theorem dX1_corrupt_39 : decode cX1_corrupt 39 = .ok (.invokevirtual 66, 3) := by decide +kernel
theorem dX1_corrupt_42 : decode cX1_corrupt 42 = .ok (.ifCond .ne 13, 3) := by decide +kernel
theorem dX1_corrupt_45 : decode cX1_corrupt 45 = .ok (.aload_n 0, 1) := by decide +kernel
theorem dX1_corrupt_46 : decode cX1_corrupt 46 = .ok (.iload_n 1, 1) := by decide +kernel
theorem dX1_corrupt_47 : decode cX1_corrupt 47 = .ok (.iload_n 2, 1) := by decide +kernel
theorem dX1_corrupt_48 : decode cX1_corrupt 48 = .ok (.invokevirtual 93, 3) := by decide +kernel
theorem dX1_corrupt_51 : decode cX1_corrupt 51 = .ok (.iconst 2, 1) := by decide +kernel
theorem dX1_corrupt_52 : decode cX1_corrupt 52 = .ok (.if_icmp .ge 5, 3) := by decide +kernel
theorem dX1_corrupt_55 : decode cX1_corrupt 55 = .ok (.iconst 0, 1) := by decide +kernel
theorem dX1_corrupt_56 : decode cX1_corrupt 56 = .ok (.ireturn, 1) := by decide +kernel
theorem dX1_corrupt_57 : decode cX1_corrupt 57 = .ok (.iload_n 1, 1) := by decide +kernel
theorem dX1_corrupt_58 : decode cX1_corrupt 58 = .ok (.iload_n 2, 1) := by decide +kernel
theorem dX1_corrupt_59 : decode cX1_corrupt 59 = .ok (.invokestatic 58, 3) := by decide +kernel
theorem dX1_corrupt_62 : decode cX1_corrupt 62 = .ok (.istore 7, 2) := by decide +kernel
theorem dX1_corrupt_64 : decode cX1_corrupt 64 = .ok (.aload_n 0, 1) := by decide +kernel
theorem dX1_corrupt_65 : decode cX1_corrupt 65 = .ok (.iload 7, 2) := by decide +kernel
theorem dX1_corrupt_67 : decode cX1_corrupt 67 = .ok (.iload_n 3, 1) := by decide +kernel
theorem dX1_corrupt_68 : decode cX1_corrupt 68 = .ok (.lload 4, 2) := by decide +kernel
theorem dX1_corrupt_70 : decode cX1_corrupt 70 = .ok (.iload 6, 2) := by decide +kernel
theorem dX1_corrupt_72 : decode cX1_corrupt 72 = .ok (.invokevirtual 102, 3) := by decide +kernel
theorem dX1_corrupt_75 : decode cX1_corrupt 75 = .ok (.aload_n 0, 1) := by decide +kernel
theorem dX1_corrupt_76 : decode cX1_corrupt 76 = .ok (.iload 7, 2) := by decide +kernel
theorem dX1_corrupt_78 : decode cX1_corrupt 78 = .ok (.invokevirtual 62, 3) := by decide +kernel
theorem dX1_corrupt_81 : decode cX1_corrupt 81 = .ok (.ifCond .eq 12, 3) := by decide +kernel
theorem dX1_corrupt_84 : decode cX1_corrupt 84 = .ok (.aload_n 0, 1) := by decide +kernel
theorem dX1_corrupt_85 : decode cX1_corrupt 85 = .ok (.iload 7, 2) := by decide +kernel
theorem dX1_corrupt_87 : decode cX1_corrupt 87 = .ok (.invokevirtual 106, 3) := by decide +kernel
theorem dX1_corrupt_90 : decode cX1_corrupt 90 = .ok (.ifCond .ne 5, 3) := by decide +kernel
theorem dX1_corrupt_93 : decode cX1_corrupt 93 = .ok (.iconst 1, 1) := by decide +kernel
theorem dX1_corrupt_94 : decode cX1_corrupt 94 = .ok (.ireturn, 1) := by decide +kernel
theorem dX1_corrupt_95 : decode cX1_corrupt 95 = .ok (.aload_n 0, 1) := by decide +kernel
theorem dX1_corrupt_96 : decode cX1_corrupt 96 = .ok (.iload 7, 2) := by decide +kernel
theorem dX1_corrupt_98 : decode cX1_corrupt 98 = .ok (.iload_n 3, 1) := by decide +kernel
theorem dX1_corrupt_99 : decode cX1_corrupt 99 = .ok (.lload 4, 2) := by decide +kernel
theorem dX1_corrupt_101 : decode cX1_corrupt 101 = .ok (.iload 6, 2) := by decide +kernel
theorem dX1_corrupt_103 : decode cX1_corrupt 103 = .ok (.invokevirtual 102, 3) := by decide +kernel
theorem dX1_corrupt_106 : decode cX1_corrupt 106 = .ok (.iconst 0, 1) := by decide +kernel
theorem dX1_corrupt_107 : decode cX1_corrupt 107 = .ok (.ireturn, 1) := by decide +kernel
theorem dX1_strike_0 : decode cX1_strike 0 = .ok (.iconst 0, 1) := by decide +kernel
theorem dX1_strike_1 : decode cX1_strike 1 = .ok (.istore 6, 2) := by decide +kernel
theorem dX1_strike_3 : decode cX1_strike 3 = .ok (.iload 6, 2) := by decide +kernel
theorem dX1_strike_5 : decode cX1_strike 5 = .ok (.iload 5, 2) := by decide +kernel
theorem dX1_strike_7 : decode cX1_strike 7 = .ok (.if_icmp .ge 36, 3) := by decide +kernel
theorem dX1_strike_10 : decode cX1_strike 10 = .ok (.aload_n 0, 1) := by decide +kernel
theorem dX1_strike_11 : decode cX1_strike 11 = .ok (.getfield 28, 3) := by decide +kernel
theorem dX1_strike_14 : decode cX1_strike 14 = .ok (.bipush 70, 2) := by decide +kernel
theorem dX1_strike_16 : decode cX1_strike 16 = .ok (.iload_n 1, 1) := by decide +kernel
theorem dX1_strike_17 : decode cX1_strike 17 = .ok (.imul, 1) := by decide +kernel
theorem dX1_strike_18 : decode cX1_strike 18 = .ok (.iload_n 2, 1) := by decide +kernel
theorem dX1_strike_19 : decode cX1_strike 19 = .ok (.iadd, 1) := by decide +kernel
theorem dX1_strike_20 : decode cX1_strike 20 = .ok (.iload 6, 2) := by decide +kernel
theorem dX1_strike_22 : decode cX1_strike 22 = .ok (.iadd, 1) := by decide +kernel
theorem dX1_strike_23 : decode cX1_strike 23 = .ok (.dup2, 1) := by decide +kernel
theorem dX1_strike_24 : decode cX1_strike 24 = .ok (.baload, 1) := by decide +kernel
theorem dX1_strike_25 : decode cX1_strike 25 = .ok (.lload_n 3, 1) := by decide +kernel
theorem dX1_strike_26 : decode cX1_strike 26 = .ok (.bipush 8, 2) := by decide +kernel
theorem dX1_strike_28 : decode cX1_strike 28 = .ok (.iload 6, 2) := by decide +kernel
theorem dX1_strike_30 : decode cX1_strike 30 = .ok (.imul, 1) := by decide +kernel
theorem dX1_strike_31 : decode cX1_strike 31 = .ok (.lshr, 1) := by decide +kernel
theorem dX1_strike_32 : decode cX1_strike 32 = .ok (.l2i, 1) := by decide +kernel
theorem dX1_strike_33 : decode cX1_strike 33 = .ok (.i2b, 1) := by decide +kernel
theorem dX1_strike_34 : decode cX1_strike 34 = .ok (.ixor, 1) := by decide +kernel
theorem dX1_strike_35 : decode cX1_strike 35 = .ok (.i2b, 1) := by decide +kernel
theorem dX1_strike_36 : decode cX1_strike 36 = .ok (.bastore, 1) := by decide +kernel
theorem dX1_strike_37 : decode cX1_strike 37 = .ok (.iinc 6 1, 3) := by decide +kernel
theorem dX1_strike_40 : decode cX1_strike 40 = .ok (.goto (-37), 3) := by decide +kernel
theorem dX1_strike_43 : decode cX1_strike 43 = .ok (.return_, 1) := by decide +kernel
theorem dX1_lose_0 : decode cX1_lose 0 = .ok (.aload_n 0, 1) := by decide +kernel
theorem dX1_lose_1 : decode cX1_lose 1 = .ok (.iload_n 1, 1) := by decide +kernel
theorem dX1_lose_2 : decode cX1_lose 2 = .ok (.iconst 1, 1) := by decide +kernel
theorem dX1_lose_3 : decode cX1_lose 3 = .ok (.if_icmp .ge 7, 3) := by decide +kernel
theorem dX1_lose_6 : decode cX1_lose 6 = .ok (.iconst 1, 1) := by decide +kernel
theorem dX1_lose_7 : decode cX1_lose 7 = .ok (.goto 4, 3) := by decide +kernel
theorem dX1_lose_10 : decode cX1_lose 10 = .ok (.iconst 0, 1) := by decide +kernel
theorem dX1_lose_11 : decode cX1_lose 11 = .ok (.iconst 1, 1) := by decide +kernel
theorem dX1_lose_12 : decode cX1_lose 12 = .ok (.invokevirtual 66, 3) := by decide +kernel
theorem dX1_lose_15 : decode cX1_lose 15 = .ok (.ifCond .ne 15, 3) := by decide +kernel
theorem dX1_lose_18 : decode cX1_lose 18 = .ok (.aload_n 0, 1) := by decide +kernel
theorem dX1_lose_19 : decode cX1_lose 19 = .ok (.aload_n 0, 1) := by decide +kernel
theorem dX1_lose_20 : decode cX1_lose 20 = .ok (.getfield 80, 3) := by decide +kernel
theorem dX1_lose_23 : decode cX1_lose 23 = .ok (.iconst 2, 1) := by decide +kernel
theorem dX1_lose_24 : decode cX1_lose 24 = .ok (.invokevirtual 66, 3) := by decide +kernel
theorem dX1_lose_27 : decode cX1_lose 27 = .ok (.ifCond .eq 4, 3) := by decide +kernel
theorem dX1_lose_30 : decode cX1_lose 30 = .ok (.return_, 1) := by decide +kernel
theorem dX1_lose_31 : decode cX1_lose 31 = .ok (.aload_n 0, 1) := by decide +kernel
theorem dX1_lose_32 : decode cX1_lose 32 = .ok (.iload_n 1, 1) := by decide +kernel
theorem dX1_lose_33 : decode cX1_lose 33 = .ok (.i2l, 1) := by decide +kernel
theorem dX1_lose_34 : decode cX1_lose 34 = .ok (.lconst 1, 1) := by decide +kernel
theorem dX1_lose_35 : decode cX1_lose 35 = .ok (.lsub, 1) := by decide +kernel
theorem dX1_lose_36 : decode cX1_lose 36 = .ok (.putfield 33, 3) := by decide +kernel
theorem dX1_lose_39 : decode cX1_lose 39 = .ok (.return_, 1) := by decide +kernel
theorem dX1_power_0 : decode cX1_power 0 = .ok (.aload_n 0, 1) := by decide +kernel
theorem dX1_power_1 : decode cX1_power 1 = .ok (.iconst 0, 1) := by decide +kernel
theorem dX1_power_2 : decode cX1_power 2 = .ok (.putfield 40, 3) := by decide +kernel
theorem dX1_power_5 : decode cX1_power 5 = .ok (.aload_n 0, 1) := by decide +kernel
theorem dX1_power_6 : decode cX1_power 6 = .ok (.getfield 80, 3) := by decide +kernel
theorem dX1_power_9 : decode cX1_power 9 = .ok (.istore_n 1, 1) := by decide +kernel
theorem dX1_power_10 : decode cX1_power 10 = .ok (.aload_n 0, 1) := by decide +kernel
theorem dX1_power_11 : decode cX1_power 11 = .ok (.iconst 0, 1) := by decide +kernel
theorem dX1_power_12 : decode cX1_power 12 = .ok (.putfield 80, 3) := by decide +kernel
theorem dX1_power_15 : decode cX1_power 15 = .ok (.aload_n 0, 1) := by decide +kernel
theorem dX1_power_16 : decode cX1_power 16 = .ok (.ldc2_w 31, 3) := by decide +kernel
theorem dX1_power_19 : decode cX1_power 19 = .ok (.putfield 33, 3) := by decide +kernel
theorem dX1_power_22 : decode cX1_power 22 = .ok (.iload_n 1, 1) := by decide +kernel
theorem dX1_power_23 : decode cX1_power 23 = .ok (.ireturn, 1) := by decide +kernel
theorem dX1_count_0 : decode cX1_count 0 = .ok (.lconst 0, 1) := by decide +kernel
theorem dX1_count_1 : decode cX1_count 1 = .ok (.lstore_n 2, 1) := by decide +kernel
theorem dX1_count_2 : decode cX1_count 2 = .ok (.iconst 0, 1) := by decide +kernel
theorem dX1_count_3 : decode cX1_count 3 = .ok (.istore 4, 2) := by decide +kernel
theorem dX1_count_5 : decode cX1_count 5 = .ok (.iload 4, 2) := by decide +kernel
theorem dX1_count_7 : decode cX1_count 7 = .ok (.bipush 16, 2) := by decide +kernel
theorem dX1_count_9 : decode cX1_count 9 = .ok (.if_icmp .ge 45, 3) := by decide +kernel
theorem dX1_count_12 : decode cX1_count 12 = .ok (.iconst 0, 1) := by decide +kernel
theorem dX1_count_13 : decode cX1_count 13 = .ok (.istore 5, 2) := by decide +kernel
theorem dX1_count_15 : decode cX1_count 15 = .ok (.iload 5, 2) := by decide +kernel
theorem dX1_count_17 : decode cX1_count 17 = .ok (.bipush 66, 2) := by decide +kernel
theorem dX1_count_19 : decode cX1_count 19 = .ok (.if_icmp .ge 29, 3) := by decide +kernel
theorem dX1_count_22 : decode cX1_count 22 = .ok (.lload_n 2, 1) := by decide +kernel
theorem dX1_count_23 : decode cX1_count 23 = .ok (.aload_n 0, 1) := by decide +kernel
theorem dX1_count_24 : decode cX1_count 24 = .ok (.iload 4, 2) := by decide +kernel
theorem dX1_count_26 : decode cX1_count 26 = .ok (.iload 5, 2) := by decide +kernel
theorem dX1_count_28 : decode cX1_count 28 = .ok (.invokevirtual 93, 3) := by decide +kernel
theorem dX1_count_31 : decode cX1_count 31 = .ok (.iload_n 1, 1) := by decide +kernel
theorem dX1_count_32 : decode cX1_count 32 = .ok (.if_icmp .ne 7, 3) := by decide +kernel
theorem dX1_count_35 : decode cX1_count 35 = .ok (.lconst 1, 1) := by decide +kernel
theorem dX1_count_36 : decode cX1_count 36 = .ok (.goto 4, 3) := by decide +kernel
theorem dX1_count_39 : decode cX1_count 39 = .ok (.lconst 0, 1) := by decide +kernel
theorem dX1_count_40 : decode cX1_count 40 = .ok (.ladd, 1) := by decide +kernel
theorem dX1_count_41 : decode cX1_count 41 = .ok (.lstore_n 2, 1) := by decide +kernel
theorem dX1_count_42 : decode cX1_count 42 = .ok (.iinc 5 1, 3) := by decide +kernel
theorem dX1_count_45 : decode cX1_count 45 = .ok (.goto (-30), 3) := by decide +kernel
theorem dX1_count_48 : decode cX1_count 48 = .ok (.iinc 4 1, 3) := by decide +kernel
theorem dX1_count_51 : decode cX1_count 51 = .ok (.goto (-46), 3) := by decide +kernel
theorem dX1_count_54 : decode cX1_count 54 = .ok (.lload_n 2, 1) := by decide +kernel
theorem dX1_count_55 : decode cX1_count 55 = .ok (.lreturn, 1) := by decide +kernel
theorem dX1_look_0 : decode cX1_look 0 = .ok (.aload_n 0, 1) := by decide +kernel
theorem dX1_look_1 : decode cX1_look 1 = .ok (.iload_n 1, 1) := by decide +kernel
theorem dX1_look_2 : decode cX1_look 2 = .ok (.iconst 0, 1) := by decide +kernel
theorem dX1_look_3 : decode cX1_look 3 = .ok (.iconst 5, 1) := by decide +kernel
theorem dX1_look_4 : decode cX1_look 4 = .ok (.invokestatic 44, 3) := by decide +kernel
theorem dX1_look_7 : decode cX1_look 7 = .ok (.ifCond .ne 7, 3) := by decide +kernel
theorem dX1_look_10 : decode cX1_look 10 = .ok (.iconst 1, 1) := by decide +kernel
theorem dX1_look_11 : decode cX1_look 11 = .ok (.goto 4, 3) := by decide +kernel
theorem dX1_look_14 : decode cX1_look 14 = .ok (.iconst 0, 1) := by decide +kernel
theorem dX1_look_15 : decode cX1_look 15 = .ok (.iconst 1, 1) := by decide +kernel
theorem dX1_look_16 : decode cX1_look 16 = .ok (.invokevirtual 66, 3) := by decide +kernel
theorem dX1_look_19 : decode cX1_look 19 = .ok (.ifCond .eq 5, 3) := by decide +kernel
theorem dX1_look_22 : decode cX1_look 22 = .ok (.lconst 0, 1) := by decide +kernel
theorem dX1_look_23 : decode cX1_look 23 = .ok (.lreturn, 1) := by decide +kernel
theorem dX1_look_24 : decode cX1_look 24 = .ok (.iload_n 1, 1) := by decide +kernel
theorem dX1_look_25 : decode cX1_look 25 = .ok (.tableswitch 113 0 4 #[35, 40, 53, 69, 107], 35) := by decide +kernel
theorem dX1_look_60 : decode cX1_look 60 = .ok (.aload_n 0, 1) := by decide +kernel
theorem dX1_look_61 : decode cX1_look 61 = .ok (.getfield 84, 3) := by decide +kernel
theorem dX1_look_64 : decode cX1_look 64 = .ok (.lreturn, 1) := by decide +kernel
theorem dX1_look_65 : decode cX1_look 65 = .ok (.aload_n 0, 1) := by decide +kernel
theorem dX1_look_66 : decode cX1_look 66 = .ok (.getfield 80, 3) := by decide +kernel
theorem dX1_look_69 : decode cX1_look 69 = .ok (.ifCond .eq 7, 3) := by decide +kernel
theorem dX1_look_72 : decode cX1_look 72 = .ok (.lconst 1, 1) := by decide +kernel
theorem dX1_look_73 : decode cX1_look 73 = .ok (.goto 4, 3) := by decide +kernel
theorem dX1_look_76 : decode cX1_look 76 = .ok (.lconst 0, 1) := by decide +kernel
theorem dX1_look_77 : decode cX1_look 77 = .ok (.lreturn, 1) := by decide +kernel
theorem dX1_look_78 : decode cX1_look 78 = .ok (.aload_n 0, 1) := by decide +kernel
theorem dX1_look_79 : decode cX1_look 79 = .ok (.getfield 80, 3) := by decide +kernel
theorem dX1_look_82 : decode cX1_look 82 = .ok (.ifCond .eq 7, 3) := by decide +kernel
theorem dX1_look_85 : decode cX1_look 85 = .ok (.lconst 0, 1) := by decide +kernel
theorem dX1_look_86 : decode cX1_look 86 = .ok (.goto 7, 3) := by decide +kernel
theorem dX1_look_89 : decode cX1_look 89 = .ok (.aload_n 0, 1) := by decide +kernel
theorem dX1_look_90 : decode cX1_look 90 = .ok (.getfield 33, 3) := by decide +kernel
theorem dX1_look_93 : decode cX1_look 93 = .ok (.lreturn, 1) := by decide +kernel
theorem dX1_look_94 : decode cX1_look 94 = .ok (.lconst 0, 1) := by decide +kernel
theorem dX1_look_95 : decode cX1_look 95 = .ok (.lstore_n 2, 1) := by decide +kernel
theorem dX1_look_96 : decode cX1_look 96 = .ok (.iconst 0, 1) := by decide +kernel
theorem dX1_look_97 : decode cX1_look 97 = .ok (.istore 4, 2) := by decide +kernel
theorem dX1_look_99 : decode cX1_look 99 = .ok (.iload 4, 2) := by decide +kernel
theorem dX1_look_101 : decode cX1_look 101 = .ok (.bipush 16, 2) := by decide +kernel
theorem dX1_look_103 : decode cX1_look 103 = .ok (.if_icmp .ge 27, 3) := by decide +kernel
theorem dX1_look_106 : decode cX1_look 106 = .ok (.lload_n 2, 1) := by decide +kernel
theorem dX1_look_107 : decode cX1_look 107 = .ok (.aload_n 0, 1) := by decide +kernel
theorem dX1_look_108 : decode cX1_look 108 = .ok (.getfield 16, 3) := by decide +kernel
theorem dX1_look_111 : decode cX1_look 111 = .ok (.iload 4, 2) := by decide +kernel
theorem dX1_look_113 : decode cX1_look 113 = .ok (.baload, 1) := by decide +kernel
theorem dX1_look_114 : decode cX1_look 114 = .ok (.ifCond .eq 7, 3) := by decide +kernel
theorem dX1_look_117 : decode cX1_look 117 = .ok (.lconst 1, 1) := by decide +kernel
theorem dX1_look_118 : decode cX1_look 118 = .ok (.goto 4, 3) := by decide +kernel
theorem dX1_look_121 : decode cX1_look 121 = .ok (.lconst 0, 1) := by decide +kernel
theorem dX1_look_122 : decode cX1_look 122 = .ok (.ladd, 1) := by decide +kernel
theorem dX1_look_123 : decode cX1_look 123 = .ok (.lstore_n 2, 1) := by decide +kernel
theorem dX1_look_124 : decode cX1_look 124 = .ok (.iinc 4 1, 3) := by decide +kernel
theorem dX1_look_127 : decode cX1_look 127 = .ok (.goto (-28), 3) := by decide +kernel
theorem dX1_look_130 : decode cX1_look 130 = .ok (.lload_n 2, 1) := by decide +kernel
theorem dX1_look_131 : decode cX1_look 131 = .ok (.lreturn, 1) := by decide +kernel
theorem dX1_look_132 : decode cX1_look 132 = .ok (.aload_n 0, 1) := by decide +kernel
theorem dX1_look_133 : decode cX1_look 133 = .ok (.iconst 2, 1) := by decide +kernel
theorem dX1_look_134 : decode cX1_look 134 = .ok (.invokevirtual 109, 3) := by decide +kernel
theorem dX1_look_137 : decode cX1_look 137 = .ok (.lreturn, 1) := by decide +kernel
theorem dX1_look_138 : decode cX1_look 138 = .ok (.aload_n 0, 1) := by decide +kernel
theorem dX1_look_139 : decode cX1_look 139 = .ok (.iconst 3, 1) := by decide +kernel
theorem dX1_look_140 : decode cX1_look 140 = .ok (.invokevirtual 109, 3) := by decide +kernel
theorem dX1_look_143 : decode cX1_look 143 = .ok (.lreturn, 1) := by decide +kernel
theorem dJ9_min_7cf53_0 : decode cJ9_min_7cf53 0 = .ok (.iload_n 0, 1) := by decide +kernel
theorem dJ9_min_7cf53_1 : decode cJ9_min_7cf53 1 = .ok (.iload_n 1, 1) := by decide +kernel
theorem dJ9_min_7cf53_2 : decode cJ9_min_7cf53 2 = .ok (.if_icmp .gt 7, 3) := by decide +kernel
theorem dJ9_min_7cf53_5 : decode cJ9_min_7cf53 5 = .ok (.iload_n 0, 1) := by decide +kernel
theorem dJ9_min_7cf53_6 : decode cJ9_min_7cf53 6 = .ok (.goto 4, 3) := by decide +kernel
theorem dJ9_min_7cf53_9 : decode cJ9_min_7cf53 9 = .ok (.iload_n 1, 1) := by decide +kernel
theorem dJ9_min_7cf53_10 : decode cJ9_min_7cf53 10 = .ok (.ireturn, 1) := by decide +kernel
theorem dJ7_fill_d0a16_0 : decode cJ7_fill_d0a16 0 = .ok (.iconst 0, 1) := by decide +kernel
theorem dJ7_fill_d0a16_1 : decode cJ7_fill_d0a16 1 = .ok (.istore_n 3, 1) := by decide +kernel
theorem dJ7_fill_d0a16_2 : decode cJ7_fill_d0a16 2 = .ok (.aload_n 0, 1) := by decide +kernel
theorem dJ7_fill_d0a16_3 : decode cJ7_fill_d0a16 3 = .ok (.arraylength, 1) := by decide +kernel
theorem dJ7_fill_d0a16_4 : decode cJ7_fill_d0a16 4 = .ok (.istore 4, 2) := by decide +kernel
theorem dJ7_fill_d0a16_6 : decode cJ7_fill_d0a16 6 = .ok (.iload_n 3, 1) := by decide +kernel
theorem dJ7_fill_d0a16_7 : decode cJ7_fill_d0a16 7 = .ok (.iload 4, 2) := by decide +kernel
theorem dJ7_fill_d0a16_9 : decode cJ7_fill_d0a16 9 = .ok (.if_icmp .ge 13, 3) := by decide +kernel
theorem dJ7_fill_d0a16_12 : decode cJ7_fill_d0a16 12 = .ok (.aload_n 0, 1) := by decide +kernel
theorem dJ7_fill_d0a16_13 : decode cJ7_fill_d0a16 13 = .ok (.iload_n 3, 1) := by decide +kernel
theorem dJ7_fill_d0a16_14 : decode cJ7_fill_d0a16 14 = .ok (.lload_n 1, 1) := by decide +kernel
theorem dJ7_fill_d0a16_15 : decode cJ7_fill_d0a16 15 = .ok (.lastore, 1) := by decide +kernel
theorem dJ7_fill_d0a16_16 : decode cJ7_fill_d0a16 16 = .ok (.iinc 3 1, 3) := by decide +kernel
theorem dJ7_fill_d0a16_19 : decode cJ7_fill_d0a16 19 = .ok (.goto (-13), 3) := by decide +kernel
theorem dJ7_fill_d0a16_22 : decode cJ7_fill_d0a16 22 = .ok (.return_, 1) := by decide +kernel
theorem dJ7_fill_53178_0 : decode cJ7_fill_53178 0 = .ok (.iconst 0, 1) := by decide +kernel
theorem dJ7_fill_53178_1 : decode cJ7_fill_53178 1 = .ok (.istore_n 2, 1) := by decide +kernel
theorem dJ7_fill_53178_2 : decode cJ7_fill_53178 2 = .ok (.aload_n 0, 1) := by decide +kernel
theorem dJ7_fill_53178_3 : decode cJ7_fill_53178 3 = .ok (.arraylength, 1) := by decide +kernel
theorem dJ7_fill_53178_4 : decode cJ7_fill_53178 4 = .ok (.istore_n 3, 1) := by decide +kernel
theorem dJ7_fill_53178_5 : decode cJ7_fill_53178 5 = .ok (.iload_n 2, 1) := by decide +kernel
theorem dJ7_fill_53178_6 : decode cJ7_fill_53178 6 = .ok (.iload_n 3, 1) := by decide +kernel
theorem dJ7_fill_53178_7 : decode cJ7_fill_53178 7 = .ok (.if_icmp .ge 13, 3) := by decide +kernel
theorem dJ7_fill_53178_10 : decode cJ7_fill_53178 10 = .ok (.aload_n 0, 1) := by decide +kernel
theorem dJ7_fill_53178_11 : decode cJ7_fill_53178 11 = .ok (.iload_n 2, 1) := by decide +kernel
theorem dJ7_fill_53178_12 : decode cJ7_fill_53178 12 = .ok (.iload_n 1, 1) := by decide +kernel
theorem dJ7_fill_53178_13 : decode cJ7_fill_53178 13 = .ok (.iastore, 1) := by decide +kernel
theorem dJ7_fill_53178_14 : decode cJ7_fill_53178 14 = .ok (.iinc 2 1, 3) := by decide +kernel
theorem dJ7_fill_53178_17 : decode cJ7_fill_53178 17 = .ok (.goto (-12), 3) := by decide +kernel
theorem dJ7_fill_53178_20 : decode cJ7_fill_53178 20 = .ok (.return_, 1) := by decide +kernel
theorem dL_feed_0 : decode cL_feed 0 = .ok (.aload 4, 2) := by decide +kernel
theorem dL_feed_2 : decode cL_feed 2 = .ok (.iconst 0, 1) := by decide +kernel
theorem dL_feed_3 : decode cL_feed 3 = .ok (.aload_n 0, 1) := by decide +kernel
theorem dL_feed_4 : decode cL_feed 4 = .ok (.iload_n 1, 1) := by decide +kernel
theorem dL_feed_5 : decode cL_feed 5 = .ok (.lload_n 2, 1) := by decide +kernel
theorem dL_feed_6 : decode cL_feed 6 = .ok (.invokevirtual 7, 3) := by decide +kernel
theorem dL_feed_9 : decode cL_feed 9 = .ok (.i2l, 1) := by decide +kernel
theorem dL_feed_10 : decode cL_feed 10 = .ok (.lastore, 1) := by decide +kernel
theorem dL_feed_11 : decode cL_feed 11 = .ok (.goto 11, 3) := by decide +kernel
theorem dL_feed_14 : decode cL_feed 14 = .ok (.astore 5, 2) := by decide +kernel
theorem dL_feed_16 : decode cL_feed 16 = .ok (.iconst 1, 1) := by decide +kernel
theorem dL_feed_17 : decode cL_feed 17 = .ok (.ireturn, 1) := by decide +kernel
theorem dL_feed_18 : decode cL_feed 18 = .ok (.astore 5, 2) := by decide +kernel
theorem dL_feed_20 : decode cL_feed 20 = .ok (.iconst 2, 1) := by decide +kernel
theorem dL_feed_21 : decode cL_feed 21 = .ok (.ireturn, 1) := by decide +kernel
theorem dL_feed_22 : decode cL_feed 22 = .ok (.iconst 0, 1) := by decide +kernel
theorem dL_feed_23 : decode cL_feed 23 = .ok (.ireturn, 1) := by decide +kernel
theorem dL_write_0 : decode cL_write 0 = .ok (.aload 4, 2) := by decide +kernel
theorem dL_write_2 : decode cL_write 2 = .ok (.iconst 0, 1) := by decide +kernel
theorem dL_write_3 : decode cL_write 3 = .ok (.aload_n 0, 1) := by decide +kernel
theorem dL_write_4 : decode cL_write 4 = .ok (.iload_n 1, 1) := by decide +kernel
theorem dL_write_5 : decode cL_write 5 = .ok (.iload_n 2, 1) := by decide +kernel
theorem dL_write_6 : decode cL_write 6 = .ok (.iload_n 3, 1) := by decide +kernel
theorem dL_write_7 : decode cL_write 7 = .ok (.invokevirtual 17, 3) := by decide +kernel
theorem dL_write_10 : decode cL_write 10 = .ok (.ifCond .eq 7, 3) := by decide +kernel
theorem dL_write_13 : decode cL_write 13 = .ok (.lconst 1, 1) := by decide +kernel
theorem dL_write_14 : decode cL_write 14 = .ok (.goto 4, 3) := by decide +kernel
theorem dL_write_17 : decode cL_write 17 = .ok (.lconst 0, 1) := by decide +kernel
theorem dL_write_18 : decode cL_write 18 = .ok (.lastore, 1) := by decide +kernel
theorem dL_write_19 : decode cL_write 19 = .ok (.goto 11, 3) := by decide +kernel
theorem dL_write_22 : decode cL_write 22 = .ok (.astore 5, 2) := by decide +kernel
theorem dL_write_24 : decode cL_write 24 = .ok (.iconst 1, 1) := by decide +kernel
theorem dL_write_25 : decode cL_write 25 = .ok (.ireturn, 1) := by decide +kernel
theorem dL_write_26 : decode cL_write 26 = .ok (.astore 5, 2) := by decide +kernel
theorem dL_write_28 : decode cL_write 28 = .ok (.iconst 2, 1) := by decide +kernel
theorem dL_write_29 : decode cL_write 29 = .ok (.ireturn, 1) := by decide +kernel
theorem dL_write_30 : decode cL_write 30 = .ok (.iconst 0, 1) := by decide +kernel
theorem dL_write_31 : decode cL_write 31 = .ok (.ireturn, 1) := by decide +kernel
theorem dL_read_0 : decode cL_read 0 = .ok (.aload_n 3, 1) := by decide +kernel
theorem dL_read_1 : decode cL_read 1 = .ok (.iconst 0, 1) := by decide +kernel
theorem dL_read_2 : decode cL_read 2 = .ok (.aload_n 0, 1) := by decide +kernel
theorem dL_read_3 : decode cL_read 3 = .ok (.iload_n 1, 1) := by decide +kernel
theorem dL_read_4 : decode cL_read 4 = .ok (.iload_n 2, 1) := by decide +kernel
theorem dL_read_5 : decode cL_read 5 = .ok (.invokevirtual 21, 3) := by decide +kernel
theorem dL_read_8 : decode cL_read 8 = .ok (.ifCond .eq 7, 3) := by decide +kernel
theorem dL_read_11 : decode cL_read 11 = .ok (.lconst 1, 1) := by decide +kernel
theorem dL_read_12 : decode cL_read 12 = .ok (.goto 4, 3) := by decide +kernel
theorem dL_read_15 : decode cL_read 15 = .ok (.lconst 0, 1) := by decide +kernel
theorem dL_read_16 : decode cL_read 16 = .ok (.lastore, 1) := by decide +kernel
theorem dL_read_17 : decode cL_read 17 = .ok (.goto 7, 3) := by decide +kernel
theorem dL_read_20 : decode cL_read 20 = .ok (.astore 4, 2) := by decide +kernel
theorem dL_read_22 : decode cL_read 22 = .ok (.iconst 1, 1) := by decide +kernel
theorem dL_read_23 : decode cL_read 23 = .ok (.ireturn, 1) := by decide +kernel
theorem dL_read_24 : decode cL_read 24 = .ok (.iconst 0, 1) := by decide +kernel
theorem dL_read_25 : decode cL_read 25 = .ok (.ireturn, 1) := by decide +kernel
theorem dL_outs_0 : decode cL_outs 0 = .ok (.aload_n 2, 1) := by decide +kernel
theorem dL_outs_1 : decode cL_outs 1 = .ok (.iconst 0, 1) := by decide +kernel
theorem dL_outs_2 : decode cL_outs 2 = .ok (.aload_n 0, 1) := by decide +kernel
theorem dL_outs_3 : decode cL_outs 3 = .ok (.iload_n 1, 1) := by decide +kernel
theorem dL_outs_4 : decode cL_outs 4 = .ok (.invokevirtual 25, 3) := by decide +kernel
theorem dL_outs_7 : decode cL_outs 7 = .ok (.lastore, 1) := by decide +kernel
theorem dL_outs_8 : decode cL_outs 8 = .ok (.goto 6, 3) := by decide +kernel
theorem dL_outs_11 : decode cL_outs 11 = .ok (.astore_n 3, 1) := by decide +kernel
theorem dL_outs_12 : decode cL_outs 12 = .ok (.iconst 1, 1) := by decide +kernel
theorem dL_outs_13 : decode cL_outs 13 = .ok (.ireturn, 1) := by decide +kernel
theorem dL_outs_14 : decode cL_outs 14 = .ok (.iconst 0, 1) := by decide +kernel
theorem dL_outs_15 : decode cL_outs 15 = .ok (.ireturn, 1) := by decide +kernel
theorem dL_tag_0 : decode cL_tag 0 = .ok (.aload_n 3, 1) := by decide +kernel
theorem dL_tag_1 : decode cL_tag 1 = .ok (.iconst 0, 1) := by decide +kernel
theorem dL_tag_2 : decode cL_tag 2 = .ok (.aload_n 0, 1) := by decide +kernel
theorem dL_tag_3 : decode cL_tag 3 = .ok (.iload_n 1, 1) := by decide +kernel
theorem dL_tag_4 : decode cL_tag 4 = .ok (.iload_n 2, 1) := by decide +kernel
theorem dL_tag_5 : decode cL_tag 5 = .ok (.invokevirtual 31, 3) := by decide +kernel
theorem dL_tag_8 : decode cL_tag 8 = .ok (.i2l, 1) := by decide +kernel
theorem dL_tag_9 : decode cL_tag 9 = .ok (.lastore, 1) := by decide +kernel
theorem dL_tag_10 : decode cL_tag 10 = .ok (.goto 7, 3) := by decide +kernel
theorem dL_tag_13 : decode cL_tag 13 = .ok (.astore 4, 2) := by decide +kernel
theorem dL_tag_15 : decode cL_tag 15 = .ok (.iconst 1, 1) := by decide +kernel
theorem dL_tag_16 : decode cL_tag 16 = .ok (.ireturn, 1) := by decide +kernel
theorem dL_tag_17 : decode cL_tag 17 = .ok (.iconst 0, 1) := by decide +kernel
theorem dL_tag_18 : decode cL_tag 18 = .ok (.ireturn, 1) := by decide +kernel
theorem dL_cell_0 : decode cL_cell 0 = .ok (.aload_n 3, 1) := by decide +kernel
theorem dL_cell_1 : decode cL_cell 1 = .ok (.iconst 0, 1) := by decide +kernel
theorem dL_cell_2 : decode cL_cell 2 = .ok (.aload_n 0, 1) := by decide +kernel
theorem dL_cell_3 : decode cL_cell 3 = .ok (.iload_n 1, 1) := by decide +kernel
theorem dL_cell_4 : decode cL_cell 4 = .ok (.iload_n 2, 1) := by decide +kernel
theorem dL_cell_5 : decode cL_cell 5 = .ok (.invokevirtual 35, 3) := by decide +kernel
theorem dL_cell_8 : decode cL_cell 8 = .ok (.i2l, 1) := by decide +kernel
theorem dL_cell_9 : decode cL_cell 9 = .ok (.lastore, 1) := by decide +kernel
theorem dL_cell_10 : decode cL_cell 10 = .ok (.goto 7, 3) := by decide +kernel
theorem dL_cell_13 : decode cL_cell 13 = .ok (.astore 4, 2) := by decide +kernel
theorem dL_cell_15 : decode cL_cell 15 = .ok (.iconst 1, 1) := by decide +kernel
theorem dL_cell_16 : decode cL_cell 16 = .ok (.ireturn, 1) := by decide +kernel
theorem dL_cell_17 : decode cL_cell 17 = .ok (.iconst 0, 1) := by decide +kernel
theorem dL_cell_18 : decode cL_cell 18 = .ok (.ireturn, 1) := by decide +kernel
theorem dL_at_0 : decode cL_at 0 = .ok (.aload 4, 2) := by decide +kernel
theorem dL_at_2 : decode cL_at 2 = .ok (.iconst 0, 1) := by decide +kernel
theorem dL_at_3 : decode cL_at 3 = .ok (.aload_n 0, 1) := by decide +kernel
theorem dL_at_4 : decode cL_at 4 = .ok (.iload_n 1, 1) := by decide +kernel
theorem dL_at_5 : decode cL_at 5 = .ok (.iload_n 2, 1) := by decide +kernel
theorem dL_at_6 : decode cL_at 6 = .ok (.iload_n 3, 1) := by decide +kernel
theorem dL_at_7 : decode cL_at 7 = .ok (.invokevirtual 38, 3) := by decide +kernel
theorem dL_at_10 : decode cL_at 10 = .ok (.i2l, 1) := by decide +kernel
theorem dL_at_11 : decode cL_at 11 = .ok (.lastore, 1) := by decide +kernel
theorem dL_at_12 : decode cL_at 12 = .ok (.goto 11, 3) := by decide +kernel
theorem dL_at_15 : decode cL_at 15 = .ok (.astore 5, 2) := by decide +kernel
theorem dL_at_17 : decode cL_at 17 = .ok (.iconst 1, 1) := by decide +kernel
theorem dL_at_18 : decode cL_at 18 = .ok (.ireturn, 1) := by decide +kernel
theorem dL_at_19 : decode cL_at 19 = .ok (.astore 5, 2) := by decide +kernel
theorem dL_at_21 : decode cL_at 21 = .ok (.iconst 2, 1) := by decide +kernel
theorem dL_at_22 : decode cL_at 22 = .ok (.ireturn, 1) := by decide +kernel
theorem dL_at_23 : decode cL_at 23 = .ok (.iconst 0, 1) := by decide +kernel
theorem dL_at_24 : decode cL_at 24 = .ok (.ireturn, 1) := by decide +kernel
theorem dL_fail_0 : decode cL_fail 0 = .ok (.aload_n 2, 1) := by decide +kernel
theorem dL_fail_1 : decode cL_fail 1 = .ok (.iconst 0, 1) := by decide +kernel
theorem dL_fail_2 : decode cL_fail 2 = .ok (.aload_n 0, 1) := by decide +kernel
theorem dL_fail_3 : decode cL_fail 3 = .ok (.iload_n 1, 1) := by decide +kernel
theorem dL_fail_4 : decode cL_fail 4 = .ok (.invokevirtual 42, 3) := by decide +kernel
theorem dL_fail_7 : decode cL_fail 7 = .ok (.ifCond .eq 7, 3) := by decide +kernel
theorem dL_fail_10 : decode cL_fail 10 = .ok (.lconst 1, 1) := by decide +kernel
theorem dL_fail_11 : decode cL_fail 11 = .ok (.goto 4, 3) := by decide +kernel
theorem dL_fail_14 : decode cL_fail 14 = .ok (.lconst 0, 1) := by decide +kernel
theorem dL_fail_15 : decode cL_fail 15 = .ok (.lastore, 1) := by decide +kernel
theorem dL_fail_16 : decode cL_fail 16 = .ok (.goto 6, 3) := by decide +kernel
theorem dL_fail_19 : decode cL_fail 19 = .ok (.astore_n 3, 1) := by decide +kernel
theorem dL_fail_20 : decode cL_fail 20 = .ok (.iconst 1, 1) := by decide +kernel
theorem dL_fail_21 : decode cL_fail 21 = .ok (.ireturn, 1) := by decide +kernel
theorem dL_fail_22 : decode cL_fail 22 = .ok (.iconst 0, 1) := by decide +kernel
theorem dL_fail_23 : decode cL_fail 23 = .ok (.ireturn, 1) := by decide +kernel
theorem dL_replace_0 : decode cL_replace 0 = .ok (.aload_n 2, 1) := by decide +kernel
theorem dL_replace_1 : decode cL_replace 1 = .ok (.iconst 0, 1) := by decide +kernel
theorem dL_replace_2 : decode cL_replace 2 = .ok (.aload_n 0, 1) := by decide +kernel
theorem dL_replace_3 : decode cL_replace 3 = .ok (.iload_n 1, 1) := by decide +kernel
theorem dL_replace_4 : decode cL_replace 4 = .ok (.invokevirtual 46, 3) := by decide +kernel
theorem dL_replace_7 : decode cL_replace 7 = .ok (.ifCond .eq 7, 3) := by decide +kernel
theorem dL_replace_10 : decode cL_replace 10 = .ok (.lconst 1, 1) := by decide +kernel
theorem dL_replace_11 : decode cL_replace 11 = .ok (.goto 4, 3) := by decide +kernel
theorem dL_replace_14 : decode cL_replace 14 = .ok (.lconst 0, 1) := by decide +kernel
theorem dL_replace_15 : decode cL_replace 15 = .ok (.lastore, 1) := by decide +kernel
theorem dL_replace_16 : decode cL_replace 16 = .ok (.goto 6, 3) := by decide +kernel
theorem dL_replace_19 : decode cL_replace 19 = .ok (.astore_n 3, 1) := by decide +kernel
theorem dL_replace_20 : decode cL_replace 20 = .ok (.iconst 1, 1) := by decide +kernel
theorem dL_replace_21 : decode cL_replace 21 = .ok (.ireturn, 1) := by decide +kernel
theorem dL_replace_22 : decode cL_replace 22 = .ok (.iconst 0, 1) := by decide +kernel
theorem dL_replace_23 : decode cL_replace 23 = .ok (.ireturn, 1) := by decide +kernel
theorem dL_corrupt_0 : decode cL_corrupt 0 = .ok (.aload 7, 2) := by decide +kernel
theorem dL_corrupt_2 : decode cL_corrupt 2 = .ok (.iconst 0, 1) := by decide +kernel
theorem dL_corrupt_3 : decode cL_corrupt 3 = .ok (.aload_n 0, 1) := by decide +kernel
theorem dL_corrupt_4 : decode cL_corrupt 4 = .ok (.iload_n 1, 1) := by decide +kernel
theorem dL_corrupt_5 : decode cL_corrupt 5 = .ok (.iload_n 2, 1) := by decide +kernel
theorem dL_corrupt_6 : decode cL_corrupt 6 = .ok (.iload_n 3, 1) := by decide +kernel
theorem dL_corrupt_7 : decode cL_corrupt 7 = .ok (.lload 4, 2) := by decide +kernel
theorem dL_corrupt_9 : decode cL_corrupt 9 = .ok (.iload 6, 2) := by decide +kernel
theorem dL_corrupt_11 : decode cL_corrupt 11 = .ok (.invokevirtual 49, 3) := by decide +kernel
theorem dL_corrupt_14 : decode cL_corrupt 14 = .ok (.ifCond .eq 7, 3) := by decide +kernel
theorem dL_corrupt_17 : decode cL_corrupt 17 = .ok (.lconst 1, 1) := by decide +kernel
theorem dL_corrupt_18 : decode cL_corrupt 18 = .ok (.goto 4, 3) := by decide +kernel
theorem dL_corrupt_21 : decode cL_corrupt 21 = .ok (.lconst 0, 1) := by decide +kernel
theorem dL_corrupt_22 : decode cL_corrupt 22 = .ok (.lastore, 1) := by decide +kernel
theorem dL_corrupt_23 : decode cL_corrupt 23 = .ok (.goto 7, 3) := by decide +kernel
theorem dL_corrupt_26 : decode cL_corrupt 26 = .ok (.astore 8, 2) := by decide +kernel
theorem dL_corrupt_28 : decode cL_corrupt 28 = .ok (.iconst 1, 1) := by decide +kernel
theorem dL_corrupt_29 : decode cL_corrupt 29 = .ok (.ireturn, 1) := by decide +kernel
theorem dL_corrupt_30 : decode cL_corrupt 30 = .ok (.iconst 0, 1) := by decide +kernel
theorem dL_corrupt_31 : decode cL_corrupt 31 = .ok (.ireturn, 1) := by decide +kernel
theorem dL_lose_0 : decode cL_lose 0 = .ok (.aload_n 0, 1) := by decide +kernel
theorem dL_lose_1 : decode cL_lose 1 = .ok (.iload_n 1, 1) := by decide +kernel
theorem dL_lose_2 : decode cL_lose 2 = .ok (.invokevirtual 53, 3) := by decide +kernel
theorem dL_lose_5 : decode cL_lose 5 = .ok (.goto 9, 3) := by decide +kernel
theorem dL_lose_8 : decode cL_lose 8 = .ok (.astore_n 2, 1) := by decide +kernel
theorem dL_lose_9 : decode cL_lose 9 = .ok (.iconst 1, 1) := by decide +kernel
theorem dL_lose_10 : decode cL_lose 10 = .ok (.ireturn, 1) := by decide +kernel
theorem dL_lose_11 : decode cL_lose 11 = .ok (.astore_n 2, 1) := by decide +kernel
theorem dL_lose_12 : decode cL_lose 12 = .ok (.iconst 2, 1) := by decide +kernel
theorem dL_lose_13 : decode cL_lose 13 = .ok (.ireturn, 1) := by decide +kernel
theorem dL_lose_14 : decode cL_lose 14 = .ok (.iconst 0, 1) := by decide +kernel
theorem dL_lose_15 : decode cL_lose 15 = .ok (.ireturn, 1) := by decide +kernel
theorem dL_look_0 : decode cL_look 0 = .ok (.aload_n 2, 1) := by decide +kernel
theorem dL_look_1 : decode cL_look 1 = .ok (.iconst 0, 1) := by decide +kernel
theorem dL_look_2 : decode cL_look 2 = .ok (.aload_n 0, 1) := by decide +kernel
theorem dL_look_3 : decode cL_look 3 = .ok (.iload_n 1, 1) := by decide +kernel
theorem dL_look_4 : decode cL_look 4 = .ok (.invokevirtual 57, 3) := by decide +kernel
theorem dL_look_7 : decode cL_look 7 = .ok (.lastore, 1) := by decide +kernel
theorem dL_look_8 : decode cL_look 8 = .ok (.goto 6, 3) := by decide +kernel
theorem dL_look_11 : decode cL_look 11 = .ok (.astore_n 3, 1) := by decide +kernel
theorem dL_look_12 : decode cL_look 12 = .ok (.iconst 1, 1) := by decide +kernel
theorem dL_look_13 : decode cL_look 13 = .ok (.ireturn, 1) := by decide +kernel
theorem dL_look_14 : decode cL_look 14 = .ok (.iconst 0, 1) := by decide +kernel
theorem dL_look_15 : decode cL_look 15 = .ok (.ireturn, 1) := by decide +kernel
