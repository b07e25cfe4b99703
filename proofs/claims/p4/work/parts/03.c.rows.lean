theorem dX12_in_0 : decode cX12_in 0 = .ok (.iload_n 0, 1) := by decide +kernel
theorem dX12_in_1 : decode cX12_in 1 = .ok (.iload_n 1, 1) := by decide +kernel
theorem dX12_in_2 : decode cX12_in 2 = .ok (.if_icmp .lt 12, 3) := by decide +kernel
theorem dX12_in_5 : decode cX12_in 5 = .ok (.iload_n 0, 1) := by decide +kernel
theorem dX12_in_6 : decode cX12_in 6 = .ok (.iload_n 2, 1) := by decide +kernel
theorem dX12_in_7 : decode cX12_in 7 = .ok (.if_icmp .gt 7, 3) := by decide +kernel
theorem dX12_in_10 : decode cX12_in 10 = .ok (.iconst 1, 1) := by decide +kernel
theorem dX12_in_11 : decode cX12_in 11 = .ok (.goto 4, 3) := by decide +kernel
theorem dX12_in_14 : decode cX12_in 14 = .ok (.iconst 0, 1) := by decide +kernel
theorem dX12_in_15 : decode cX12_in 15 = .ok (.ireturn, 1) := by decide +kernel
theorem dX12_has_0 : decode cX12_has 0 = .ok (.iload_n 0, 1) := by decide +kernel
theorem dX12_has_1 : decode cX12_has 1 = .ok (.iload_n 1, 1) := by decide +kernel
theorem dX12_has_2 : decode cX12_has 2 = .ok (.ishr, 1) := by decide +kernel
theorem dX12_has_3 : decode cX12_has 3 = .ok (.iconst 1, 1) := by decide +kernel
theorem dX12_has_4 : decode cX12_has 4 = .ok (.iand, 1) := by decide +kernel
theorem dX12_has_5 : decode cX12_has 5 = .ok (.iconst 1, 1) := by decide +kernel
theorem dX12_has_6 : decode cX12_has 6 = .ok (.if_icmp .ne 7, 3) := by decide +kernel
theorem dX12_has_9 : decode cX12_has 9 = .ok (.iconst 1, 1) := by decide +kernel
theorem dX12_has_10 : decode cX12_has 10 = .ok (.goto 4, 3) := by decide +kernel
theorem dX12_has_13 : decode cX12_has 13 = .ok (.iconst 0, 1) := by decide +kernel
theorem dX12_has_14 : decode cX12_has 14 = .ok (.ireturn, 1) := by decide +kernel
theorem dX12_byteOf_0 : decode cX12_byteOf 0 = .ok (.iload 5, 2) := by decide +kernel
theorem dX12_byteOf_2 : decode cX12_byteOf 2 = .ok (.iconst 4, 1) := by decide +kernel
theorem dX12_byteOf_3 : decode cX12_byteOf 3 = .ok (.if_icmp .ge 7, 3) := by decide +kernel
theorem dX12_byteOf_6 : decode cX12_byteOf 6 = .ok (.iload_n 0, 1) := by decide +kernel
theorem dX12_byteOf_7 : decode cX12_byteOf 7 = .ok (.goto 38, 3) := by decide +kernel
theorem dX12_byteOf_10 : decode cX12_byteOf 10 = .ok (.iload 5, 2) := by decide +kernel
theorem dX12_byteOf_12 : decode cX12_byteOf 12 = .ok (.bipush 8, 2) := by decide +kernel
theorem dX12_byteOf_14 : decode cX12_byteOf 14 = .ok (.if_icmp .ge 7, 3) := by decide +kernel
theorem dX12_byteOf_17 : decode cX12_byteOf 17 = .ok (.iload_n 1, 1) := by decide +kernel
theorem dX12_byteOf_18 : decode cX12_byteOf 18 = .ok (.goto 27, 3) := by decide +kernel
theorem dX12_byteOf_21 : decode cX12_byteOf 21 = .ok (.iload 5, 2) := by decide +kernel
theorem dX12_byteOf_23 : decode cX12_byteOf 23 = .ok (.bipush 12, 2) := by decide +kernel
theorem dX12_byteOf_25 : decode cX12_byteOf 25 = .ok (.if_icmp .ge 7, 3) := by decide +kernel
theorem dX12_byteOf_28 : decode cX12_byteOf 28 = .ok (.iload_n 2, 1) := by decide +kernel
theorem dX12_byteOf_29 : decode cX12_byteOf 29 = .ok (.goto 16, 3) := by decide +kernel
theorem dX12_byteOf_32 : decode cX12_byteOf 32 = .ok (.iload 5, 2) := by decide +kernel
theorem dX12_byteOf_34 : decode cX12_byteOf 34 = .ok (.bipush 16, 2) := by decide +kernel
theorem dX12_byteOf_36 : decode cX12_byteOf 36 = .ok (.if_icmp .ge 7, 3) := by decide +kernel
theorem dX12_byteOf_39 : decode cX12_byteOf 39 = .ok (.iload_n 3, 1) := by decide +kernel
theorem dX12_byteOf_40 : decode cX12_byteOf 40 = .ok (.goto 5, 3) := by decide +kernel
theorem dX12_byteOf_43 : decode cX12_byteOf 43 = .ok (.iload 4, 2) := by decide +kernel
theorem dX12_byteOf_45 : decode cX12_byteOf 45 = .ok (.istore 6, 2) := by decide +kernel
theorem dX12_byteOf_47 : decode cX12_byteOf 47 = .ok (.iload 6, 2) := by decide +kernel
theorem dX12_byteOf_49 : decode cX12_byteOf 49 = .ok (.bipush 24, 2) := by decide +kernel
theorem dX12_byteOf_51 : decode cX12_byteOf 51 = .ok (.bipush 8, 2) := by decide +kernel
theorem dX12_byteOf_53 : decode cX12_byteOf 53 = .ok (.iload 5, 2) := by decide +kernel
theorem dX12_byteOf_55 : decode cX12_byteOf 55 = .ok (.iconst 4, 1) := by decide +kernel
theorem dX12_byteOf_56 : decode cX12_byteOf 56 = .ok (.irem, 1) := by decide +kernel
theorem dX12_byteOf_57 : decode cX12_byteOf 57 = .ok (.imul, 1) := by decide +kernel
theorem dX12_byteOf_58 : decode cX12_byteOf 58 = .ok (.isub, 1) := by decide +kernel
theorem dX12_byteOf_59 : decode cX12_byteOf 59 = .ok (.ishr, 1) := by decide +kernel
theorem dX12_byteOf_60 : decode cX12_byteOf 60 = .ok (.sipush 255, 3) := by decide +kernel
theorem dX12_byteOf_63 : decode cX12_byteOf 63 = .ok (.iand, 1) := by decide +kernel
theorem dX12_byteOf_64 : decode cX12_byteOf 64 = .ok (.ireturn, 1) := by decide +kernel
theorem dX12_feed_0 : decode cX12_feed 0 = .ok (.iconst 0, 1) := by decide +kernel
theorem dX12_feed_1 : decode cX12_feed 1 = .ok (.istore 6, 2) := by decide +kernel
theorem dX12_feed_3 : decode cX12_feed 3 = .ok (.iconst 0, 1) := by decide +kernel
theorem dX12_feed_4 : decode cX12_feed 4 = .ok (.istore 7, 2) := by decide +kernel
theorem dX12_feed_6 : decode cX12_feed 6 = .ok (.iload 7, 2) := by decide +kernel
theorem dX12_feed_8 : decode cX12_feed 8 = .ok (.bipush 20, 2) := by decide +kernel
theorem dX12_feed_10 : decode cX12_feed 10 = .ok (.if_icmp .ge 34, 3) := by decide +kernel
theorem dX12_feed_13 : decode cX12_feed 13 = .ok (.iload 6, 2) := by decide +kernel
theorem dX12_feed_15 : decode cX12_feed 15 = .ok (.iload_n 1, 1) := by decide +kernel
theorem dX12_feed_16 : decode cX12_feed 16 = .ok (.iload_n 2, 1) := by decide +kernel
theorem dX12_feed_17 : decode cX12_feed 17 = .ok (.iload_n 3, 1) := by decide +kernel
theorem dX12_feed_18 : decode cX12_feed 18 = .ok (.iload 4, 2) := by decide +kernel
theorem dX12_feed_20 : decode cX12_feed 20 = .ok (.iload 5, 2) := by decide +kernel
theorem dX12_feed_22 : decode cX12_feed 22 = .ok (.iload 7, 2) := by decide +kernel
theorem dX12_feed_24 : decode cX12_feed 24 = .ok (.invokestatic 105, 3) := by decide +kernel
theorem dX12_feed_27 : decode cX12_feed 27 = .ok (.ifCond .eq 7, 3) := by decide +kernel
theorem dX12_feed_30 : decode cX12_feed 30 = .ok (.iconst 1, 1) := by decide +kernel
theorem dX12_feed_31 : decode cX12_feed 31 = .ok (.goto 4, 3) := by decide +kernel
theorem dX12_feed_34 : decode cX12_feed 34 = .ok (.iconst 0, 1) := by decide +kernel
theorem dX12_feed_35 : decode cX12_feed 35 = .ok (.iadd, 1) := by decide +kernel
theorem dX12_feed_36 : decode cX12_feed 36 = .ok (.istore 6, 2) := by decide +kernel
theorem dX12_feed_38 : decode cX12_feed 38 = .ok (.iinc 7 1, 3) := by decide +kernel
theorem dX12_feed_41 : decode cX12_feed 41 = .ok (.goto (-35), 3) := by decide +kernel
theorem dX12_feed_44 : decode cX12_feed 44 = .ok (.aload_n 0, 1) := by decide +kernel
theorem dX12_feed_45 : decode cX12_feed 45 = .ok (.getfield 109, 3) := by decide +kernel
theorem dX12_feed_48 : decode cX12_feed 48 = .ok (.iload 6, 2) := by decide +kernel
theorem dX12_feed_50 : decode cX12_feed 50 = .ok (.iadd, 1) := by decide +kernel
theorem dX12_feed_51 : decode cX12_feed 51 = .ok (.sipush 240, 3) := by decide +kernel
theorem dX12_feed_54 : decode cX12_feed 54 = .ok (.if_icmp .le 5, 3) := by decide +kernel
theorem dX12_feed_57 : decode cX12_feed 57 = .ok (.iconst (-1), 1) := by decide +kernel
theorem dX12_feed_58 : decode cX12_feed 58 = .ok (.ireturn, 1) := by decide +kernel
theorem dX12_feed_59 : decode cX12_feed 59 = .ok (.iconst 0, 1) := by decide +kernel
theorem dX12_feed_60 : decode cX12_feed 60 = .ok (.istore 7, 2) := by decide +kernel
theorem dX12_feed_62 : decode cX12_feed 62 = .ok (.iload 7, 2) := by decide +kernel
theorem dX12_feed_64 : decode cX12_feed 64 = .ok (.bipush 20, 2) := by decide +kernel
theorem dX12_feed_66 : decode cX12_feed 66 = .ok (.if_icmp .ge 49, 3) := by decide +kernel
theorem dX12_feed_69 : decode cX12_feed 69 = .ok (.iload_n 1, 1) := by decide +kernel
theorem dX12_feed_70 : decode cX12_feed 70 = .ok (.iload_n 2, 1) := by decide +kernel
theorem dX12_feed_71 : decode cX12_feed 71 = .ok (.iload_n 3, 1) := by decide +kernel
theorem dX12_feed_72 : decode cX12_feed 72 = .ok (.iload 4, 2) := by decide +kernel
theorem dX12_feed_74 : decode cX12_feed 74 = .ok (.iload 5, 2) := by decide +kernel
theorem dX12_feed_76 : decode cX12_feed 76 = .ok (.iload 7, 2) := by decide +kernel
theorem dX12_feed_78 : decode cX12_feed 78 = .ok (.invokestatic 105, 3) := by decide +kernel
theorem dX12_feed_81 : decode cX12_feed 81 = .ok (.istore 8, 2) := by decide +kernel
theorem dX12_feed_83 : decode cX12_feed 83 = .ok (.iload 8, 2) := by decide +kernel
theorem dX12_feed_85 : decode cX12_feed 85 = .ok (.ifCond .eq 24, 3) := by decide +kernel
theorem dX12_feed_88 : decode cX12_feed 88 = .ok (.aload_n 0, 1) := by decide +kernel
theorem dX12_feed_89 : decode cX12_feed 89 = .ok (.getfield 9, 3) := by decide +kernel
theorem dX12_feed_92 : decode cX12_feed 92 = .ok (.aload_n 0, 1) := by decide +kernel
theorem dX12_feed_93 : decode cX12_feed 93 = .ok (.getfield 109, 3) := by decide +kernel
theorem dX12_feed_96 : decode cX12_feed 96 = .ok (.iload 8, 2) := by decide +kernel
theorem dX12_feed_98 : decode cX12_feed 98 = .ok (.iastore, 1) := by decide +kernel
theorem dX12_feed_99 : decode cX12_feed 99 = .ok (.aload_n 0, 1) := by decide +kernel
theorem dX12_feed_100 : decode cX12_feed 100 = .ok (.dup, 1) := by decide +kernel
theorem dX12_feed_101 : decode cX12_feed 101 = .ok (.getfield 109, 3) := by decide +kernel
theorem dX12_feed_104 : decode cX12_feed 104 = .ok (.iconst 1, 1) := by decide +kernel
theorem dX12_feed_105 : decode cX12_feed 105 = .ok (.iadd, 1) := by decide +kernel
theorem dX12_feed_106 : decode cX12_feed 106 = .ok (.putfield 109, 3) := by decide +kernel
theorem dX12_feed_109 : decode cX12_feed 109 = .ok (.iinc 7 1, 3) := by decide +kernel
theorem dX12_feed_112 : decode cX12_feed 112 = .ok (.goto (-50), 3) := by decide +kernel
theorem dX12_feed_115 : decode cX12_feed 115 = .ok (.aload_n 0, 1) := by decide +kernel
theorem dX12_feed_116 : decode cX12_feed 116 = .ok (.getfield 109, 3) := by decide +kernel
theorem dX12_feed_119 : decode cX12_feed 119 = .ok (.ireturn, 1) := by decide +kernel
theorem dX12_end_0 : decode cX12_end 0 = .ok (.iload_n 1, 1) := by decide +kernel
theorem dX12_end_1 : decode cX12_end 1 = .ok (.ifCond .lt 11, 3) := by decide +kernel
theorem dX12_end_4 : decode cX12_end 4 = .ok (.iload_n 1, 1) := by decide +kernel
theorem dX12_end_5 : decode cX12_end 5 = .ok (.aload_n 0, 1) := by decide +kernel
theorem dX12_end_6 : decode cX12_end 6 = .ok (.getfield 109, 3) := by decide +kernel
theorem dX12_end_9 : decode cX12_end 9 = .ok (.if_icmp .le 5, 3) := by decide +kernel
theorem dX12_end_12 : decode cX12_end 12 = .ok (.iconst 0, 1) := by decide +kernel
theorem dX12_end_13 : decode cX12_end 13 = .ok (.ireturn, 1) := by decide +kernel
theorem dX12_end_14 : decode cX12_end 14 = .ok (.aload_n 0, 1) := by decide +kernel
theorem dX12_end_15 : decode cX12_end 15 = .ok (.iload_n 1, 1) := by decide +kernel
theorem dX12_end_16 : decode cX12_end 16 = .ok (.putfield 109, 3) := by decide +kernel
theorem dX12_end_19 : decode cX12_end 19 = .ok (.iconst 1, 1) := by decide +kernel
theorem dX12_end_20 : decode cX12_end 20 = .ok (.ireturn, 1) := by decide +kernel
theorem dX12_here_0 : decode cX12_here 0 = .ok (.aload_n 0, 1) := by decide +kernel
theorem dX12_here_1 : decode cX12_here 1 = .ok (.getfield 112, 3) := by decide +kernel
theorem dX12_here_4 : decode cX12_here 4 = .ok (.aload_n 0, 1) := by decide +kernel
theorem dX12_here_5 : decode cX12_here 5 = .ok (.getfield 109, 3) := by decide +kernel
theorem dX12_here_8 : decode cX12_here 8 = .ok (.if_icmp .ge 15, 3) := by decide +kernel
theorem dX12_here_11 : decode cX12_here 11 = .ok (.aload_n 0, 1) := by decide +kernel
theorem dX12_here_12 : decode cX12_here 12 = .ok (.getfield 9, 3) := by decide +kernel
theorem dX12_here_15 : decode cX12_here 15 = .ok (.aload_n 0, 1) := by decide +kernel
theorem dX12_here_16 : decode cX12_here 16 = .ok (.getfield 112, 3) := by decide +kernel
theorem dX12_here_19 : decode cX12_here 19 = .ok (.iaload, 1) := by decide +kernel
theorem dX12_here_20 : decode cX12_here 20 = .ok (.goto 4, 3) := by decide +kernel
theorem dX12_here_23 : decode cX12_here 23 = .ok (.iconst (-1), 1) := by decide +kernel
theorem dX12_here_24 : decode cX12_here 24 = .ok (.ireturn, 1) := by decide +kernel
theorem dX12_look_0 : decode cX12_look 0 = .ok (.aload_n 0, 1) := by decide +kernel
theorem dX12_look_1 : decode cX12_look 1 = .ok (.invokevirtual 115, 3) := by decide +kernel
theorem dX12_look_4 : decode cX12_look 4 = .ok (.bipush 32, 2) := by decide +kernel
theorem dX12_look_6 : decode cX12_look 6 = .ok (.if_icmp .ne 16, 3) := by decide +kernel
theorem dX12_look_9 : decode cX12_look 9 = .ok (.aload_n 0, 1) := by decide +kernel
theorem dX12_look_10 : decode cX12_look 10 = .ok (.dup, 1) := by decide +kernel
theorem dX12_look_11 : decode cX12_look 11 = .ok (.getfield 112, 3) := by decide +kernel
theorem dX12_look_14 : decode cX12_look 14 = .ok (.iconst 1, 1) := by decide +kernel
theorem dX12_look_15 : decode cX12_look 15 = .ok (.iadd, 1) := by decide +kernel
theorem dX12_look_16 : decode cX12_look 16 = .ok (.putfield 112, 3) := by decide +kernel
theorem dX12_look_19 : decode cX12_look 19 = .ok (.goto (-19), 3) := by decide +kernel
theorem dX12_look_22 : decode cX12_look 22 = .ok (.aload_n 0, 1) := by decide +kernel
theorem dX12_look_23 : decode cX12_look 23 = .ok (.invokevirtual 115, 3) := by decide +kernel
theorem dX12_look_26 : decode cX12_look 26 = .ok (.ireturn, 1) := by decide +kernel
theorem dX12_bad_0 : decode cX12_bad 0 = .ok (.aload_n 0, 1) := by decide +kernel
theorem dX12_bad_1 : decode cX12_bad 1 = .ok (.aload_n 0, 1) := by decide +kernel
theorem dX12_bad_2 : decode cX12_bad 2 = .ok (.getfield 119, 3) := by decide +kernel
theorem dX12_bad_5 : decode cX12_bad 5 = .ok (.iconst (-1), 1) := by decide +kernel
theorem dX12_bad_6 : decode cX12_bad 6 = .ok (.if_icmp .ne 10, 3) := by decide +kernel
theorem dX12_bad_9 : decode cX12_bad 9 = .ok (.aload_n 0, 1) := by decide +kernel
theorem dX12_bad_10 : decode cX12_bad 10 = .ok (.getfield 112, 3) := by decide +kernel
theorem dX12_bad_13 : decode cX12_bad 13 = .ok (.goto 7, 3) := by decide +kernel
theorem dX12_bad_16 : decode cX12_bad 16 = .ok (.aload_n 0, 1) := by decide +kernel
theorem dX12_bad_17 : decode cX12_bad 17 = .ok (.getfield 119, 3) := by decide +kernel
theorem dX12_bad_20 : decode cX12_bad 20 = .ok (.putfield 119, 3) := by decide +kernel
theorem dX12_bad_23 : decode cX12_bad 23 = .ok (.return_, 1) := by decide +kernel
theorem dX12_isDigit_0 : decode cX12_isDigit 0 = .ok (.iload_n 0, 1) := by decide +kernel
theorem dX12_isDigit_1 : decode cX12_isDigit 1 = .ok (.bipush 48, 2) := by decide +kernel
theorem dX12_isDigit_3 : decode cX12_isDigit 3 = .ok (.if_icmp .lt 13, 3) := by decide +kernel
theorem dX12_isDigit_6 : decode cX12_isDigit 6 = .ok (.iload_n 0, 1) := by decide +kernel
theorem dX12_isDigit_7 : decode cX12_isDigit 7 = .ok (.bipush 57, 2) := by decide +kernel
theorem dX12_isDigit_9 : decode cX12_isDigit 9 = .ok (.if_icmp .gt 7, 3) := by decide +kernel
theorem dX12_isDigit_12 : decode cX12_isDigit 12 = .ok (.iconst 1, 1) := by decide +kernel
theorem dX12_isDigit_13 : decode cX12_isDigit 13 = .ok (.goto 4, 3) := by decide +kernel
theorem dX12_isDigit_16 : decode cX12_isDigit 16 = .ok (.iconst 0, 1) := by decide +kernel
theorem dX12_isDigit_17 : decode cX12_isDigit 17 = .ok (.ireturn, 1) := by decide +kernel
theorem dX12_put_0 : decode cX12_put 0 = .ok (.aload_n 0, 1) := by decide +kernel
theorem dX12_put_1 : decode cX12_put 1 = .ok (.getfield 13, 3) := by decide +kernel
theorem dX12_put_4 : decode cX12_put 4 = .ok (.sipush 520, 3) := by decide +kernel
theorem dX12_put_7 : decode cX12_put 7 = .ok (.aload_n 0, 1) := by decide +kernel
theorem dX12_put_8 : decode cX12_put 8 = .ok (.getfield 122, 3) := by decide +kernel
theorem dX12_put_11 : decode cX12_put 11 = .ok (.imul, 1) := by decide +kernel
theorem dX12_put_12 : decode cX12_put 12 = .ok (.aload_n 0, 1) := by decide +kernel
theorem dX12_put_13 : decode cX12_put 13 = .ok (.getfield 19, 3) := by decide +kernel
theorem dX12_put_16 : decode cX12_put 16 = .ok (.aload_n 0, 1) := by decide +kernel
theorem dX12_put_17 : decode cX12_put 17 = .ok (.getfield 122, 3) := by decide +kernel
theorem dX12_put_20 : decode cX12_put 20 = .ok (.iaload, 1) := by decide +kernel
theorem dX12_put_21 : decode cX12_put 21 = .ok (.iadd, 1) := by decide +kernel
theorem dX12_put_22 : decode cX12_put 22 = .ok (.iload_n 1, 1) := by decide +kernel
theorem dX12_put_23 : decode cX12_put 23 = .ok (.iastore, 1) := by decide +kernel
theorem dX12_put_24 : decode cX12_put 24 = .ok (.aload_n 0, 1) := by decide +kernel
theorem dX12_put_25 : decode cX12_put 25 = .ok (.getfield 16, 3) := by decide +kernel
theorem dX12_put_28 : decode cX12_put 28 = .ok (.sipush 520, 3) := by decide +kernel
theorem dX12_put_31 : decode cX12_put 31 = .ok (.aload_n 0, 1) := by decide +kernel
theorem dX12_put_32 : decode cX12_put 32 = .ok (.getfield 122, 3) := by decide +kernel
theorem dX12_put_35 : decode cX12_put 35 = .ok (.imul, 1) := by decide +kernel
theorem dX12_put_36 : decode cX12_put 36 = .ok (.aload_n 0, 1) := by decide +kernel
theorem dX12_put_37 : decode cX12_put 37 = .ok (.getfield 19, 3) := by decide +kernel
theorem dX12_put_40 : decode cX12_put 40 = .ok (.aload_n 0, 1) := by decide +kernel
theorem dX12_put_41 : decode cX12_put 41 = .ok (.getfield 122, 3) := by decide +kernel
theorem dX12_put_44 : decode cX12_put 44 = .ok (.iaload, 1) := by decide +kernel
theorem dX12_put_45 : decode cX12_put 45 = .ok (.iadd, 1) := by decide +kernel
theorem dX12_put_46 : decode cX12_put 46 = .ok (.iload_n 2, 1) := by decide +kernel
theorem dX12_put_47 : decode cX12_put 47 = .ok (.iastore, 1) := by decide +kernel
theorem dX12_put_48 : decode cX12_put 48 = .ok (.aload_n 0, 1) := by decide +kernel
theorem dX12_put_49 : decode cX12_put 49 = .ok (.getfield 19, 3) := by decide +kernel
theorem dX12_put_52 : decode cX12_put 52 = .ok (.aload_n 0, 1) := by decide +kernel
theorem dX12_put_53 : decode cX12_put 53 = .ok (.getfield 122, 3) := by decide +kernel
theorem dX12_put_56 : decode cX12_put 56 = .ok (.dup2, 1) := by decide +kernel
theorem dX12_put_57 : decode cX12_put 57 = .ok (.iaload, 1) := by decide +kernel
theorem dX12_put_58 : decode cX12_put 58 = .ok (.iconst 1, 1) := by decide +kernel
theorem dX12_put_59 : decode cX12_put 59 = .ok (.iadd, 1) := by decide +kernel
theorem dX12_put_60 : decode cX12_put 60 = .ok (.iastore, 1) := by decide +kernel
theorem dX12_put_61 : decode cX12_put 61 = .ok (.return_, 1) := by decide +kernel
theorem dX12_letterOf_0 : decode cX12_letterOf 0 = .ok (.iload_n 0, 1) := by decide +kernel
theorem dX12_letterOf_1 : decode cX12_letterOf 1 = .ok (.bipush 122, 2) := by decide +kernel
theorem dX12_letterOf_3 : decode cX12_letterOf 3 = .ok (.if_icmp .ne 7, 3) := by decide +kernel
theorem dX12_letterOf_6 : decode cX12_letterOf 6 = .ok (.iconst 0, 1) := by decide +kernel
theorem dX12_letterOf_7 : decode cX12_letterOf 7 = .ok (.goto 54, 3) := by decide +kernel
theorem dX12_letterOf_10 : decode cX12_letterOf 10 = .ok (.iload_n 0, 1) := by decide +kernel
theorem dX12_letterOf_11 : decode cX12_letterOf 11 = .ok (.bipush 97, 2) := by decide +kernel
theorem dX12_letterOf_13 : decode cX12_letterOf 13 = .ok (.if_icmp .ne 7, 3) := by decide +kernel
theorem dX12_letterOf_16 : decode cX12_letterOf 16 = .ok (.iconst 1, 1) := by decide +kernel
theorem dX12_letterOf_17 : decode cX12_letterOf 17 = .ok (.goto 44, 3) := by decide +kernel
theorem dX12_letterOf_20 : decode cX12_letterOf 20 = .ok (.iload_n 0, 1) := by decide +kernel
theorem dX12_letterOf_21 : decode cX12_letterOf 21 = .ok (.bipush 111, 2) := by decide +kernel
theorem dX12_letterOf_23 : decode cX12_letterOf 23 = .ok (.if_icmp .ne 7, 3) := by decide +kernel
theorem dX12_letterOf_26 : decode cX12_letterOf 26 = .ok (.iconst 2, 1) := by decide +kernel
theorem dX12_letterOf_27 : decode cX12_letterOf 27 = .ok (.goto 34, 3) := by decide +kernel
theorem dX12_letterOf_30 : decode cX12_letterOf 30 = .ok (.iload_n 0, 1) := by decide +kernel
theorem dX12_letterOf_31 : decode cX12_letterOf 31 = .ok (.bipush 110, 2) := by decide +kernel
theorem dX12_letterOf_33 : decode cX12_letterOf 33 = .ok (.if_icmp .ne 7, 3) := by decide +kernel
theorem dX12_letterOf_36 : decode cX12_letterOf 36 = .ok (.iconst 3, 1) := by decide +kernel
theorem dX12_letterOf_37 : decode cX12_letterOf 37 = .ok (.goto 24, 3) := by decide +kernel
theorem dX12_letterOf_40 : decode cX12_letterOf 40 = .ok (.iload_n 0, 1) := by decide +kernel
theorem dX12_letterOf_41 : decode cX12_letterOf 41 = .ok (.bipush 100, 2) := by decide +kernel
theorem dX12_letterOf_43 : decode cX12_letterOf 43 = .ok (.if_icmp .ne 7, 3) := by decide +kernel
theorem dX12_letterOf_46 : decode cX12_letterOf 46 = .ok (.iconst 4, 1) := by decide +kernel
theorem dX12_letterOf_47 : decode cX12_letterOf 47 = .ok (.goto 14, 3) := by decide +kernel
theorem dX12_letterOf_50 : decode cX12_letterOf 50 = .ok (.iload_n 0, 1) := by decide +kernel
theorem dX12_letterOf_51 : decode cX12_letterOf 51 = .ok (.bipush 116, 2) := by decide +kernel
theorem dX12_letterOf_53 : decode cX12_letterOf 53 = .ok (.if_icmp .ne 7, 3) := by decide +kernel
theorem dX12_letterOf_56 : decode cX12_letterOf 56 = .ok (.iconst 5, 1) := by decide +kernel
theorem dX12_letterOf_57 : decode cX12_letterOf 57 = .ok (.goto 4, 3) := by decide +kernel
theorem dX12_letterOf_60 : decode cX12_letterOf 60 = .ok (.iconst (-1), 1) := by decide +kernel
theorem dX12_letterOf_61 : decode cX12_letterOf 61 = .ok (.ireturn, 1) := by decide +kernel
theorem dX12_opens_0 : decode cX12_opens 0 = .ok (.aload_n 0, 1) := by decide +kernel
theorem dX12_opens_1 : decode cX12_opens 1 = .ok (.getfield 125, 3) := by decide +kernel
theorem dX12_opens_4 : decode cX12_opens 4 = .ok (.bipush 6, 2) := by decide +kernel
theorem dX12_opens_6 : decode cX12_opens 6 = .ok (.if_icmp .ne 7, 3) := by decide +kernel
theorem dX12_opens_9 : decode cX12_opens 9 = .ok (.aload_n 0, 1) := by decide +kernel
theorem dX12_opens_10 : decode cX12_opens 10 = .ok (.invokevirtual 128, 3) := by decide +kernel
theorem dX12_opens_13 : decode cX12_opens 13 = .ok (.aload_n 0, 1) := by decide +kernel
theorem dX12_opens_14 : decode cX12_opens 14 = .ok (.dup, 1) := by decide +kernel
theorem dX12_opens_15 : decode cX12_opens 15 = .ok (.getfield 125, 3) := by decide +kernel
theorem dX12_opens_18 : decode cX12_opens 18 = .ok (.iconst 1, 1) := by decide +kernel
theorem dX12_opens_19 : decode cX12_opens 19 = .ok (.iadd, 1) := by decide +kernel
theorem dX12_opens_20 : decode cX12_opens 20 = .ok (.putfield 125, 3) := by decide +kernel
theorem dX12_opens_23 : decode cX12_opens 23 = .ok (.aload_n 0, 1) := by decide +kernel
theorem dX12_opens_24 : decode cX12_opens 24 = .ok (.dup, 1) := by decide +kernel
theorem dX12_opens_25 : decode cX12_opens 25 = .ok (.getfield 112, 3) := by decide +kernel
theorem dX12_opens_28 : decode cX12_opens 28 = .ok (.iconst 1, 1) := by decide +kernel
theorem dX12_opens_29 : decode cX12_opens 29 = .ok (.iadd, 1) := by decide +kernel
theorem dX12_opens_30 : decode cX12_opens 30 = .ok (.putfield 112, 3) := by decide +kernel
theorem dX12_opens_33 : decode cX12_opens 33 = .ok (.return_, 1) := by decide +kernel
theorem dX12_closes_0 : decode cX12_closes 0 = .ok (.aload_n 0, 1) := by decide +kernel
theorem dX12_closes_1 : decode cX12_closes 1 = .ok (.getfield 119, 3) := by decide +kernel
theorem dX12_closes_4 : decode cX12_closes 4 = .ok (.iconst (-1), 1) := by decide +kernel
theorem dX12_closes_5 : decode cX12_closes 5 = .ok (.if_icmp .ne 15, 3) := by decide +kernel
theorem dX12_closes_8 : decode cX12_closes 8 = .ok (.aload_n 0, 1) := by decide +kernel
theorem dX12_closes_9 : decode cX12_closes 9 = .ok (.invokevirtual 131, 3) := by decide +kernel
theorem dX12_closes_12 : decode cX12_closes 12 = .ok (.iload_n 1, 1) := by decide +kernel
theorem dX12_closes_13 : decode cX12_closes 13 = .ok (.if_icmp .eq 7, 3) := by decide +kernel
theorem dX12_closes_16 : decode cX12_closes 16 = .ok (.aload_n 0, 1) := by decide +kernel
theorem dX12_closes_17 : decode cX12_closes 17 = .ok (.invokevirtual 128, 3) := by decide +kernel
theorem dX12_closes_20 : decode cX12_closes 20 = .ok (.aload_n 0, 1) := by decide +kernel
theorem dX12_closes_21 : decode cX12_closes 21 = .ok (.dup, 1) := by decide +kernel
theorem dX12_closes_22 : decode cX12_closes 22 = .ok (.getfield 112, 3) := by decide +kernel
theorem dX12_closes_25 : decode cX12_closes 25 = .ok (.iconst 1, 1) := by decide +kernel
theorem dX12_closes_26 : decode cX12_closes 26 = .ok (.iadd, 1) := by decide +kernel
theorem dX12_closes_27 : decode cX12_closes 27 = .ok (.putfield 112, 3) := by decide +kernel
theorem dX12_closes_30 : decode cX12_closes 30 = .ok (.aload_n 0, 1) := by decide +kernel
theorem dX12_closes_31 : decode cX12_closes 31 = .ok (.dup, 1) := by decide +kernel
theorem dX12_closes_32 : decode cX12_closes 32 = .ok (.getfield 125, 3) := by decide +kernel
theorem dX12_closes_35 : decode cX12_closes 35 = .ok (.iconst 1, 1) := by decide +kernel
theorem dX12_closes_36 : decode cX12_closes 36 = .ok (.isub, 1) := by decide +kernel
theorem dX12_closes_37 : decode cX12_closes 37 = .ok (.putfield 125, 3) := by decide +kernel
theorem dX12_closes_40 : decode cX12_closes 40 = .ok (.return_, 1) := by decide +kernel
theorem dX12_plainNumber_0 : decode cX12_plainNumber 0 = .ok (.iconst 0, 1) := by decide +kernel
theorem dX12_plainNumber_1 : decode cX12_plainNumber 1 = .ok (.istore_n 1, 1) := by decide +kernel
theorem dX12_plainNumber_2 : decode cX12_plainNumber 2 = .ok (.iconst 0, 1) := by decide +kernel
theorem dX12_plainNumber_3 : decode cX12_plainNumber 3 = .ok (.istore_n 2, 1) := by decide +kernel
theorem dX12_plainNumber_4 : decode cX12_plainNumber 4 = .ok (.iload_n 2, 1) := by decide +kernel
theorem dX12_plainNumber_5 : decode cX12_plainNumber 5 = .ok (.iconst 4, 1) := by decide +kernel
theorem dX12_plainNumber_6 : decode cX12_plainNumber 6 = .ok (.if_icmp .ge 42, 3) := by decide +kernel
theorem dX12_plainNumber_9 : decode cX12_plainNumber 9 = .ok (.aload_n 0, 1) := by decide +kernel
theorem dX12_plainNumber_10 : decode cX12_plainNumber 10 = .ok (.invokevirtual 115, 3) := by decide +kernel
theorem dX12_plainNumber_13 : decode cX12_plainNumber 13 = .ok (.invokestatic 134, 3) := by decide +kernel
theorem dX12_plainNumber_16 : decode cX12_plainNumber 16 = .ok (.ifCond .eq 32, 3) := by decide +kernel
theorem dX12_plainNumber_19 : decode cX12_plainNumber 19 = .ok (.bipush 10, 2) := by decide +kernel
theorem dX12_plainNumber_21 : decode cX12_plainNumber 21 = .ok (.iload_n 1, 1) := by decide +kernel
theorem dX12_plainNumber_22 : decode cX12_plainNumber 22 = .ok (.imul, 1) := by decide +kernel
theorem dX12_plainNumber_23 : decode cX12_plainNumber 23 = .ok (.aload_n 0, 1) := by decide +kernel
theorem dX12_plainNumber_24 : decode cX12_plainNumber 24 = .ok (.invokevirtual 115, 3) := by decide +kernel
theorem dX12_plainNumber_27 : decode cX12_plainNumber 27 = .ok (.iadd, 1) := by decide +kernel
theorem dX12_plainNumber_28 : decode cX12_plainNumber 28 = .ok (.bipush 48, 2) := by decide +kernel
theorem dX12_plainNumber_30 : decode cX12_plainNumber 30 = .ok (.isub, 1) := by decide +kernel
theorem dX12_plainNumber_31 : decode cX12_plainNumber 31 = .ok (.istore_n 1, 1) := by decide +kernel
theorem dX12_plainNumber_32 : decode cX12_plainNumber 32 = .ok (.aload_n 0, 1) := by decide +kernel
theorem dX12_plainNumber_33 : decode cX12_plainNumber 33 = .ok (.dup, 1) := by decide +kernel
theorem dX12_plainNumber_34 : decode cX12_plainNumber 34 = .ok (.getfield 112, 3) := by decide +kernel
theorem dX12_plainNumber_37 : decode cX12_plainNumber 37 = .ok (.iconst 1, 1) := by decide +kernel
theorem dX12_plainNumber_38 : decode cX12_plainNumber 38 = .ok (.iadd, 1) := by decide +kernel
theorem dX12_plainNumber_39 : decode cX12_plainNumber 39 = .ok (.putfield 112, 3) := by decide +kernel
theorem dX12_plainNumber_42 : decode cX12_plainNumber 42 = .ok (.iinc 2 1, 3) := by decide +kernel
theorem dX12_plainNumber_45 : decode cX12_plainNumber 45 = .ok (.goto (-41), 3) := by decide +kernel
theorem dX12_plainNumber_48 : decode cX12_plainNumber 48 = .ok (.aload_n 0, 1) := by decide +kernel
theorem dX12_plainNumber_49 : decode cX12_plainNumber 49 = .ok (.invokevirtual 115, 3) := by decide +kernel
theorem dX12_plainNumber_52 : decode cX12_plainNumber 52 = .ok (.invokestatic 134, 3) := by decide +kernel
theorem dX12_plainNumber_55 : decode cX12_plainNumber 55 = .ok (.ifCond .eq 7, 3) := by decide +kernel
theorem dX12_plainNumber_58 : decode cX12_plainNumber 58 = .ok (.aload_n 0, 1) := by decide +kernel
theorem dX12_plainNumber_59 : decode cX12_plainNumber 59 = .ok (.invokevirtual 128, 3) := by decide +kernel
theorem dX12_plainNumber_62 : decode cX12_plainNumber 62 = .ok (.iload_n 1, 1) := by decide +kernel
theorem dX12_plainNumber_63 : decode cX12_plainNumber 63 = .ok (.ireturn, 1) := by decide +kernel
theorem dX12_atom_0 : decode cX12_atom 0 = .ok (.aload_n 0, 1) := by decide +kernel
theorem dX12_atom_1 : decode cX12_atom 1 = .ok (.invokevirtual 131, 3) := by decide +kernel
theorem dX12_atom_4 : decode cX12_atom 4 = .ok (.istore_n 1, 1) := by decide +kernel
theorem dX12_atom_5 : decode cX12_atom 5 = .ok (.iload_n 1, 1) := by decide +kernel
theorem dX12_atom_6 : decode cX12_atom 6 = .ok (.invokestatic 134, 3) := by decide +kernel
theorem dX12_atom_9 : decode cX12_atom 9 = .ok (.ifCond .eq 15, 3) := by decide +kernel
theorem dX12_atom_12 : decode cX12_atom 12 = .ok (.aload_n 0, 1) := by decide +kernel
theorem dX12_atom_13 : decode cX12_atom 13 = .ok (.iconst 0, 1) := by decide +kernel
theorem dX12_atom_14 : decode cX12_atom 14 = .ok (.aload_n 0, 1) := by decide +kernel
theorem dX12_atom_15 : decode cX12_atom 15 = .ok (.invokevirtual 138, 3) := by decide +kernel
theorem dX12_atom_18 : decode cX12_atom 18 = .ok (.invokevirtual 141, 3) := by decide +kernel
theorem dX12_atom_21 : decode cX12_atom 21 = .ok (.goto 68, 3) := by decide +kernel
theorem dX12_atom_24 : decode cX12_atom 24 = .ok (.iload_n 1, 1) := by decide +kernel
theorem dX12_atom_25 : decode cX12_atom 25 = .ok (.invokestatic 145, 3) := by decide +kernel
theorem dX12_atom_28 : decode cX12_atom 28 = .ok (.iconst (-1), 1) := by decide +kernel
theorem dX12_atom_29 : decode cX12_atom 29 = .ok (.if_icmp .eq 25, 3) := by decide +kernel
theorem dX12_atom_32 : decode cX12_atom 32 = .ok (.aload_n 0, 1) := by decide +kernel
theorem dX12_atom_33 : decode cX12_atom 33 = .ok (.dup, 1) := by decide +kernel
theorem dX12_atom_34 : decode cX12_atom 34 = .ok (.getfield 112, 3) := by decide +kernel
theorem dX12_atom_37 : decode cX12_atom 37 = .ok (.iconst 1, 1) := by decide +kernel
theorem dX12_atom_38 : decode cX12_atom 38 = .ok (.iadd, 1) := by decide +kernel
theorem dX12_atom_39 : decode cX12_atom 39 = .ok (.putfield 112, 3) := by decide +kernel
theorem dX12_atom_42 : decode cX12_atom 42 = .ok (.aload_n 0, 1) := by decide +kernel
theorem dX12_atom_43 : decode cX12_atom 43 = .ok (.iconst 1, 1) := by decide +kernel
theorem dX12_atom_44 : decode cX12_atom 44 = .ok (.iload_n 1, 1) := by decide +kernel
theorem dX12_atom_45 : decode cX12_atom 45 = .ok (.invokestatic 145, 3) := by decide +kernel
theorem dX12_atom_48 : decode cX12_atom 48 = .ok (.invokevirtual 141, 3) := by decide +kernel
theorem dX12_atom_51 : decode cX12_atom 51 = .ok (.goto 38, 3) := by decide +kernel
theorem dX12_atom_54 : decode cX12_atom 54 = .ok (.iload_n 1, 1) := by decide +kernel
theorem dX12_atom_55 : decode cX12_atom 55 = .ok (.bipush 91, 2) := by decide +kernel
theorem dX12_atom_57 : decode cX12_atom 57 = .ok (.if_icmp .ne 28, 3) := by decide +kernel
theorem dX12_atom_60 : decode cX12_atom 60 = .ok (.aload_n 0, 1) := by decide +kernel
theorem dX12_atom_61 : decode cX12_atom 61 = .ok (.invokevirtual 149, 3) := by decide +kernel
theorem dX12_atom_64 : decode cX12_atom 64 = .ok (.aload_n 0, 1) := by decide +kernel
theorem dX12_atom_65 : decode cX12_atom 65 = .ok (.getfield 119, 3) := by decide +kernel
theorem dX12_atom_68 : decode cX12_atom 68 = .ok (.iconst (-1), 1) := by decide +kernel
theorem dX12_atom_69 : decode cX12_atom 69 = .ok (.if_icmp .ne 20, 3) := by decide +kernel
theorem dX12_atom_72 : decode cX12_atom 72 = .ok (.aload_n 0, 1) := by decide +kernel
theorem dX12_atom_73 : decode cX12_atom 73 = .ok (.invokevirtual 152, 3) := by decide +kernel
theorem dX12_atom_76 : decode cX12_atom 76 = .ok (.aload_n 0, 1) := by decide +kernel
theorem dX12_atom_77 : decode cX12_atom 77 = .ok (.bipush 93, 2) := by decide +kernel
theorem dX12_atom_79 : decode cX12_atom 79 = .ok (.invokevirtual 155, 3) := by decide +kernel
theorem dX12_atom_82 : decode cX12_atom 82 = .ok (.goto 7, 3) := by decide +kernel
theorem dX12_atom_85 : decode cX12_atom 85 = .ok (.aload_n 0, 1) := by decide +kernel
theorem dX12_atom_86 : decode cX12_atom 86 = .ok (.invokevirtual 128, 3) := by decide +kernel
theorem dX12_atom_89 : decode cX12_atom 89 = .ok (.return_, 1) := by decide +kernel
theorem dX12_term_0 : decode cX12_term 0 = .ok (.aload_n 0, 1) := by decide +kernel
theorem dX12_term_1 : decode cX12_term 1 = .ok (.invokevirtual 159, 3) := by decide +kernel
theorem dX12_term_4 : decode cX12_term 4 = .ok (.aload_n 0, 1) := by decide +kernel
theorem dX12_term_5 : decode cX12_term 5 = .ok (.getfield 119, 3) := by decide +kernel
theorem dX12_term_8 : decode cX12_term 8 = .ok (.iconst (-1), 1) := by decide +kernel
theorem dX12_term_9 : decode cX12_term 9 = .ok (.if_icmp .ne 10, 3) := by decide +kernel
theorem dX12_term_12 : decode cX12_term 12 = .ok (.aload_n 0, 1) := by decide +kernel
theorem dX12_term_13 : decode cX12_term 13 = .ok (.invokevirtual 131, 3) := by decide +kernel
theorem dX12_term_16 : decode cX12_term 16 = .ok (.goto 4, 3) := by decide +kernel
theorem dX12_term_19 : decode cX12_term 19 = .ok (.iconst (-1), 1) := by decide +kernel
theorem dX12_term_20 : decode cX12_term 20 = .ok (.istore_n 1, 1) := by decide +kernel
theorem dX12_term_21 : decode cX12_term 21 = .ok (.iload_n 1, 1) := by decide +kernel
theorem dX12_term_22 : decode cX12_term 22 = .ok (.bipush 42, 2) := by decide +kernel
theorem dX12_term_24 : decode cX12_term 24 = .ok (.if_icmp .eq 9, 3) := by decide +kernel
theorem dX12_term_27 : decode cX12_term 27 = .ok (.iload_n 1, 1) := by decide +kernel
theorem dX12_term_28 : decode cX12_term 28 = .ok (.bipush 47, 2) := by decide +kernel
theorem dX12_term_30 : decode cX12_term 30 = .ok (.if_icmp .ne 53, 3) := by decide +kernel
theorem dX12_term_33 : decode cX12_term 33 = .ok (.aload_n 0, 1) := by decide +kernel
theorem dX12_term_34 : decode cX12_term 34 = .ok (.dup, 1) := by decide +kernel
theorem dX12_term_35 : decode cX12_term 35 = .ok (.getfield 112, 3) := by decide +kernel
theorem dX12_term_38 : decode cX12_term 38 = .ok (.iconst 1, 1) := by decide +kernel
theorem dX12_term_39 : decode cX12_term 39 = .ok (.iadd, 1) := by decide +kernel
theorem dX12_term_40 : decode cX12_term 40 = .ok (.putfield 112, 3) := by decide +kernel
theorem dX12_term_43 : decode cX12_term 43 = .ok (.aload_n 0, 1) := by decide +kernel
theorem dX12_term_44 : decode cX12_term 44 = .ok (.invokevirtual 159, 3) := by decide +kernel
theorem dX12_term_47 : decode cX12_term 47 = .ok (.aload_n 0, 1) := by decide +kernel
theorem dX12_term_48 : decode cX12_term 48 = .ok (.iload_n 1, 1) := by decide +kernel
theorem dX12_term_49 : decode cX12_term 49 = .ok (.bipush 42, 2) := by decide +kernel
theorem dX12_term_51 : decode cX12_term 51 = .ok (.if_icmp .ne 7, 3) := by decide +kernel
theorem dX12_term_54 : decode cX12_term 54 = .ok (.iconst 4, 1) := by decide +kernel
theorem dX12_term_55 : decode cX12_term 55 = .ok (.goto 4, 3) := by decide +kernel
theorem dX12_term_58 : decode cX12_term 58 = .ok (.iconst 5, 1) := by decide +kernel
theorem dX12_term_59 : decode cX12_term 59 = .ok (.iconst 0, 1) := by decide +kernel
theorem dX12_term_60 : decode cX12_term 60 = .ok (.invokevirtual 141, 3) := by decide +kernel
theorem dX12_term_63 : decode cX12_term 63 = .ok (.aload_n 0, 1) := by decide +kernel
theorem dX12_term_64 : decode cX12_term 64 = .ok (.getfield 119, 3) := by decide +kernel
theorem dX12_term_67 : decode cX12_term 67 = .ok (.iconst (-1), 1) := by decide +kernel
theorem dX12_term_68 : decode cX12_term 68 = .ok (.if_icmp .ne 10, 3) := by decide +kernel
theorem dX12_term_71 : decode cX12_term 71 = .ok (.aload_n 0, 1) := by decide +kernel
theorem dX12_term_72 : decode cX12_term 72 = .ok (.invokevirtual 131, 3) := by decide +kernel
theorem dX12_term_75 : decode cX12_term 75 = .ok (.goto 4, 3) := by decide +kernel
theorem dX12_term_78 : decode cX12_term 78 = .ok (.iconst (-1), 1) := by decide +kernel
theorem dX12_term_79 : decode cX12_term 79 = .ok (.istore_n 1, 1) := by decide +kernel
theorem dX12_term_80 : decode cX12_term 80 = .ok (.goto (-59), 3) := by decide +kernel
theorem dX12_term_83 : decode cX12_term 83 = .ok (.return_, 1) := by decide +kernel
theorem dX12_sum_0 : decode cX12_sum 0 = .ok (.aload_n 0, 1) := by decide +kernel
theorem dX12_sum_1 : decode cX12_sum 1 = .ok (.invokevirtual 162, 3) := by decide +kernel
theorem dX12_sum_4 : decode cX12_sum 4 = .ok (.aload_n 0, 1) := by decide +kernel
theorem dX12_sum_5 : decode cX12_sum 5 = .ok (.getfield 119, 3) := by decide +kernel
theorem dX12_sum_8 : decode cX12_sum 8 = .ok (.iconst (-1), 1) := by decide +kernel
theorem dX12_sum_9 : decode cX12_sum 9 = .ok (.if_icmp .ne 10, 3) := by decide +kernel
theorem dX12_sum_12 : decode cX12_sum 12 = .ok (.aload_n 0, 1) := by decide +kernel
theorem dX12_sum_13 : decode cX12_sum 13 = .ok (.invokevirtual 131, 3) := by decide +kernel
theorem dX12_sum_16 : decode cX12_sum 16 = .ok (.goto 4, 3) := by decide +kernel
theorem dX12_sum_19 : decode cX12_sum 19 = .ok (.iconst (-1), 1) := by decide +kernel
theorem dX12_sum_20 : decode cX12_sum 20 = .ok (.istore_n 1, 1) := by decide +kernel
theorem dX12_sum_21 : decode cX12_sum 21 = .ok (.iload_n 1, 1) := by decide +kernel
theorem dX12_sum_22 : decode cX12_sum 22 = .ok (.bipush 43, 2) := by decide +kernel
theorem dX12_sum_24 : decode cX12_sum 24 = .ok (.if_icmp .eq 9, 3) := by decide +kernel
theorem dX12_sum_27 : decode cX12_sum 27 = .ok (.iload_n 1, 1) := by decide +kernel
theorem dX12_sum_28 : decode cX12_sum 28 = .ok (.bipush 45, 2) := by decide +kernel
theorem dX12_sum_30 : decode cX12_sum 30 = .ok (.if_icmp .ne 53, 3) := by decide +kernel
theorem dX12_sum_33 : decode cX12_sum 33 = .ok (.aload_n 0, 1) := by decide +kernel
theorem dX12_sum_34 : decode cX12_sum 34 = .ok (.dup, 1) := by decide +kernel
theorem dX12_sum_35 : decode cX12_sum 35 = .ok (.getfield 112, 3) := by decide +kernel
theorem dX12_sum_38 : decode cX12_sum 38 = .ok (.iconst 1, 1) := by decide +kernel
theorem dX12_sum_39 : decode cX12_sum 39 = .ok (.iadd, 1) := by decide +kernel
theorem dX12_sum_40 : decode cX12_sum 40 = .ok (.putfield 112, 3) := by decide +kernel
theorem dX12_sum_43 : decode cX12_sum 43 = .ok (.aload_n 0, 1) := by decide +kernel
theorem dX12_sum_44 : decode cX12_sum 44 = .ok (.invokevirtual 162, 3) := by decide +kernel
theorem dX12_sum_47 : decode cX12_sum 47 = .ok (.aload_n 0, 1) := by decide +kernel
theorem dX12_sum_48 : decode cX12_sum 48 = .ok (.iload_n 1, 1) := by decide +kernel
theorem dX12_sum_49 : decode cX12_sum 49 = .ok (.bipush 43, 2) := by decide +kernel
theorem dX12_sum_51 : decode cX12_sum 51 = .ok (.if_icmp .ne 7, 3) := by decide +kernel
theorem dX12_sum_54 : decode cX12_sum 54 = .ok (.iconst 2, 1) := by decide +kernel
theorem dX12_sum_55 : decode cX12_sum 55 = .ok (.goto 4, 3) := by decide +kernel
theorem dX12_sum_58 : decode cX12_sum 58 = .ok (.iconst 3, 1) := by decide +kernel
theorem dX12_sum_59 : decode cX12_sum 59 = .ok (.iconst 0, 1) := by decide +kernel
theorem dX12_sum_60 : decode cX12_sum 60 = .ok (.invokevirtual 141, 3) := by decide +kernel
theorem dX12_sum_63 : decode cX12_sum 63 = .ok (.aload_n 0, 1) := by decide +kernel
theorem dX12_sum_64 : decode cX12_sum 64 = .ok (.getfield 119, 3) := by decide +kernel
theorem dX12_sum_67 : decode cX12_sum 67 = .ok (.iconst (-1), 1) := by decide +kernel
theorem dX12_sum_68 : decode cX12_sum 68 = .ok (.if_icmp .ne 10, 3) := by decide +kernel
theorem dX12_sum_71 : decode cX12_sum 71 = .ok (.aload_n 0, 1) := by decide +kernel
theorem dX12_sum_72 : decode cX12_sum 72 = .ok (.invokevirtual 131, 3) := by decide +kernel
theorem dX12_sum_75 : decode cX12_sum 75 = .ok (.goto 4, 3) := by decide +kernel
theorem dX12_sum_78 : decode cX12_sum 78 = .ok (.iconst (-1), 1) := by decide +kernel
theorem dX12_sum_79 : decode cX12_sum 79 = .ok (.istore_n 1, 1) := by decide +kernel
theorem dX12_sum_80 : decode cX12_sum 80 = .ok (.goto (-59), 3) := by decide +kernel
theorem dX12_sum_83 : decode cX12_sum 83 = .ok (.return_, 1) := by decide +kernel
theorem dX12_isSign_0 : decode cX12_isSign 0 = .ok (.iload_n 0, 1) := by decide +kernel
theorem dX12_isSign_1 : decode cX12_isSign 1 = .ok (.bipush 61, 2) := by decide +kernel
theorem dX12_isSign_3 : decode cX12_isSign 3 = .ok (.if_icmp .eq 15, 3) := by decide +kernel
theorem dX12_isSign_6 : decode cX12_isSign 6 = .ok (.iload_n 0, 1) := by decide +kernel
theorem dX12_isSign_7 : decode cX12_isSign 7 = .ok (.bipush 60, 2) := by decide +kernel
theorem dX12_isSign_9 : decode cX12_isSign 9 = .ok (.if_icmp .eq 9, 3) := by decide +kernel
theorem dX12_isSign_12 : decode cX12_isSign 12 = .ok (.iload_n 0, 1) := by decide +kernel
theorem dX12_isSign_13 : decode cX12_isSign 13 = .ok (.bipush 62, 2) := by decide +kernel
theorem dX12_isSign_15 : decode cX12_isSign 15 = .ok (.if_icmp .ne 7, 3) := by decide +kernel
theorem dX12_isSign_18 : decode cX12_isSign 18 = .ok (.iconst 1, 1) := by decide +kernel
theorem dX12_isSign_19 : decode cX12_isSign 19 = .ok (.goto 4, 3) := by decide +kernel
theorem dX12_isSign_22 : decode cX12_isSign 22 = .ok (.iconst 0, 1) := by decide +kernel
theorem dX12_isSign_23 : decode cX12_isSign 23 = .ok (.ireturn, 1) := by decide +kernel
theorem dX12_compare_0 : decode cX12_compare 0 = .ok (.aload_n 0, 1) := by decide +kernel
theorem dX12_compare_1 : decode cX12_compare 1 = .ok (.getfield 119, 3) := by decide +kernel
theorem dX12_compare_4 : decode cX12_compare 4 = .ok (.iconst (-1), 1) := by decide +kernel
theorem dX12_compare_5 : decode cX12_compare 5 = .ok (.if_icmp .ne 10, 3) := by decide +kernel
theorem dX12_compare_8 : decode cX12_compare 8 = .ok (.aload_n 0, 1) := by decide +kernel
theorem dX12_compare_9 : decode cX12_compare 9 = .ok (.invokevirtual 131, 3) := by decide +kernel
theorem dX12_compare_12 : decode cX12_compare 12 = .ok (.goto 4, 3) := by decide +kernel
theorem dX12_compare_15 : decode cX12_compare 15 = .ok (.iconst (-1), 1) := by decide +kernel
theorem dX12_compare_16 : decode cX12_compare 16 = .ok (.istore_n 1, 1) := by decide +kernel
theorem dX12_compare_17 : decode cX12_compare 17 = .ok (.iload_n 1, 1) := by decide +kernel
theorem dX12_compare_18 : decode cX12_compare 18 = .ok (.invokestatic 165, 3) := by decide +kernel
theorem dX12_compare_21 : decode cX12_compare 21 = .ok (.ifCond .ne 8, 3) := by decide +kernel
theorem dX12_compare_24 : decode cX12_compare 24 = .ok (.aload_n 0, 1) := by decide +kernel
theorem dX12_compare_25 : decode cX12_compare 25 = .ok (.invokevirtual 128, 3) := by decide +kernel
theorem dX12_compare_28 : decode cX12_compare 28 = .ok (.return_, 1) := by decide +kernel
theorem dX12_compare_29 : decode cX12_compare 29 = .ok (.aload_n 0, 1) := by decide +kernel
theorem dX12_compare_30 : decode cX12_compare 30 = .ok (.dup, 1) := by decide +kernel
theorem dX12_compare_31 : decode cX12_compare 31 = .ok (.getfield 112, 3) := by decide +kernel
theorem dX12_compare_34 : decode cX12_compare 34 = .ok (.iconst 1, 1) := by decide +kernel
theorem dX12_compare_35 : decode cX12_compare 35 = .ok (.iadd, 1) := by decide +kernel
theorem dX12_compare_36 : decode cX12_compare 36 = .ok (.putfield 112, 3) := by decide +kernel
theorem dX12_compare_39 : decode cX12_compare 39 = .ok (.aload_n 0, 1) := by decide +kernel
theorem dX12_compare_40 : decode cX12_compare 40 = .ok (.invokevirtual 152, 3) := by decide +kernel
theorem dX12_compare_43 : decode cX12_compare 43 = .ok (.aload_n 0, 1) := by decide +kernel
theorem dX12_compare_44 : decode cX12_compare 44 = .ok (.iload_n 1, 1) := by decide +kernel
theorem dX12_compare_45 : decode cX12_compare 45 = .ok (.bipush 61, 2) := by decide +kernel
theorem dX12_compare_47 : decode cX12_compare 47 = .ok (.if_icmp .ne 8, 3) := by decide +kernel
theorem dX12_compare_50 : decode cX12_compare 50 = .ok (.bipush 6, 2) := by decide +kernel
theorem dX12_compare_52 : decode cX12_compare 52 = .ok (.goto 16, 3) := by decide +kernel
theorem dX12_compare_55 : decode cX12_compare 55 = .ok (.iload_n 1, 1) := by decide +kernel
theorem dX12_compare_56 : decode cX12_compare 56 = .ok (.bipush 60, 2) := by decide +kernel
theorem dX12_compare_58 : decode cX12_compare 58 = .ok (.if_icmp .ne 8, 3) := by decide +kernel
theorem dX12_compare_61 : decode cX12_compare 61 = .ok (.bipush 7, 2) := by decide +kernel
theorem dX12_compare_63 : decode cX12_compare 63 = .ok (.goto 5, 3) := by decide +kernel
theorem dX12_compare_66 : decode cX12_compare 66 = .ok (.bipush 8, 2) := by decide +kernel
theorem dX12_compare_68 : decode cX12_compare 68 = .ok (.iconst 0, 1) := by decide +kernel
theorem dX12_compare_69 : decode cX12_compare 69 = .ok (.invokevirtual 141, 3) := by decide +kernel
theorem dX12_compare_72 : decode cX12_compare 72 = .ok (.return_, 1) := by decide +kernel
theorem dX12_unit_0 : decode cX12_unit 0 = .ok (.aload_n 0, 1) := by decide +kernel
theorem dX12_unit_1 : decode cX12_unit 1 = .ok (.invokevirtual 131, 3) := by decide +kernel
theorem dX12_unit_4 : decode cX12_unit 4 = .ok (.istore_n 1, 1) := by decide +kernel
theorem dX12_unit_5 : decode cX12_unit 5 = .ok (.iload_n 1, 1) := by decide +kernel
theorem dX12_unit_6 : decode cX12_unit 6 = .ok (.bipush 33, 2) := by decide +kernel
theorem dX12_unit_8 : decode cX12_unit 8 = .ok (.if_icmp .ne 39, 3) := by decide +kernel
theorem dX12_unit_11 : decode cX12_unit 11 = .ok (.aload_n 0, 1) := by decide +kernel
theorem dX12_unit_12 : decode cX12_unit 12 = .ok (.invokevirtual 149, 3) := by decide +kernel
theorem dX12_unit_15 : decode cX12_unit 15 = .ok (.aload_n 0, 1) := by decide +kernel
theorem dX12_unit_16 : decode cX12_unit 16 = .ok (.getfield 119, 3) := by decide +kernel
theorem dX12_unit_19 : decode cX12_unit 19 = .ok (.iconst (-1), 1) := by decide +kernel
theorem dX12_unit_20 : decode cX12_unit 20 = .ok (.if_icmp .ne 74, 3) := by decide +kernel
theorem dX12_unit_23 : decode cX12_unit 23 = .ok (.aload_n 0, 1) := by decide +kernel
theorem dX12_unit_24 : decode cX12_unit 24 = .ok (.invokevirtual 168, 3) := by decide +kernel
theorem dX12_unit_27 : decode cX12_unit 27 = .ok (.aload_n 0, 1) := by decide +kernel
theorem dX12_unit_28 : decode cX12_unit 28 = .ok (.bipush 9, 2) := by decide +kernel
theorem dX12_unit_30 : decode cX12_unit 30 = .ok (.iconst 0, 1) := by decide +kernel
theorem dX12_unit_31 : decode cX12_unit 31 = .ok (.invokevirtual 141, 3) := by decide +kernel
theorem dX12_unit_34 : decode cX12_unit 34 = .ok (.aload_n 0, 1) := by decide +kernel
theorem dX12_unit_35 : decode cX12_unit 35 = .ok (.dup, 1) := by decide +kernel
theorem dX12_unit_36 : decode cX12_unit 36 = .ok (.getfield 125, 3) := by decide +kernel
theorem dX12_unit_39 : decode cX12_unit 39 = .ok (.iconst 1, 1) := by decide +kernel
theorem dX12_unit_40 : decode cX12_unit 40 = .ok (.isub, 1) := by decide +kernel
theorem dX12_unit_41 : decode cX12_unit 41 = .ok (.putfield 125, 3) := by decide +kernel
theorem dX12_unit_44 : decode cX12_unit 44 = .ok (.goto 50, 3) := by decide +kernel
theorem dX12_unit_47 : decode cX12_unit 47 = .ok (.iload_n 1, 1) := by decide +kernel
theorem dX12_unit_48 : decode cX12_unit 48 = .ok (.bipush 40, 2) := by decide +kernel
theorem dX12_unit_50 : decode cX12_unit 50 = .ok (.if_icmp .ne 28, 3) := by decide +kernel
theorem dX12_unit_53 : decode cX12_unit 53 = .ok (.aload_n 0, 1) := by decide +kernel
theorem dX12_unit_54 : decode cX12_unit 54 = .ok (.invokevirtual 149, 3) := by decide +kernel
theorem dX12_unit_57 : decode cX12_unit 57 = .ok (.aload_n 0, 1) := by decide +kernel
theorem dX12_unit_58 : decode cX12_unit 58 = .ok (.getfield 119, 3) := by decide +kernel
theorem dX12_unit_61 : decode cX12_unit 61 = .ok (.iconst (-1), 1) := by decide +kernel
theorem dX12_unit_62 : decode cX12_unit 62 = .ok (.if_icmp .ne 32, 3) := by decide +kernel
theorem dX12_unit_65 : decode cX12_unit 65 = .ok (.aload_n 0, 1) := by decide +kernel
theorem dX12_unit_66 : decode cX12_unit 66 = .ok (.invokevirtual 171, 3) := by decide +kernel
theorem dX12_unit_69 : decode cX12_unit 69 = .ok (.aload_n 0, 1) := by decide +kernel
theorem dX12_unit_70 : decode cX12_unit 70 = .ok (.bipush 41, 2) := by decide +kernel
theorem dX12_unit_72 : decode cX12_unit 72 = .ok (.invokevirtual 155, 3) := by decide +kernel
theorem dX12_unit_75 : decode cX12_unit 75 = .ok (.goto 19, 3) := by decide +kernel
theorem dX12_unit_78 : decode cX12_unit 78 = .ok (.aload_n 0, 1) := by decide +kernel
theorem dX12_unit_79 : decode cX12_unit 79 = .ok (.invokevirtual 152, 3) := by decide +kernel
theorem dX12_unit_82 : decode cX12_unit 82 = .ok (.aload_n 0, 1) := by decide +kernel
theorem dX12_unit_83 : decode cX12_unit 83 = .ok (.getfield 119, 3) := by decide +kernel
theorem dX12_unit_86 : decode cX12_unit 86 = .ok (.iconst (-1), 1) := by decide +kernel
theorem dX12_unit_87 : decode cX12_unit 87 = .ok (.if_icmp .ne 7, 3) := by decide +kernel
theorem dX12_unit_90 : decode cX12_unit 90 = .ok (.aload_n 0, 1) := by decide +kernel
theorem dX12_unit_91 : decode cX12_unit 91 = .ok (.invokevirtual 174, 3) := by decide +kernel
theorem dX12_unit_94 : decode cX12_unit 94 = .ok (.return_, 1) := by decide +kernel
theorem dX12_goOnAnd_0 : decode cX12_goOnAnd 0 = .ok (.aload_n 0, 1) := by decide +kernel
theorem dX12_goOnAnd_1 : decode cX12_goOnAnd 1 = .ok (.getfield 119, 3) := by decide +kernel
theorem dX12_goOnAnd_4 : decode cX12_goOnAnd 4 = .ok (.iconst (-1), 1) := by decide +kernel
theorem dX12_goOnAnd_5 : decode cX12_goOnAnd 5 = .ok (.if_icmp .ne 36, 3) := by decide +kernel
theorem dX12_goOnAnd_8 : decode cX12_goOnAnd 8 = .ok (.aload_n 0, 1) := by decide +kernel
theorem dX12_goOnAnd_9 : decode cX12_goOnAnd 9 = .ok (.invokevirtual 131, 3) := by decide +kernel
theorem dX12_goOnAnd_12 : decode cX12_goOnAnd 12 = .ok (.bipush 38, 2) := by decide +kernel
theorem dX12_goOnAnd_14 : decode cX12_goOnAnd 14 = .ok (.if_icmp .ne 27, 3) := by decide +kernel
theorem dX12_goOnAnd_17 : decode cX12_goOnAnd 17 = .ok (.aload_n 0, 1) := by decide +kernel
theorem dX12_goOnAnd_18 : decode cX12_goOnAnd 18 = .ok (.dup, 1) := by decide +kernel
theorem dX12_goOnAnd_19 : decode cX12_goOnAnd 19 = .ok (.getfield 112, 3) := by decide +kernel
theorem dX12_goOnAnd_22 : decode cX12_goOnAnd 22 = .ok (.iconst 1, 1) := by decide +kernel
theorem dX12_goOnAnd_23 : decode cX12_goOnAnd 23 = .ok (.iadd, 1) := by decide +kernel
theorem dX12_goOnAnd_24 : decode cX12_goOnAnd 24 = .ok (.putfield 112, 3) := by decide +kernel
theorem dX12_goOnAnd_27 : decode cX12_goOnAnd 27 = .ok (.aload_n 0, 1) := by decide +kernel
theorem dX12_goOnAnd_28 : decode cX12_goOnAnd 28 = .ok (.invokevirtual 168, 3) := by decide +kernel
theorem dX12_goOnAnd_31 : decode cX12_goOnAnd 31 = .ok (.aload_n 0, 1) := by decide +kernel
theorem dX12_goOnAnd_32 : decode cX12_goOnAnd 32 = .ok (.bipush 10, 2) := by decide +kernel
theorem dX12_goOnAnd_34 : decode cX12_goOnAnd 34 = .ok (.iconst 0, 1) := by decide +kernel
theorem dX12_goOnAnd_35 : decode cX12_goOnAnd 35 = .ok (.invokevirtual 141, 3) := by decide +kernel
theorem dX12_goOnAnd_38 : decode cX12_goOnAnd 38 = .ok (.goto (-38), 3) := by decide +kernel
theorem dX12_goOnAnd_41 : decode cX12_goOnAnd 41 = .ok (.return_, 1) := by decide +kernel
theorem dX12_goOnOr_0 : decode cX12_goOnOr 0 = .ok (.aload_n 0, 1) := by decide +kernel
theorem dX12_goOnOr_1 : decode cX12_goOnOr 1 = .ok (.getfield 119, 3) := by decide +kernel
theorem dX12_goOnOr_4 : decode cX12_goOnOr 4 = .ok (.iconst (-1), 1) := by decide +kernel
theorem dX12_goOnOr_5 : decode cX12_goOnOr 5 = .ok (.if_icmp .ne 40, 3) := by decide +kernel
theorem dX12_goOnOr_8 : decode cX12_goOnOr 8 = .ok (.aload_n 0, 1) := by decide +kernel
theorem dX12_goOnOr_9 : decode cX12_goOnOr 9 = .ok (.invokevirtual 131, 3) := by decide +kernel
theorem dX12_goOnOr_12 : decode cX12_goOnOr 12 = .ok (.bipush 124, 2) := by decide +kernel
theorem dX12_goOnOr_14 : decode cX12_goOnOr 14 = .ok (.if_icmp .ne 31, 3) := by decide +kernel
theorem dX12_goOnOr_17 : decode cX12_goOnOr 17 = .ok (.aload_n 0, 1) := by decide +kernel
theorem dX12_goOnOr_18 : decode cX12_goOnOr 18 = .ok (.dup, 1) := by decide +kernel
theorem dX12_goOnOr_19 : decode cX12_goOnOr 19 = .ok (.getfield 112, 3) := by decide +kernel
theorem dX12_goOnOr_22 : decode cX12_goOnOr 22 = .ok (.iconst 1, 1) := by decide +kernel
theorem dX12_goOnOr_23 : decode cX12_goOnOr 23 = .ok (.iadd, 1) := by decide +kernel
theorem dX12_goOnOr_24 : decode cX12_goOnOr 24 = .ok (.putfield 112, 3) := by decide +kernel
theorem dX12_goOnOr_27 : decode cX12_goOnOr 27 = .ok (.aload_n 0, 1) := by decide +kernel
theorem dX12_goOnOr_28 : decode cX12_goOnOr 28 = .ok (.invokevirtual 168, 3) := by decide +kernel
theorem dX12_goOnOr_31 : decode cX12_goOnOr 31 = .ok (.aload_n 0, 1) := by decide +kernel
theorem dX12_goOnOr_32 : decode cX12_goOnOr 32 = .ok (.invokevirtual 177, 3) := by decide +kernel
theorem dX12_goOnOr_35 : decode cX12_goOnOr 35 = .ok (.aload_n 0, 1) := by decide +kernel
theorem dX12_goOnOr_36 : decode cX12_goOnOr 36 = .ok (.bipush 11, 2) := by decide +kernel
theorem dX12_goOnOr_38 : decode cX12_goOnOr 38 = .ok (.iconst 0, 1) := by decide +kernel
theorem dX12_goOnOr_39 : decode cX12_goOnOr 39 = .ok (.invokevirtual 141, 3) := by decide +kernel
theorem dX12_goOnOr_42 : decode cX12_goOnOr 42 = .ok (.goto (-42), 3) := by decide +kernel
theorem dX12_goOnOr_45 : decode cX12_goOnOr 45 = .ok (.return_, 1) := by decide +kernel
theorem dX12_condition_0 : decode cX12_condition 0 = .ok (.aload_n 0, 1) := by decide +kernel
theorem dX12_condition_1 : decode cX12_condition 1 = .ok (.invokevirtual 168, 3) := by decide +kernel
theorem dX12_condition_4 : decode cX12_condition 4 = .ok (.aload_n 0, 1) := by decide +kernel
theorem dX12_condition_5 : decode cX12_condition 5 = .ok (.invokevirtual 177, 3) := by decide +kernel
theorem dX12_condition_8 : decode cX12_condition 8 = .ok (.aload_n 0, 1) := by decide +kernel
theorem dX12_condition_9 : decode cX12_condition 9 = .ok (.invokevirtual 180, 3) := by decide +kernel
theorem dX12_condition_12 : decode cX12_condition 12 = .ok (.return_, 1) := by decide +kernel
theorem dX12_clause_0 : decode cX12_clause 0 = .ok (.sipush 140, 3) := by decide +kernel
theorem dX12_clause_3 : decode cX12_clause 3 = .ok (.aload_n 0, 1) := by decide +kernel
theorem dX12_clause_4 : decode cX12_clause 4 = .ok (.getfield 122, 3) := by decide +kernel
theorem dX12_clause_7 : decode cX12_clause 7 = .ok (.imul, 1) := by decide +kernel
theorem dX12_clause_8 : decode cX12_clause 8 = .ok (.aload_n 0, 1) := by decide +kernel
theorem dX12_clause_9 : decode cX12_clause 9 = .ok (.getfield 22, 3) := by decide +kernel
theorem dX12_clause_12 : decode cX12_clause 12 = .ok (.aload_n 0, 1) := by decide +kernel
theorem dX12_clause_13 : decode cX12_clause 13 = .ok (.getfield 122, 3) := by decide +kernel
theorem dX12_clause_16 : decode cX12_clause 16 = .ok (.iaload, 1) := by decide +kernel
theorem dX12_clause_17 : decode cX12_clause 17 = .ok (.iadd, 1) := by decide +kernel
theorem dX12_clause_18 : decode cX12_clause 18 = .ok (.istore_n 1, 1) := by decide +kernel
theorem dX12_clause_19 : decode cX12_clause 19 = .ok (.aload_n 0, 1) := by decide +kernel
theorem dX12_clause_20 : decode cX12_clause 20 = .ok (.getfield 119, 3) := by decide +kernel
theorem dX12_clause_23 : decode cX12_clause 23 = .ok (.iconst (-1), 1) := by decide +kernel
theorem dX12_clause_24 : decode cX12_clause 24 = .ok (.if_icmp .ne 16, 3) := by decide +kernel
theorem dX12_clause_27 : decode cX12_clause 27 = .ok (.aload_n 0, 1) := by decide +kernel
theorem dX12_clause_28 : decode cX12_clause 28 = .ok (.invokevirtual 131, 3) := by decide +kernel
theorem dX12_clause_31 : decode cX12_clause 31 = .ok (.bipush 121, 2) := by decide +kernel
theorem dX12_clause_33 : decode cX12_clause 33 = .ok (.if_icmp .eq 7, 3) := by decide +kernel
theorem dX12_clause_36 : decode cX12_clause 36 = .ok (.aload_n 0, 1) := by decide +kernel
theorem dX12_clause_37 : decode cX12_clause 37 = .ok (.invokevirtual 128, 3) := by decide +kernel
theorem dX12_clause_40 : decode cX12_clause 40 = .ok (.aload_n 0, 1) := by decide +kernel
theorem dX12_clause_41 : decode cX12_clause 41 = .ok (.dup, 1) := by decide +kernel
theorem dX12_clause_42 : decode cX12_clause 42 = .ok (.getfield 112, 3) := by decide +kernel
theorem dX12_clause_45 : decode cX12_clause 45 = .ok (.iconst 1, 1) := by decide +kernel
theorem dX12_clause_46 : decode cX12_clause 46 = .ok (.iadd, 1) := by decide +kernel
theorem dX12_clause_47 : decode cX12_clause 47 = .ok (.putfield 112, 3) := by decide +kernel
theorem dX12_clause_50 : decode cX12_clause 50 = .ok (.aload_n 0, 1) := by decide +kernel
theorem dX12_clause_51 : decode cX12_clause 51 = .ok (.getfield 119, 3) := by decide +kernel
theorem dX12_clause_54 : decode cX12_clause 54 = .ok (.iconst (-1), 1) := by decide +kernel
theorem dX12_clause_55 : decode cX12_clause 55 = .ok (.if_icmp .ne 16, 3) := by decide +kernel
theorem dX12_clause_58 : decode cX12_clause 58 = .ok (.aload_n 0, 1) := by decide +kernel
theorem dX12_clause_59 : decode cX12_clause 59 = .ok (.invokevirtual 131, 3) := by decide +kernel
theorem dX12_clause_62 : decode cX12_clause 62 = .ok (.bipush 58, 2) := by decide +kernel
theorem dX12_clause_64 : decode cX12_clause 64 = .ok (.if_icmp .eq 7, 3) := by decide +kernel
theorem dX12_clause_67 : decode cX12_clause 67 = .ok (.aload_n 0, 1) := by decide +kernel
theorem dX12_clause_68 : decode cX12_clause 68 = .ok (.invokevirtual 128, 3) := by decide +kernel
theorem dX12_clause_71 : decode cX12_clause 71 = .ok (.aload_n 0, 1) := by decide +kernel
theorem dX12_clause_72 : decode cX12_clause 72 = .ok (.dup, 1) := by decide +kernel
theorem dX12_clause_73 : decode cX12_clause 73 = .ok (.getfield 112, 3) := by decide +kernel
theorem dX12_clause_76 : decode cX12_clause 76 = .ok (.iconst 1, 1) := by decide +kernel
theorem dX12_clause_77 : decode cX12_clause 77 = .ok (.iadd, 1) := by decide +kernel
theorem dX12_clause_78 : decode cX12_clause 78 = .ok (.putfield 112, 3) := by decide +kernel
theorem dX12_clause_81 : decode cX12_clause 81 = .ok (.aload_n 0, 1) := by decide +kernel
theorem dX12_clause_82 : decode cX12_clause 82 = .ok (.getfield 119, 3) := by decide +kernel
theorem dX12_clause_85 : decode cX12_clause 85 = .ok (.iconst (-1), 1) := by decide +kernel
theorem dX12_clause_86 : decode cX12_clause 86 = .ok (.if_icmp .eq 4, 3) := by decide +kernel
theorem dX12_clause_89 : decode cX12_clause 89 = .ok (.return_, 1) := by decide +kernel
theorem dX12_clause_90 : decode cX12_clause 90 = .ok (.aload_n 0, 1) := by decide +kernel
theorem dX12_clause_91 : decode cX12_clause 91 = .ok (.getfield 25, 3) := by decide +kernel
theorem dX12_clause_94 : decode cX12_clause 94 = .ok (.iload_n 1, 1) := by decide +kernel
theorem dX12_clause_95 : decode cX12_clause 95 = .ok (.aload_n 0, 1) := by decide +kernel
theorem dX12_clause_96 : decode cX12_clause 96 = .ok (.getfield 19, 3) := by decide +kernel
theorem dX12_clause_99 : decode cX12_clause 99 = .ok (.aload_n 0, 1) := by decide +kernel
theorem dX12_clause_100 : decode cX12_clause 100 = .ok (.getfield 122, 3) := by decide +kernel
theorem dX12_clause_103 : decode cX12_clause 103 = .ok (.iaload, 1) := by decide +kernel
theorem dX12_clause_104 : decode cX12_clause 104 = .ok (.iastore, 1) := by decide +kernel
theorem dX12_clause_105 : decode cX12_clause 105 = .ok (.aload_n 0, 1) := by decide +kernel
theorem dX12_clause_106 : decode cX12_clause 106 = .ok (.invokevirtual 131, 3) := by decide +kernel
theorem dX12_clause_109 : decode cX12_clause 109 = .ok (.bipush 33, 2) := by decide +kernel
theorem dX12_clause_111 : decode cX12_clause 111 = .ok (.if_icmp .eq 12, 3) := by decide +kernel
theorem dX12_clause_114 : decode cX12_clause 114 = .ok (.aload_n 0, 1) := by decide +kernel
theorem dX12_clause_115 : decode cX12_clause 115 = .ok (.invokevirtual 131, 3) := by decide +kernel
theorem dX12_clause_118 : decode cX12_clause 118 = .ok (.bipush 40, 2) := by decide +kernel
theorem dX12_clause_120 : decode cX12_clause 120 = .ok (.if_icmp .ne 7, 3) := by decide +kernel
theorem dX12_clause_123 : decode cX12_clause 123 = .ok (.iconst 1, 1) := by decide +kernel
theorem dX12_clause_124 : decode cX12_clause 124 = .ok (.goto 4, 3) := by decide +kernel
theorem dX12_clause_127 : decode cX12_clause 127 = .ok (.iconst 0, 1) := by decide +kernel
theorem dX12_clause_128 : decode cX12_clause 128 = .ok (.istore_n 2, 1) := by decide +kernel
theorem dX12_clause_129 : decode cX12_clause 129 = .ok (.iload_n 2, 1) := by decide +kernel
theorem dX12_clause_130 : decode cX12_clause 130 = .ok (.ifCond .eq 10, 3) := by decide +kernel
theorem dX12_clause_133 : decode cX12_clause 133 = .ok (.aload_n 0, 1) := by decide +kernel
theorem dX12_clause_134 : decode cX12_clause 134 = .ok (.invokevirtual 171, 3) := by decide +kernel
theorem dX12_clause_137 : decode cX12_clause 137 = .ok (.goto 47, 3) := by decide +kernel
theorem dX12_clause_140 : decode cX12_clause 140 = .ok (.aload_n 0, 1) := by decide +kernel
theorem dX12_clause_141 : decode cX12_clause 141 = .ok (.invokevirtual 152, 3) := by decide +kernel
theorem dX12_clause_144 : decode cX12_clause 144 = .ok (.aload_n 0, 1) := by decide +kernel
theorem dX12_clause_145 : decode cX12_clause 145 = .ok (.getfield 119, 3) := by decide +kernel
theorem dX12_clause_148 : decode cX12_clause 148 = .ok (.iconst (-1), 1) := by decide +kernel
theorem dX12_clause_149 : decode cX12_clause 149 = .ok (.if_icmp .ne 17, 3) := by decide +kernel
theorem dX12_clause_152 : decode cX12_clause 152 = .ok (.aload_n 0, 1) := by decide +kernel
theorem dX12_clause_153 : decode cX12_clause 153 = .ok (.invokevirtual 131, 3) := by decide +kernel
theorem dX12_clause_156 : decode cX12_clause 156 = .ok (.invokestatic 165, 3) := by decide +kernel
theorem dX12_clause_159 : decode cX12_clause 159 = .ok (.ifCond .eq 7, 3) := by decide +kernel
theorem dX12_clause_162 : decode cX12_clause 162 = .ok (.iconst 1, 1) := by decide +kernel
theorem dX12_clause_163 : decode cX12_clause 163 = .ok (.goto 4, 3) := by decide +kernel
theorem dX12_clause_166 : decode cX12_clause 166 = .ok (.iconst 0, 1) := by decide +kernel
theorem dX12_clause_167 : decode cX12_clause 167 = .ok (.istore_n 2, 1) := by decide +kernel
theorem dX12_clause_168 : decode cX12_clause 168 = .ok (.iload_n 2, 1) := by decide +kernel
theorem dX12_clause_169 : decode cX12_clause 169 = .ok (.ifCond .eq 15, 3) := by decide +kernel
theorem dX12_clause_172 : decode cX12_clause 172 = .ok (.aload_n 0, 1) := by decide +kernel
theorem dX12_clause_173 : decode cX12_clause 173 = .ok (.invokevirtual 174, 3) := by decide +kernel
theorem dX12_clause_176 : decode cX12_clause 176 = .ok (.aload_n 0, 1) := by decide +kernel
theorem dX12_clause_177 : decode cX12_clause 177 = .ok (.invokevirtual 177, 3) := by decide +kernel
theorem dX12_clause_180 : decode cX12_clause 180 = .ok (.aload_n 0, 1) := by decide +kernel
theorem dX12_clause_181 : decode cX12_clause 181 = .ok (.invokevirtual 180, 3) := by decide +kernel
theorem dX12_clause_184 : decode cX12_clause 184 = .ok (.aload_n 0, 1) := by decide +kernel
theorem dX12_clause_185 : decode cX12_clause 185 = .ok (.getfield 28, 3) := by decide +kernel
theorem dX12_clause_188 : decode cX12_clause 188 = .ok (.iload_n 1, 1) := by decide +kernel
theorem dX12_clause_189 : decode cX12_clause 189 = .ok (.aload_n 0, 1) := by decide +kernel
theorem dX12_clause_190 : decode cX12_clause 190 = .ok (.getfield 25, 3) := by decide +kernel
theorem dX12_clause_193 : decode cX12_clause 193 = .ok (.iload_n 1, 1) := by decide +kernel
theorem dX12_clause_194 : decode cX12_clause 194 = .ok (.iaload, 1) := by decide +kernel
theorem dX12_clause_195 : decode cX12_clause 195 = .ok (.iastore, 1) := by decide +kernel
theorem dX12_clause_196 : decode cX12_clause 196 = .ok (.iload_n 2, 1) := by decide +kernel
theorem dX12_clause_197 : decode cX12_clause 197 = .ok (.ifCond .eq 54, 3) := by decide +kernel
theorem dX12_clause_200 : decode cX12_clause 200 = .ok (.aload_n 0, 1) := by decide +kernel
theorem dX12_clause_201 : decode cX12_clause 201 = .ok (.getfield 119, 3) := by decide +kernel
theorem dX12_clause_204 : decode cX12_clause 204 = .ok (.iconst (-1), 1) := by decide +kernel
theorem dX12_clause_205 : decode cX12_clause 205 = .ok (.if_icmp .ne 46, 3) := by decide +kernel
theorem dX12_clause_208 : decode cX12_clause 208 = .ok (.aload_n 0, 1) := by decide +kernel
theorem dX12_clause_209 : decode cX12_clause 209 = .ok (.invokevirtual 131, 3) := by decide +kernel
theorem dX12_clause_212 : decode cX12_clause 212 = .ok (.bipush 63, 2) := by decide +kernel
theorem dX12_clause_214 : decode cX12_clause 214 = .ok (.if_icmp .eq 8, 3) := by decide +kernel
theorem dX12_clause_217 : decode cX12_clause 217 = .ok (.aload_n 0, 1) := by decide +kernel
theorem dX12_clause_218 : decode cX12_clause 218 = .ok (.invokevirtual 128, 3) := by decide +kernel
theorem dX12_clause_221 : decode cX12_clause 221 = .ok (.return_, 1) := by decide +kernel
theorem dX12_clause_222 : decode cX12_clause 222 = .ok (.aload_n 0, 1) := by decide +kernel
theorem dX12_clause_223 : decode cX12_clause 223 = .ok (.dup, 1) := by decide +kernel
theorem dX12_clause_224 : decode cX12_clause 224 = .ok (.getfield 112, 3) := by decide +kernel
theorem dX12_clause_227 : decode cX12_clause 227 = .ok (.iconst 1, 1) := by decide +kernel
theorem dX12_clause_228 : decode cX12_clause 228 = .ok (.iadd, 1) := by decide +kernel
theorem dX12_clause_229 : decode cX12_clause 229 = .ok (.putfield 112, 3) := by decide +kernel
theorem dX12_clause_232 : decode cX12_clause 232 = .ok (.aload_n 0, 1) := by decide +kernel
theorem dX12_clause_233 : decode cX12_clause 233 = .ok (.getfield 28, 3) := by decide +kernel
theorem dX12_clause_236 : decode cX12_clause 236 = .ok (.iload_n 1, 1) := by decide +kernel
theorem dX12_clause_237 : decode cX12_clause 237 = .ok (.aload_n 0, 1) := by decide +kernel
theorem dX12_clause_238 : decode cX12_clause 238 = .ok (.getfield 19, 3) := by decide +kernel
theorem dX12_clause_241 : decode cX12_clause 241 = .ok (.aload_n 0, 1) := by decide +kernel
theorem dX12_clause_242 : decode cX12_clause 242 = .ok (.getfield 122, 3) := by decide +kernel
theorem dX12_clause_245 : decode cX12_clause 245 = .ok (.iaload, 1) := by decide +kernel
theorem dX12_clause_246 : decode cX12_clause 246 = .ok (.iastore, 1) := by decide +kernel
theorem dX12_clause_247 : decode cX12_clause 247 = .ok (.aload_n 0, 1) := by decide +kernel
theorem dX12_clause_248 : decode cX12_clause 248 = .ok (.invokevirtual 152, 3) := by decide +kernel
theorem dX12_clause_251 : decode cX12_clause 251 = .ok (.aload_n 0, 1) := by decide +kernel
theorem dX12_clause_252 : decode cX12_clause 252 = .ok (.getfield 31, 3) := by decide +kernel
theorem dX12_clause_255 : decode cX12_clause 255 = .ok (.iload_n 1, 1) := by decide +kernel
theorem dX12_clause_256 : decode cX12_clause 256 = .ok (.aload_n 0, 1) := by decide +kernel
theorem dX12_clause_257 : decode cX12_clause 257 = .ok (.getfield 19, 3) := by decide +kernel
theorem dX12_clause_260 : decode cX12_clause 260 = .ok (.aload_n 0, 1) := by decide +kernel
theorem dX12_clause_261 : decode cX12_clause 261 = .ok (.getfield 122, 3) := by decide +kernel
theorem dX12_clause_264 : decode cX12_clause 264 = .ok (.iaload, 1) := by decide +kernel
theorem dX12_clause_265 : decode cX12_clause 265 = .ok (.iastore, 1) := by decide +kernel
theorem dX12_clause_266 : decode cX12_clause 266 = .ok (.aload_n 0, 1) := by decide +kernel
theorem dX12_clause_267 : decode cX12_clause 267 = .ok (.getfield 22, 3) := by decide +kernel
theorem dX12_clause_270 : decode cX12_clause 270 = .ok (.aload_n 0, 1) := by decide +kernel
theorem dX12_clause_271 : decode cX12_clause 271 = .ok (.getfield 122, 3) := by decide +kernel
theorem dX12_clause_274 : decode cX12_clause 274 = .ok (.dup2, 1) := by decide +kernel
theorem dX12_clause_275 : decode cX12_clause 275 = .ok (.iaload, 1) := by decide +kernel
theorem dX12_clause_276 : decode cX12_clause 276 = .ok (.iconst 1, 1) := by decide +kernel
theorem dX12_clause_277 : decode cX12_clause 277 = .ok (.iadd, 1) := by decide +kernel
theorem dX12_clause_278 : decode cX12_clause 278 = .ok (.iastore, 1) := by decide +kernel
theorem dX12_clause_279 : decode cX12_clause 279 = .ok (.return_, 1) := by decide +kernel
theorem dX12_open_0 : decode cX12_open 0 = .ok (.aload_n 0, 1) := by decide +kernel
theorem dX12_open_1 : decode cX12_open 1 = .ok (.iload_n 1, 1) := by decide +kernel
theorem dX12_open_2 : decode cX12_open 2 = .ok (.putfield 122, 3) := by decide +kernel
theorem dX12_open_5 : decode cX12_open 5 = .ok (.aload_n 0, 1) := by decide +kernel
theorem dX12_open_6 : decode cX12_open 6 = .ok (.iconst 0, 1) := by decide +kernel
theorem dX12_open_7 : decode cX12_open 7 = .ok (.putfield 112, 3) := by decide +kernel
theorem dX12_open_10 : decode cX12_open 10 = .ok (.aload_n 0, 1) := by decide +kernel
theorem dX12_open_11 : decode cX12_open 11 = .ok (.iconst (-1), 1) := by decide +kernel
theorem dX12_open_12 : decode cX12_open 12 = .ok (.putfield 119, 3) := by decide +kernel
theorem dX12_open_15 : decode cX12_open 15 = .ok (.aload_n 0, 1) := by decide +kernel
theorem dX12_open_16 : decode cX12_open 16 = .ok (.iconst 0, 1) := by decide +kernel
theorem dX12_open_17 : decode cX12_open 17 = .ok (.putfield 125, 3) := by decide +kernel
theorem dX12_open_20 : decode cX12_open 20 = .ok (.aload_n 0, 1) := by decide +kernel
theorem dX12_open_21 : decode cX12_open 21 = .ok (.getfield 19, 3) := by decide +kernel
theorem dX12_open_24 : decode cX12_open 24 = .ok (.iload_n 1, 1) := by decide +kernel
theorem dX12_open_25 : decode cX12_open 25 = .ok (.iconst 0, 1) := by decide +kernel
theorem dX12_open_26 : decode cX12_open 26 = .ok (.iastore, 1) := by decide +kernel
theorem dX12_open_27 : decode cX12_open 27 = .ok (.aload_n 0, 1) := by decide +kernel
theorem dX12_open_28 : decode cX12_open 28 = .ok (.getfield 22, 3) := by decide +kernel
theorem dX12_open_31 : decode cX12_open 31 = .ok (.iload_n 1, 1) := by decide +kernel
theorem dX12_open_32 : decode cX12_open 32 = .ok (.iconst 0, 1) := by decide +kernel
theorem dX12_open_33 : decode cX12_open 33 = .ok (.iastore, 1) := by decide +kernel
theorem dX12_open_34 : decode cX12_open 34 = .ok (.return_, 1) := by decide +kernel
theorem dX12_atEnd_0 : decode cX12_atEnd 0 = .ok (.aload_n 0, 1) := by decide +kernel
theorem dX12_atEnd_1 : decode cX12_atEnd 1 = .ok (.getfield 119, 3) := by decide +kernel
theorem dX12_atEnd_4 : decode cX12_atEnd 4 = .ok (.iconst (-1), 1) := by decide +kernel
theorem dX12_atEnd_5 : decode cX12_atEnd 5 = .ok (.if_icmp .ne 15, 3) := by decide +kernel
theorem dX12_atEnd_8 : decode cX12_atEnd 8 = .ok (.aload_n 0, 1) := by decide +kernel
theorem dX12_atEnd_9 : decode cX12_atEnd 9 = .ok (.invokevirtual 131, 3) := by decide +kernel
theorem dX12_atEnd_12 : decode cX12_atEnd 12 = .ok (.iconst (-1), 1) := by decide +kernel
theorem dX12_atEnd_13 : decode cX12_atEnd 13 = .ok (.if_icmp .eq 7, 3) := by decide +kernel
theorem dX12_atEnd_16 : decode cX12_atEnd 16 = .ok (.aload_n 0, 1) := by decide +kernel
theorem dX12_atEnd_17 : decode cX12_atEnd 17 = .ok (.invokevirtual 128, 3) := by decide +kernel
theorem dX12_atEnd_20 : decode cX12_atEnd 20 = .ok (.aload_n 0, 1) := by decide +kernel
theorem dX12_atEnd_21 : decode cX12_atEnd 21 = .ok (.getfield 119, 3) := by decide +kernel
theorem dX12_atEnd_24 : decode cX12_atEnd 24 = .ok (.ireturn, 1) := by decide +kernel
theorem dX12_readLaw_0 : decode cX12_readLaw 0 = .ok (.aload_n 0, 1) := by decide +kernel
theorem dX12_readLaw_1 : decode cX12_readLaw 1 = .ok (.iload_n 1, 1) := by decide +kernel
theorem dX12_readLaw_2 : decode cX12_readLaw 2 = .ok (.invokevirtual 183, 3) := by decide +kernel
theorem dX12_readLaw_5 : decode cX12_readLaw 5 = .ok (.aload_n 0, 1) := by decide +kernel
theorem dX12_readLaw_6 : decode cX12_readLaw 6 = .ok (.invokevirtual 186, 3) := by decide +kernel
theorem dX12_readLaw_9 : decode cX12_readLaw 9 = .ok (.aload_n 0, 1) := by decide +kernel
theorem dX12_readLaw_10 : decode cX12_readLaw 10 = .ok (.getfield 119, 3) := by decide +kernel
theorem dX12_readLaw_13 : decode cX12_readLaw 13 = .ok (.iconst (-1), 1) := by decide +kernel
theorem dX12_readLaw_14 : decode cX12_readLaw 14 = .ok (.if_icmp .ne 29, 3) := by decide +kernel
theorem dX12_readLaw_17 : decode cX12_readLaw 17 = .ok (.aload_n 0, 1) := by decide +kernel
theorem dX12_readLaw_18 : decode cX12_readLaw 18 = .ok (.invokevirtual 131, 3) := by decide +kernel
theorem dX12_readLaw_21 : decode cX12_readLaw 21 = .ok (.bipush 59, 2) := by decide +kernel
theorem dX12_readLaw_23 : decode cX12_readLaw 23 = .ok (.if_icmp .ne 20, 3) := by decide +kernel
theorem dX12_readLaw_26 : decode cX12_readLaw 26 = .ok (.aload_n 0, 1) := by decide +kernel
theorem dX12_readLaw_27 : decode cX12_readLaw 27 = .ok (.dup, 1) := by decide +kernel
theorem dX12_readLaw_28 : decode cX12_readLaw 28 = .ok (.getfield 112, 3) := by decide +kernel
theorem dX12_readLaw_31 : decode cX12_readLaw 31 = .ok (.iconst 1, 1) := by decide +kernel
theorem dX12_readLaw_32 : decode cX12_readLaw 32 = .ok (.iadd, 1) := by decide +kernel
theorem dX12_readLaw_33 : decode cX12_readLaw 33 = .ok (.putfield 112, 3) := by decide +kernel
theorem dX12_readLaw_36 : decode cX12_readLaw 36 = .ok (.aload_n 0, 1) := by decide +kernel
theorem dX12_readLaw_37 : decode cX12_readLaw 37 = .ok (.invokevirtual 186, 3) := by decide +kernel
theorem dX12_readLaw_40 : decode cX12_readLaw 40 = .ok (.goto (-31), 3) := by decide +kernel
theorem dX12_readLaw_43 : decode cX12_readLaw 43 = .ok (.aload_n 0, 1) := by decide +kernel
theorem dX12_readLaw_44 : decode cX12_readLaw 44 = .ok (.invokevirtual 189, 3) := by decide +kernel
theorem dX12_readLaw_47 : decode cX12_readLaw 47 = .ok (.ireturn, 1) := by decide +kernel
theorem dX12_bounded_0 : decode cX12_bounded 0 = .ok (.ldc2_w 192, 3) := by decide +kernel
theorem dX12_bounded_3 : decode cX12_bounded 3 = .ok (.ldc2_w 194, 3) := by decide +kernel
theorem dX12_bounded_6 : decode cX12_bounded 6 = .ok (.lload_n 0, 1) := by decide +kernel
theorem dX12_bounded_7 : decode cX12_bounded 7 = .ok (.invokestatic 196, 3) := by decide +kernel
theorem dX12_bounded_10 : decode cX12_bounded 10 = .ok (.invokestatic 202, 3) := by decide +kernel
theorem dX12_bounded_13 : decode cX12_bounded 13 = .ok (.l2i, 1) := by decide +kernel
theorem dX12_bounded_14 : decode cX12_bounded 14 = .ok (.ireturn, 1) := by decide +kernel
theorem dX12_worked_0 : decode cX12_worked 0 = .ok (.iload_n 0, 1) := by decide +kernel
theorem dX12_worked_1 : decode cX12_worked 1 = .ok (.tableswitch 143 2 10 #[51, 58, 65, 72, 89, 101, 113, 143, 125], 51) := by decide +kernel
theorem dX12_worked_52 : decode cX12_worked 52 = .ok (.lload_n 1, 1) := by decide +kernel
theorem dX12_worked_53 : decode cX12_worked 53 = .ok (.lload_n 3, 1) := by decide +kernel
theorem dX12_worked_54 : decode cX12_worked 54 = .ok (.ladd, 1) := by decide +kernel
theorem dX12_worked_55 : decode cX12_worked 55 = .ok (.invokestatic 205, 3) := by decide +kernel
theorem dX12_worked_58 : decode cX12_worked 58 = .ok (.ireturn, 1) := by decide +kernel
theorem dX12_worked_59 : decode cX12_worked 59 = .ok (.lload_n 1, 1) := by decide +kernel
theorem dX12_worked_60 : decode cX12_worked 60 = .ok (.lload_n 3, 1) := by decide +kernel
theorem dX12_worked_61 : decode cX12_worked 61 = .ok (.lsub, 1) := by decide +kernel
theorem dX12_worked_62 : decode cX12_worked 62 = .ok (.invokestatic 205, 3) := by decide +kernel
theorem dX12_worked_65 : decode cX12_worked 65 = .ok (.ireturn, 1) := by decide +kernel
theorem dX12_worked_66 : decode cX12_worked 66 = .ok (.lload_n 1, 1) := by decide +kernel
theorem dX12_worked_67 : decode cX12_worked 67 = .ok (.lload_n 3, 1) := by decide +kernel
theorem dX12_worked_68 : decode cX12_worked 68 = .ok (.lmul, 1) := by decide +kernel
theorem dX12_worked_69 : decode cX12_worked 69 = .ok (.invokestatic 205, 3) := by decide +kernel
theorem dX12_worked_72 : decode cX12_worked 72 = .ok (.ireturn, 1) := by decide +kernel
theorem dX12_worked_73 : decode cX12_worked 73 = .ok (.lload_n 3, 1) := by decide +kernel
theorem dX12_worked_74 : decode cX12_worked 74 = .ok (.lconst 0, 1) := by decide +kernel
theorem dX12_worked_75 : decode cX12_worked 75 = .ok (.lcmp, 1) := by decide +kernel
theorem dX12_worked_76 : decode cX12_worked 76 = .ok (.ifCond .ne 7, 3) := by decide +kernel
theorem dX12_worked_79 : decode cX12_worked 79 = .ok (.iconst 0, 1) := by decide +kernel
theorem dX12_worked_80 : decode cX12_worked 80 = .ok (.goto 9, 3) := by decide +kernel
theorem dX12_worked_83 : decode cX12_worked 83 = .ok (.lload_n 1, 1) := by decide +kernel
theorem dX12_worked_84 : decode cX12_worked 84 = .ok (.lload_n 3, 1) := by decide +kernel
theorem dX12_worked_85 : decode cX12_worked 85 = .ok (.ldiv, 1) := by decide +kernel
theorem dX12_worked_86 : decode cX12_worked 86 = .ok (.invokestatic 205, 3) := by decide +kernel
theorem dX12_worked_89 : decode cX12_worked 89 = .ok (.ireturn, 1) := by decide +kernel
theorem dX12_worked_90 : decode cX12_worked 90 = .ok (.lload_n 1, 1) := by decide +kernel
theorem dX12_worked_91 : decode cX12_worked 91 = .ok (.lload_n 3, 1) := by decide +kernel
theorem dX12_worked_92 : decode cX12_worked 92 = .ok (.lcmp, 1) := by decide +kernel
theorem dX12_worked_93 : decode cX12_worked 93 = .ok (.ifCond .ne 7, 3) := by decide +kernel
theorem dX12_worked_96 : decode cX12_worked 96 = .ok (.iconst 1, 1) := by decide +kernel
theorem dX12_worked_97 : decode cX12_worked 97 = .ok (.goto 4, 3) := by decide +kernel
theorem dX12_worked_100 : decode cX12_worked 100 = .ok (.iconst 0, 1) := by decide +kernel
theorem dX12_worked_101 : decode cX12_worked 101 = .ok (.ireturn, 1) := by decide +kernel
theorem dX12_worked_102 : decode cX12_worked 102 = .ok (.lload_n 1, 1) := by decide +kernel
theorem dX12_worked_103 : decode cX12_worked 103 = .ok (.lload_n 3, 1) := by decide +kernel
theorem dX12_worked_104 : decode cX12_worked 104 = .ok (.lcmp, 1) := by decide +kernel
theorem dX12_worked_105 : decode cX12_worked 105 = .ok (.ifCond .ge 7, 3) := by decide +kernel
theorem dX12_worked_108 : decode cX12_worked 108 = .ok (.iconst 1, 1) := by decide +kernel
theorem dX12_worked_109 : decode cX12_worked 109 = .ok (.goto 4, 3) := by decide +kernel
theorem dX12_worked_112 : decode cX12_worked 112 = .ok (.iconst 0, 1) := by decide +kernel
theorem dX12_worked_113 : decode cX12_worked 113 = .ok (.ireturn, 1) := by decide +kernel
theorem dX12_worked_114 : decode cX12_worked 114 = .ok (.lload_n 1, 1) := by decide +kernel
theorem dX12_worked_115 : decode cX12_worked 115 = .ok (.lload_n 3, 1) := by decide +kernel
theorem dX12_worked_116 : decode cX12_worked 116 = .ok (.lcmp, 1) := by decide +kernel
theorem dX12_worked_117 : decode cX12_worked 117 = .ok (.ifCond .le 7, 3) := by decide +kernel
theorem dX12_worked_120 : decode cX12_worked 120 = .ok (.iconst 1, 1) := by decide +kernel
theorem dX12_worked_121 : decode cX12_worked 121 = .ok (.goto 4, 3) := by decide +kernel
theorem dX12_worked_124 : decode cX12_worked 124 = .ok (.iconst 0, 1) := by decide +kernel
theorem dX12_worked_125 : decode cX12_worked 125 = .ok (.ireturn, 1) := by decide +kernel
theorem dX12_worked_126 : decode cX12_worked 126 = .ok (.lload_n 1, 1) := by decide +kernel
theorem dX12_worked_127 : decode cX12_worked 127 = .ok (.lconst 0, 1) := by decide +kernel
theorem dX12_worked_128 : decode cX12_worked 128 = .ok (.lcmp, 1) := by decide +kernel
theorem dX12_worked_129 : decode cX12_worked 129 = .ok (.ifCond .eq 13, 3) := by decide +kernel
theorem dX12_worked_132 : decode cX12_worked 132 = .ok (.lload_n 3, 1) := by decide +kernel
theorem dX12_worked_133 : decode cX12_worked 133 = .ok (.lconst 0, 1) := by decide +kernel
theorem dX12_worked_134 : decode cX12_worked 134 = .ok (.lcmp, 1) := by decide +kernel
theorem dX12_worked_135 : decode cX12_worked 135 = .ok (.ifCond .eq 7, 3) := by decide +kernel
theorem dX12_worked_138 : decode cX12_worked 138 = .ok (.iconst 1, 1) := by decide +kernel
theorem dX12_worked_139 : decode cX12_worked 139 = .ok (.goto 4, 3) := by decide +kernel
theorem dX12_worked_142 : decode cX12_worked 142 = .ok (.iconst 0, 1) := by decide +kernel
theorem dX12_worked_143 : decode cX12_worked 143 = .ok (.ireturn, 1) := by decide +kernel
theorem dX12_worked_144 : decode cX12_worked 144 = .ok (.lload_n 1, 1) := by decide +kernel
theorem dX12_worked_145 : decode cX12_worked 145 = .ok (.lconst 0, 1) := by decide +kernel
theorem dX12_worked_146 : decode cX12_worked 146 = .ok (.lcmp, 1) := by decide +kernel
theorem dX12_worked_147 : decode cX12_worked 147 = .ok (.ifCond .ne 9, 3) := by decide +kernel
theorem dX12_worked_150 : decode cX12_worked 150 = .ok (.lload_n 3, 1) := by decide +kernel
theorem dX12_worked_151 : decode cX12_worked 151 = .ok (.lconst 0, 1) := by decide +kernel
theorem dX12_worked_152 : decode cX12_worked 152 = .ok (.lcmp, 1) := by decide +kernel
theorem dX12_worked_153 : decode cX12_worked 153 = .ok (.ifCond .eq 7, 3) := by decide +kernel
theorem dX12_worked_156 : decode cX12_worked 156 = .ok (.iconst 1, 1) := by decide +kernel
theorem dX12_worked_157 : decode cX12_worked 157 = .ok (.goto 4, 3) := by decide +kernel
theorem dX12_worked_160 : decode cX12_worked 160 = .ok (.iconst 0, 1) := by decide +kernel
theorem dX12_worked_161 : decode cX12_worked 161 = .ok (.ireturn, 1) := by decide +kernel
theorem dX12_workOut_0 : decode cX12_workOut 0 = .ok (.iconst 0, 1) := by decide +kernel
theorem dX12_workOut_1 : decode cX12_workOut 1 = .ok (.istore 4, 2) := by decide +kernel
theorem dX12_workOut_3 : decode cX12_workOut 3 = .ok (.sipush 520, 3) := by decide +kernel
theorem dX12_workOut_6 : decode cX12_workOut 6 = .ok (.iload_n 1, 1) := by decide +kernel
theorem dX12_workOut_7 : decode cX12_workOut 7 = .ok (.imul, 1) := by decide +kernel
theorem dX12_workOut_8 : decode cX12_workOut 8 = .ok (.iload_n 2, 1) := by decide +kernel
theorem dX12_workOut_9 : decode cX12_workOut 9 = .ok (.iadd, 1) := by decide +kernel
theorem dX12_workOut_10 : decode cX12_workOut 10 = .ok (.istore 5, 2) := by decide +kernel
theorem dX12_workOut_12 : decode cX12_workOut 12 = .ok (.iload 5, 2) := by decide +kernel
theorem dX12_workOut_14 : decode cX12_workOut 14 = .ok (.sipush 520, 3) := by decide +kernel
theorem dX12_workOut_17 : decode cX12_workOut 17 = .ok (.iload_n 1, 1) := by decide +kernel
theorem dX12_workOut_18 : decode cX12_workOut 18 = .ok (.imul, 1) := by decide +kernel
theorem dX12_workOut_19 : decode cX12_workOut 19 = .ok (.iload_n 3, 1) := by decide +kernel
theorem dX12_workOut_20 : decode cX12_workOut 20 = .ok (.iadd, 1) := by decide +kernel
theorem dX12_workOut_21 : decode cX12_workOut 21 = .ok (.if_icmp .ge 150, 3) := by decide +kernel
theorem dX12_workOut_24 : decode cX12_workOut 24 = .ok (.aload_n 0, 1) := by decide +kernel
theorem dX12_workOut_25 : decode cX12_workOut 25 = .ok (.getfield 13, 3) := by decide +kernel
theorem dX12_workOut_28 : decode cX12_workOut 28 = .ok (.iload 5, 2) := by decide +kernel
theorem dX12_workOut_30 : decode cX12_workOut 30 = .ok (.iaload, 1) := by decide +kernel
theorem dX12_workOut_31 : decode cX12_workOut 31 = .ok (.ifCond .eq 14, 3) := by decide +kernel
theorem dX12_workOut_34 : decode cX12_workOut 34 = .ok (.aload_n 0, 1) := by decide +kernel
theorem dX12_workOut_35 : decode cX12_workOut 35 = .ok (.getfield 13, 3) := by decide +kernel
theorem dX12_workOut_38 : decode cX12_workOut 38 = .ok (.iload 5, 2) := by decide +kernel
theorem dX12_workOut_40 : decode cX12_workOut 40 = .ok (.iaload, 1) := by decide +kernel
theorem dX12_workOut_41 : decode cX12_workOut 41 = .ok (.iconst 1, 1) := by decide +kernel
theorem dX12_workOut_42 : decode cX12_workOut 42 = .ok (.if_icmp .ne 48, 3) := by decide +kernel
theorem dX12_workOut_45 : decode cX12_workOut 45 = .ok (.aload_n 0, 1) := by decide +kernel
theorem dX12_workOut_46 : decode cX12_workOut 46 = .ok (.getfield 37, 3) := by decide +kernel
theorem dX12_workOut_49 : decode cX12_workOut 49 = .ok (.iload 4, 2) := by decide +kernel
theorem dX12_workOut_51 : decode cX12_workOut 51 = .ok (.aload_n 0, 1) := by decide +kernel
theorem dX12_workOut_52 : decode cX12_workOut 52 = .ok (.getfield 13, 3) := by decide +kernel
theorem dX12_workOut_55 : decode cX12_workOut 55 = .ok (.iload 5, 2) := by decide +kernel
theorem dX12_workOut_57 : decode cX12_workOut 57 = .ok (.iaload, 1) := by decide +kernel
theorem dX12_workOut_58 : decode cX12_workOut 58 = .ok (.ifCond .ne 13, 3) := by decide +kernel
theorem dX12_workOut_61 : decode cX12_workOut 61 = .ok (.aload_n 0, 1) := by decide +kernel
theorem dX12_workOut_62 : decode cX12_workOut 62 = .ok (.getfield 16, 3) := by decide +kernel
theorem dX12_workOut_65 : decode cX12_workOut 65 = .ok (.iload 5, 2) := by decide +kernel
theorem dX12_workOut_67 : decode cX12_workOut 67 = .ok (.iaload, 1) := by decide +kernel
theorem dX12_workOut_68 : decode cX12_workOut 68 = .ok (.goto 15, 3) := by decide +kernel
theorem dX12_workOut_71 : decode cX12_workOut 71 = .ok (.aload_n 0, 1) := by decide +kernel
theorem dX12_workOut_72 : decode cX12_workOut 72 = .ok (.getfield 34, 3) := by decide +kernel
theorem dX12_workOut_75 : decode cX12_workOut 75 = .ok (.aload_n 0, 1) := by decide +kernel
theorem dX12_workOut_76 : decode cX12_workOut 76 = .ok (.getfield 16, 3) := by decide +kernel
theorem dX12_workOut_79 : decode cX12_workOut 79 = .ok (.iload 5, 2) := by decide +kernel
theorem dX12_workOut_81 : decode cX12_workOut 81 = .ok (.iaload, 1) := by decide +kernel
theorem dX12_workOut_82 : decode cX12_workOut 82 = .ok (.iaload, 1) := by decide +kernel
theorem dX12_workOut_83 : decode cX12_workOut 83 = .ok (.iastore, 1) := by decide +kernel
theorem dX12_workOut_84 : decode cX12_workOut 84 = .ok (.iinc 4 1, 3) := by decide +kernel
theorem dX12_workOut_87 : decode cX12_workOut 87 = .ok (.goto 78, 3) := by decide +kernel
theorem dX12_workOut_90 : decode cX12_workOut 90 = .ok (.aload_n 0, 1) := by decide +kernel
theorem dX12_workOut_91 : decode cX12_workOut 91 = .ok (.getfield 13, 3) := by decide +kernel
theorem dX12_workOut_94 : decode cX12_workOut 94 = .ok (.iload 5, 2) := by decide +kernel
theorem dX12_workOut_96 : decode cX12_workOut 96 = .ok (.iaload, 1) := by decide +kernel
theorem dX12_workOut_97 : decode cX12_workOut 97 = .ok (.bipush 9, 2) := by decide +kernel
theorem dX12_workOut_99 : decode cX12_workOut 99 = .ok (.if_icmp .ne 26, 3) := by decide +kernel
theorem dX12_workOut_102 : decode cX12_workOut 102 = .ok (.aload_n 0, 1) := by decide +kernel
theorem dX12_workOut_103 : decode cX12_workOut 103 = .ok (.getfield 37, 3) := by decide +kernel
theorem dX12_workOut_106 : decode cX12_workOut 106 = .ok (.iload 4, 2) := by decide +kernel
theorem dX12_workOut_108 : decode cX12_workOut 108 = .ok (.iconst 1, 1) := by decide +kernel
theorem dX12_workOut_109 : decode cX12_workOut 109 = .ok (.isub, 1) := by decide +kernel
theorem dX12_workOut_110 : decode cX12_workOut 110 = .ok (.iconst 1, 1) := by decide +kernel
theorem dX12_workOut_111 : decode cX12_workOut 111 = .ok (.aload_n 0, 1) := by decide +kernel
theorem dX12_workOut_112 : decode cX12_workOut 112 = .ok (.getfield 37, 3) := by decide +kernel
theorem dX12_workOut_115 : decode cX12_workOut 115 = .ok (.iload 4, 2) := by decide +kernel
theorem dX12_workOut_117 : decode cX12_workOut 117 = .ok (.iconst 1, 1) := by decide +kernel
theorem dX12_workOut_118 : decode cX12_workOut 118 = .ok (.isub, 1) := by decide +kernel
theorem dX12_workOut_119 : decode cX12_workOut 119 = .ok (.iaload, 1) := by decide +kernel
theorem dX12_workOut_120 : decode cX12_workOut 120 = .ok (.isub, 1) := by decide +kernel
theorem dX12_workOut_121 : decode cX12_workOut 121 = .ok (.iastore, 1) := by decide +kernel
theorem dX12_workOut_122 : decode cX12_workOut 122 = .ok (.goto 43, 3) := by decide +kernel
theorem dX12_workOut_125 : decode cX12_workOut 125 = .ok (.iinc 4 (-1), 3) := by decide +kernel
theorem dX12_workOut_128 : decode cX12_workOut 128 = .ok (.aload_n 0, 1) := by decide +kernel
theorem dX12_workOut_129 : decode cX12_workOut 129 = .ok (.getfield 37, 3) := by decide +kernel
theorem dX12_workOut_132 : decode cX12_workOut 132 = .ok (.iload 4, 2) := by decide +kernel
theorem dX12_workOut_134 : decode cX12_workOut 134 = .ok (.iconst 1, 1) := by decide +kernel
theorem dX12_workOut_135 : decode cX12_workOut 135 = .ok (.isub, 1) := by decide +kernel
theorem dX12_workOut_136 : decode cX12_workOut 136 = .ok (.aload_n 0, 1) := by decide +kernel
theorem dX12_workOut_137 : decode cX12_workOut 137 = .ok (.getfield 13, 3) := by decide +kernel
theorem dX12_workOut_140 : decode cX12_workOut 140 = .ok (.iload 5, 2) := by decide +kernel
theorem dX12_workOut_142 : decode cX12_workOut 142 = .ok (.iaload, 1) := by decide +kernel
theorem dX12_workOut_143 : decode cX12_workOut 143 = .ok (.aload_n 0, 1) := by decide +kernel
theorem dX12_workOut_144 : decode cX12_workOut 144 = .ok (.getfield 37, 3) := by decide +kernel
theorem dX12_workOut_147 : decode cX12_workOut 147 = .ok (.iload 4, 2) := by decide +kernel
theorem dX12_workOut_149 : decode cX12_workOut 149 = .ok (.iconst 1, 1) := by decide +kernel
theorem dX12_workOut_150 : decode cX12_workOut 150 = .ok (.isub, 1) := by decide +kernel
theorem dX12_workOut_151 : decode cX12_workOut 151 = .ok (.iaload, 1) := by decide +kernel
theorem dX12_workOut_152 : decode cX12_workOut 152 = .ok (.i2l, 1) := by decide +kernel
theorem dX12_workOut_153 : decode cX12_workOut 153 = .ok (.aload_n 0, 1) := by decide +kernel
theorem dX12_workOut_154 : decode cX12_workOut 154 = .ok (.getfield 37, 3) := by decide +kernel
theorem dX12_workOut_157 : decode cX12_workOut 157 = .ok (.iload 4, 2) := by decide +kernel
theorem dX12_workOut_159 : decode cX12_workOut 159 = .ok (.iaload, 1) := by decide +kernel
theorem dX12_workOut_160 : decode cX12_workOut 160 = .ok (.i2l, 1) := by decide +kernel
theorem dX12_workOut_161 : decode cX12_workOut 161 = .ok (.invokestatic 209, 3) := by decide +kernel
theorem dX12_workOut_164 : decode cX12_workOut 164 = .ok (.iastore, 1) := by decide +kernel
theorem dX12_workOut_165 : decode cX12_workOut 165 = .ok (.iinc 5 1, 3) := by decide +kernel
theorem dX12_workOut_168 : decode cX12_workOut 168 = .ok (.goto (-156), 3) := by decide +kernel
theorem dX12_workOut_171 : decode cX12_workOut 171 = .ok (.aload_n 0, 1) := by decide +kernel
theorem dX12_workOut_172 : decode cX12_workOut 172 = .ok (.getfield 37, 3) := by decide +kernel
theorem dX12_workOut_175 : decode cX12_workOut 175 = .ok (.iconst 0, 1) := by decide +kernel
theorem dX12_workOut_176 : decode cX12_workOut 176 = .ok (.iaload, 1) := by decide +kernel
theorem dX12_workOut_177 : decode cX12_workOut 177 = .ok (.ireturn, 1) := by decide +kernel
theorem dX12_worthOf_0 : decode cX12_worthOf 0 = .ok (.sipush 140, 3) := by decide +kernel
theorem dX12_worthOf_3 : decode cX12_worthOf 3 = .ok (.iload_n 1, 1) := by decide +kernel
theorem dX12_worthOf_4 : decode cX12_worthOf 4 = .ok (.imul, 1) := by decide +kernel
theorem dX12_worthOf_5 : decode cX12_worthOf 5 = .ok (.istore_n 2, 1) := by decide +kernel
theorem dX12_worthOf_6 : decode cX12_worthOf 6 = .ok (.iload_n 2, 1) := by decide +kernel
theorem dX12_worthOf_7 : decode cX12_worthOf 7 = .ok (.sipush 140, 3) := by decide +kernel
theorem dX12_worthOf_10 : decode cX12_worthOf 10 = .ok (.iload_n 1, 1) := by decide +kernel
theorem dX12_worthOf_11 : decode cX12_worthOf 11 = .ok (.imul, 1) := by decide +kernel
theorem dX12_worthOf_12 : decode cX12_worthOf 12 = .ok (.aload_n 0, 1) := by decide +kernel
theorem dX12_worthOf_13 : decode cX12_worthOf 13 = .ok (.getfield 22, 3) := by decide +kernel
theorem dX12_worthOf_16 : decode cX12_worthOf 16 = .ok (.iload_n 1, 1) := by decide +kernel
theorem dX12_worthOf_17 : decode cX12_worthOf 17 = .ok (.iaload, 1) := by decide +kernel
theorem dX12_worthOf_18 : decode cX12_worthOf 18 = .ok (.iadd, 1) := by decide +kernel
theorem dX12_worthOf_19 : decode cX12_worthOf 19 = .ok (.if_icmp .ge 62, 3) := by decide +kernel
theorem dX12_worthOf_22 : decode cX12_worthOf 22 = .ok (.aload_n 0, 1) := by decide +kernel
theorem dX12_worthOf_23 : decode cX12_worthOf 23 = .ok (.getfield 25, 3) := by decide +kernel
theorem dX12_worthOf_26 : decode cX12_worthOf 26 = .ok (.iload_n 2, 1) := by decide +kernel
theorem dX12_worthOf_27 : decode cX12_worthOf 27 = .ok (.iaload, 1) := by decide +kernel
theorem dX12_worthOf_28 : decode cX12_worthOf 28 = .ok (.aload_n 0, 1) := by decide +kernel
theorem dX12_worthOf_29 : decode cX12_worthOf 29 = .ok (.getfield 28, 3) := by decide +kernel
theorem dX12_worthOf_32 : decode cX12_worthOf 32 = .ok (.iload_n 2, 1) := by decide +kernel
theorem dX12_worthOf_33 : decode cX12_worthOf 33 = .ok (.iaload, 1) := by decide +kernel
theorem dX12_worthOf_34 : decode cX12_worthOf 34 = .ok (.if_icmp .eq 23, 3) := by decide +kernel
theorem dX12_worthOf_37 : decode cX12_worthOf 37 = .ok (.aload_n 0, 1) := by decide +kernel
theorem dX12_worthOf_38 : decode cX12_worthOf 38 = .ok (.iload_n 1, 1) := by decide +kernel
theorem dX12_worthOf_39 : decode cX12_worthOf 39 = .ok (.aload_n 0, 1) := by decide +kernel
theorem dX12_worthOf_40 : decode cX12_worthOf 40 = .ok (.getfield 25, 3) := by decide +kernel
theorem dX12_worthOf_43 : decode cX12_worthOf 43 = .ok (.iload_n 2, 1) := by decide +kernel
theorem dX12_worthOf_44 : decode cX12_worthOf 44 = .ok (.iaload, 1) := by decide +kernel
theorem dX12_worthOf_45 : decode cX12_worthOf 45 = .ok (.aload_n 0, 1) := by decide +kernel
theorem dX12_worthOf_46 : decode cX12_worthOf 46 = .ok (.getfield 28, 3) := by decide +kernel
theorem dX12_worthOf_49 : decode cX12_worthOf 49 = .ok (.iload_n 2, 1) := by decide +kernel
theorem dX12_worthOf_50 : decode cX12_worthOf 50 = .ok (.iaload, 1) := by decide +kernel
theorem dX12_worthOf_51 : decode cX12_worthOf 51 = .ok (.invokevirtual 213, 3) := by decide +kernel
theorem dX12_worthOf_54 : decode cX12_worthOf 54 = .ok (.ifCond .eq 21, 3) := by decide +kernel
theorem dX12_worthOf_57 : decode cX12_worthOf 57 = .ok (.aload_n 0, 1) := by decide +kernel
theorem dX12_worthOf_58 : decode cX12_worthOf 58 = .ok (.iload_n 1, 1) := by decide +kernel
theorem dX12_worthOf_59 : decode cX12_worthOf 59 = .ok (.aload_n 0, 1) := by decide +kernel
theorem dX12_worthOf_60 : decode cX12_worthOf 60 = .ok (.getfield 28, 3) := by decide +kernel
theorem dX12_worthOf_63 : decode cX12_worthOf 63 = .ok (.iload_n 2, 1) := by decide +kernel
theorem dX12_worthOf_64 : decode cX12_worthOf 64 = .ok (.iaload, 1) := by decide +kernel
theorem dX12_worthOf_65 : decode cX12_worthOf 65 = .ok (.aload_n 0, 1) := by decide +kernel
theorem dX12_worthOf_66 : decode cX12_worthOf 66 = .ok (.getfield 31, 3) := by decide +kernel
theorem dX12_worthOf_69 : decode cX12_worthOf 69 = .ok (.iload_n 2, 1) := by decide +kernel
theorem dX12_worthOf_70 : decode cX12_worthOf 70 = .ok (.iaload, 1) := by decide +kernel
theorem dX12_worthOf_71 : decode cX12_worthOf 71 = .ok (.invokevirtual 213, 3) := by decide +kernel
theorem dX12_worthOf_74 : decode cX12_worthOf 74 = .ok (.ireturn, 1) := by decide +kernel
theorem dX12_worthOf_75 : decode cX12_worthOf 75 = .ok (.iinc 2 1, 3) := by decide +kernel
theorem dX12_worthOf_78 : decode cX12_worthOf 78 = .ok (.goto (-72), 3) := by decide +kernel
theorem dX12_worthOf_81 : decode cX12_worthOf 81 = .ok (.iconst 0, 1) := by decide +kernel
theorem dX12_worthOf_82 : decode cX12_worthOf 82 = .ok (.ireturn, 1) := by decide +kernel
theorem dX12_number_0 : decode cX12_number 0 = .ok (.aload_n 0, 1) := by decide +kernel
theorem dX12_number_1 : decode cX12_number 1 = .ok (.invokevirtual 131, 3) := by decide +kernel
theorem dX12_number_4 : decode cX12_number 4 = .ok (.invokestatic 134, 3) := by decide +kernel
theorem dX12_number_7 : decode cX12_number 7 = .ok (.ifCond .ne 9, 3) := by decide +kernel
theorem dX12_number_10 : decode cX12_number 10 = .ok (.aload_n 0, 1) := by decide +kernel
theorem dX12_number_11 : decode cX12_number 11 = .ok (.invokevirtual 128, 3) := by decide +kernel
theorem dX12_number_14 : decode cX12_number 14 = .ok (.iload_n 1, 1) := by decide +kernel
theorem dX12_number_15 : decode cX12_number 15 = .ok (.ireturn, 1) := by decide +kernel
theorem dX12_number_16 : decode cX12_number 16 = .ok (.aload_n 0, 1) := by decide +kernel
theorem dX12_number_17 : decode cX12_number 17 = .ok (.invokevirtual 115, 3) := by decide +kernel
theorem dX12_number_20 : decode cX12_number 20 = .ok (.bipush 48, 2) := by decide +kernel
theorem dX12_number_22 : decode cX12_number 22 = .ok (.isub, 1) := by decide +kernel
theorem dX12_number_23 : decode cX12_number 23 = .ok (.istore_n 3, 1) := by decide +kernel
theorem dX12_number_24 : decode cX12_number 24 = .ok (.aload_n 0, 1) := by decide +kernel
theorem dX12_number_25 : decode cX12_number 25 = .ok (.dup, 1) := by decide +kernel
theorem dX12_number_26 : decode cX12_number 26 = .ok (.getfield 112, 3) := by decide +kernel
theorem dX12_number_29 : decode cX12_number 29 = .ok (.iconst 1, 1) := by decide +kernel
theorem dX12_number_30 : decode cX12_number 30 = .ok (.iadd, 1) := by decide +kernel
theorem dX12_number_31 : decode cX12_number 31 = .ok (.putfield 112, 3) := by decide +kernel
theorem dX12_number_34 : decode cX12_number 34 = .ok (.aload_n 0, 1) := by decide +kernel
theorem dX12_number_35 : decode cX12_number 35 = .ok (.invokevirtual 115, 3) := by decide +kernel
theorem dX12_number_38 : decode cX12_number 38 = .ok (.invokestatic 134, 3) := by decide +kernel
theorem dX12_number_41 : decode cX12_number 41 = .ok (.ifCond .eq 26, 3) := by decide +kernel
theorem dX12_number_44 : decode cX12_number 44 = .ok (.bipush 10, 2) := by decide +kernel
theorem dX12_number_46 : decode cX12_number 46 = .ok (.iload_n 3, 1) := by decide +kernel
theorem dX12_number_47 : decode cX12_number 47 = .ok (.imul, 1) := by decide +kernel
theorem dX12_number_48 : decode cX12_number 48 = .ok (.aload_n 0, 1) := by decide +kernel
theorem dX12_number_49 : decode cX12_number 49 = .ok (.invokevirtual 115, 3) := by decide +kernel
theorem dX12_number_52 : decode cX12_number 52 = .ok (.iadd, 1) := by decide +kernel
theorem dX12_number_53 : decode cX12_number 53 = .ok (.bipush 48, 2) := by decide +kernel
theorem dX12_number_55 : decode cX12_number 55 = .ok (.isub, 1) := by decide +kernel
theorem dX12_number_56 : decode cX12_number 56 = .ok (.istore_n 3, 1) := by decide +kernel
theorem dX12_number_57 : decode cX12_number 57 = .ok (.aload_n 0, 1) := by decide +kernel
theorem dX12_number_58 : decode cX12_number 58 = .ok (.dup, 1) := by decide +kernel
theorem dX12_number_59 : decode cX12_number 59 = .ok (.getfield 112, 3) := by decide +kernel
theorem dX12_number_62 : decode cX12_number 62 = .ok (.iconst 1, 1) := by decide +kernel
theorem dX12_number_63 : decode cX12_number 63 = .ok (.iadd, 1) := by decide +kernel
theorem dX12_number_64 : decode cX12_number 64 = .ok (.putfield 112, 3) := by decide +kernel
theorem dX12_number_67 : decode cX12_number 67 = .ok (.aload_n 0, 1) := by decide +kernel
theorem dX12_number_68 : decode cX12_number 68 = .ok (.invokevirtual 115, 3) := by decide +kernel
theorem dX12_number_71 : decode cX12_number 71 = .ok (.invokestatic 134, 3) := by decide +kernel
theorem dX12_number_74 : decode cX12_number 74 = .ok (.ifCond .eq 10, 3) := by decide +kernel
theorem dX12_number_77 : decode cX12_number 77 = .ok (.aload_n 0, 1) := by decide +kernel
theorem dX12_number_78 : decode cX12_number 78 = .ok (.invokevirtual 128, 3) := by decide +kernel
theorem dX12_number_81 : decode cX12_number 81 = .ok (.goto 26, 3) := by decide +kernel
theorem dX12_number_84 : decode cX12_number 84 = .ok (.iload_n 3, 1) := by decide +kernel
theorem dX12_number_85 : decode cX12_number 85 = .ok (.iload_n 1, 1) := by decide +kernel
theorem dX12_number_86 : decode cX12_number 86 = .ok (.iload_n 2, 1) := by decide +kernel
theorem dX12_number_87 : decode cX12_number 87 = .ok (.invokestatic 217, 3) := by decide +kernel
theorem dX12_number_90 : decode cX12_number 90 = .ok (.ifCond .ne 17, 3) := by decide +kernel
theorem dX12_number_93 : decode cX12_number 93 = .ok (.aload_n 0, 1) := by decide +kernel
theorem dX12_number_94 : decode cX12_number 94 = .ok (.dup, 1) := by decide +kernel
theorem dX12_number_95 : decode cX12_number 95 = .ok (.getfield 112, 3) := by decide +kernel
theorem dX12_number_98 : decode cX12_number 98 = .ok (.iconst 1, 1) := by decide +kernel
theorem dX12_number_99 : decode cX12_number 99 = .ok (.isub, 1) := by decide +kernel
theorem dX12_number_100 : decode cX12_number 100 = .ok (.putfield 112, 3) := by decide +kernel
theorem dX12_number_103 : decode cX12_number 103 = .ok (.aload_n 0, 1) := by decide +kernel
theorem dX12_number_104 : decode cX12_number 104 = .ok (.invokevirtual 128, 3) := by decide +kernel
theorem dX12_number_107 : decode cX12_number 107 = .ok (.iload_n 3, 1) := by decide +kernel
theorem dX12_number_108 : decode cX12_number 108 = .ok (.ireturn, 1) := by decide +kernel
theorem dX12_itemOf_0 : decode cX12_itemOf 0 = .ok (.iload_n 0, 1) := by decide +kernel
theorem dX12_itemOf_1 : decode cX12_itemOf 1 = .ok (.bipush 115, 2) := by decide +kernel
theorem dX12_itemOf_3 : decode cX12_itemOf 3 = .ok (.if_icmp .ne 45, 3) := by decide +kernel
theorem dX12_itemOf_6 : decode cX12_itemOf 6 = .ok (.iload_n 1, 1) := by decide +kernel
theorem dX12_itemOf_7 : decode cX12_itemOf 7 = .ok (.bipush 119, 2) := by decide +kernel
theorem dX12_itemOf_9 : decode cX12_itemOf 9 = .ok (.if_icmp .ne 7, 3) := by decide +kernel
theorem dX12_itemOf_12 : decode cX12_itemOf 12 = .ok (.iconst 0, 1) := by decide +kernel
theorem dX12_itemOf_13 : decode cX12_itemOf 13 = .ok (.goto 34, 3) := by decide +kernel
theorem dX12_itemOf_16 : decode cX12_itemOf 16 = .ok (.iload_n 1, 1) := by decide +kernel
theorem dX12_itemOf_17 : decode cX12_itemOf 17 = .ok (.bipush 110, 2) := by decide +kernel
theorem dX12_itemOf_19 : decode cX12_itemOf 19 = .ok (.if_icmp .ne 7, 3) := by decide +kernel
theorem dX12_itemOf_22 : decode cX12_itemOf 22 = .ok (.iconst 1, 1) := by decide +kernel
theorem dX12_itemOf_23 : decode cX12_itemOf 23 = .ok (.goto 24, 3) := by decide +kernel
theorem dX12_itemOf_26 : decode cX12_itemOf 26 = .ok (.iload_n 1, 1) := by decide +kernel
theorem dX12_itemOf_27 : decode cX12_itemOf 27 = .ok (.bipush 102, 2) := by decide +kernel
theorem dX12_itemOf_29 : decode cX12_itemOf 29 = .ok (.if_icmp .ne 7, 3) := by decide +kernel
theorem dX12_itemOf_32 : decode cX12_itemOf 32 = .ok (.iconst 2, 1) := by decide +kernel
theorem dX12_itemOf_33 : decode cX12_itemOf 33 = .ok (.goto 14, 3) := by decide +kernel
theorem dX12_itemOf_36 : decode cX12_itemOf 36 = .ok (.iload_n 1, 1) := by decide +kernel
theorem dX12_itemOf_37 : decode cX12_itemOf 37 = .ok (.bipush 107, 2) := by decide +kernel
theorem dX12_itemOf_39 : decode cX12_itemOf 39 = .ok (.if_icmp .ne 7, 3) := by decide +kernel
theorem dX12_itemOf_42 : decode cX12_itemOf 42 = .ok (.iconst 3, 1) := by decide +kernel
theorem dX12_itemOf_43 : decode cX12_itemOf 43 = .ok (.goto 4, 3) := by decide +kernel
theorem dX12_itemOf_46 : decode cX12_itemOf 46 = .ok (.iconst (-1), 1) := by decide +kernel
theorem dX12_itemOf_47 : decode cX12_itemOf 47 = .ok (.ireturn, 1) := by decide +kernel
theorem dX12_itemOf_48 : decode cX12_itemOf 48 = .ok (.iload_n 1, 1) := by decide +kernel
theorem dX12_itemOf_49 : decode cX12_itemOf 49 = .ok (.bipush 122, 2) := by decide +kernel
theorem dX12_itemOf_51 : decode cX12_itemOf 51 = .ok (.if_icmp .ne 7, 3) := by decide +kernel
theorem dX12_itemOf_54 : decode cX12_itemOf 54 = .ok (.iconst 0, 1) := by decide +kernel
theorem dX12_itemOf_55 : decode cX12_itemOf 55 = .ok (.goto 44, 3) := by decide +kernel
theorem dX12_itemOf_58 : decode cX12_itemOf 58 = .ok (.iload_n 1, 1) := by decide +kernel
theorem dX12_itemOf_59 : decode cX12_itemOf 59 = .ok (.bipush 97, 2) := by decide +kernel
theorem dX12_itemOf_61 : decode cX12_itemOf 61 = .ok (.if_icmp .ne 7, 3) := by decide +kernel
theorem dX12_itemOf_64 : decode cX12_itemOf 64 = .ok (.iconst 1, 1) := by decide +kernel
theorem dX12_itemOf_65 : decode cX12_itemOf 65 = .ok (.goto 34, 3) := by decide +kernel
theorem dX12_itemOf_68 : decode cX12_itemOf 68 = .ok (.iload_n 1, 1) := by decide +kernel
theorem dX12_itemOf_69 : decode cX12_itemOf 69 = .ok (.bipush 99, 2) := by decide +kernel
theorem dX12_itemOf_71 : decode cX12_itemOf 71 = .ok (.if_icmp .ne 7, 3) := by decide +kernel
theorem dX12_itemOf_74 : decode cX12_itemOf 74 = .ok (.iconst 2, 1) := by decide +kernel
theorem dX12_itemOf_75 : decode cX12_itemOf 75 = .ok (.goto 24, 3) := by decide +kernel
theorem dX12_itemOf_78 : decode cX12_itemOf 78 = .ok (.iload_n 1, 1) := by decide +kernel
theorem dX12_itemOf_79 : decode cX12_itemOf 79 = .ok (.bipush 104, 2) := by decide +kernel
theorem dX12_itemOf_81 : decode cX12_itemOf 81 = .ok (.if_icmp .ne 7, 3) := by decide +kernel
theorem dX12_itemOf_84 : decode cX12_itemOf 84 = .ok (.iconst 3, 1) := by decide +kernel
theorem dX12_itemOf_85 : decode cX12_itemOf 85 = .ok (.goto 14, 3) := by decide +kernel
theorem dX12_itemOf_88 : decode cX12_itemOf 88 = .ok (.iload_n 1, 1) := by decide +kernel
theorem dX12_itemOf_89 : decode cX12_itemOf 89 = .ok (.bipush 108, 2) := by decide +kernel
theorem dX12_itemOf_91 : decode cX12_itemOf 91 = .ok (.if_icmp .ne 7, 3) := by decide +kernel
theorem dX12_itemOf_94 : decode cX12_itemOf 94 = .ok (.iconst 4, 1) := by decide +kernel
theorem dX12_itemOf_95 : decode cX12_itemOf 95 = .ok (.goto 4, 3) := by decide +kernel
theorem dX12_itemOf_98 : decode cX12_itemOf 98 = .ok (.iconst (-1), 1) := by decide +kernel
theorem dX12_itemOf_99 : decode cX12_itemOf 99 = .ok (.ireturn, 1) := by decide +kernel
theorem dX12_lowest_0 : decode cX12_lowest 0 = .ok (.iload_n 0, 1) := by decide +kernel
theorem dX12_lowest_1 : decode cX12_lowest 1 = .ok (.bipush 115, 2) := by decide +kernel
theorem dX12_lowest_3 : decode cX12_lowest 3 = .ok (.if_icmp .ne 20, 3) := by decide +kernel
theorem dX12_lowest_6 : decode cX12_lowest 6 = .ok (.iload_n 1, 1) := by decide +kernel
theorem dX12_lowest_7 : decode cX12_lowest 7 = .ok (.ifCond .eq 8, 3) := by decide +kernel
theorem dX12_lowest_10 : decode cX12_lowest 10 = .ok (.iload_n 1, 1) := by decide +kernel
theorem dX12_lowest_11 : decode cX12_lowest 11 = .ok (.iconst 1, 1) := by decide +kernel
theorem dX12_lowest_12 : decode cX12_lowest 12 = .ok (.if_icmp .ne 7, 3) := by decide +kernel
theorem dX12_lowest_15 : decode cX12_lowest 15 = .ok (.iconst 1, 1) := by decide +kernel
theorem dX12_lowest_16 : decode cX12_lowest 16 = .ok (.goto 16, 3) := by decide +kernel
theorem dX12_lowest_19 : decode cX12_lowest 19 = .ok (.iconst 0, 1) := by decide +kernel
theorem dX12_lowest_20 : decode cX12_lowest 20 = .ok (.goto 12, 3) := by decide +kernel
theorem dX12_lowest_23 : decode cX12_lowest 23 = .ok (.iload_n 1, 1) := by decide +kernel
theorem dX12_lowest_24 : decode cX12_lowest 24 = .ok (.ifCond .ne 7, 3) := by decide +kernel
theorem dX12_lowest_27 : decode cX12_lowest 27 = .ok (.iconst 1, 1) := by decide +kernel
theorem dX12_lowest_28 : decode cX12_lowest 28 = .ok (.goto 4, 3) := by decide +kernel
theorem dX12_lowest_31 : decode cX12_lowest 31 = .ok (.iconst 0, 1) := by decide +kernel
theorem dX12_lowest_32 : decode cX12_lowest 32 = .ok (.ireturn, 1) := by decide +kernel
theorem dX12_highest_0 : decode cX12_highest 0 = .ok (.iload_n 0, 1) := by decide +kernel
theorem dX12_highest_1 : decode cX12_highest 1 = .ok (.bipush 115, 2) := by decide +kernel
theorem dX12_highest_3 : decode cX12_highest 3 = .ok (.if_icmp .ne 34, 3) := by decide +kernel
theorem dX12_highest_6 : decode cX12_highest 6 = .ok (.iload_n 1, 1) := by decide +kernel
theorem dX12_highest_7 : decode cX12_highest 7 = .ok (.ifCond .ne 8, 3) := by decide +kernel
theorem dX12_highest_10 : decode cX12_highest 10 = .ok (.bipush 60, 2) := by decide +kernel
theorem dX12_highest_12 : decode cX12_highest 12 = .ok (.goto 24, 3) := by decide +kernel
theorem dX12_highest_15 : decode cX12_highest 15 = .ok (.iload_n 1, 1) := by decide +kernel
theorem dX12_highest_16 : decode cX12_highest 16 = .ok (.iconst 1, 1) := by decide +kernel
theorem dX12_highest_17 : decode cX12_highest 17 = .ok (.if_icmp .ne 7, 3) := by decide +kernel
theorem dX12_highest_20 : decode cX12_highest 20 = .ok (.iconst 5, 1) := by decide +kernel
theorem dX12_highest_21 : decode cX12_highest 21 = .ok (.goto 15, 3) := by decide +kernel
theorem dX12_highest_24 : decode cX12_highest 24 = .ok (.iload_n 1, 1) := by decide +kernel
theorem dX12_highest_25 : decode cX12_highest 25 = .ok (.iconst 2, 1) := by decide +kernel
theorem dX12_highest_26 : decode cX12_highest 26 = .ok (.if_icmp .ne 8, 3) := by decide +kernel
theorem dX12_highest_29 : decode cX12_highest 29 = .ok (.bipush 9, 2) := by decide +kernel
theorem dX12_highest_31 : decode cX12_highest 31 = .ok (.goto 5, 3) := by decide +kernel
theorem dX12_highest_34 : decode cX12_highest 34 = .ok (.bipush 99, 2) := by decide +kernel
theorem dX12_highest_36 : decode cX12_highest 36 = .ok (.ireturn, 1) := by decide +kernel
theorem dX12_highest_37 : decode cX12_highest 37 = .ok (.iload_n 1, 1) := by decide +kernel
theorem dX12_highest_38 : decode cX12_highest 38 = .ok (.ifCond .ne 8, 3) := by decide +kernel
theorem dX12_highest_41 : decode cX12_highest 41 = .ok (.bipush 30, 2) := by decide +kernel
theorem dX12_highest_43 : decode cX12_highest 43 = .ok (.goto 23, 3) := by decide +kernel
theorem dX12_highest_46 : decode cX12_highest 46 = .ok (.iload_n 1, 1) := by decide +kernel
theorem dX12_highest_47 : decode cX12_highest 47 = .ok (.iconst 3, 1) := by decide +kernel
theorem dX12_highest_48 : decode cX12_highest 48 = .ok (.if_icmp .ne 7, 3) := by decide +kernel
theorem dX12_highest_51 : decode cX12_highest 51 = .ok (.iconst 4, 1) := by decide +kernel
theorem dX12_highest_52 : decode cX12_highest 52 = .ok (.goto 14, 3) := by decide +kernel
theorem dX12_highest_55 : decode cX12_highest 55 = .ok (.iload_n 1, 1) := by decide +kernel
theorem dX12_highest_56 : decode cX12_highest 56 = .ok (.iconst 4, 1) := by decide +kernel
theorem dX12_highest_57 : decode cX12_highest 57 = .ok (.if_icmp .ne 7, 3) := by decide +kernel
theorem dX12_highest_60 : decode cX12_highest 60 = .ok (.iconst 1, 1) := by decide +kernel
theorem dX12_highest_61 : decode cX12_highest 61 = .ok (.goto 5, 3) := by decide +kernel
theorem dX12_highest_64 : decode cX12_highest 64 = .ok (.bipush 9, 2) := by decide +kernel
theorem dX12_highest_66 : decode cX12_highest 66 = .ok (.ireturn, 1) := by decide +kernel
theorem dX12_usual_0 : decode cX12_usual 0 = .ok (.iload_n 0, 1) := by decide +kernel
theorem dX12_usual_1 : decode cX12_usual 1 = .ok (.bipush 115, 2) := by decide +kernel
theorem dX12_usual_3 : decode cX12_usual 3 = .ok (.if_icmp .ne 28, 3) := by decide +kernel
theorem dX12_usual_6 : decode cX12_usual 6 = .ok (.iload_n 1, 1) := by decide +kernel
theorem dX12_usual_7 : decode cX12_usual 7 = .ok (.ifCond .eq 8, 3) := by decide +kernel
theorem dX12_usual_10 : decode cX12_usual 10 = .ok (.iload_n 1, 1) := by decide +kernel
theorem dX12_usual_11 : decode cX12_usual 11 = .ok (.iconst 3, 1) := by decide +kernel
theorem dX12_usual_12 : decode cX12_usual 12 = .ok (.if_icmp .ne 8, 3) := by decide +kernel
theorem dX12_usual_15 : decode cX12_usual 15 = .ok (.bipush 20, 2) := by decide +kernel
theorem dX12_usual_17 : decode cX12_usual 17 = .ok (.goto 13, 3) := by decide +kernel
theorem dX12_usual_20 : decode cX12_usual 20 = .ok (.iload_n 1, 1) := by decide +kernel
theorem dX12_usual_21 : decode cX12_usual 21 = .ok (.iconst 1, 1) := by decide +kernel
theorem dX12_usual_22 : decode cX12_usual 22 = .ok (.if_icmp .ne 7, 3) := by decide +kernel
theorem dX12_usual_25 : decode cX12_usual 25 = .ok (.iconst 3, 1) := by decide +kernel
theorem dX12_usual_26 : decode cX12_usual 26 = .ok (.goto 4, 3) := by decide +kernel
theorem dX12_usual_29 : decode cX12_usual 29 = .ok (.iconst 4, 1) := by decide +kernel
theorem dX12_usual_30 : decode cX12_usual 30 = .ok (.ireturn, 1) := by decide +kernel
theorem dX12_usual_31 : decode cX12_usual 31 = .ok (.iload_n 1, 1) := by decide +kernel
theorem dX12_usual_32 : decode cX12_usual 32 = .ok (.ifCond .eq 8, 3) := by decide +kernel
theorem dX12_usual_35 : decode cX12_usual 35 = .ok (.iload_n 1, 1) := by decide +kernel
theorem dX12_usual_36 : decode cX12_usual 36 = .ok (.iconst 2, 1) := by decide +kernel
theorem dX12_usual_37 : decode cX12_usual 37 = .ok (.if_icmp .ne 7, 3) := by decide +kernel
theorem dX12_usual_40 : decode cX12_usual 40 = .ok (.iconst 3, 1) := by decide +kernel
theorem dX12_usual_41 : decode cX12_usual 41 = .ok (.goto 13, 3) := by decide +kernel
theorem dX12_usual_44 : decode cX12_usual 44 = .ok (.iload_n 1, 1) := by decide +kernel
theorem dX12_usual_45 : decode cX12_usual 45 = .ok (.iconst 1, 1) := by decide +kernel
theorem dX12_usual_46 : decode cX12_usual 46 = .ok (.if_icmp .ne 7, 3) := by decide +kernel
theorem dX12_usual_49 : decode cX12_usual 49 = .ok (.iconst 4, 1) := by decide +kernel
theorem dX12_usual_50 : decode cX12_usual 50 = .ok (.goto 4, 3) := by decide +kernel
theorem dX12_usual_53 : decode cX12_usual 53 = .ok (.iconst 0, 1) := by decide +kernel
theorem dX12_usual_54 : decode cX12_usual 54 = .ok (.ireturn, 1) := by decide +kernel
theorem dX12_items_0 : decode cX12_items 0 = .ok (.iconst 0, 1) := by decide +kernel
theorem dX12_items_1 : decode cX12_items 1 = .ok (.istore 5, 2) := by decide +kernel
theorem dX12_items_3 : decode cX12_items 3 = .ok (.iload 5, 2) := by decide +kernel
theorem dX12_items_5 : decode cX12_items 5 = .ok (.iload 4, 2) := by decide +kernel
theorem dX12_items_7 : decode cX12_items 7 = .ok (.if_icmp .ge 21, 3) := by decide +kernel
theorem dX12_items_10 : decode cX12_items 10 = .ok (.aload_n 2, 1) := by decide +kernel
theorem dX12_items_11 : decode cX12_items 11 = .ok (.iload_n 3, 1) := by decide +kernel
theorem dX12_items_12 : decode cX12_items 12 = .ok (.iload 5, 2) := by decide +kernel
theorem dX12_items_14 : decode cX12_items 14 = .ok (.iadd, 1) := by decide +kernel
theorem dX12_items_15 : decode cX12_items 15 = .ok (.iload_n 1, 1) := by decide +kernel
theorem dX12_items_16 : decode cX12_items 16 = .ok (.iload 5, 2) := by decide +kernel
theorem dX12_items_18 : decode cX12_items 18 = .ok (.invokestatic 221, 3) := by decide +kernel
theorem dX12_items_21 : decode cX12_items 21 = .ok (.iastore, 1) := by decide +kernel
theorem dX12_items_22 : decode cX12_items 22 = .ok (.iinc 5 1, 3) := by decide +kernel
theorem dX12_items_25 : decode cX12_items 25 = .ok (.goto (-22), 3) := by decide +kernel
theorem dX12_items_28 : decode cX12_items 28 = .ok (.iconst 0, 1) := by decide +kernel
theorem dX12_items_29 : decode cX12_items 29 = .ok (.istore 5, 2) := by decide +kernel
theorem dX12_items_31 : decode cX12_items 31 = .ok (.iload_n 1, 1) := by decide +kernel
theorem dX12_items_32 : decode cX12_items 32 = .ok (.aload_n 0, 1) := by decide +kernel
theorem dX12_items_33 : decode cX12_items 33 = .ok (.invokevirtual 131, 3) := by decide +kernel
theorem dX12_items_36 : decode cX12_items 36 = .ok (.invokestatic 225, 3) := by decide +kernel
theorem dX12_items_39 : decode cX12_items 39 = .ok (.istore 6, 2) := by decide +kernel
theorem dX12_items_41 : decode cX12_items 41 = .ok (.aload_n 0, 1) := by decide +kernel
theorem dX12_items_42 : decode cX12_items 42 = .ok (.getfield 119, 3) := by decide +kernel
theorem dX12_items_45 : decode cX12_items 45 = .ok (.iconst (-1), 1) := by decide +kernel
theorem dX12_items_46 : decode cX12_items 46 = .ok (.if_icmp .ne 85, 3) := by decide +kernel
theorem dX12_items_49 : decode cX12_items 49 = .ok (.iload 6, 2) := by decide +kernel
theorem dX12_items_51 : decode cX12_items 51 = .ok (.iconst (-1), 1) := by decide +kernel
theorem dX12_items_52 : decode cX12_items 52 = .ok (.if_icmp .eq 79, 3) := by decide +kernel
theorem dX12_items_55 : decode cX12_items 55 = .ok (.iload 5, 2) := by decide +kernel
theorem dX12_items_57 : decode cX12_items 57 = .ok (.iload 6, 2) := by decide +kernel
theorem dX12_items_59 : decode cX12_items 59 = .ok (.invokestatic 228, 3) := by decide +kernel
theorem dX12_items_62 : decode cX12_items 62 = .ok (.ifCond .ne 69, 3) := by decide +kernel
theorem dX12_items_65 : decode cX12_items 65 = .ok (.iload 5, 2) := by decide +kernel
theorem dX12_items_67 : decode cX12_items 67 = .ok (.iconst 1, 1) := by decide +kernel
theorem dX12_items_68 : decode cX12_items 68 = .ok (.iload 6, 2) := by decide +kernel
theorem dX12_items_70 : decode cX12_items 70 = .ok (.ishl, 1) := by decide +kernel
theorem dX12_items_71 : decode cX12_items 71 = .ok (.ior, 1) := by decide +kernel
theorem dX12_items_72 : decode cX12_items 72 = .ok (.istore 5, 2) := by decide +kernel
theorem dX12_items_74 : decode cX12_items 74 = .ok (.aload_n 0, 1) := by decide +kernel
theorem dX12_items_75 : decode cX12_items 75 = .ok (.dup, 1) := by decide +kernel
theorem dX12_items_76 : decode cX12_items 76 = .ok (.getfield 112, 3) := by decide +kernel
theorem dX12_items_79 : decode cX12_items 79 = .ok (.iconst 1, 1) := by decide +kernel
theorem dX12_items_80 : decode cX12_items 80 = .ok (.iadd, 1) := by decide +kernel
theorem dX12_items_81 : decode cX12_items 81 = .ok (.putfield 112, 3) := by decide +kernel
theorem dX12_items_84 : decode cX12_items 84 = .ok (.aload_n 2, 1) := by decide +kernel
theorem dX12_items_85 : decode cX12_items 85 = .ok (.iload_n 3, 1) := by decide +kernel
theorem dX12_items_86 : decode cX12_items 86 = .ok (.iload 6, 2) := by decide +kernel
theorem dX12_items_88 : decode cX12_items 88 = .ok (.iadd, 1) := by decide +kernel
theorem dX12_items_89 : decode cX12_items 89 = .ok (.aload_n 0, 1) := by decide +kernel
theorem dX12_items_90 : decode cX12_items 90 = .ok (.iload_n 1, 1) := by decide +kernel
theorem dX12_items_91 : decode cX12_items 91 = .ok (.iload 6, 2) := by decide +kernel
theorem dX12_items_93 : decode cX12_items 93 = .ok (.invokestatic 232, 3) := by decide +kernel
theorem dX12_items_96 : decode cX12_items 96 = .ok (.iload_n 1, 1) := by decide +kernel
theorem dX12_items_97 : decode cX12_items 97 = .ok (.iload 6, 2) := by decide +kernel
theorem dX12_items_99 : decode cX12_items 99 = .ok (.invokestatic 235, 3) := by decide +kernel
theorem dX12_items_102 : decode cX12_items 102 = .ok (.invokevirtual 238, 3) := by decide +kernel
theorem dX12_items_105 : decode cX12_items 105 = .ok (.iastore, 1) := by decide +kernel
theorem dX12_items_106 : decode cX12_items 106 = .ok (.aload_n 0, 1) := by decide +kernel
theorem dX12_items_107 : decode cX12_items 107 = .ok (.getfield 119, 3) := by decide +kernel
theorem dX12_items_110 : decode cX12_items 110 = .ok (.iconst (-1), 1) := by decide +kernel
theorem dX12_items_111 : decode cX12_items 111 = .ok (.if_icmp .ne 14, 3) := by decide +kernel
theorem dX12_items_114 : decode cX12_items 114 = .ok (.iload_n 1, 1) := by decide +kernel
theorem dX12_items_115 : decode cX12_items 115 = .ok (.aload_n 0, 1) := by decide +kernel
theorem dX12_items_116 : decode cX12_items 116 = .ok (.invokevirtual 131, 3) := by decide +kernel
theorem dX12_items_119 : decode cX12_items 119 = .ok (.invokestatic 225, 3) := by decide +kernel
theorem dX12_items_122 : decode cX12_items 122 = .ok (.goto 4, 3) := by decide +kernel
theorem dX12_items_125 : decode cX12_items 125 = .ok (.iconst (-1), 1) := by decide +kernel
theorem dX12_items_126 : decode cX12_items 126 = .ok (.istore 6, 2) := by decide +kernel
theorem dX12_items_128 : decode cX12_items 128 = .ok (.goto (-87), 3) := by decide +kernel
theorem dX12_items_131 : decode cX12_items 131 = .ok (.return_, 1) := by decide +kernel
theorem dX12_isWhole_0 : decode cX12_isWhole 0 = .ok (.iconst 1, 1) := by decide +kernel
theorem dX12_isWhole_1 : decode cX12_isWhole 1 = .ok (.istore_n 1, 1) := by decide +kernel
theorem dX12_isWhole_2 : decode cX12_isWhole 2 = .ok (.iconst 0, 1) := by decide +kernel
theorem dX12_isWhole_3 : decode cX12_isWhole 3 = .ok (.istore_n 2, 1) := by decide +kernel
theorem dX12_isWhole_4 : decode cX12_isWhole 4 = .ok (.iload_n 2, 1) := by decide +kernel
theorem dX12_isWhole_5 : decode cX12_isWhole 5 = .ok (.aload_n 0, 1) := by decide +kernel
theorem dX12_isWhole_6 : decode cX12_isWhole 6 = .ok (.getfield 241, 3) := by decide +kernel
theorem dX12_isWhole_9 : decode cX12_isWhole 9 = .ok (.if_icmp .ge 38, 3) := by decide +kernel
theorem dX12_isWhole_12 : decode cX12_isWhole 12 = .ok (.iload_n 1, 1) := by decide +kernel
theorem dX12_isWhole_13 : decode cX12_isWhole 13 = .ok (.ifCond .eq 26, 3) := by decide +kernel
theorem dX12_isWhole_16 : decode cX12_isWhole 16 = .ok (.aload_n 0, 1) := by decide +kernel
theorem dX12_isWhole_17 : decode cX12_isWhole 17 = .ok (.getfield 43, 3) := by decide +kernel
theorem dX12_isWhole_20 : decode cX12_isWhole 20 = .ok (.iconst 5, 1) := by decide +kernel
theorem dX12_isWhole_21 : decode cX12_isWhole 21 = .ok (.iload_n 2, 1) := by decide +kernel
theorem dX12_isWhole_22 : decode cX12_isWhole 22 = .ok (.imul, 1) := by decide +kernel
theorem dX12_isWhole_23 : decode cX12_isWhole 23 = .ok (.iconst 3, 1) := by decide +kernel
theorem dX12_isWhole_24 : decode cX12_isWhole 24 = .ok (.iadd, 1) := by decide +kernel
theorem dX12_isWhole_25 : decode cX12_isWhole 25 = .ok (.iaload, 1) := by decide +kernel
theorem dX12_isWhole_26 : decode cX12_isWhole 26 = .ok (.aload_n 0, 1) := by decide +kernel
theorem dX12_isWhole_27 : decode cX12_isWhole 27 = .ok (.getfield 40, 3) := by decide +kernel
theorem dX12_isWhole_30 : decode cX12_isWhole 30 = .ok (.iconst 1, 1) := by decide +kernel
theorem dX12_isWhole_31 : decode cX12_isWhole 31 = .ok (.iaload, 1) := by decide +kernel
theorem dX12_isWhole_32 : decode cX12_isWhole 32 = .ok (.if_icmp .ge 7, 3) := by decide +kernel
theorem dX12_isWhole_35 : decode cX12_isWhole 35 = .ok (.iconst 1, 1) := by decide +kernel
theorem dX12_isWhole_36 : decode cX12_isWhole 36 = .ok (.goto 4, 3) := by decide +kernel
theorem dX12_isWhole_39 : decode cX12_isWhole 39 = .ok (.iconst 0, 1) := by decide +kernel
theorem dX12_isWhole_40 : decode cX12_isWhole 40 = .ok (.istore_n 1, 1) := by decide +kernel
theorem dX12_isWhole_41 : decode cX12_isWhole 41 = .ok (.iinc 2 1, 3) := by decide +kernel
theorem dX12_isWhole_44 : decode cX12_isWhole 44 = .ok (.goto (-40), 3) := by decide +kernel
theorem dX12_isWhole_47 : decode cX12_isWhole 47 = .ok (.iload_n 1, 1) := by decide +kernel
theorem dX12_isWhole_48 : decode cX12_isWhole 48 = .ok (.ireturn, 1) := by decide +kernel
theorem dX12_readOffice_0 : decode cX12_readOffice 0 = .ok (.aload_n 0, 1) := by decide +kernel
theorem dX12_readOffice_1 : decode cX12_readOffice 1 = .ok (.iconst 0, 1) := by decide +kernel
theorem dX12_readOffice_2 : decode cX12_readOffice 2 = .ok (.putfield 112, 3) := by decide +kernel
theorem dX12_readOffice_5 : decode cX12_readOffice 5 = .ok (.aload_n 0, 1) := by decide +kernel
theorem dX12_readOffice_6 : decode cX12_readOffice 6 = .ok (.iconst (-1), 1) := by decide +kernel
theorem dX12_readOffice_7 : decode cX12_readOffice 7 = .ok (.putfield 119, 3) := by decide +kernel
theorem dX12_readOffice_10 : decode cX12_readOffice 10 = .ok (.aload_n 0, 1) := by decide +kernel
theorem dX12_readOffice_11 : decode cX12_readOffice 11 = .ok (.iconst 0, 1) := by decide +kernel
theorem dX12_readOffice_12 : decode cX12_readOffice 12 = .ok (.putfield 241, 3) := by decide +kernel
theorem dX12_readOffice_15 : decode cX12_readOffice 15 = .ok (.iconst 0, 1) := by decide +kernel
theorem dX12_readOffice_16 : decode cX12_readOffice 16 = .ok (.istore_n 1, 1) := by decide +kernel
theorem dX12_readOffice_17 : decode cX12_readOffice 17 = .ok (.iconst 0, 1) := by decide +kernel
theorem dX12_readOffice_18 : decode cX12_readOffice 18 = .ok (.istore_n 2, 1) := by decide +kernel
theorem dX12_readOffice_19 : decode cX12_readOffice 19 = .ok (.iload_n 2, 1) := by decide +kernel
theorem dX12_readOffice_20 : decode cX12_readOffice 20 = .ok (.iconst 4, 1) := by decide +kernel
theorem dX12_readOffice_21 : decode cX12_readOffice 21 = .ok (.if_icmp .ge 21, 3) := by decide +kernel
theorem dX12_readOffice_24 : decode cX12_readOffice 24 = .ok (.aload_n 0, 1) := by decide +kernel
theorem dX12_readOffice_25 : decode cX12_readOffice 25 = .ok (.getfield 40, 3) := by decide +kernel
theorem dX12_readOffice_28 : decode cX12_readOffice 28 = .ok (.iload_n 2, 1) := by decide +kernel
theorem dX12_readOffice_29 : decode cX12_readOffice 29 = .ok (.bipush 115, 2) := by decide +kernel
theorem dX12_readOffice_31 : decode cX12_readOffice 31 = .ok (.iload_n 2, 1) := by decide +kernel
theorem dX12_readOffice_32 : decode cX12_readOffice 32 = .ok (.invokestatic 221, 3) := by decide +kernel
theorem dX12_readOffice_35 : decode cX12_readOffice 35 = .ok (.iastore, 1) := by decide +kernel
theorem dX12_readOffice_36 : decode cX12_readOffice 36 = .ok (.iinc 2 1, 3) := by decide +kernel
theorem dX12_readOffice_39 : decode cX12_readOffice 39 = .ok (.goto (-20), 3) := by decide +kernel
theorem dX12_readOffice_42 : decode cX12_readOffice 42 = .ok (.iconst 1, 1) := by decide +kernel
theorem dX12_readOffice_43 : decode cX12_readOffice 43 = .ok (.istore_n 2, 1) := by decide +kernel
theorem dX12_readOffice_44 : decode cX12_readOffice 44 = .ok (.iload_n 2, 1) := by decide +kernel
theorem dX12_readOffice_45 : decode cX12_readOffice 45 = .ok (.ifCond .eq 154, 3) := by decide +kernel
theorem dX12_readOffice_48 : decode cX12_readOffice 48 = .ok (.aload_n 0, 1) := by decide +kernel
theorem dX12_readOffice_49 : decode cX12_readOffice 49 = .ok (.getfield 119, 3) := by decide +kernel
theorem dX12_readOffice_52 : decode cX12_readOffice 52 = .ok (.iconst (-1), 1) := by decide +kernel
theorem dX12_readOffice_53 : decode cX12_readOffice 53 = .ok (.if_icmp .ne 146, 3) := by decide +kernel
theorem dX12_readOffice_56 : decode cX12_readOffice 56 = .ok (.aload_n 0, 1) := by decide +kernel
theorem dX12_readOffice_57 : decode cX12_readOffice 57 = .ok (.invokevirtual 131, 3) := by decide +kernel
theorem dX12_readOffice_60 : decode cX12_readOffice 60 = .ok (.istore_n 3, 1) := by decide +kernel
theorem dX12_readOffice_61 : decode cX12_readOffice 61 = .ok (.iload_n 3, 1) := by decide +kernel
theorem dX12_readOffice_62 : decode cX12_readOffice 62 = .ok (.bipush 115, 2) := by decide +kernel
theorem dX12_readOffice_64 : decode cX12_readOffice 64 = .ok (.if_icmp .ne 33, 3) := by decide +kernel
theorem dX12_readOffice_67 : decode cX12_readOffice 67 = .ok (.iload_n 1, 1) := by decide +kernel
theorem dX12_readOffice_68 : decode cX12_readOffice 68 = .ok (.ifCond .ne 29, 3) := by decide +kernel
theorem dX12_readOffice_71 : decode cX12_readOffice 71 = .ok (.iconst 1, 1) := by decide +kernel
theorem dX12_readOffice_72 : decode cX12_readOffice 72 = .ok (.istore_n 1, 1) := by decide +kernel
theorem dX12_readOffice_73 : decode cX12_readOffice 73 = .ok (.aload_n 0, 1) := by decide +kernel
theorem dX12_readOffice_74 : decode cX12_readOffice 74 = .ok (.dup, 1) := by decide +kernel
theorem dX12_readOffice_75 : decode cX12_readOffice 75 = .ok (.getfield 112, 3) := by decide +kernel
theorem dX12_readOffice_78 : decode cX12_readOffice 78 = .ok (.iconst 1, 1) := by decide +kernel
theorem dX12_readOffice_79 : decode cX12_readOffice 79 = .ok (.iadd, 1) := by decide +kernel
theorem dX12_readOffice_80 : decode cX12_readOffice 80 = .ok (.putfield 112, 3) := by decide +kernel
theorem dX12_readOffice_83 : decode cX12_readOffice 83 = .ok (.aload_n 0, 1) := by decide +kernel
theorem dX12_readOffice_84 : decode cX12_readOffice 84 = .ok (.iload_n 3, 1) := by decide +kernel
theorem dX12_readOffice_85 : decode cX12_readOffice 85 = .ok (.aload_n 0, 1) := by decide +kernel
theorem dX12_readOffice_86 : decode cX12_readOffice 86 = .ok (.getfield 40, 3) := by decide +kernel
theorem dX12_readOffice_89 : decode cX12_readOffice 89 = .ok (.iconst 0, 1) := by decide +kernel
theorem dX12_readOffice_90 : decode cX12_readOffice 90 = .ok (.iconst 4, 1) := by decide +kernel
theorem dX12_readOffice_91 : decode cX12_readOffice 91 = .ok (.invokevirtual 244, 3) := by decide +kernel
theorem dX12_readOffice_94 : decode cX12_readOffice 94 = .ok (.goto 61, 3) := by decide +kernel
theorem dX12_readOffice_97 : decode cX12_readOffice 97 = .ok (.iload_n 3, 1) := by decide +kernel
theorem dX12_readOffice_98 : decode cX12_readOffice 98 = .ok (.bipush 98, 2) := by decide +kernel
theorem dX12_readOffice_100 : decode cX12_readOffice 100 = .ok (.if_icmp .ne 51, 3) := by decide +kernel
theorem dX12_readOffice_103 : decode cX12_readOffice 103 = .ok (.aload_n 0, 1) := by decide +kernel
theorem dX12_readOffice_104 : decode cX12_readOffice 104 = .ok (.getfield 241, 3) := by decide +kernel
theorem dX12_readOffice_107 : decode cX12_readOffice 107 = .ok (.bipush 8, 2) := by decide +kernel
theorem dX12_readOffice_109 : decode cX12_readOffice 109 = .ok (.if_icmp .ge 42, 3) := by decide +kernel
theorem dX12_readOffice_112 : decode cX12_readOffice 112 = .ok (.aload_n 0, 1) := by decide +kernel
theorem dX12_readOffice_113 : decode cX12_readOffice 113 = .ok (.dup, 1) := by decide +kernel
theorem dX12_readOffice_114 : decode cX12_readOffice 114 = .ok (.getfield 112, 3) := by decide +kernel
theorem dX12_readOffice_117 : decode cX12_readOffice 117 = .ok (.iconst 1, 1) := by decide +kernel
theorem dX12_readOffice_118 : decode cX12_readOffice 118 = .ok (.iadd, 1) := by decide +kernel
theorem dX12_readOffice_119 : decode cX12_readOffice 119 = .ok (.putfield 112, 3) := by decide +kernel
theorem dX12_readOffice_122 : decode cX12_readOffice 122 = .ok (.aload_n 0, 1) := by decide +kernel
theorem dX12_readOffice_123 : decode cX12_readOffice 123 = .ok (.iload_n 3, 1) := by decide +kernel
theorem dX12_readOffice_124 : decode cX12_readOffice 124 = .ok (.aload_n 0, 1) := by decide +kernel
theorem dX12_readOffice_125 : decode cX12_readOffice 125 = .ok (.getfield 43, 3) := by decide +kernel
theorem dX12_readOffice_128 : decode cX12_readOffice 128 = .ok (.iconst 5, 1) := by decide +kernel
theorem dX12_readOffice_129 : decode cX12_readOffice 129 = .ok (.aload_n 0, 1) := by decide +kernel
theorem dX12_readOffice_130 : decode cX12_readOffice 130 = .ok (.getfield 241, 3) := by decide +kernel
theorem dX12_readOffice_133 : decode cX12_readOffice 133 = .ok (.imul, 1) := by decide +kernel
theorem dX12_readOffice_134 : decode cX12_readOffice 134 = .ok (.iconst 5, 1) := by decide +kernel
theorem dX12_readOffice_135 : decode cX12_readOffice 135 = .ok (.invokevirtual 244, 3) := by decide +kernel
theorem dX12_readOffice_138 : decode cX12_readOffice 138 = .ok (.aload_n 0, 1) := by decide +kernel
theorem dX12_readOffice_139 : decode cX12_readOffice 139 = .ok (.dup, 1) := by decide +kernel
theorem dX12_readOffice_140 : decode cX12_readOffice 140 = .ok (.getfield 241, 3) := by decide +kernel
theorem dX12_readOffice_143 : decode cX12_readOffice 143 = .ok (.iconst 1, 1) := by decide +kernel
theorem dX12_readOffice_144 : decode cX12_readOffice 144 = .ok (.iadd, 1) := by decide +kernel
theorem dX12_readOffice_145 : decode cX12_readOffice 145 = .ok (.putfield 241, 3) := by decide +kernel
theorem dX12_readOffice_148 : decode cX12_readOffice 148 = .ok (.goto 7, 3) := by decide +kernel
theorem dX12_readOffice_151 : decode cX12_readOffice 151 = .ok (.aload_n 0, 1) := by decide +kernel
theorem dX12_readOffice_152 : decode cX12_readOffice 152 = .ok (.invokevirtual 128, 3) := by decide +kernel
theorem dX12_readOffice_155 : decode cX12_readOffice 155 = .ok (.aload_n 0, 1) := by decide +kernel
theorem dX12_readOffice_156 : decode cX12_readOffice 156 = .ok (.getfield 119, 3) := by decide +kernel
theorem dX12_readOffice_159 : decode cX12_readOffice 159 = .ok (.iconst (-1), 1) := by decide +kernel
theorem dX12_readOffice_160 : decode cX12_readOffice 160 = .ok (.if_icmp .ne 16, 3) := by decide +kernel
theorem dX12_readOffice_163 : decode cX12_readOffice 163 = .ok (.aload_n 0, 1) := by decide +kernel
theorem dX12_readOffice_164 : decode cX12_readOffice 164 = .ok (.invokevirtual 131, 3) := by decide +kernel
theorem dX12_readOffice_167 : decode cX12_readOffice 167 = .ok (.bipush 59, 2) := by decide +kernel
theorem dX12_readOffice_169 : decode cX12_readOffice 169 = .ok (.if_icmp .ne 7, 3) := by decide +kernel
theorem dX12_readOffice_172 : decode cX12_readOffice 172 = .ok (.iconst 1, 1) := by decide +kernel
theorem dX12_readOffice_173 : decode cX12_readOffice 173 = .ok (.goto 4, 3) := by decide +kernel
theorem dX12_readOffice_176 : decode cX12_readOffice 176 = .ok (.iconst 0, 1) := by decide +kernel
theorem dX12_readOffice_177 : decode cX12_readOffice 177 = .ok (.istore_n 2, 1) := by decide +kernel
theorem dX12_readOffice_178 : decode cX12_readOffice 178 = .ok (.aload_n 0, 1) := by decide +kernel
theorem dX12_readOffice_179 : decode cX12_readOffice 179 = .ok (.dup, 1) := by decide +kernel
theorem dX12_readOffice_180 : decode cX12_readOffice 180 = .ok (.getfield 112, 3) := by decide +kernel
theorem dX12_readOffice_183 : decode cX12_readOffice 183 = .ok (.iload_n 2, 1) := by decide +kernel
theorem dX12_readOffice_184 : decode cX12_readOffice 184 = .ok (.ifCond .eq 7, 3) := by decide +kernel
theorem dX12_readOffice_187 : decode cX12_readOffice 187 = .ok (.iconst 1, 1) := by decide +kernel
theorem dX12_readOffice_188 : decode cX12_readOffice 188 = .ok (.goto 4, 3) := by decide +kernel
theorem dX12_readOffice_191 : decode cX12_readOffice 191 = .ok (.iconst 0, 1) := by decide +kernel
theorem dX12_readOffice_192 : decode cX12_readOffice 192 = .ok (.iadd, 1) := by decide +kernel
theorem dX12_readOffice_193 : decode cX12_readOffice 193 = .ok (.putfield 112, 3) := by decide +kernel
theorem dX12_readOffice_196 : decode cX12_readOffice 196 = .ok (.goto (-152), 3) := by decide +kernel
theorem dX12_readOffice_199 : decode cX12_readOffice 199 = .ok (.aload_n 0, 1) := by decide +kernel
theorem dX12_readOffice_200 : decode cX12_readOffice 200 = .ok (.getfield 119, 3) := by decide +kernel
theorem dX12_readOffice_203 : decode cX12_readOffice 203 = .ok (.iconst (-1), 1) := by decide +kernel
theorem dX12_readOffice_204 : decode cX12_readOffice 204 = .ok (.if_icmp .ne 22, 3) := by decide +kernel
theorem dX12_readOffice_207 : decode cX12_readOffice 207 = .ok (.aload_n 0, 1) := by decide +kernel
theorem dX12_readOffice_208 : decode cX12_readOffice 208 = .ok (.invokevirtual 131, 3) := by decide +kernel
theorem dX12_readOffice_211 : decode cX12_readOffice 211 = .ok (.iconst (-1), 1) := by decide +kernel
theorem dX12_readOffice_212 : decode cX12_readOffice 212 = .ok (.if_icmp .ne 10, 3) := by decide +kernel
theorem dX12_readOffice_215 : decode cX12_readOffice 215 = .ok (.aload_n 0, 1) := by decide +kernel
theorem dX12_readOffice_216 : decode cX12_readOffice 216 = .ok (.invokevirtual 248, 3) := by decide +kernel
theorem dX12_readOffice_219 : decode cX12_readOffice 219 = .ok (.ifCond .ne 7, 3) := by decide +kernel
theorem dX12_readOffice_222 : decode cX12_readOffice 222 = .ok (.aload_n 0, 1) := by decide +kernel
theorem dX12_readOffice_223 : decode cX12_readOffice 223 = .ok (.invokevirtual 128, 3) := by decide +kernel
theorem dX12_readOffice_226 : decode cX12_readOffice 226 = .ok (.aload_n 0, 1) := by decide +kernel
theorem dX12_readOffice_227 : decode cX12_readOffice 227 = .ok (.getfield 119, 3) := by decide +kernel
theorem dX12_readOffice_230 : decode cX12_readOffice 230 = .ok (.ireturn, 1) := by decide +kernel
theorem dX12_fault_0 : decode cX12_fault 0 = .ok (.iload_n 1, 1) := by decide +kernel
theorem dX12_fault_1 : decode cX12_fault 1 = .ok (.ifCond .ne 10, 3) := by decide +kernel
theorem dX12_fault_4 : decode cX12_fault 4 = .ok (.aload_n 0, 1) := by decide +kernel
theorem dX12_fault_5 : decode cX12_fault 5 = .ok (.invokevirtual 252, 3) := by decide +kernel
theorem dX12_fault_8 : decode cX12_fault 8 = .ok (.goto 18, 3) := by decide +kernel
theorem dX12_fault_11 : decode cX12_fault 11 = .ok (.iload_n 1, 1) := by decide +kernel
theorem dX12_fault_12 : decode cX12_fault 12 = .ok (.iconst 1, 1) := by decide +kernel
theorem dX12_fault_13 : decode cX12_fault 13 = .ok (.if_icmp .ne 11, 3) := by decide +kernel
theorem dX12_fault_16 : decode cX12_fault 16 = .ok (.aload_n 0, 1) := by decide +kernel
theorem dX12_fault_17 : decode cX12_fault 17 = .ok (.iconst 4, 1) := by decide +kernel
theorem dX12_fault_18 : decode cX12_fault 18 = .ok (.invokevirtual 255, 3) := by decide +kernel
theorem dX12_fault_21 : decode cX12_fault 21 = .ok (.goto 5, 3) := by decide +kernel
theorem dX12_fault_24 : decode cX12_fault 24 = .ok (.bipush (-2), 2) := by decide +kernel
theorem dX12_fault_26 : decode cX12_fault 26 = .ok (.ireturn, 1) := by decide +kernel
theorem dX12_layBag_0 : decode cX12_layBag 0 = .ok (.iconst 0, 1) := by decide +kernel
theorem dX12_layBag_1 : decode cX12_layBag 1 = .ok (.istore_n 2, 1) := by decide +kernel
theorem dX12_layBag_2 : decode cX12_layBag 2 = .ok (.iload_n 2, 1) := by decide +kernel
theorem dX12_layBag_3 : decode cX12_layBag 3 = .ok (.iconst 5, 1) := by decide +kernel
theorem dX12_layBag_4 : decode cX12_layBag 4 = .ok (.if_icmp .ge 25, 3) := by decide +kernel
theorem dX12_layBag_7 : decode cX12_layBag 7 = .ok (.aload_n 0, 1) := by decide +kernel
theorem dX12_layBag_8 : decode cX12_layBag 8 = .ok (.iload_n 1, 1) := by decide +kernel
theorem dX12_layBag_9 : decode cX12_layBag 9 = .ok (.iload_n 2, 1) := by decide +kernel
theorem dX12_layBag_10 : decode cX12_layBag 10 = .ok (.aload_n 0, 1) := by decide +kernel
theorem dX12_layBag_11 : decode cX12_layBag 11 = .ok (.getfield 49, 3) := by decide +kernel
theorem dX12_layBag_14 : decode cX12_layBag 14 = .ok (.iconst 5, 1) := by decide +kernel
theorem dX12_layBag_15 : decode cX12_layBag 15 = .ok (.iload_n 1, 1) := by decide +kernel
theorem dX12_layBag_16 : decode cX12_layBag 16 = .ok (.imul, 1) := by decide +kernel
theorem dX12_layBag_17 : decode cX12_layBag 17 = .ok (.iload_n 2, 1) := by decide +kernel
theorem dX12_layBag_18 : decode cX12_layBag 18 = .ok (.iadd, 1) := by decide +kernel
theorem dX12_layBag_19 : decode cX12_layBag 19 = .ok (.iaload, 1) := by decide +kernel
theorem dX12_layBag_20 : decode cX12_layBag 20 = .ok (.invokevirtual 258, 3) := by decide +kernel
theorem dX12_layBag_23 : decode cX12_layBag 23 = .ok (.iinc 2 1, 3) := by decide +kernel
theorem dX12_layBag_26 : decode cX12_layBag 26 = .ok (.goto (-24), 3) := by decide +kernel
theorem dX12_layBag_29 : decode cX12_layBag 29 = .ok (.aload_n 0, 1) := by decide +kernel
theorem dX12_layBag_30 : decode cX12_layBag 30 = .ok (.iload_n 1, 1) := by decide +kernel
theorem dX12_layBag_31 : decode cX12_layBag 31 = .ok (.iconst 5, 1) := by decide +kernel
theorem dX12_layBag_32 : decode cX12_layBag 32 = .ok (.iconst 0, 1) := by decide +kernel
theorem dX12_layBag_33 : decode cX12_layBag 33 = .ok (.invokevirtual 258, 3) := by decide +kernel
theorem dX12_layBag_36 : decode cX12_layBag 36 = .ok (.aload_n 0, 1) := by decide +kernel
theorem dX12_layBag_37 : decode cX12_layBag 37 = .ok (.iload_n 1, 1) := by decide +kernel
theorem dX12_layBag_38 : decode cX12_layBag 38 = .ok (.bipush 6, 2) := by decide +kernel
theorem dX12_layBag_40 : decode cX12_layBag 40 = .ok (.iconst 0, 1) := by decide +kernel
theorem dX12_layBag_41 : decode cX12_layBag 41 = .ok (.invokevirtual 258, 3) := by decide +kernel
theorem dX12_layBag_44 : decode cX12_layBag 44 = .ok (.aload_n 0, 1) := by decide +kernel
theorem dX12_layBag_45 : decode cX12_layBag 45 = .ok (.iload_n 1, 1) := by decide +kernel
theorem dX12_layBag_46 : decode cX12_layBag 46 = .ok (.bipush 7, 2) := by decide +kernel
theorem dX12_layBag_48 : decode cX12_layBag 48 = .ok (.iconst 1, 1) := by decide +kernel
theorem dX12_layBag_49 : decode cX12_layBag 49 = .ok (.invokevirtual 258, 3) := by decide +kernel
theorem dX12_layBag_52 : decode cX12_layBag 52 = .ok (.return_, 1) := by decide +kernel
theorem dX12_takeOffice_0 : decode cX12_takeOffice 0 = .ok (.aload_n 0, 1) := by decide +kernel
theorem dX12_takeOffice_1 : decode cX12_takeOffice 1 = .ok (.iconst 1, 1) := by decide +kernel
theorem dX12_takeOffice_2 : decode cX12_takeOffice 2 = .ok (.putfield 262, 3) := by decide +kernel
theorem dX12_takeOffice_5 : decode cX12_takeOffice 5 = .ok (.aload_n 0, 1) := by decide +kernel
theorem dX12_takeOffice_6 : decode cX12_takeOffice 6 = .ok (.aload_n 0, 1) := by decide +kernel
theorem dX12_takeOffice_7 : decode cX12_takeOffice 7 = .ok (.getfield 241, 3) := by decide +kernel
theorem dX12_takeOffice_10 : decode cX12_takeOffice 10 = .ok (.putfield 266, 3) := by decide +kernel
theorem dX12_takeOffice_13 : decode cX12_takeOffice 13 = .ok (.iconst 0, 1) := by decide +kernel
theorem dX12_takeOffice_14 : decode cX12_takeOffice 14 = .ok (.istore_n 1, 1) := by decide +kernel
theorem dX12_takeOffice_15 : decode cX12_takeOffice 15 = .ok (.iload_n 1, 1) := by decide +kernel
theorem dX12_takeOffice_16 : decode cX12_takeOffice 16 = .ok (.iconst 4, 1) := by decide +kernel
theorem dX12_takeOffice_17 : decode cX12_takeOffice 17 = .ok (.if_icmp .ge 21, 3) := by decide +kernel
theorem dX12_takeOffice_20 : decode cX12_takeOffice 20 = .ok (.aload_n 0, 1) := by decide +kernel
theorem dX12_takeOffice_21 : decode cX12_takeOffice 21 = .ok (.getfield 46, 3) := by decide +kernel
theorem dX12_takeOffice_24 : decode cX12_takeOffice 24 = .ok (.iload_n 1, 1) := by decide +kernel
theorem dX12_takeOffice_25 : decode cX12_takeOffice 25 = .ok (.aload_n 0, 1) := by decide +kernel
theorem dX12_takeOffice_26 : decode cX12_takeOffice 26 = .ok (.getfield 40, 3) := by decide +kernel
theorem dX12_takeOffice_29 : decode cX12_takeOffice 29 = .ok (.iload_n 1, 1) := by decide +kernel
theorem dX12_takeOffice_30 : decode cX12_takeOffice 30 = .ok (.iaload, 1) := by decide +kernel
theorem dX12_takeOffice_31 : decode cX12_takeOffice 31 = .ok (.iastore, 1) := by decide +kernel
theorem dX12_takeOffice_32 : decode cX12_takeOffice 32 = .ok (.iinc 1 1, 3) := by decide +kernel
theorem dX12_takeOffice_35 : decode cX12_takeOffice 35 = .ok (.goto (-20), 3) := by decide +kernel
theorem dX12_takeOffice_38 : decode cX12_takeOffice 38 = .ok (.iconst 0, 1) := by decide +kernel
theorem dX12_takeOffice_39 : decode cX12_takeOffice 39 = .ok (.istore_n 1, 1) := by decide +kernel
theorem dX12_takeOffice_40 : decode cX12_takeOffice 40 = .ok (.iload_n 1, 1) := by decide +kernel
theorem dX12_takeOffice_41 : decode cX12_takeOffice 41 = .ok (.bipush 40, 2) := by decide +kernel
theorem dX12_takeOffice_43 : decode cX12_takeOffice 43 = .ok (.if_icmp .ge 21, 3) := by decide +kernel
theorem dX12_takeOffice_46 : decode cX12_takeOffice 46 = .ok (.aload_n 0, 1) := by decide +kernel
theorem dX12_takeOffice_47 : decode cX12_takeOffice 47 = .ok (.getfield 49, 3) := by decide +kernel
theorem dX12_takeOffice_50 : decode cX12_takeOffice 50 = .ok (.iload_n 1, 1) := by decide +kernel
theorem dX12_takeOffice_51 : decode cX12_takeOffice 51 = .ok (.aload_n 0, 1) := by decide +kernel
theorem dX12_takeOffice_52 : decode cX12_takeOffice 52 = .ok (.getfield 43, 3) := by decide +kernel
theorem dX12_takeOffice_55 : decode cX12_takeOffice 55 = .ok (.iload_n 1, 1) := by decide +kernel
theorem dX12_takeOffice_56 : decode cX12_takeOffice 56 = .ok (.iaload, 1) := by decide +kernel
theorem dX12_takeOffice_57 : decode cX12_takeOffice 57 = .ok (.iastore, 1) := by decide +kernel
theorem dX12_takeOffice_58 : decode cX12_takeOffice 58 = .ok (.iinc 1 1, 3) := by decide +kernel
theorem dX12_takeOffice_61 : decode cX12_takeOffice 61 = .ok (.goto (-21), 3) := by decide +kernel
theorem dX12_takeOffice_64 : decode cX12_takeOffice 64 = .ok (.iconst 0, 1) := by decide +kernel
theorem dX12_takeOffice_65 : decode cX12_takeOffice 65 = .ok (.istore_n 1, 1) := by decide +kernel
theorem dX12_takeOffice_66 : decode cX12_takeOffice 66 = .ok (.iload_n 1, 1) := by decide +kernel
theorem dX12_takeOffice_67 : decode cX12_takeOffice 67 = .ok (.sipush 247, 3) := by decide +kernel
theorem dX12_takeOffice_70 : decode cX12_takeOffice 70 = .ok (.if_icmp .ge 16, 3) := by decide +kernel
theorem dX12_takeOffice_73 : decode cX12_takeOffice 73 = .ok (.aload_n 0, 1) := by decide +kernel
theorem dX12_takeOffice_74 : decode cX12_takeOffice 74 = .ok (.getfield 52, 3) := by decide +kernel
theorem dX12_takeOffice_77 : decode cX12_takeOffice 77 = .ok (.iload_n 1, 1) := by decide +kernel
theorem dX12_takeOffice_78 : decode cX12_takeOffice 78 = .ok (.iconst 0, 1) := by decide +kernel
theorem dX12_takeOffice_79 : decode cX12_takeOffice 79 = .ok (.iastore, 1) := by decide +kernel
theorem dX12_takeOffice_80 : decode cX12_takeOffice 80 = .ok (.iinc 1 1, 3) := by decide +kernel
theorem dX12_takeOffice_83 : decode cX12_takeOffice 83 = .ok (.goto (-17), 3) := by decide +kernel
theorem dX12_takeOffice_86 : decode cX12_takeOffice 86 = .ok (.iconst 0, 1) := by decide +kernel
theorem dX12_takeOffice_87 : decode cX12_takeOffice 87 = .ok (.istore_n 1, 1) := by decide +kernel
theorem dX12_takeOffice_88 : decode cX12_takeOffice 88 = .ok (.iload_n 1, 1) := by decide +kernel
theorem dX12_takeOffice_89 : decode cX12_takeOffice 89 = .ok (.aload_n 0, 1) := by decide +kernel
theorem dX12_takeOffice_90 : decode cX12_takeOffice 90 = .ok (.getfield 266, 3) := by decide +kernel
theorem dX12_takeOffice_93 : decode cX12_takeOffice 93 = .ok (.if_icmp .ge 14, 3) := by decide +kernel
theorem dX12_takeOffice_96 : decode cX12_takeOffice 96 = .ok (.aload_n 0, 1) := by decide +kernel
theorem dX12_takeOffice_97 : decode cX12_takeOffice 97 = .ok (.iload_n 1, 1) := by decide +kernel
theorem dX12_takeOffice_98 : decode cX12_takeOffice 98 = .ok (.invokevirtual 269, 3) := by decide +kernel
theorem dX12_takeOffice_101 : decode cX12_takeOffice 101 = .ok (.iinc 1 1, 3) := by decide +kernel
theorem dX12_takeOffice_104 : decode cX12_takeOffice 104 = .ok (.goto (-16), 3) := by decide +kernel
theorem dX12_takeOffice_107 : decode cX12_takeOffice 107 = .ok (.aload_n 0, 1) := by decide +kernel
theorem dX12_takeOffice_108 : decode cX12_takeOffice 108 = .ok (.getfield 52, 3) := by decide +kernel
theorem dX12_takeOffice_111 : decode cX12_takeOffice 111 = .ok (.bipush 64, 2) := by decide +kernel
theorem dX12_takeOffice_113 : decode cX12_takeOffice 113 = .ok (.aload_n 0, 1) := by decide +kernel
theorem dX12_takeOffice_114 : decode cX12_takeOffice 114 = .ok (.getfield 46, 3) := by decide +kernel
theorem dX12_takeOffice_117 : decode cX12_takeOffice 117 = .ok (.iconst 3, 1) := by decide +kernel
theorem dX12_takeOffice_118 : decode cX12_takeOffice 118 = .ok (.iaload, 1) := by decide +kernel
theorem dX12_takeOffice_119 : decode cX12_takeOffice 119 = .ok (.iastore, 1) := by decide +kernel
theorem dX12_takeOffice_120 : decode cX12_takeOffice 120 = .ok (.aload_n 0, 1) := by decide +kernel
theorem dX12_takeOffice_121 : decode cX12_takeOffice 121 = .ok (.iconst 0, 1) := by decide +kernel
theorem dX12_takeOffice_122 : decode cX12_takeOffice 122 = .ok (.putfield 272, 3) := by decide +kernel
theorem dX12_takeOffice_125 : decode cX12_takeOffice 125 = .ok (.aload_n 0, 1) := by decide +kernel
theorem dX12_takeOffice_126 : decode cX12_takeOffice 126 = .ok (.iconst 0, 1) := by decide +kernel
theorem dX12_takeOffice_127 : decode cX12_takeOffice 127 = .ok (.putfield 275, 3) := by decide +kernel
theorem dX12_takeOffice_130 : decode cX12_takeOffice 130 = .ok (.aload_n 0, 1) := by decide +kernel
theorem dX12_takeOffice_131 : decode cX12_takeOffice 131 = .ok (.iconst 0, 1) := by decide +kernel
theorem dX12_takeOffice_132 : decode cX12_takeOffice 132 = .ok (.putfield 278, 3) := by decide +kernel
theorem dX12_takeOffice_135 : decode cX12_takeOffice 135 = .ok (.aload_n 0, 1) := by decide +kernel
theorem dX12_takeOffice_136 : decode cX12_takeOffice 136 = .ok (.getfield 266, 3) := by decide +kernel
theorem dX12_takeOffice_139 : decode cX12_takeOffice 139 = .ok (.ireturn, 1) := by decide +kernel
theorem dX12_text_0 : decode cX12_text 0 = .ok (.iload_n 1, 1) := by decide +kernel
theorem dX12_text_1 : decode cX12_text 1 = .ok (.ifCond .ne 21, 3) := by decide +kernel
theorem dX12_text_4 : decode cX12_text 4 = .ok (.aload_n 0, 1) := by decide +kernel
theorem dX12_text_5 : decode cX12_text 5 = .ok (.invokevirtual 252, 3) := by decide +kernel
theorem dX12_text_8 : decode cX12_text 8 = .ok (.iconst (-1), 1) := by decide +kernel
theorem dX12_text_9 : decode cX12_text 9 = .ok (.if_icmp .ne 13, 3) := by decide +kernel
theorem dX12_text_12 : decode cX12_text 12 = .ok (.aload_n 0, 1) := by decide +kernel
theorem dX12_text_13 : decode cX12_text 13 = .ok (.iconst 0, 1) := by decide +kernel
theorem dX12_text_14 : decode cX12_text 14 = .ok (.putfield 109, 3) := by decide +kernel
theorem dX12_text_17 : decode cX12_text 17 = .ok (.aload_n 0, 1) := by decide +kernel
theorem dX12_text_18 : decode cX12_text 18 = .ok (.invokevirtual 281, 3) := by decide +kernel
theorem dX12_text_21 : decode cX12_text 21 = .ok (.ireturn, 1) := by decide +kernel
theorem dX12_text_22 : decode cX12_text 22 = .ok (.iload_n 1, 1) := by decide +kernel
theorem dX12_text_23 : decode cX12_text 23 = .ok (.iconst 1, 1) := by decide +kernel
theorem dX12_text_24 : decode cX12_text 24 = .ok (.if_icmp .ne 45, 3) := by decide +kernel
theorem dX12_text_27 : decode cX12_text 27 = .ok (.aload_n 0, 1) := by decide +kernel
theorem dX12_text_28 : decode cX12_text 28 = .ok (.getfield 284, 3) := by decide +kernel
theorem dX12_text_31 : decode cX12_text 31 = .ok (.iconst 4, 1) := by decide +kernel
theorem dX12_text_32 : decode cX12_text 32 = .ok (.if_icmp .ge 37, 3) := by decide +kernel
theorem dX12_text_35 : decode cX12_text 35 = .ok (.aload_n 0, 1) := by decide +kernel
theorem dX12_text_36 : decode cX12_text 36 = .ok (.aload_n 0, 1) := by decide +kernel
theorem dX12_text_37 : decode cX12_text 37 = .ok (.getfield 284, 3) := by decide +kernel
theorem dX12_text_40 : decode cX12_text 40 = .ok (.invokevirtual 255, 3) := by decide +kernel
theorem dX12_text_43 : decode cX12_text 43 = .ok (.iconst (-1), 1) := by decide +kernel
theorem dX12_text_44 : decode cX12_text 44 = .ok (.if_icmp .ne 25, 3) := by decide +kernel
theorem dX12_text_47 : decode cX12_text 47 = .ok (.aload_n 0, 1) := by decide +kernel
theorem dX12_text_48 : decode cX12_text 48 = .ok (.iconst 0, 1) := by decide +kernel
theorem dX12_text_49 : decode cX12_text 49 = .ok (.putfield 109, 3) := by decide +kernel
theorem dX12_text_52 : decode cX12_text 52 = .ok (.aload_n 0, 1) := by decide +kernel
theorem dX12_text_53 : decode cX12_text 53 = .ok (.dup, 1) := by decide +kernel
theorem dX12_text_54 : decode cX12_text 54 = .ok (.getfield 284, 3) := by decide +kernel
theorem dX12_text_57 : decode cX12_text 57 = .ok (.iconst 1, 1) := by decide +kernel
theorem dX12_text_58 : decode cX12_text 58 = .ok (.iadd, 1) := by decide +kernel
theorem dX12_text_59 : decode cX12_text 59 = .ok (.putfield 284, 3) := by decide +kernel
theorem dX12_text_62 : decode cX12_text 62 = .ok (.aload_n 0, 1) := by decide +kernel
theorem dX12_text_63 : decode cX12_text 63 = .ok (.getfield 284, 3) := by decide +kernel
theorem dX12_text_66 : decode cX12_text 66 = .ok (.iconst 1, 1) := by decide +kernel
theorem dX12_text_67 : decode cX12_text 67 = .ok (.isub, 1) := by decide +kernel
theorem dX12_text_68 : decode cX12_text 68 = .ok (.ireturn, 1) := by decide +kernel
theorem dX12_text_69 : decode cX12_text 69 = .ok (.iconst (-1), 1) := by decide +kernel
theorem dX12_text_70 : decode cX12_text 70 = .ok (.ireturn, 1) := by decide +kernel
theorem dX12_of_0 : decode cX12_of 0 = .ok (.aload_n 0, 1) := by decide +kernel
theorem dX12_of_1 : decode cX12_of 1 = .ok (.getfield 52, 3) := by decide +kernel
theorem dX12_of_4 : decode cX12_of 4 = .ok (.bipush 8, 2) := by decide +kernel
theorem dX12_of_6 : decode cX12_of 6 = .ok (.iload_n 1, 1) := by decide +kernel
theorem dX12_of_7 : decode cX12_of 7 = .ok (.imul, 1) := by decide +kernel
theorem dX12_of_8 : decode cX12_of 8 = .ok (.iload_n 2, 1) := by decide +kernel
theorem dX12_of_9 : decode cX12_of 9 = .ok (.iadd, 1) := by decide +kernel
theorem dX12_of_10 : decode cX12_of 10 = .ok (.iaload, 1) := by decide +kernel
theorem dX12_of_11 : decode cX12_of 11 = .ok (.ireturn, 1) := by decide +kernel
theorem dX12_set_0 : decode cX12_set 0 = .ok (.aload_n 0, 1) := by decide +kernel
theorem dX12_set_1 : decode cX12_set 1 = .ok (.getfield 52, 3) := by decide +kernel
theorem dX12_set_4 : decode cX12_set 4 = .ok (.bipush 8, 2) := by decide +kernel
theorem dX12_set_6 : decode cX12_set 6 = .ok (.iload_n 1, 1) := by decide +kernel
theorem dX12_set_7 : decode cX12_set 7 = .ok (.imul, 1) := by decide +kernel
theorem dX12_set_8 : decode cX12_set 8 = .ok (.iload_n 2, 1) := by decide +kernel
theorem dX12_set_9 : decode cX12_set 9 = .ok (.iadd, 1) := by decide +kernel
theorem dX12_set_10 : decode cX12_set 10 = .ok (.iload_n 3, 1) := by decide +kernel
theorem dX12_set_11 : decode cX12_set 11 = .ok (.iastore, 1) := by decide +kernel
theorem dX12_set_12 : decode cX12_set 12 = .ok (.return_, 1) := by decide +kernel
theorem dX12_isThere_0 : decode cX12_isThere 0 = .ok (.iload_n 1, 1) := by decide +kernel
theorem dX12_isThere_1 : decode cX12_isThere 1 = .ok (.iconst 0, 1) := by decide +kernel
theorem dX12_isThere_2 : decode cX12_isThere 2 = .ok (.bipush 7, 2) := by decide +kernel
theorem dX12_isThere_4 : decode cX12_isThere 4 = .ok (.invokestatic 217, 3) := by decide +kernel
theorem dX12_isThere_7 : decode cX12_isThere 7 = .ok (.ifCond .eq 18, 3) := by decide +kernel
theorem dX12_isThere_10 : decode cX12_isThere 10 = .ok (.aload_n 0, 1) := by decide +kernel
theorem dX12_isThere_11 : decode cX12_isThere 11 = .ok (.iload_n 1, 1) := by decide +kernel
theorem dX12_isThere_12 : decode cX12_isThere 12 = .ok (.bipush 7, 2) := by decide +kernel
theorem dX12_isThere_14 : decode cX12_isThere 14 = .ok (.invokevirtual 287, 3) := by decide +kernel
theorem dX12_isThere_17 : decode cX12_isThere 17 = .ok (.iconst 1, 1) := by decide +kernel
theorem dX12_isThere_18 : decode cX12_isThere 18 = .ok (.if_icmp .ne 7, 3) := by decide +kernel
theorem dX12_isThere_21 : decode cX12_isThere 21 = .ok (.iconst 1, 1) := by decide +kernel
theorem dX12_isThere_22 : decode cX12_isThere 22 = .ok (.goto 4, 3) := by decide +kernel
theorem dX12_isThere_25 : decode cX12_isThere 25 = .ok (.iconst 0, 1) := by decide +kernel
theorem dX12_isThere_26 : decode cX12_isThere 26 = .ok (.ireturn, 1) := by decide +kernel
theorem dX12_isShelf_0 : decode cX12_isShelf 0 = .ok (.iload_n 1, 1) := by decide +kernel
theorem dX12_isShelf_1 : decode cX12_isShelf 1 = .ok (.iconst 0, 1) := by decide +kernel
theorem dX12_isShelf_2 : decode cX12_isShelf 2 = .ok (.aload_n 0, 1) := by decide +kernel
theorem dX12_isShelf_3 : decode cX12_isShelf 3 = .ok (.getfield 46, 3) := by decide +kernel
theorem dX12_isShelf_6 : decode cX12_isShelf 6 = .ok (.iconst 1, 1) := by decide +kernel
theorem dX12_isShelf_7 : decode cX12_isShelf 7 = .ok (.iaload, 1) := by decide +kernel
theorem dX12_isShelf_8 : decode cX12_isShelf 8 = .ok (.iconst 1, 1) := by decide +kernel
theorem dX12_isShelf_9 : decode cX12_isShelf 9 = .ok (.isub, 1) := by decide +kernel
theorem dX12_isShelf_10 : decode cX12_isShelf 10 = .ok (.invokestatic 217, 3) := by decide +kernel
theorem dX12_isShelf_13 : decode cX12_isShelf 13 = .ok (.ireturn, 1) := by decide +kernel
theorem dX12_loadOf_0 : decode cX12_loadOf 0 = .ok (.iconst 0, 1) := by decide +kernel
theorem dX12_loadOf_1 : decode cX12_loadOf 1 = .ok (.istore_n 2, 1) := by decide +kernel
theorem dX12_loadOf_2 : decode cX12_loadOf 2 = .ok (.iconst 0, 1) := by decide +kernel
theorem dX12_loadOf_3 : decode cX12_loadOf 3 = .ok (.istore_n 3, 1) := by decide +kernel
theorem dX12_loadOf_4 : decode cX12_loadOf 4 = .ok (.iload_n 3, 1) := by decide +kernel
theorem dX12_loadOf_5 : decode cX12_loadOf 5 = .ok (.bipush 8, 2) := by decide +kernel
theorem dX12_loadOf_7 : decode cX12_loadOf 7 = .ok (.if_icmp .ge 40, 3) := by decide +kernel
theorem dX12_loadOf_10 : decode cX12_loadOf 10 = .ok (.iload_n 2, 1) := by decide +kernel
theorem dX12_loadOf_11 : decode cX12_loadOf 11 = .ok (.aload_n 0, 1) := by decide +kernel
theorem dX12_loadOf_12 : decode cX12_loadOf 12 = .ok (.iload_n 3, 1) := by decide +kernel
theorem dX12_loadOf_13 : decode cX12_loadOf 13 = .ok (.invokevirtual 290, 3) := by decide +kernel
theorem dX12_loadOf_16 : decode cX12_loadOf 16 = .ok (.ifCond .eq 22, 3) := by decide +kernel
theorem dX12_loadOf_19 : decode cX12_loadOf 19 = .ok (.aload_n 0, 1) := by decide +kernel
theorem dX12_loadOf_20 : decode cX12_loadOf 20 = .ok (.iload_n 3, 1) := by decide +kernel
theorem dX12_loadOf_21 : decode cX12_loadOf 21 = .ok (.iconst 3, 1) := by decide +kernel
theorem dX12_loadOf_22 : decode cX12_loadOf 22 = .ok (.invokevirtual 287, 3) := by decide +kernel
theorem dX12_loadOf_25 : decode cX12_loadOf 25 = .ok (.iload_n 1, 1) := by decide +kernel
theorem dX12_loadOf_26 : decode cX12_loadOf 26 = .ok (.if_icmp .ne 12, 3) := by decide +kernel
theorem dX12_loadOf_29 : decode cX12_loadOf 29 = .ok (.aload_n 0, 1) := by decide +kernel
theorem dX12_loadOf_30 : decode cX12_loadOf 30 = .ok (.iload_n 3, 1) := by decide +kernel
theorem dX12_loadOf_31 : decode cX12_loadOf 31 = .ok (.iconst 0, 1) := by decide +kernel
theorem dX12_loadOf_32 : decode cX12_loadOf 32 = .ok (.invokevirtual 287, 3) := by decide +kernel
theorem dX12_loadOf_35 : decode cX12_loadOf 35 = .ok (.goto 4, 3) := by decide +kernel
theorem dX12_loadOf_38 : decode cX12_loadOf 38 = .ok (.iconst 0, 1) := by decide +kernel
theorem dX12_loadOf_39 : decode cX12_loadOf 39 = .ok (.iadd, 1) := by decide +kernel
theorem dX12_loadOf_40 : decode cX12_loadOf 40 = .ok (.istore_n 2, 1) := by decide +kernel
theorem dX12_loadOf_41 : decode cX12_loadOf 41 = .ok (.iinc 3 1, 3) := by decide +kernel
theorem dX12_loadOf_44 : decode cX12_loadOf 44 = .ok (.goto (-40), 3) := by decide +kernel
theorem dX12_loadOf_47 : decode cX12_loadOf 47 = .ok (.iload_n 2, 1) := by decide +kernel
theorem dX12_loadOf_48 : decode cX12_loadOf 48 = .ok (.ireturn, 1) := by decide +kernel
theorem dX12_bagOnes_0 : decode cX12_bagOnes 0 = .ok (.iconst 0, 1) := by decide +kernel
theorem dX12_bagOnes_1 : decode cX12_bagOnes 1 = .ok (.istore_n 1, 1) := by decide +kernel
theorem dX12_bagOnes_2 : decode cX12_bagOnes 2 = .ok (.iconst 0, 1) := by decide +kernel
theorem dX12_bagOnes_3 : decode cX12_bagOnes 3 = .ok (.istore_n 2, 1) := by decide +kernel
theorem dX12_bagOnes_4 : decode cX12_bagOnes 4 = .ok (.iload_n 2, 1) := by decide +kernel
theorem dX12_bagOnes_5 : decode cX12_bagOnes 5 = .ok (.bipush 8, 2) := by decide +kernel
theorem dX12_bagOnes_7 : decode cX12_bagOnes 7 = .ok (.if_icmp .ge 27, 3) := by decide +kernel
theorem dX12_bagOnes_10 : decode cX12_bagOnes 10 = .ok (.iload_n 1, 1) := by decide +kernel
theorem dX12_bagOnes_11 : decode cX12_bagOnes 11 = .ok (.aload_n 0, 1) := by decide +kernel
theorem dX12_bagOnes_12 : decode cX12_bagOnes 12 = .ok (.iload_n 2, 1) := by decide +kernel
theorem dX12_bagOnes_13 : decode cX12_bagOnes 13 = .ok (.invokevirtual 290, 3) := by decide +kernel
theorem dX12_bagOnes_16 : decode cX12_bagOnes 16 = .ok (.ifCond .eq 9, 3) := by decide +kernel
theorem dX12_bagOnes_19 : decode cX12_bagOnes 19 = .ok (.iconst 1, 1) := by decide +kernel
theorem dX12_bagOnes_20 : decode cX12_bagOnes 20 = .ok (.iload_n 2, 1) := by decide +kernel
theorem dX12_bagOnes_21 : decode cX12_bagOnes 21 = .ok (.ishl, 1) := by decide +kernel
theorem dX12_bagOnes_22 : decode cX12_bagOnes 22 = .ok (.goto 4, 3) := by decide +kernel
theorem dX12_bagOnes_25 : decode cX12_bagOnes 25 = .ok (.iconst 0, 1) := by decide +kernel
theorem dX12_bagOnes_26 : decode cX12_bagOnes 26 = .ok (.ior, 1) := by decide +kernel
theorem dX12_bagOnes_27 : decode cX12_bagOnes 27 = .ok (.istore_n 1, 1) := by decide +kernel
theorem dX12_bagOnes_28 : decode cX12_bagOnes 28 = .ok (.iinc 2 1, 3) := by decide +kernel
theorem dX12_bagOnes_31 : decode cX12_bagOnes 31 = .ok (.goto (-27), 3) := by decide +kernel
theorem dX12_bagOnes_34 : decode cX12_bagOnes 34 = .ok (.iload_n 1, 1) := by decide +kernel
theorem dX12_bagOnes_35 : decode cX12_bagOnes 35 = .ok (.ireturn, 1) := by decide +kernel
theorem dX12_sizeAll_0 : decode cX12_sizeAll 0 = .ok (.iconst 0, 1) := by decide +kernel
theorem dX12_sizeAll_1 : decode cX12_sizeAll 1 = .ok (.istore_n 1, 1) := by decide +kernel
theorem dX12_sizeAll_2 : decode cX12_sizeAll 2 = .ok (.iconst 0, 1) := by decide +kernel
theorem dX12_sizeAll_3 : decode cX12_sizeAll 3 = .ok (.istore_n 2, 1) := by decide +kernel
theorem dX12_sizeAll_4 : decode cX12_sizeAll 4 = .ok (.iload_n 2, 1) := by decide +kernel
theorem dX12_sizeAll_5 : decode cX12_sizeAll 5 = .ok (.bipush 8, 2) := by decide +kernel
theorem dX12_sizeAll_7 : decode cX12_sizeAll 7 = .ok (.if_icmp .ge 30, 3) := by decide +kernel
theorem dX12_sizeAll_10 : decode cX12_sizeAll 10 = .ok (.iload_n 1, 1) := by decide +kernel
theorem dX12_sizeAll_11 : decode cX12_sizeAll 11 = .ok (.aload_n 0, 1) := by decide +kernel
theorem dX12_sizeAll_12 : decode cX12_sizeAll 12 = .ok (.iload_n 2, 1) := by decide +kernel
theorem dX12_sizeAll_13 : decode cX12_sizeAll 13 = .ok (.invokevirtual 290, 3) := by decide +kernel
theorem dX12_sizeAll_16 : decode cX12_sizeAll 16 = .ok (.ifCond .eq 12, 3) := by decide +kernel
theorem dX12_sizeAll_19 : decode cX12_sizeAll 19 = .ok (.aload_n 0, 1) := by decide +kernel
theorem dX12_sizeAll_20 : decode cX12_sizeAll 20 = .ok (.iload_n 2, 1) := by decide +kernel
theorem dX12_sizeAll_21 : decode cX12_sizeAll 21 = .ok (.iconst 0, 1) := by decide +kernel
theorem dX12_sizeAll_22 : decode cX12_sizeAll 22 = .ok (.invokevirtual 287, 3) := by decide +kernel
theorem dX12_sizeAll_25 : decode cX12_sizeAll 25 = .ok (.goto 4, 3) := by decide +kernel
theorem dX12_sizeAll_28 : decode cX12_sizeAll 28 = .ok (.iconst 0, 1) := by decide +kernel
theorem dX12_sizeAll_29 : decode cX12_sizeAll 29 = .ok (.iadd, 1) := by decide +kernel
theorem dX12_sizeAll_30 : decode cX12_sizeAll 30 = .ok (.istore_n 1, 1) := by decide +kernel
theorem dX12_sizeAll_31 : decode cX12_sizeAll 31 = .ok (.iinc 2 1, 3) := by decide +kernel
theorem dX12_sizeAll_34 : decode cX12_sizeAll 34 = .ok (.goto (-30), 3) := by decide +kernel
theorem dX12_sizeAll_37 : decode cX12_sizeAll 37 = .ok (.iload_n 1, 1) := by decide +kernel
theorem dX12_sizeAll_38 : decode cX12_sizeAll 38 = .ok (.ireturn, 1) := by decide +kernel
theorem dX12_withOf_0 : decode cX12_withOf 0 = .ok (.iconst 0, 1) := by decide +kernel
theorem dX12_withOf_1 : decode cX12_withOf 1 = .ok (.istore_n 2, 1) := by decide +kernel
theorem dX12_withOf_2 : decode cX12_withOf 2 = .ok (.iconst 0, 1) := by decide +kernel
theorem dX12_withOf_3 : decode cX12_withOf 3 = .ok (.istore_n 3, 1) := by decide +kernel
theorem dX12_withOf_4 : decode cX12_withOf 4 = .ok (.iload_n 3, 1) := by decide +kernel
theorem dX12_withOf_5 : decode cX12_withOf 5 = .ok (.bipush 8, 2) := by decide +kernel
theorem dX12_withOf_7 : decode cX12_withOf 7 = .ok (.if_icmp .ge 45, 3) := by decide +kernel
theorem dX12_withOf_10 : decode cX12_withOf 10 = .ok (.iload_n 2, 1) := by decide +kernel
theorem dX12_withOf_11 : decode cX12_withOf 11 = .ok (.iload_n 3, 1) := by decide +kernel
theorem dX12_withOf_12 : decode cX12_withOf 12 = .ok (.iload_n 1, 1) := by decide +kernel
theorem dX12_withOf_13 : decode cX12_withOf 13 = .ok (.if_icmp .eq 30, 3) := by decide +kernel
theorem dX12_withOf_16 : decode cX12_withOf 16 = .ok (.aload_n 0, 1) := by decide +kernel
theorem dX12_withOf_17 : decode cX12_withOf 17 = .ok (.iload_n 3, 1) := by decide +kernel
theorem dX12_withOf_18 : decode cX12_withOf 18 = .ok (.invokevirtual 290, 3) := by decide +kernel
theorem dX12_withOf_21 : decode cX12_withOf 21 = .ok (.ifCond .eq 22, 3) := by decide +kernel
theorem dX12_withOf_24 : decode cX12_withOf 24 = .ok (.aload_n 0, 1) := by decide +kernel
theorem dX12_withOf_25 : decode cX12_withOf 25 = .ok (.iload_n 3, 1) := by decide +kernel
theorem dX12_withOf_26 : decode cX12_withOf 26 = .ok (.iconst 3, 1) := by decide +kernel
theorem dX12_withOf_27 : decode cX12_withOf 27 = .ok (.invokevirtual 287, 3) := by decide +kernel
theorem dX12_withOf_30 : decode cX12_withOf 30 = .ok (.aload_n 0, 1) := by decide +kernel
theorem dX12_withOf_31 : decode cX12_withOf 31 = .ok (.iload_n 1, 1) := by decide +kernel
theorem dX12_withOf_32 : decode cX12_withOf 32 = .ok (.iconst 3, 1) := by decide +kernel
theorem dX12_withOf_33 : decode cX12_withOf 33 = .ok (.invokevirtual 287, 3) := by decide +kernel
theorem dX12_withOf_36 : decode cX12_withOf 36 = .ok (.if_icmp .ne 7, 3) := by decide +kernel
theorem dX12_withOf_39 : decode cX12_withOf 39 = .ok (.iconst 1, 1) := by decide +kernel
theorem dX12_withOf_40 : decode cX12_withOf 40 = .ok (.goto 4, 3) := by decide +kernel
theorem dX12_withOf_43 : decode cX12_withOf 43 = .ok (.iconst 0, 1) := by decide +kernel
theorem dX12_withOf_44 : decode cX12_withOf 44 = .ok (.iadd, 1) := by decide +kernel
theorem dX12_withOf_45 : decode cX12_withOf 45 = .ok (.istore_n 2, 1) := by decide +kernel
theorem dX12_withOf_46 : decode cX12_withOf 46 = .ok (.iinc 3 1, 3) := by decide +kernel
theorem dX12_withOf_49 : decode cX12_withOf 49 = .ok (.goto (-45), 3) := by decide +kernel
theorem dX12_withOf_52 : decode cX12_withOf 52 = .ok (.iload_n 2, 1) := by decide +kernel
theorem dX12_withOf_53 : decode cX12_withOf 53 = .ok (.ireturn, 1) := by decide +kernel
theorem dX12_growthOf_0 : decode cX12_growthOf 0 = .ok (.iconst 1, 1) := by decide +kernel
theorem dX12_growthOf_1 : decode cX12_growthOf 1 = .ok (.aload_n 0, 1) := by decide +kernel
theorem dX12_growthOf_2 : decode cX12_growthOf 2 = .ok (.iload_n 1, 1) := by decide +kernel
theorem dX12_growthOf_3 : decode cX12_growthOf 3 = .ok (.iconst 4, 1) := by decide +kernel
theorem dX12_growthOf_4 : decode cX12_growthOf 4 = .ok (.invokevirtual 287, 3) := by decide +kernel
theorem dX12_growthOf_7 : decode cX12_growthOf 7 = .ok (.isub, 1) := by decide +kernel
theorem dX12_growthOf_8 : decode cX12_growthOf 8 = .ok (.istore_n 2, 1) := by decide +kernel
theorem dX12_growthOf_9 : decode cX12_growthOf 9 = .ok (.aload_n 0, 1) := by decide +kernel
theorem dX12_growthOf_10 : decode cX12_growthOf 10 = .ok (.iload_n 1, 1) := by decide +kernel
theorem dX12_growthOf_11 : decode cX12_growthOf 11 = .ok (.iconst 1, 1) := by decide +kernel
theorem dX12_growthOf_12 : decode cX12_growthOf 12 = .ok (.iload_n 2, 1) := by decide +kernel
theorem dX12_growthOf_13 : decode cX12_growthOf 13 = .ok (.iadd, 1) := by decide +kernel
theorem dX12_growthOf_14 : decode cX12_growthOf 14 = .ok (.invokevirtual 287, 3) := by decide +kernel
theorem dX12_growthOf_17 : decode cX12_growthOf 17 = .ok (.iconst 2, 1) := by decide +kernel
theorem dX12_growthOf_18 : decode cX12_growthOf 18 = .ok (.idiv, 1) := by decide +kernel
theorem dX12_growthOf_19 : decode cX12_growthOf 19 = .ok (.aload_n 0, 1) := by decide +kernel
theorem dX12_growthOf_20 : decode cX12_growthOf 20 = .ok (.iload_n 1, 1) := by decide +kernel
theorem dX12_growthOf_21 : decode cX12_growthOf 21 = .ok (.invokevirtual 293, 3) := by decide +kernel
theorem dX12_growthOf_24 : decode cX12_growthOf 24 = .ok (.iadd, 1) := by decide +kernel
theorem dX12_growthOf_25 : decode cX12_growthOf 25 = .ok (.iconst 1, 1) := by decide +kernel
theorem dX12_growthOf_26 : decode cX12_growthOf 26 = .ok (.isub, 1) := by decide +kernel
theorem dX12_growthOf_27 : decode cX12_growthOf 27 = .ok (.istore_n 3, 1) := by decide +kernel
theorem dX12_growthOf_28 : decode cX12_growthOf 28 = .ok (.aload_n 0, 1) := by decide +kernel
theorem dX12_growthOf_29 : decode cX12_growthOf 29 = .ok (.getfield 58, 3) := by decide +kernel
theorem dX12_growthOf_32 : decode cX12_growthOf 32 = .ok (.iconst (-1), 1) := by decide +kernel
theorem dX12_growthOf_33 : decode cX12_growthOf 33 = .ok (.if_icmp .eq 91, 3) := by decide +kernel
theorem dX12_growthOf_36 : decode cX12_growthOf 36 = .ok (.aload_n 0, 1) := by decide +kernel
theorem dX12_growthOf_37 : decode cX12_growthOf 37 = .ok (.getfield 34, 3) := by decide +kernel
theorem dX12_growthOf_40 : decode cX12_growthOf 40 = .ok (.iconst 0, 1) := by decide +kernel
theorem dX12_growthOf_41 : decode cX12_growthOf 41 = .ok (.aload_n 0, 1) := by decide +kernel
theorem dX12_growthOf_42 : decode cX12_growthOf 42 = .ok (.iload_n 1, 1) := by decide +kernel
theorem dX12_growthOf_43 : decode cX12_growthOf 43 = .ok (.iconst 0, 1) := by decide +kernel
theorem dX12_growthOf_44 : decode cX12_growthOf 44 = .ok (.invokevirtual 287, 3) := by decide +kernel
theorem dX12_growthOf_47 : decode cX12_growthOf 47 = .ok (.iastore, 1) := by decide +kernel
theorem dX12_growthOf_48 : decode cX12_growthOf 48 = .ok (.aload_n 0, 1) := by decide +kernel
theorem dX12_growthOf_49 : decode cX12_growthOf 49 = .ok (.getfield 34, 3) := by decide +kernel
theorem dX12_growthOf_52 : decode cX12_growthOf 52 = .ok (.iconst 1, 1) := by decide +kernel
theorem dX12_growthOf_53 : decode cX12_growthOf 53 = .ok (.aload_n 0, 1) := by decide +kernel
theorem dX12_growthOf_54 : decode cX12_growthOf 54 = .ok (.iload_n 1, 1) := by decide +kernel
theorem dX12_growthOf_55 : decode cX12_growthOf 55 = .ok (.iconst 1, 1) := by decide +kernel
theorem dX12_growthOf_56 : decode cX12_growthOf 56 = .ok (.iload_n 2, 1) := by decide +kernel
theorem dX12_growthOf_57 : decode cX12_growthOf 57 = .ok (.iadd, 1) := by decide +kernel
theorem dX12_growthOf_58 : decode cX12_growthOf 58 = .ok (.invokevirtual 287, 3) := by decide +kernel
theorem dX12_growthOf_61 : decode cX12_growthOf 61 = .ok (.iastore, 1) := by decide +kernel
theorem dX12_growthOf_62 : decode cX12_growthOf 62 = .ok (.aload_n 0, 1) := by decide +kernel
theorem dX12_growthOf_63 : decode cX12_growthOf 63 = .ok (.getfield 34, 3) := by decide +kernel
theorem dX12_growthOf_66 : decode cX12_growthOf 66 = .ok (.iconst 2, 1) := by decide +kernel
theorem dX12_growthOf_67 : decode cX12_growthOf 67 = .ok (.aload_n 0, 1) := by decide +kernel
theorem dX12_growthOf_68 : decode cX12_growthOf 68 = .ok (.iload_n 1, 1) := by decide +kernel
theorem dX12_growthOf_69 : decode cX12_growthOf 69 = .ok (.iconst 2, 1) := by decide +kernel
theorem dX12_growthOf_70 : decode cX12_growthOf 70 = .ok (.iload_n 2, 1) := by decide +kernel
theorem dX12_growthOf_71 : decode cX12_growthOf 71 = .ok (.isub, 1) := by decide +kernel
theorem dX12_growthOf_72 : decode cX12_growthOf 72 = .ok (.invokevirtual 287, 3) := by decide +kernel
theorem dX12_growthOf_75 : decode cX12_growthOf 75 = .ok (.iastore, 1) := by decide +kernel
theorem dX12_growthOf_76 : decode cX12_growthOf 76 = .ok (.aload_n 0, 1) := by decide +kernel
theorem dX12_growthOf_77 : decode cX12_growthOf 77 = .ok (.getfield 34, 3) := by decide +kernel
theorem dX12_growthOf_80 : decode cX12_growthOf 80 = .ok (.iconst 3, 1) := by decide +kernel
theorem dX12_growthOf_81 : decode cX12_growthOf 81 = .ok (.aload_n 0, 1) := by decide +kernel
theorem dX12_growthOf_82 : decode cX12_growthOf 82 = .ok (.iload_n 1, 1) := by decide +kernel
theorem dX12_growthOf_83 : decode cX12_growthOf 83 = .ok (.invokevirtual 293, 3) := by decide +kernel
theorem dX12_growthOf_86 : decode cX12_growthOf 86 = .ok (.iastore, 1) := by decide +kernel
theorem dX12_growthOf_87 : decode cX12_growthOf 87 = .ok (.aload_n 0, 1) := by decide +kernel
theorem dX12_growthOf_88 : decode cX12_growthOf 88 = .ok (.getfield 34, 3) := by decide +kernel
theorem dX12_growthOf_91 : decode cX12_growthOf 91 = .ok (.iconst 4, 1) := by decide +kernel
theorem dX12_growthOf_92 : decode cX12_growthOf 92 = .ok (.aload_n 0, 1) := by decide +kernel
theorem dX12_growthOf_93 : decode cX12_growthOf 93 = .ok (.iload_n 1, 1) := by decide +kernel
theorem dX12_growthOf_94 : decode cX12_growthOf 94 = .ok (.iconst 5, 1) := by decide +kernel
theorem dX12_growthOf_95 : decode cX12_growthOf 95 = .ok (.invokevirtual 287, 3) := by decide +kernel
theorem dX12_growthOf_98 : decode cX12_growthOf 98 = .ok (.iastore, 1) := by decide +kernel
theorem dX12_growthOf_99 : decode cX12_growthOf 99 = .ok (.aload_n 0, 1) := by decide +kernel
theorem dX12_growthOf_100 : decode cX12_growthOf 100 = .ok (.getfield 34, 3) := by decide +kernel
theorem dX12_growthOf_103 : decode cX12_growthOf 103 = .ok (.iconst 5, 1) := by decide +kernel
theorem dX12_growthOf_104 : decode cX12_growthOf 104 = .ok (.aload_n 0, 1) := by decide +kernel
theorem dX12_growthOf_105 : decode cX12_growthOf 105 = .ok (.getfield 52, 3) := by decide +kernel
theorem dX12_growthOf_108 : decode cX12_growthOf 108 = .ok (.bipush 65, 2) := by decide +kernel
theorem dX12_growthOf_110 : decode cX12_growthOf 110 = .ok (.iaload, 1) := by decide +kernel
theorem dX12_growthOf_111 : decode cX12_growthOf 111 = .ok (.bipush 100, 2) := by decide +kernel
theorem dX12_growthOf_113 : decode cX12_growthOf 113 = .ok (.irem, 1) := by decide +kernel
theorem dX12_growthOf_114 : decode cX12_growthOf 114 = .ok (.iastore, 1) := by decide +kernel
theorem dX12_growthOf_115 : decode cX12_growthOf 115 = .ok (.aload_n 0, 1) := by decide +kernel
theorem dX12_growthOf_116 : decode cX12_growthOf 116 = .ok (.aload_n 0, 1) := by decide +kernel
theorem dX12_growthOf_117 : decode cX12_growthOf 117 = .ok (.getfield 58, 3) := by decide +kernel
theorem dX12_growthOf_120 : decode cX12_growthOf 120 = .ok (.invokevirtual 296, 3) := by decide +kernel
theorem dX12_growthOf_123 : decode cX12_growthOf 123 = .ok (.istore_n 3, 1) := by decide +kernel
theorem dX12_growthOf_124 : decode cX12_growthOf 124 = .ok (.bipush (-9), 2) := by decide +kernel
theorem dX12_growthOf_126 : decode cX12_growthOf 126 = .ok (.bipush 9, 2) := by decide +kernel
theorem dX12_growthOf_128 : decode cX12_growthOf 128 = .ok (.iload_n 3, 1) := by decide +kernel
theorem dX12_growthOf_129 : decode cX12_growthOf 129 = .ok (.invokestatic 299, 3) := by decide +kernel
theorem dX12_growthOf_132 : decode cX12_growthOf 132 = .ok (.invokestatic 301, 3) := by decide +kernel
theorem dX12_growthOf_135 : decode cX12_growthOf 135 = .ok (.ireturn, 1) := by decide +kernel
theorem dX12_growAll_0 : decode cX12_growAll 0 = .ok (.iconst 0, 1) := by decide +kernel
theorem dX12_growAll_1 : decode cX12_growAll 1 = .ok (.istore_n 1, 1) := by decide +kernel
theorem dX12_growAll_2 : decode cX12_growAll 2 = .ok (.iload_n 1, 1) := by decide +kernel
theorem dX12_growAll_3 : decode cX12_growAll 3 = .ok (.bipush 8, 2) := by decide +kernel
theorem dX12_growAll_5 : decode cX12_growAll 5 = .ok (.if_icmp .ge 42, 3) := by decide +kernel
theorem dX12_growAll_8 : decode cX12_growAll 8 = .ok (.aload_n 0, 1) := by decide +kernel
theorem dX12_growAll_9 : decode cX12_growAll 9 = .ok (.getfield 65, 3) := by decide +kernel
theorem dX12_growAll_12 : decode cX12_growAll 12 = .ok (.iload_n 1, 1) := by decide +kernel
theorem dX12_growAll_13 : decode cX12_growAll 13 = .ok (.aload_n 0, 1) := by decide +kernel
theorem dX12_growAll_14 : decode cX12_growAll 14 = .ok (.iload_n 1, 1) := by decide +kernel
theorem dX12_growAll_15 : decode cX12_growAll 15 = .ok (.invokevirtual 290, 3) := by decide +kernel
theorem dX12_growAll_18 : decode cX12_growAll 18 = .ok (.ifCond .eq 21, 3) := by decide +kernel
theorem dX12_growAll_21 : decode cX12_growAll 21 = .ok (.aload_n 0, 1) := by decide +kernel
theorem dX12_growAll_22 : decode cX12_growAll 22 = .ok (.iload_n 1, 1) := by decide +kernel
theorem dX12_growAll_23 : decode cX12_growAll 23 = .ok (.bipush 6, 2) := by decide +kernel
theorem dX12_growAll_25 : decode cX12_growAll 25 = .ok (.invokevirtual 287, 3) := by decide +kernel
theorem dX12_growAll_28 : decode cX12_growAll 28 = .ok (.ifCond .ne 11, 3) := by decide +kernel
theorem dX12_growAll_31 : decode cX12_growAll 31 = .ok (.aload_n 0, 1) := by decide +kernel
theorem dX12_growAll_32 : decode cX12_growAll 32 = .ok (.iload_n 1, 1) := by decide +kernel
theorem dX12_growAll_33 : decode cX12_growAll 33 = .ok (.invokevirtual 303, 3) := by decide +kernel
theorem dX12_growAll_36 : decode cX12_growAll 36 = .ok (.goto 4, 3) := by decide +kernel
theorem dX12_growAll_39 : decode cX12_growAll 39 = .ok (.iconst 0, 1) := by decide +kernel
theorem dX12_growAll_40 : decode cX12_growAll 40 = .ok (.iastore, 1) := by decide +kernel
theorem dX12_growAll_41 : decode cX12_growAll 41 = .ok (.iinc 1 1, 3) := by decide +kernel
theorem dX12_growAll_44 : decode cX12_growAll 44 = .ok (.goto (-42), 3) := by decide +kernel
theorem dX12_growAll_47 : decode cX12_growAll 47 = .ok (.iconst 0, 1) := by decide +kernel
theorem dX12_growAll_48 : decode cX12_growAll 48 = .ok (.istore_n 1, 1) := by decide +kernel
theorem dX12_growAll_49 : decode cX12_growAll 49 = .ok (.iload_n 1, 1) := by decide +kernel
theorem dX12_growAll_50 : decode cX12_growAll 50 = .ok (.bipush 8, 2) := by decide +kernel
theorem dX12_growAll_52 : decode cX12_growAll 52 = .ok (.if_icmp .ge 69, 3) := by decide +kernel
theorem dX12_growAll_55 : decode cX12_growAll 55 = .ok (.aload_n 0, 1) := by decide +kernel
theorem dX12_growAll_56 : decode cX12_growAll 56 = .ok (.iload_n 1, 1) := by decide +kernel
theorem dX12_growAll_57 : decode cX12_growAll 57 = .ok (.invokevirtual 290, 3) := by decide +kernel
theorem dX12_growAll_60 : decode cX12_growAll 60 = .ok (.ifCond .eq 55, 3) := by decide +kernel
theorem dX12_growAll_63 : decode cX12_growAll 63 = .ok (.aload_n 0, 1) := by decide +kernel
theorem dX12_growAll_64 : decode cX12_growAll 64 = .ok (.iload_n 1, 1) := by decide +kernel
theorem dX12_growAll_65 : decode cX12_growAll 65 = .ok (.bipush 6, 2) := by decide +kernel
theorem dX12_growAll_67 : decode cX12_growAll 67 = .ok (.invokevirtual 287, 3) := by decide +kernel
theorem dX12_growAll_70 : decode cX12_growAll 70 = .ok (.ifCond .ne 45, 3) := by decide +kernel
theorem dX12_growAll_73 : decode cX12_growAll 73 = .ok (.aload_n 0, 1) := by decide +kernel
theorem dX12_growAll_74 : decode cX12_growAll 74 = .ok (.iload_n 1, 1) := by decide +kernel
theorem dX12_growAll_75 : decode cX12_growAll 75 = .ok (.iconst 0, 1) := by decide +kernel
theorem dX12_growAll_76 : decode cX12_growAll 76 = .ok (.iconst 0, 1) := by decide +kernel
theorem dX12_growAll_77 : decode cX12_growAll 77 = .ok (.bipush 99, 2) := by decide +kernel
theorem dX12_growAll_79 : decode cX12_growAll 79 = .ok (.aload_n 0, 1) := by decide +kernel
theorem dX12_growAll_80 : decode cX12_growAll 80 = .ok (.iload_n 1, 1) := by decide +kernel
theorem dX12_growAll_81 : decode cX12_growAll 81 = .ok (.iconst 0, 1) := by decide +kernel
theorem dX12_growAll_82 : decode cX12_growAll 82 = .ok (.invokevirtual 287, 3) := by decide +kernel
theorem dX12_growAll_85 : decode cX12_growAll 85 = .ok (.aload_n 0, 1) := by decide +kernel
theorem dX12_growAll_86 : decode cX12_growAll 86 = .ok (.getfield 65, 3) := by decide +kernel
theorem dX12_growAll_89 : decode cX12_growAll 89 = .ok (.iload_n 1, 1) := by decide +kernel
theorem dX12_growAll_90 : decode cX12_growAll 90 = .ok (.iaload, 1) := by decide +kernel
theorem dX12_growAll_91 : decode cX12_growAll 91 = .ok (.iadd, 1) := by decide +kernel
theorem dX12_growAll_92 : decode cX12_growAll 92 = .ok (.invokestatic 299, 3) := by decide +kernel
theorem dX12_growAll_95 : decode cX12_growAll 95 = .ok (.invokestatic 301, 3) := by decide +kernel
theorem dX12_growAll_98 : decode cX12_growAll 98 = .ok (.invokevirtual 258, 3) := by decide +kernel
theorem dX12_growAll_101 : decode cX12_growAll 101 = .ok (.aload_n 0, 1) := by decide +kernel
theorem dX12_growAll_102 : decode cX12_growAll 102 = .ok (.iload_n 1, 1) := by decide +kernel
theorem dX12_growAll_103 : decode cX12_growAll 103 = .ok (.iconst 4, 1) := by decide +kernel
theorem dX12_growAll_104 : decode cX12_growAll 104 = .ok (.iconst 1, 1) := by decide +kernel
theorem dX12_growAll_105 : decode cX12_growAll 105 = .ok (.aload_n 0, 1) := by decide +kernel
theorem dX12_growAll_106 : decode cX12_growAll 106 = .ok (.iload_n 1, 1) := by decide +kernel
theorem dX12_growAll_107 : decode cX12_growAll 107 = .ok (.iconst 4, 1) := by decide +kernel
theorem dX12_growAll_108 : decode cX12_growAll 108 = .ok (.invokevirtual 287, 3) := by decide +kernel
theorem dX12_growAll_111 : decode cX12_growAll 111 = .ok (.isub, 1) := by decide +kernel
theorem dX12_growAll_112 : decode cX12_growAll 112 = .ok (.invokevirtual 258, 3) := by decide +kernel
theorem dX12_growAll_115 : decode cX12_growAll 115 = .ok (.iinc 1 1, 3) := by decide +kernel
theorem dX12_growAll_118 : decode cX12_growAll 118 = .ok (.goto (-69), 3) := by decide +kernel
theorem dX12_growAll_121 : decode cX12_growAll 121 = .ok (.return_, 1) := by decide +kernel
theorem dX12_endAll_0 : decode cX12_endAll 0 = .ok (.aload_n 0, 1) := by decide +kernel
theorem dX12_endAll_1 : decode cX12_endAll 1 = .ok (.iconst 0, 1) := by decide +kernel
theorem dX12_endAll_2 : decode cX12_endAll 2 = .ok (.putfield 306, 3) := by decide +kernel
theorem dX12_endAll_5 : decode cX12_endAll 5 = .ok (.iconst 0, 1) := by decide +kernel
theorem dX12_endAll_6 : decode cX12_endAll 6 = .ok (.istore_n 1, 1) := by decide +kernel
theorem dX12_endAll_7 : decode cX12_endAll 7 = .ok (.iload_n 1, 1) := by decide +kernel
theorem dX12_endAll_8 : decode cX12_endAll 8 = .ok (.bipush 8, 2) := by decide +kernel
theorem dX12_endAll_10 : decode cX12_endAll 10 = .ok (.if_icmp .ge 46, 3) := by decide +kernel
theorem dX12_endAll_13 : decode cX12_endAll 13 = .ok (.aload_n 0, 1) := by decide +kernel
theorem dX12_endAll_14 : decode cX12_endAll 14 = .ok (.iload_n 1, 1) := by decide +kernel
theorem dX12_endAll_15 : decode cX12_endAll 15 = .ok (.invokevirtual 290, 3) := by decide +kernel
theorem dX12_endAll_18 : decode cX12_endAll 18 = .ok (.ifCond .eq 32, 3) := by decide +kernel
theorem dX12_endAll_21 : decode cX12_endAll 21 = .ok (.aload_n 0, 1) := by decide +kernel
theorem dX12_endAll_22 : decode cX12_endAll 22 = .ok (.iload_n 1, 1) := by decide +kernel
theorem dX12_endAll_23 : decode cX12_endAll 23 = .ok (.iconst 0, 1) := by decide +kernel
theorem dX12_endAll_24 : decode cX12_endAll 24 = .ok (.invokevirtual 287, 3) := by decide +kernel
theorem dX12_endAll_27 : decode cX12_endAll 27 = .ok (.ifCond .ne 23, 3) := by decide +kernel
theorem dX12_endAll_30 : decode cX12_endAll 30 = .ok (.aload_n 0, 1) := by decide +kernel
theorem dX12_endAll_31 : decode cX12_endAll 31 = .ok (.dup, 1) := by decide +kernel
theorem dX12_endAll_32 : decode cX12_endAll 32 = .ok (.getfield 306, 3) := by decide +kernel
theorem dX12_endAll_35 : decode cX12_endAll 35 = .ok (.iconst 1, 1) := by decide +kernel
theorem dX12_endAll_36 : decode cX12_endAll 36 = .ok (.iload_n 1, 1) := by decide +kernel
theorem dX12_endAll_37 : decode cX12_endAll 37 = .ok (.ishl, 1) := by decide +kernel
theorem dX12_endAll_38 : decode cX12_endAll 38 = .ok (.ior, 1) := by decide +kernel
theorem dX12_endAll_39 : decode cX12_endAll 39 = .ok (.putfield 306, 3) := by decide +kernel
theorem dX12_endAll_42 : decode cX12_endAll 42 = .ok (.aload_n 0, 1) := by decide +kernel
theorem dX12_endAll_43 : decode cX12_endAll 43 = .ok (.iload_n 1, 1) := by decide +kernel
theorem dX12_endAll_44 : decode cX12_endAll 44 = .ok (.bipush 7, 2) := by decide +kernel
theorem dX12_endAll_46 : decode cX12_endAll 46 = .ok (.iconst 0, 1) := by decide +kernel
theorem dX12_endAll_47 : decode cX12_endAll 47 = .ok (.invokevirtual 258, 3) := by decide +kernel
theorem dX12_endAll_50 : decode cX12_endAll 50 = .ok (.iinc 1 1, 3) := by decide +kernel
theorem dX12_endAll_53 : decode cX12_endAll 53 = .ok (.goto (-46), 3) := by decide +kernel
theorem dX12_endAll_56 : decode cX12_endAll 56 = .ok (.return_, 1) := by decide +kernel
theorem dX12_largestOn_0 : decode cX12_largestOn 0 = .ok (.iconst (-1), 1) := by decide +kernel
theorem dX12_largestOn_1 : decode cX12_largestOn 1 = .ok (.istore_n 2, 1) := by decide +kernel
theorem dX12_largestOn_2 : decode cX12_largestOn 2 = .ok (.iconst 0, 1) := by decide +kernel
theorem dX12_largestOn_3 : decode cX12_largestOn 3 = .ok (.istore_n 3, 1) := by decide +kernel
theorem dX12_largestOn_4 : decode cX12_largestOn 4 = .ok (.iload_n 3, 1) := by decide +kernel
theorem dX12_largestOn_5 : decode cX12_largestOn 5 = .ok (.bipush 8, 2) := by decide +kernel
theorem dX12_largestOn_7 : decode cX12_largestOn 7 = .ok (.if_icmp .ge 53, 3) := by decide +kernel
theorem dX12_largestOn_10 : decode cX12_largestOn 10 = .ok (.aload_n 0, 1) := by decide +kernel
theorem dX12_largestOn_11 : decode cX12_largestOn 11 = .ok (.iload_n 3, 1) := by decide +kernel
theorem dX12_largestOn_12 : decode cX12_largestOn 12 = .ok (.invokevirtual 290, 3) := by decide +kernel
theorem dX12_largestOn_15 : decode cX12_largestOn 15 = .ok (.ifCond .eq 37, 3) := by decide +kernel
theorem dX12_largestOn_18 : decode cX12_largestOn 18 = .ok (.aload_n 0, 1) := by decide +kernel
theorem dX12_largestOn_19 : decode cX12_largestOn 19 = .ok (.iload_n 3, 1) := by decide +kernel
theorem dX12_largestOn_20 : decode cX12_largestOn 20 = .ok (.iconst 3, 1) := by decide +kernel
theorem dX12_largestOn_21 : decode cX12_largestOn 21 = .ok (.invokevirtual 287, 3) := by decide +kernel
theorem dX12_largestOn_24 : decode cX12_largestOn 24 = .ok (.iload_n 1, 1) := by decide +kernel
theorem dX12_largestOn_25 : decode cX12_largestOn 25 = .ok (.if_icmp .ne 27, 3) := by decide +kernel
theorem dX12_largestOn_28 : decode cX12_largestOn 28 = .ok (.iload_n 2, 1) := by decide +kernel
theorem dX12_largestOn_29 : decode cX12_largestOn 29 = .ok (.iconst (-1), 1) := by decide +kernel
theorem dX12_largestOn_30 : decode cX12_largestOn 30 = .ok (.if_icmp .eq 18, 3) := by decide +kernel
theorem dX12_largestOn_33 : decode cX12_largestOn 33 = .ok (.aload_n 0, 1) := by decide +kernel
theorem dX12_largestOn_34 : decode cX12_largestOn 34 = .ok (.iload_n 3, 1) := by decide +kernel
theorem dX12_largestOn_35 : decode cX12_largestOn 35 = .ok (.iconst 0, 1) := by decide +kernel
theorem dX12_largestOn_36 : decode cX12_largestOn 36 = .ok (.invokevirtual 287, 3) := by decide +kernel
theorem dX12_largestOn_39 : decode cX12_largestOn 39 = .ok (.aload_n 0, 1) := by decide +kernel
theorem dX12_largestOn_40 : decode cX12_largestOn 40 = .ok (.iload_n 2, 1) := by decide +kernel
theorem dX12_largestOn_41 : decode cX12_largestOn 41 = .ok (.iconst 0, 1) := by decide +kernel
theorem dX12_largestOn_42 : decode cX12_largestOn 42 = .ok (.invokevirtual 287, 3) := by decide +kernel
theorem dX12_largestOn_45 : decode cX12_largestOn 45 = .ok (.if_icmp .le 7, 3) := by decide +kernel
theorem dX12_largestOn_48 : decode cX12_largestOn 48 = .ok (.iload_n 3, 1) := by decide +kernel
theorem dX12_largestOn_49 : decode cX12_largestOn 49 = .ok (.goto 4, 3) := by decide +kernel
theorem dX12_largestOn_52 : decode cX12_largestOn 52 = .ok (.iload_n 2, 1) := by decide +kernel
theorem dX12_largestOn_53 : decode cX12_largestOn 53 = .ok (.istore_n 2, 1) := by decide +kernel
theorem dX12_largestOn_54 : decode cX12_largestOn 54 = .ok (.iinc 3 1, 3) := by decide +kernel
theorem dX12_largestOn_57 : decode cX12_largestOn 57 = .ok (.goto (-53), 3) := by decide +kernel
theorem dX12_largestOn_60 : decode cX12_largestOn 60 = .ok (.iload_n 2, 1) := by decide +kernel
theorem dX12_largestOn_61 : decode cX12_largestOn 61 = .ok (.ireturn, 1) := by decide +kernel
theorem dX12_dropAll_0 : decode cX12_dropAll 0 = .ok (.aload_n 0, 1) := by decide +kernel
theorem dX12_dropAll_1 : decode cX12_dropAll 1 = .ok (.iconst 0, 1) := by decide +kernel
theorem dX12_dropAll_2 : decode cX12_dropAll 2 = .ok (.putfield 309, 3) := by decide +kernel
theorem dX12_dropAll_5 : decode cX12_dropAll 5 = .ok (.iconst 0, 1) := by decide +kernel
theorem dX12_dropAll_6 : decode cX12_dropAll 6 = .ok (.istore_n 1, 1) := by decide +kernel
theorem dX12_dropAll_7 : decode cX12_dropAll 7 = .ok (.iload_n 1, 1) := by decide +kernel
theorem dX12_dropAll_8 : decode cX12_dropAll 8 = .ok (.aload_n 0, 1) := by decide +kernel
theorem dX12_dropAll_9 : decode cX12_dropAll 9 = .ok (.getfield 46, 3) := by decide +kernel
theorem dX12_dropAll_12 : decode cX12_dropAll 12 = .ok (.iconst 1, 1) := by decide +kernel
theorem dX12_dropAll_13 : decode cX12_dropAll 13 = .ok (.iaload, 1) := by decide +kernel
theorem dX12_dropAll_14 : decode cX12_dropAll 14 = .ok (.if_icmp .ge 52, 3) := by decide +kernel
theorem dX12_dropAll_17 : decode cX12_dropAll 17 = .ok (.aload_n 0, 1) := by decide +kernel
theorem dX12_dropAll_18 : decode cX12_dropAll 18 = .ok (.iload_n 1, 1) := by decide +kernel
theorem dX12_dropAll_19 : decode cX12_dropAll 19 = .ok (.invokevirtual 312, 3) := by decide +kernel
theorem dX12_dropAll_22 : decode cX12_dropAll 22 = .ok (.aload_n 0, 1) := by decide +kernel
theorem dX12_dropAll_23 : decode cX12_dropAll 23 = .ok (.getfield 46, 3) := by decide +kernel
theorem dX12_dropAll_26 : decode cX12_dropAll 26 = .ok (.iconst 0, 1) := by decide +kernel
theorem dX12_dropAll_27 : decode cX12_dropAll 27 = .ok (.iaload, 1) := by decide +kernel
theorem dX12_dropAll_28 : decode cX12_dropAll 28 = .ok (.if_icmp .le 32, 3) := by decide +kernel
theorem dX12_dropAll_31 : decode cX12_dropAll 31 = .ok (.aload_n 0, 1) := by decide +kernel
theorem dX12_dropAll_32 : decode cX12_dropAll 32 = .ok (.iload_n 1, 1) := by decide +kernel
theorem dX12_dropAll_33 : decode cX12_dropAll 33 = .ok (.invokevirtual 315, 3) := by decide +kernel
theorem dX12_dropAll_36 : decode cX12_dropAll 36 = .ok (.istore_n 2, 1) := by decide +kernel
theorem dX12_dropAll_37 : decode cX12_dropAll 37 = .ok (.aload_n 0, 1) := by decide +kernel
theorem dX12_dropAll_38 : decode cX12_dropAll 38 = .ok (.iload_n 2, 1) := by decide +kernel
theorem dX12_dropAll_39 : decode cX12_dropAll 39 = .ok (.iconst 3, 1) := by decide +kernel
theorem dX12_dropAll_40 : decode cX12_dropAll 40 = .ok (.bipush 9, 2) := by decide +kernel
theorem dX12_dropAll_42 : decode cX12_dropAll 42 = .ok (.invokevirtual 258, 3) := by decide +kernel
theorem dX12_dropAll_45 : decode cX12_dropAll 45 = .ok (.aload_n 0, 1) := by decide +kernel
theorem dX12_dropAll_46 : decode cX12_dropAll 46 = .ok (.dup, 1) := by decide +kernel
theorem dX12_dropAll_47 : decode cX12_dropAll 47 = .ok (.getfield 309, 3) := by decide +kernel
theorem dX12_dropAll_50 : decode cX12_dropAll 50 = .ok (.iconst 1, 1) := by decide +kernel
theorem dX12_dropAll_51 : decode cX12_dropAll 51 = .ok (.iload_n 2, 1) := by decide +kernel
theorem dX12_dropAll_52 : decode cX12_dropAll 52 = .ok (.ishl, 1) := by decide +kernel
theorem dX12_dropAll_53 : decode cX12_dropAll 53 = .ok (.ior, 1) := by decide +kernel
theorem dX12_dropAll_54 : decode cX12_dropAll 54 = .ok (.putfield 309, 3) := by decide +kernel
theorem dX12_dropAll_57 : decode cX12_dropAll 57 = .ok (.goto (-40), 3) := by decide +kernel
theorem dX12_dropAll_60 : decode cX12_dropAll 60 = .ok (.iinc 1 1, 3) := by decide +kernel
theorem dX12_dropAll_63 : decode cX12_dropAll 63 = .ok (.goto (-56), 3) := by decide +kernel
theorem dX12_dropAll_66 : decode cX12_dropAll 66 = .ok (.return_, 1) := by decide +kernel
theorem dX12_live_0 : decode cX12_live 0 = .ok (.aload_n 0, 1) := by decide +kernel
theorem dX12_live_1 : decode cX12_live 1 = .ok (.invokevirtual 318, 3) := by decide +kernel
theorem dX12_live_4 : decode cX12_live 4 = .ok (.aload_n 0, 1) := by decide +kernel
theorem dX12_live_5 : decode cX12_live 5 = .ok (.invokevirtual 321, 3) := by decide +kernel
theorem dX12_live_8 : decode cX12_live 8 = .ok (.aload_n 0, 1) := by decide +kernel
theorem dX12_live_9 : decode cX12_live 9 = .ok (.invokevirtual 324, 3) := by decide +kernel
theorem dX12_live_12 : decode cX12_live 12 = .ok (.iconst 0, 1) := by decide +kernel
theorem dX12_live_13 : decode cX12_live 13 = .ok (.istore_n 1, 1) := by decide +kernel
theorem dX12_live_14 : decode cX12_live 14 = .ok (.iload_n 1, 1) := by decide +kernel
theorem dX12_live_15 : decode cX12_live 15 = .ok (.bipush 8, 2) := by decide +kernel
theorem dX12_live_17 : decode cX12_live 17 = .ok (.if_icmp .ge 36, 3) := by decide +kernel
theorem dX12_live_20 : decode cX12_live 20 = .ok (.aload_n 0, 1) := by decide +kernel
theorem dX12_live_21 : decode cX12_live 21 = .ok (.iload_n 1, 1) := by decide +kernel
theorem dX12_live_22 : decode cX12_live 22 = .ok (.bipush 6, 2) := by decide +kernel
theorem dX12_live_24 : decode cX12_live 24 = .ok (.iconst 0, 1) := by decide +kernel
theorem dX12_live_25 : decode cX12_live 25 = .ok (.invokevirtual 258, 3) := by decide +kernel
theorem dX12_live_28 : decode cX12_live 28 = .ok (.aload_n 0, 1) := by decide +kernel
theorem dX12_live_29 : decode cX12_live 29 = .ok (.iload_n 1, 1) := by decide +kernel
theorem dX12_live_30 : decode cX12_live 30 = .ok (.iconst 5, 1) := by decide +kernel
theorem dX12_live_31 : decode cX12_live 31 = .ok (.bipush 99, 2) := by decide +kernel
theorem dX12_live_33 : decode cX12_live 33 = .ok (.aload_n 0, 1) := by decide +kernel
theorem dX12_live_34 : decode cX12_live 34 = .ok (.iload_n 1, 1) := by decide +kernel
theorem dX12_live_35 : decode cX12_live 35 = .ok (.iconst 5, 1) := by decide +kernel
theorem dX12_live_36 : decode cX12_live 36 = .ok (.invokevirtual 287, 3) := by decide +kernel
theorem dX12_live_39 : decode cX12_live 39 = .ok (.iconst 1, 1) := by decide +kernel
theorem dX12_live_40 : decode cX12_live 40 = .ok (.iadd, 1) := by decide +kernel
theorem dX12_live_41 : decode cX12_live 41 = .ok (.invokestatic 299, 3) := by decide +kernel
theorem dX12_live_44 : decode cX12_live 44 = .ok (.invokevirtual 258, 3) := by decide +kernel
theorem dX12_live_47 : decode cX12_live 47 = .ok (.iinc 1 1, 3) := by decide +kernel
theorem dX12_live_50 : decode cX12_live 50 = .ok (.goto (-36), 3) := by decide +kernel
theorem dX12_live_53 : decode cX12_live 53 = .ok (.aload_n 0, 1) := by decide +kernel
theorem dX12_live_54 : decode cX12_live 54 = .ok (.getfield 52, 3) := by decide +kernel
theorem dX12_live_57 : decode cX12_live 57 = .ok (.bipush 65, 2) := by decide +kernel
theorem dX12_live_59 : decode cX12_live 59 = .ok (.dup2, 1) := by decide +kernel
theorem dX12_live_60 : decode cX12_live 60 = .ok (.iaload, 1) := by decide +kernel
theorem dX12_live_61 : decode cX12_live 61 = .ok (.iconst 1, 1) := by decide +kernel
theorem dX12_live_62 : decode cX12_live 62 = .ok (.iadd, 1) := by decide +kernel
theorem dX12_live_63 : decode cX12_live 63 = .ok (.iastore, 1) := by decide +kernel
theorem dX12_live_64 : decode cX12_live 64 = .ok (.return_, 1) := by decide +kernel
theorem dX12_passDay_0 : decode cX12_passDay 0 = .ok (.aload_n 0, 1) := by decide +kernel
theorem dX12_passDay_1 : decode cX12_passDay 1 = .ok (.invokevirtual 327, 3) := by decide +kernel
theorem dX12_passDay_4 : decode cX12_passDay 4 = .ok (.aload_n 0, 1) := by decide +kernel
theorem dX12_passDay_5 : decode cX12_passDay 5 = .ok (.getfield 52, 3) := by decide +kernel
theorem dX12_passDay_8 : decode cX12_passDay 8 = .ok (.bipush 66, 2) := by decide +kernel
theorem dX12_passDay_10 : decode cX12_passDay 10 = .ok (.iaload, 1) := by decide +kernel
theorem dX12_passDay_11 : decode cX12_passDay 11 = .ok (.bipush 60, 2) := by decide +kernel
theorem dX12_passDay_13 : decode cX12_passDay 13 = .ok (.if_icmp .ne 49, 3) := by decide +kernel
theorem dX12_passDay_16 : decode cX12_passDay 16 = .ok (.iconst 3, 1) := by decide +kernel
theorem dX12_passDay_17 : decode cX12_passDay 17 = .ok (.istore_n 1, 1) := by decide +kernel
theorem dX12_passDay_18 : decode cX12_passDay 18 = .ok (.iload_n 1, 1) := by decide +kernel
theorem dX12_passDay_19 : decode cX12_passDay 19 = .ok (.sipush 180, 3) := by decide +kernel
theorem dX12_passDay_22 : decode cX12_passDay 22 = .ok (.if_icmp .ge 29, 3) := by decide +kernel
theorem dX12_passDay_25 : decode cX12_passDay 25 = .ok (.aload_n 0, 1) := by decide +kernel
theorem dX12_passDay_26 : decode cX12_passDay 26 = .ok (.getfield 52, 3) := by decide +kernel
theorem dX12_passDay_29 : decode cX12_passDay 29 = .ok (.bipush 67, 2) := by decide +kernel
theorem dX12_passDay_31 : decode cX12_passDay 31 = .ok (.iload_n 1, 1) := by decide +kernel
theorem dX12_passDay_32 : decode cX12_passDay 32 = .ok (.iadd, 1) := by decide +kernel
theorem dX12_passDay_33 : decode cX12_passDay 33 = .ok (.iconst 3, 1) := by decide +kernel
theorem dX12_passDay_34 : decode cX12_passDay 34 = .ok (.isub, 1) := by decide +kernel
theorem dX12_passDay_35 : decode cX12_passDay 35 = .ok (.aload_n 0, 1) := by decide +kernel
theorem dX12_passDay_36 : decode cX12_passDay 36 = .ok (.getfield 52, 3) := by decide +kernel
theorem dX12_passDay_39 : decode cX12_passDay 39 = .ok (.bipush 67, 2) := by decide +kernel
theorem dX12_passDay_41 : decode cX12_passDay 41 = .ok (.iload_n 1, 1) := by decide +kernel
theorem dX12_passDay_42 : decode cX12_passDay 42 = .ok (.iadd, 1) := by decide +kernel
theorem dX12_passDay_43 : decode cX12_passDay 43 = .ok (.iaload, 1) := by decide +kernel
theorem dX12_passDay_44 : decode cX12_passDay 44 = .ok (.iastore, 1) := by decide +kernel
theorem dX12_passDay_45 : decode cX12_passDay 45 = .ok (.iinc 1 1, 3) := by decide +kernel
theorem dX12_passDay_48 : decode cX12_passDay 48 = .ok (.goto (-30), 3) := by decide +kernel
theorem dX12_passDay_51 : decode cX12_passDay 51 = .ok (.aload_n 0, 1) := by decide +kernel
theorem dX12_passDay_52 : decode cX12_passDay 52 = .ok (.getfield 52, 3) := by decide +kernel
theorem dX12_passDay_55 : decode cX12_passDay 55 = .ok (.bipush 66, 2) := by decide +kernel
theorem dX12_passDay_57 : decode cX12_passDay 57 = .ok (.dup2, 1) := by decide +kernel
theorem dX12_passDay_58 : decode cX12_passDay 58 = .ok (.iaload, 1) := by decide +kernel
theorem dX12_passDay_59 : decode cX12_passDay 59 = .ok (.iconst 1, 1) := by decide +kernel
theorem dX12_passDay_60 : decode cX12_passDay 60 = .ok (.isub, 1) := by decide +kernel
theorem dX12_passDay_61 : decode cX12_passDay 61 = .ok (.iastore, 1) := by decide +kernel
theorem dX12_passDay_62 : decode cX12_passDay 62 = .ok (.bipush 67, 2) := by decide +kernel
theorem dX12_passDay_64 : decode cX12_passDay 64 = .ok (.iconst 3, 1) := by decide +kernel
theorem dX12_passDay_65 : decode cX12_passDay 65 = .ok (.aload_n 0, 1) := by decide +kernel
theorem dX12_passDay_66 : decode cX12_passDay 66 = .ok (.getfield 52, 3) := by decide +kernel
theorem dX12_passDay_69 : decode cX12_passDay 69 = .ok (.bipush 66, 2) := by decide +kernel
theorem dX12_passDay_71 : decode cX12_passDay 71 = .ok (.iaload, 1) := by decide +kernel
theorem dX12_passDay_72 : decode cX12_passDay 72 = .ok (.imul, 1) := by decide +kernel
theorem dX12_passDay_73 : decode cX12_passDay 73 = .ok (.iadd, 1) := by decide +kernel
theorem dX12_passDay_74 : decode cX12_passDay 74 = .ok (.istore_n 1, 1) := by decide +kernel
theorem dX12_passDay_75 : decode cX12_passDay 75 = .ok (.aload_n 0, 1) := by decide +kernel
theorem dX12_passDay_76 : decode cX12_passDay 76 = .ok (.getfield 52, 3) := by decide +kernel
theorem dX12_passDay_79 : decode cX12_passDay 79 = .ok (.iload_n 1, 1) := by decide +kernel
theorem dX12_passDay_80 : decode cX12_passDay 80 = .ok (.aload_n 0, 1) := by decide +kernel
theorem dX12_passDay_81 : decode cX12_passDay 81 = .ok (.getfield 309, 3) := by decide +kernel
theorem dX12_passDay_84 : decode cX12_passDay 84 = .ok (.iastore, 1) := by decide +kernel
theorem dX12_passDay_85 : decode cX12_passDay 85 = .ok (.aload_n 0, 1) := by decide +kernel
theorem dX12_passDay_86 : decode cX12_passDay 86 = .ok (.getfield 52, 3) := by decide +kernel
theorem dX12_passDay_89 : decode cX12_passDay 89 = .ok (.iload_n 1, 1) := by decide +kernel
theorem dX12_passDay_90 : decode cX12_passDay 90 = .ok (.iconst 1, 1) := by decide +kernel
theorem dX12_passDay_91 : decode cX12_passDay 91 = .ok (.iadd, 1) := by decide +kernel
theorem dX12_passDay_92 : decode cX12_passDay 92 = .ok (.aload_n 0, 1) := by decide +kernel
theorem dX12_passDay_93 : decode cX12_passDay 93 = .ok (.getfield 306, 3) := by decide +kernel
theorem dX12_passDay_96 : decode cX12_passDay 96 = .ok (.iastore, 1) := by decide +kernel
theorem dX12_passDay_97 : decode cX12_passDay 97 = .ok (.aload_n 0, 1) := by decide +kernel
theorem dX12_passDay_98 : decode cX12_passDay 98 = .ok (.getfield 52, 3) := by decide +kernel
theorem dX12_passDay_101 : decode cX12_passDay 101 = .ok (.iload_n 1, 1) := by decide +kernel
theorem dX12_passDay_102 : decode cX12_passDay 102 = .ok (.iconst 2, 1) := by decide +kernel
theorem dX12_passDay_103 : decode cX12_passDay 103 = .ok (.iadd, 1) := by decide +kernel
theorem dX12_passDay_104 : decode cX12_passDay 104 = .ok (.aload_n 0, 1) := by decide +kernel
theorem dX12_passDay_105 : decode cX12_passDay 105 = .ok (.invokevirtual 330, 3) := by decide +kernel
theorem dX12_passDay_108 : decode cX12_passDay 108 = .ok (.iastore, 1) := by decide +kernel
theorem dX12_passDay_109 : decode cX12_passDay 109 = .ok (.aload_n 0, 1) := by decide +kernel
theorem dX12_passDay_110 : decode cX12_passDay 110 = .ok (.getfield 52, 3) := by decide +kernel
theorem dX12_passDay_113 : decode cX12_passDay 113 = .ok (.bipush 66, 2) := by decide +kernel
theorem dX12_passDay_115 : decode cX12_passDay 115 = .ok (.dup2, 1) := by decide +kernel
theorem dX12_passDay_116 : decode cX12_passDay 116 = .ok (.iaload, 1) := by decide +kernel
theorem dX12_passDay_117 : decode cX12_passDay 117 = .ok (.iconst 1, 1) := by decide +kernel
theorem dX12_passDay_118 : decode cX12_passDay 118 = .ok (.iadd, 1) := by decide +kernel
theorem dX12_passDay_119 : decode cX12_passDay 119 = .ok (.iastore, 1) := by decide +kernel
theorem dX12_passDay_120 : decode cX12_passDay 120 = .ok (.return_, 1) := by decide +kernel
theorem dX12_rule_0 : decode cX12_rule 0 = .ok (.aload_n 0, 1) := by decide +kernel
theorem dX12_rule_1 : decode cX12_rule 1 = .ok (.getfield 262, 3) := by decide +kernel
theorem dX12_rule_4 : decode cX12_rule 4 = .ok (.ifCond .eq 12, 3) := by decide +kernel
theorem dX12_rule_7 : decode cX12_rule 7 = .ok (.iload_n 1, 1) := by decide +kernel
theorem dX12_rule_8 : decode cX12_rule 8 = .ok (.iconst 0, 1) := by decide +kernel
theorem dX12_rule_9 : decode cX12_rule 9 = .ok (.iconst 3, 1) := by decide +kernel
theorem dX12_rule_10 : decode cX12_rule 10 = .ok (.invokestatic 217, 3) := by decide +kernel
theorem dX12_rule_13 : decode cX12_rule 13 = .ok (.ifCond .ne 7, 3) := by decide +kernel
theorem dX12_rule_16 : decode cX12_rule 16 = .ok (.iconst (-1), 1) := by decide +kernel
theorem dX12_rule_17 : decode cX12_rule 17 = .ok (.goto 24, 3) := by decide +kernel
theorem dX12_rule_20 : decode cX12_rule 20 = .ok (.iload_n 1, 1) := by decide +kernel
theorem dX12_rule_21 : decode cX12_rule 21 = .ok (.iconst 3, 1) := by decide +kernel
theorem dX12_rule_22 : decode cX12_rule 22 = .ok (.if_icmp .ne 13, 3) := by decide +kernel
theorem dX12_rule_25 : decode cX12_rule 25 = .ok (.aload_n 0, 1) := by decide +kernel
theorem dX12_rule_26 : decode cX12_rule 26 = .ok (.getfield 52, 3) := by decide +kernel
theorem dX12_rule_29 : decode cX12_rule 29 = .ok (.bipush 64, 2) := by decide +kernel
theorem dX12_rule_31 : decode cX12_rule 31 = .ok (.iaload, 1) := by decide +kernel
theorem dX12_rule_32 : decode cX12_rule 32 = .ok (.goto 9, 3) := by decide +kernel
theorem dX12_rule_35 : decode cX12_rule 35 = .ok (.aload_n 0, 1) := by decide +kernel
theorem dX12_rule_36 : decode cX12_rule 36 = .ok (.getfield 46, 3) := by decide +kernel
theorem dX12_rule_39 : decode cX12_rule 39 = .ok (.iload_n 1, 1) := by decide +kernel
theorem dX12_rule_40 : decode cX12_rule 40 = .ok (.iaload, 1) := by decide +kernel
theorem dX12_rule_41 : decode cX12_rule 41 = .ok (.ireturn, 1) := by decide +kernel
theorem dX12_bag_0 : decode cX12_bag 0 = .ok (.aload_n 0, 1) := by decide +kernel
theorem dX12_bag_1 : decode cX12_bag 1 = .ok (.aload_n 0, 1) := by decide +kernel
theorem dX12_bag_2 : decode cX12_bag 2 = .ok (.iload_n 1, 1) := by decide +kernel
theorem dX12_bag_3 : decode cX12_bag 3 = .ok (.invokevirtual 290, 3) := by decide +kernel
theorem dX12_bag_6 : decode cX12_bag 6 = .ok (.ifCond .eq 17, 3) := by decide +kernel
theorem dX12_bag_9 : decode cX12_bag 9 = .ok (.iload_n 2, 1) := by decide +kernel
theorem dX12_bag_10 : decode cX12_bag 10 = .ok (.iconst 0, 1) := by decide +kernel
theorem dX12_bag_11 : decode cX12_bag 11 = .ok (.bipush 7, 2) := by decide +kernel
theorem dX12_bag_13 : decode cX12_bag 13 = .ok (.invokestatic 217, 3) := by decide +kernel
theorem dX12_bag_16 : decode cX12_bag 16 = .ok (.ifCond .eq 7, 3) := by decide +kernel
theorem dX12_bag_19 : decode cX12_bag 19 = .ok (.iconst 0, 1) := by decide +kernel
theorem dX12_bag_20 : decode cX12_bag 20 = .ok (.goto 4, 3) := by decide +kernel
theorem dX12_bag_23 : decode cX12_bag 23 = .ok (.iconst 1, 1) := by decide +kernel
theorem dX12_bag_24 : decode cX12_bag 24 = .ok (.putfield 102, 3) := by decide +kernel
theorem dX12_bag_27 : decode cX12_bag 27 = .ok (.aload_n 0, 1) := by decide +kernel
theorem dX12_bag_28 : decode cX12_bag 28 = .ok (.getfield 102, 3) := by decide +kernel
theorem dX12_bag_31 : decode cX12_bag 31 = .ok (.iconst 1, 1) := by decide +kernel
theorem dX12_bag_32 : decode cX12_bag 32 = .ok (.if_icmp .ne 5, 3) := by decide +kernel
theorem dX12_bag_35 : decode cX12_bag 35 = .ok (.iconst 0, 1) := by decide +kernel
theorem dX12_bag_36 : decode cX12_bag 36 = .ok (.ireturn, 1) := by decide +kernel
theorem dX12_bag_37 : decode cX12_bag 37 = .ok (.iload_n 2, 1) := by decide +kernel
theorem dX12_bag_38 : decode cX12_bag 38 = .ok (.bipush 7, 2) := by decide +kernel
theorem dX12_bag_40 : decode cX12_bag 40 = .ok (.if_icmp .ne 11, 3) := by decide +kernel
theorem dX12_bag_43 : decode cX12_bag 43 = .ok (.aload_n 0, 1) := by decide +kernel
theorem dX12_bag_44 : decode cX12_bag 44 = .ok (.iload_n 1, 1) := by decide +kernel
theorem dX12_bag_45 : decode cX12_bag 45 = .ok (.invokevirtual 303, 3) := by decide +kernel
theorem dX12_bag_48 : decode cX12_bag 48 = .ok (.goto 9, 3) := by decide +kernel
theorem dX12_bag_51 : decode cX12_bag 51 = .ok (.aload_n 0, 1) := by decide +kernel
theorem dX12_bag_52 : decode cX12_bag 52 = .ok (.iload_n 1, 1) := by decide +kernel
theorem dX12_bag_53 : decode cX12_bag 53 = .ok (.iload_n 2, 1) := by decide +kernel
theorem dX12_bag_54 : decode cX12_bag 54 = .ok (.invokevirtual 287, 3) := by decide +kernel
theorem dX12_bag_57 : decode cX12_bag 57 = .ok (.ireturn, 1) := by decide +kernel
theorem dX12_load_0 : decode cX12_load 0 = .ok (.aload_n 0, 1) := by decide +kernel
theorem dX12_load_1 : decode cX12_load 1 = .ok (.getfield 262, 3) := by decide +kernel
theorem dX12_load_4 : decode cX12_load 4 = .ok (.ifCond .eq 25, 3) := by decide +kernel
theorem dX12_load_7 : decode cX12_load 7 = .ok (.aload_n 0, 1) := by decide +kernel
theorem dX12_load_8 : decode cX12_load 8 = .ok (.iload_n 1, 1) := by decide +kernel
theorem dX12_load_9 : decode cX12_load 9 = .ok (.invokevirtual 333, 3) := by decide +kernel
theorem dX12_load_12 : decode cX12_load 12 = .ok (.ifCond .ne 9, 3) := by decide +kernel
theorem dX12_load_15 : decode cX12_load 15 = .ok (.iload_n 1, 1) := by decide +kernel
theorem dX12_load_16 : decode cX12_load 16 = .ok (.bipush 9, 2) := by decide +kernel
theorem dX12_load_18 : decode cX12_load 18 = .ok (.if_icmp .ne 11, 3) := by decide +kernel
theorem dX12_load_21 : decode cX12_load 21 = .ok (.aload_n 0, 1) := by decide +kernel
theorem dX12_load_22 : decode cX12_load 22 = .ok (.iload_n 1, 1) := by decide +kernel
theorem dX12_load_23 : decode cX12_load 23 = .ok (.invokevirtual 312, 3) := by decide +kernel
theorem dX12_load_26 : decode cX12_load 26 = .ok (.goto 4, 3) := by decide +kernel
theorem dX12_load_29 : decode cX12_load 29 = .ok (.iconst (-1), 1) := by decide +kernel
theorem dX12_load_30 : decode cX12_load 30 = .ok (.ireturn, 1) := by decide +kernel
theorem dX12_law_0 : decode cX12_law 0 = .ok (.iload_n 1, 1) := by decide +kernel
theorem dX12_law_1 : decode cX12_law 1 = .ok (.iconst (-1), 1) := by decide +kernel
theorem dX12_law_2 : decode cX12_law 2 = .ok (.aload_n 0, 1) := by decide +kernel
theorem dX12_law_3 : decode cX12_law 3 = .ok (.getfield 284, 3) := by decide +kernel
theorem dX12_law_6 : decode cX12_law 6 = .ok (.iconst 1, 1) := by decide +kernel
theorem dX12_law_7 : decode cX12_law 7 = .ok (.isub, 1) := by decide +kernel
theorem dX12_law_8 : decode cX12_law 8 = .ok (.invokestatic 217, 3) := by decide +kernel
theorem dX12_law_11 : decode cX12_law 11 = .ok (.ifCond .ne 5, 3) := by decide +kernel
theorem dX12_law_14 : decode cX12_law 14 = .ok (.iconst 0, 1) := by decide +kernel
theorem dX12_law_15 : decode cX12_law 15 = .ok (.ireturn, 1) := by decide +kernel
theorem dX12_law_16 : decode cX12_law 16 = .ok (.aload_n 0, 1) := by decide +kernel
theorem dX12_law_17 : decode cX12_law 17 = .ok (.iload_n 1, 1) := by decide +kernel
theorem dX12_law_18 : decode cX12_law 18 = .ok (.putfield 58, 3) := by decide +kernel
theorem dX12_law_21 : decode cX12_law 21 = .ok (.iconst 1, 1) := by decide +kernel
theorem dX12_law_22 : decode cX12_law 22 = .ok (.ireturn, 1) := by decide +kernel
theorem dX12_keep_0 : decode cX12_keep 0 = .ok (.aload_n 0, 1) := by decide +kernel
theorem dX12_keep_1 : decode cX12_keep 1 = .ok (.getfield 275, 3) := by decide +kernel
theorem dX12_keep_4 : decode cX12_keep 4 = .ok (.bipush 40, 2) := by decide +kernel
theorem dX12_keep_6 : decode cX12_keep 6 = .ok (.if_icmp .ne 46, 3) := by decide +kernel
theorem dX12_keep_9 : decode cX12_keep 9 = .ok (.sipush 247, 3) := by decide +kernel
theorem dX12_keep_12 : decode cX12_keep 12 = .ok (.istore_n 1, 1) := by decide +kernel
theorem dX12_keep_13 : decode cX12_keep 13 = .ok (.iload_n 1, 1) := by decide +kernel
theorem dX12_keep_14 : decode cX12_keep 14 = .ok (.sipush 9880, 3) := by decide +kernel
theorem dX12_keep_17 : decode cX12_keep 17 = .ok (.if_icmp .ge 25, 3) := by decide +kernel
theorem dX12_keep_20 : decode cX12_keep 20 = .ok (.aload_n 0, 1) := by decide +kernel
theorem dX12_keep_21 : decode cX12_keep 21 = .ok (.getfield 68, 3) := by decide +kernel
theorem dX12_keep_24 : decode cX12_keep 24 = .ok (.iload_n 1, 1) := by decide +kernel
theorem dX12_keep_25 : decode cX12_keep 25 = .ok (.sipush 247, 3) := by decide +kernel
theorem dX12_keep_28 : decode cX12_keep 28 = .ok (.isub, 1) := by decide +kernel
theorem dX12_keep_29 : decode cX12_keep 29 = .ok (.aload_n 0, 1) := by decide +kernel
theorem dX12_keep_30 : decode cX12_keep 30 = .ok (.getfield 68, 3) := by decide +kernel
theorem dX12_keep_33 : decode cX12_keep 33 = .ok (.iload_n 1, 1) := by decide +kernel
theorem dX12_keep_34 : decode cX12_keep 34 = .ok (.iaload, 1) := by decide +kernel
theorem dX12_keep_35 : decode cX12_keep 35 = .ok (.iastore, 1) := by decide +kernel
theorem dX12_keep_36 : decode cX12_keep 36 = .ok (.iinc 1 1, 3) := by decide +kernel
theorem dX12_keep_39 : decode cX12_keep 39 = .ok (.goto (-26), 3) := by decide +kernel
theorem dX12_keep_42 : decode cX12_keep 42 = .ok (.aload_n 0, 1) := by decide +kernel
theorem dX12_keep_43 : decode cX12_keep 43 = .ok (.dup, 1) := by decide +kernel
theorem dX12_keep_44 : decode cX12_keep 44 = .ok (.getfield 275, 3) := by decide +kernel
theorem dX12_keep_47 : decode cX12_keep 47 = .ok (.iconst 1, 1) := by decide +kernel
theorem dX12_keep_48 : decode cX12_keep 48 = .ok (.isub, 1) := by decide +kernel
theorem dX12_keep_49 : decode cX12_keep 49 = .ok (.putfield 275, 3) := by decide +kernel
theorem dX12_keep_52 : decode cX12_keep 52 = .ok (.iconst 0, 1) := by decide +kernel
theorem dX12_keep_53 : decode cX12_keep 53 = .ok (.istore_n 1, 1) := by decide +kernel
theorem dX12_keep_54 : decode cX12_keep 54 = .ok (.iload_n 1, 1) := by decide +kernel
theorem dX12_keep_55 : decode cX12_keep 55 = .ok (.sipush 247, 3) := by decide +kernel
theorem dX12_keep_58 : decode cX12_keep 58 = .ok (.if_icmp .ge 30, 3) := by decide +kernel
theorem dX12_keep_61 : decode cX12_keep 61 = .ok (.aload_n 0, 1) := by decide +kernel
theorem dX12_keep_62 : decode cX12_keep 62 = .ok (.getfield 68, 3) := by decide +kernel
theorem dX12_keep_65 : decode cX12_keep 65 = .ok (.sipush 247, 3) := by decide +kernel
theorem dX12_keep_68 : decode cX12_keep 68 = .ok (.aload_n 0, 1) := by decide +kernel
theorem dX12_keep_69 : decode cX12_keep 69 = .ok (.getfield 275, 3) := by decide +kernel
theorem dX12_keep_72 : decode cX12_keep 72 = .ok (.imul, 1) := by decide +kernel
theorem dX12_keep_73 : decode cX12_keep 73 = .ok (.iload_n 1, 1) := by decide +kernel
theorem dX12_keep_74 : decode cX12_keep 74 = .ok (.iadd, 1) := by decide +kernel
theorem dX12_keep_75 : decode cX12_keep 75 = .ok (.aload_n 0, 1) := by decide +kernel
theorem dX12_keep_76 : decode cX12_keep 76 = .ok (.getfield 52, 3) := by decide +kernel
theorem dX12_keep_79 : decode cX12_keep 79 = .ok (.iload_n 1, 1) := by decide +kernel
theorem dX12_keep_80 : decode cX12_keep 80 = .ok (.iaload, 1) := by decide +kernel
theorem dX12_keep_81 : decode cX12_keep 81 = .ok (.iastore, 1) := by decide +kernel
theorem dX12_keep_82 : decode cX12_keep 82 = .ok (.iinc 1 1, 3) := by decide +kernel
theorem dX12_keep_85 : decode cX12_keep 85 = .ok (.goto (-31), 3) := by decide +kernel
theorem dX12_keep_88 : decode cX12_keep 88 = .ok (.aload_n 0, 1) := by decide +kernel
theorem dX12_keep_89 : decode cX12_keep 89 = .ok (.dup, 1) := by decide +kernel
theorem dX12_keep_90 : decode cX12_keep 90 = .ok (.getfield 275, 3) := by decide +kernel
theorem dX12_keep_93 : decode cX12_keep 93 = .ok (.iconst 1, 1) := by decide +kernel
theorem dX12_keep_94 : decode cX12_keep 94 = .ok (.iadd, 1) := by decide +kernel
theorem dX12_keep_95 : decode cX12_keep 95 = .ok (.putfield 275, 3) := by decide +kernel
theorem dX12_keep_98 : decode cX12_keep 98 = .ok (.return_, 1) := by decide +kernel
theorem dX12_isRefused_0 : decode cX12_isRefused 0 = .ok (.iload_n 1, 1) := by decide +kernel
theorem dX12_isRefused_1 : decode cX12_isRefused 1 = .ok (.iconst (-1), 1) := by decide +kernel
theorem dX12_isRefused_2 : decode cX12_isRefused 2 = .ok (.if_icmp .eq 13, 3) := by decide +kernel
theorem dX12_isRefused_5 : decode cX12_isRefused 5 = .ok (.aload_n 0, 1) := by decide +kernel
theorem dX12_isRefused_6 : decode cX12_isRefused 6 = .ok (.getfield 55, 3) := by decide +kernel
theorem dX12_isRefused_9 : decode cX12_isRefused 9 = .ok (.iload_n 1, 1) := by decide +kernel
theorem dX12_isRefused_10 : decode cX12_isRefused 10 = .ok (.dup2, 1) := by decide +kernel
theorem dX12_isRefused_11 : decode cX12_isRefused 11 = .ok (.iaload, 1) := by decide +kernel
theorem dX12_isRefused_12 : decode cX12_isRefused 12 = .ok (.iconst 1, 1) := by decide +kernel
theorem dX12_isRefused_13 : decode cX12_isRefused 13 = .ok (.iadd, 1) := by decide +kernel
theorem dX12_isRefused_14 : decode cX12_isRefused 14 = .ok (.iastore, 1) := by decide +kernel
theorem dX12_isRefused_15 : decode cX12_isRefused 15 = .ok (.iload_n 1, 1) := by decide +kernel
theorem dX12_isRefused_16 : decode cX12_isRefused 16 = .ok (.iconst (-1), 1) := by decide +kernel
theorem dX12_isRefused_17 : decode cX12_isRefused 17 = .ok (.if_icmp .eq 7, 3) := by decide +kernel
theorem dX12_isRefused_20 : decode cX12_isRefused 20 = .ok (.iconst 1, 1) := by decide +kernel
theorem dX12_isRefused_21 : decode cX12_isRefused 21 = .ok (.goto 4, 3) := by decide +kernel
theorem dX12_isRefused_24 : decode cX12_isRefused 24 = .ok (.iconst 0, 1) := by decide +kernel
theorem dX12_isRefused_25 : decode cX12_isRefused 25 = .ok (.ireturn, 1) := by decide +kernel
theorem dX12_areDays_0 : decode cX12_areDays 0 = .ok (.iload_n 1, 1) := by decide +kernel
theorem dX12_areDays_1 : decode cX12_areDays 1 = .ok (.iconst 1, 1) := by decide +kernel
theorem dX12_areDays_2 : decode cX12_areDays 2 = .ok (.bipush 60, 2) := by decide +kernel
theorem dX12_areDays_4 : decode cX12_areDays 4 = .ok (.invokestatic 217, 3) := by decide +kernel
theorem dX12_areDays_7 : decode cX12_areDays 7 = .ok (.ifCond .eq 22, 3) := by decide +kernel
theorem dX12_areDays_10 : decode cX12_areDays 10 = .ok (.aload_n 0, 1) := by decide +kernel
theorem dX12_areDays_11 : decode cX12_areDays 11 = .ok (.getfield 52, 3) := by decide +kernel
theorem dX12_areDays_14 : decode cX12_areDays 14 = .ok (.bipush 65, 2) := by decide +kernel
theorem dX12_areDays_16 : decode cX12_areDays 16 = .ok (.iaload, 1) := by decide +kernel
theorem dX12_areDays_17 : decode cX12_areDays 17 = .ok (.iload_n 1, 1) := by decide +kernel
theorem dX12_areDays_18 : decode cX12_areDays 18 = .ok (.iadd, 1) := by decide +kernel
theorem dX12_areDays_19 : decode cX12_areDays 19 = .ok (.sipush 999, 3) := by decide +kernel
theorem dX12_areDays_22 : decode cX12_areDays 22 = .ok (.if_icmp .gt 7, 3) := by decide +kernel
theorem dX12_areDays_25 : decode cX12_areDays 25 = .ok (.iconst 1, 1) := by decide +kernel
theorem dX12_areDays_26 : decode cX12_areDays 26 = .ok (.goto 4, 3) := by decide +kernel
theorem dX12_areDays_29 : decode cX12_areDays 29 = .ok (.iconst 0, 1) := by decide +kernel
theorem dX12_areDays_30 : decode cX12_areDays 30 = .ok (.ireturn, 1) := by decide +kernel
theorem dX12_days_0 : decode cX12_days 0 = .ok (.aload_n 0, 1) := by decide +kernel
theorem dX12_days_1 : decode cX12_days 1 = .ok (.aload_n 0, 1) := by decide +kernel
theorem dX12_days_2 : decode cX12_days 2 = .ok (.getfield 262, 3) := by decide +kernel
theorem dX12_days_5 : decode cX12_days 5 = .ok (.ifCond .ne 7, 3) := by decide +kernel
theorem dX12_days_8 : decode cX12_days 8 = .ok (.iconst 0, 1) := by decide +kernel
theorem dX12_days_9 : decode cX12_days 9 = .ok (.goto 30, 3) := by decide +kernel
theorem dX12_days_12 : decode cX12_days 12 = .ok (.iload_n 1, 1) := by decide +kernel
theorem dX12_days_13 : decode cX12_days 13 = .ok (.iconst 1, 1) := by decide +kernel
theorem dX12_days_14 : decode cX12_days 14 = .ok (.bipush 60, 2) := by decide +kernel
theorem dX12_days_16 : decode cX12_days 16 = .ok (.invokestatic 217, 3) := by decide +kernel
theorem dX12_days_19 : decode cX12_days 19 = .ok (.ifCond .ne 7, 3) := by decide +kernel
theorem dX12_days_22 : decode cX12_days 22 = .ok (.iconst 1, 1) := by decide +kernel
theorem dX12_days_23 : decode cX12_days 23 = .ok (.goto 16, 3) := by decide +kernel
theorem dX12_days_26 : decode cX12_days 26 = .ok (.aload_n 0, 1) := by decide +kernel
theorem dX12_days_27 : decode cX12_days 27 = .ok (.iload_n 1, 1) := by decide +kernel
theorem dX12_days_28 : decode cX12_days 28 = .ok (.invokevirtual 336, 3) := by decide +kernel
theorem dX12_days_31 : decode cX12_days 31 = .ok (.ifCond .ne 7, 3) := by decide +kernel
theorem dX12_days_34 : decode cX12_days 34 = .ok (.iconst 4, 1) := by decide +kernel
theorem dX12_days_35 : decode cX12_days 35 = .ok (.goto 4, 3) := by decide +kernel
theorem dX12_days_38 : decode cX12_days 38 = .ok (.iconst (-1), 1) := by decide +kernel
theorem dX12_days_39 : decode cX12_days 39 = .ok (.invokevirtual 339, 3) := by decide +kernel
theorem dX12_days_42 : decode cX12_days 42 = .ok (.ifCond .eq 5, 3) := by decide +kernel
theorem dX12_days_45 : decode cX12_days 45 = .ok (.iconst (-1), 1) := by decide +kernel
theorem dX12_days_46 : decode cX12_days 46 = .ok (.ireturn, 1) := by decide +kernel
theorem dX12_days_47 : decode cX12_days 47 = .ok (.iconst 0, 1) := by decide +kernel
theorem dX12_days_48 : decode cX12_days 48 = .ok (.istore_n 2, 1) := by decide +kernel
theorem dX12_days_49 : decode cX12_days 49 = .ok (.iload_n 2, 1) := by decide +kernel
theorem dX12_days_50 : decode cX12_days 50 = .ok (.iload_n 1, 1) := by decide +kernel
theorem dX12_days_51 : decode cX12_days 51 = .ok (.if_icmp .ge 17, 3) := by decide +kernel
theorem dX12_days_54 : decode cX12_days 54 = .ok (.aload_n 0, 1) := by decide +kernel
theorem dX12_days_55 : decode cX12_days 55 = .ok (.invokevirtual 342, 3) := by decide +kernel
theorem dX12_days_58 : decode cX12_days 58 = .ok (.aload_n 0, 1) := by decide +kernel
theorem dX12_days_59 : decode cX12_days 59 = .ok (.invokevirtual 345, 3) := by decide +kernel
theorem dX12_days_62 : decode cX12_days 62 = .ok (.iinc 2 1, 3) := by decide +kernel
theorem dX12_days_65 : decode cX12_days 65 = .ok (.goto (-16), 3) := by decide +kernel
theorem dX12_days_68 : decode cX12_days 68 = .ok (.aload_n 0, 1) := by decide +kernel
theorem dX12_days_69 : decode cX12_days 69 = .ok (.getfield 52, 3) := by decide +kernel
theorem dX12_days_72 : decode cX12_days 72 = .ok (.bipush 65, 2) := by decide +kernel
theorem dX12_days_74 : decode cX12_days 74 = .ok (.iaload, 1) := by decide +kernel
theorem dX12_days_75 : decode cX12_days 75 = .ok (.ireturn, 1) := by decide +kernel
theorem dX12_freePlace_0 : decode cX12_freePlace 0 = .ok (.iconst 0, 1) := by decide +kernel
theorem dX12_freePlace_1 : decode cX12_freePlace 1 = .ok (.istore_n 1, 1) := by decide +kernel
theorem dX12_freePlace_2 : decode cX12_freePlace 2 = .ok (.iload_n 1, 1) := by decide +kernel
theorem dX12_freePlace_3 : decode cX12_freePlace 3 = .ok (.bipush 8, 2) := by decide +kernel
theorem dX12_freePlace_5 : decode cX12_freePlace 5 = .ok (.if_icmp .ge 19, 3) := by decide +kernel
theorem dX12_freePlace_8 : decode cX12_freePlace 8 = .ok (.aload_n 0, 1) := by decide +kernel
theorem dX12_freePlace_9 : decode cX12_freePlace 9 = .ok (.iload_n 1, 1) := by decide +kernel
theorem dX12_freePlace_10 : decode cX12_freePlace 10 = .ok (.invokevirtual 290, 3) := by decide +kernel
theorem dX12_freePlace_13 : decode cX12_freePlace 13 = .ok (.ifCond .ne 5, 3) := by decide +kernel
theorem dX12_freePlace_16 : decode cX12_freePlace 16 = .ok (.iload_n 1, 1) := by decide +kernel
theorem dX12_freePlace_17 : decode cX12_freePlace 17 = .ok (.ireturn, 1) := by decide +kernel
theorem dX12_freePlace_18 : decode cX12_freePlace 18 = .ok (.iinc 1 1, 3) := by decide +kernel
theorem dX12_freePlace_21 : decode cX12_freePlace 21 = .ok (.goto (-19), 3) := by decide +kernel
theorem dX12_freePlace_24 : decode cX12_freePlace 24 = .ok (.iconst (-1), 1) := by decide +kernel
theorem dX12_freePlace_25 : decode cX12_freePlace 25 = .ok (.ireturn, 1) := by decide +kernel
theorem dX12_does_0 : decode cX12_does 0 = .ok (.aload_n 0, 1) := by decide +kernel
theorem dX12_does_1 : decode cX12_does 1 = .ok (.iload_n 1, 1) := by decide +kernel
theorem dX12_does_2 : decode cX12_does 2 = .ok (.invokevirtual 312, 3) := by decide +kernel
theorem dX12_does_5 : decode cX12_does 5 = .ok (.iload_n 2, 1) := by decide +kernel
theorem dX12_does_6 : decode cX12_does 6 = .ok (.iadd, 1) := by decide +kernel
theorem dX12_does_7 : decode cX12_does 7 = .ok (.aload_n 0, 1) := by decide +kernel
theorem dX12_does_8 : decode cX12_does 8 = .ok (.getfield 46, 3) := by decide +kernel
theorem dX12_does_11 : decode cX12_does 11 = .ok (.iconst 0, 1) := by decide +kernel
theorem dX12_does_12 : decode cX12_does 12 = .ok (.iaload, 1) := by decide +kernel
theorem dX12_does_13 : decode cX12_does 13 = .ok (.if_icmp .gt 7, 3) := by decide +kernel
theorem dX12_does_16 : decode cX12_does 16 = .ok (.iconst 1, 1) := by decide +kernel
theorem dX12_does_17 : decode cX12_does 17 = .ok (.goto 4, 3) := by decide +kernel
theorem dX12_does_20 : decode cX12_does 20 = .ok (.iconst 0, 1) := by decide +kernel
theorem dX12_does_21 : decode cX12_does 21 = .ok (.ireturn, 1) := by decide +kernel
theorem dX12_leaveNow_0 : decode cX12_leaveNow 0 = .ok (.aload_n 0, 1) := by decide +kernel
theorem dX12_leaveNow_1 : decode cX12_leaveNow 1 = .ok (.invokevirtual 348, 3) := by decide +kernel
theorem dX12_leaveNow_4 : decode cX12_leaveNow 4 = .ok (.istore 5, 2) := by decide +kernel
theorem dX12_leaveNow_6 : decode cX12_leaveNow 6 = .ok (.aload_n 0, 1) := by decide +kernel
theorem dX12_leaveNow_7 : decode cX12_leaveNow 7 = .ok (.iload 5, 2) := by decide +kernel
theorem dX12_leaveNow_9 : decode cX12_leaveNow 9 = .ok (.iconst 0, 1) := by decide +kernel
theorem dX12_leaveNow_10 : decode cX12_leaveNow 10 = .ok (.iload_n 1, 1) := by decide +kernel
theorem dX12_leaveNow_11 : decode cX12_leaveNow 11 = .ok (.invokevirtual 258, 3) := by decide +kernel
theorem dX12_leaveNow_14 : decode cX12_leaveNow 14 = .ok (.aload_n 0, 1) := by decide +kernel
theorem dX12_leaveNow_15 : decode cX12_leaveNow 15 = .ok (.iload 5, 2) := by decide +kernel
theorem dX12_leaveNow_17 : decode cX12_leaveNow 17 = .ok (.iconst 1, 1) := by decide +kernel
theorem dX12_leaveNow_18 : decode cX12_leaveNow 18 = .ok (.iload_n 2, 1) := by decide +kernel
theorem dX12_leaveNow_19 : decode cX12_leaveNow 19 = .ok (.invokevirtual 258, 3) := by decide +kernel
theorem dX12_leaveNow_22 : decode cX12_leaveNow 22 = .ok (.aload_n 0, 1) := by decide +kernel
theorem dX12_leaveNow_23 : decode cX12_leaveNow 23 = .ok (.iload 5, 2) := by decide +kernel
theorem dX12_leaveNow_25 : decode cX12_leaveNow 25 = .ok (.iconst 2, 1) := by decide +kernel
theorem dX12_leaveNow_26 : decode cX12_leaveNow 26 = .ok (.iload_n 3, 1) := by decide +kernel
theorem dX12_leaveNow_27 : decode cX12_leaveNow 27 = .ok (.invokevirtual 258, 3) := by decide +kernel
theorem dX12_leaveNow_30 : decode cX12_leaveNow 30 = .ok (.aload_n 0, 1) := by decide +kernel
theorem dX12_leaveNow_31 : decode cX12_leaveNow 31 = .ok (.iload 5, 2) := by decide +kernel
theorem dX12_leaveNow_33 : decode cX12_leaveNow 33 = .ok (.iconst 3, 1) := by decide +kernel
theorem dX12_leaveNow_34 : decode cX12_leaveNow 34 = .ok (.iload 4, 2) := by decide +kernel
theorem dX12_leaveNow_36 : decode cX12_leaveNow 36 = .ok (.invokevirtual 258, 3) := by decide +kernel
theorem dX12_leaveNow_39 : decode cX12_leaveNow 39 = .ok (.aload_n 0, 1) := by decide +kernel
theorem dX12_leaveNow_40 : decode cX12_leaveNow 40 = .ok (.iload 5, 2) := by decide +kernel
theorem dX12_leaveNow_42 : decode cX12_leaveNow 42 = .ok (.iconst 4, 1) := by decide +kernel
theorem dX12_leaveNow_43 : decode cX12_leaveNow 43 = .ok (.iconst 0, 1) := by decide +kernel
theorem dX12_leaveNow_44 : decode cX12_leaveNow 44 = .ok (.invokevirtual 258, 3) := by decide +kernel
theorem dX12_leaveNow_47 : decode cX12_leaveNow 47 = .ok (.aload_n 0, 1) := by decide +kernel
theorem dX12_leaveNow_48 : decode cX12_leaveNow 48 = .ok (.iload 5, 2) := by decide +kernel
theorem dX12_leaveNow_50 : decode cX12_leaveNow 50 = .ok (.iconst 5, 1) := by decide +kernel
theorem dX12_leaveNow_51 : decode cX12_leaveNow 51 = .ok (.iconst 0, 1) := by decide +kernel
theorem dX12_leaveNow_52 : decode cX12_leaveNow 52 = .ok (.invokevirtual 258, 3) := by decide +kernel
theorem dX12_leaveNow_55 : decode cX12_leaveNow 55 = .ok (.aload_n 0, 1) := by decide +kernel
theorem dX12_leaveNow_56 : decode cX12_leaveNow 56 = .ok (.iload 5, 2) := by decide +kernel
theorem dX12_leaveNow_58 : decode cX12_leaveNow 58 = .ok (.bipush 6, 2) := by decide +kernel
theorem dX12_leaveNow_60 : decode cX12_leaveNow 60 = .ok (.iconst 0, 1) := by decide +kernel
theorem dX12_leaveNow_61 : decode cX12_leaveNow 61 = .ok (.invokevirtual 258, 3) := by decide +kernel
theorem dX12_leaveNow_64 : decode cX12_leaveNow 64 = .ok (.aload_n 0, 1) := by decide +kernel
theorem dX12_leaveNow_65 : decode cX12_leaveNow 65 = .ok (.iload 5, 2) := by decide +kernel
theorem dX12_leaveNow_67 : decode cX12_leaveNow 67 = .ok (.bipush 7, 2) := by decide +kernel
theorem dX12_leaveNow_69 : decode cX12_leaveNow 69 = .ok (.iconst 1, 1) := by decide +kernel
theorem dX12_leaveNow_70 : decode cX12_leaveNow 70 = .ok (.invokevirtual 258, 3) := by decide +kernel
theorem dX12_leaveNow_73 : decode cX12_leaveNow 73 = .ok (.iload 5, 2) := by decide +kernel
theorem dX12_leaveNow_75 : decode cX12_leaveNow 75 = .ok (.ireturn, 1) := by decide +kernel
theorem dX12_leave_0 : decode cX12_leave 0 = .ok (.iload_n 1, 1) := by decide +kernel
theorem dX12_leave_1 : decode cX12_leave 1 = .ok (.iconst 1, 1) := by decide +kernel
theorem dX12_leave_2 : decode cX12_leave 2 = .ok (.bipush 30, 2) := by decide +kernel
theorem dX12_leave_4 : decode cX12_leave 4 = .ok (.invokestatic 217, 3) := by decide +kernel
theorem dX12_leave_7 : decode cX12_leave 7 = .ok (.ifCond .eq 36, 3) := by decide +kernel
theorem dX12_leave_10 : decode cX12_leave 10 = .ok (.iload_n 2, 1) := by decide +kernel
theorem dX12_leave_11 : decode cX12_leave 11 = .ok (.iconst 0, 1) := by decide +kernel
theorem dX12_leave_12 : decode cX12_leave 12 = .ok (.bipush 9, 2) := by decide +kernel
theorem dX12_leave_14 : decode cX12_leave 14 = .ok (.invokestatic 217, 3) := by decide +kernel
theorem dX12_leave_17 : decode cX12_leave 17 = .ok (.ifCond .eq 26, 3) := by decide +kernel
theorem dX12_leave_20 : decode cX12_leave 20 = .ok (.iload_n 3, 1) := by decide +kernel
theorem dX12_leave_21 : decode cX12_leave 21 = .ok (.iconst 0, 1) := by decide +kernel
theorem dX12_leave_22 : decode cX12_leave 22 = .ok (.bipush 9, 2) := by decide +kernel
theorem dX12_leave_24 : decode cX12_leave 24 = .ok (.invokestatic 217, 3) := by decide +kernel
theorem dX12_leave_27 : decode cX12_leave 27 = .ok (.ifCond .eq 16, 3) := by decide +kernel
theorem dX12_leave_30 : decode cX12_leave 30 = .ok (.aload_n 0, 1) := by decide +kernel
theorem dX12_leave_31 : decode cX12_leave 31 = .ok (.iload 4, 2) := by decide +kernel
theorem dX12_leave_33 : decode cX12_leave 33 = .ok (.invokevirtual 333, 3) := by decide +kernel
theorem dX12_leave_36 : decode cX12_leave 36 = .ok (.ifCond .eq 7, 3) := by decide +kernel
theorem dX12_leave_39 : decode cX12_leave 39 = .ok (.iconst 1, 1) := by decide +kernel
theorem dX12_leave_40 : decode cX12_leave 40 = .ok (.goto 4, 3) := by decide +kernel
theorem dX12_leave_43 : decode cX12_leave 43 = .ok (.iconst 0, 1) := by decide +kernel
theorem dX12_leave_44 : decode cX12_leave 44 = .ok (.istore 5, 2) := by decide +kernel
theorem dX12_leave_46 : decode cX12_leave 46 = .ok (.aload_n 0, 1) := by decide +kernel
theorem dX12_leave_47 : decode cX12_leave 47 = .ok (.aload_n 0, 1) := by decide +kernel
theorem dX12_leave_48 : decode cX12_leave 48 = .ok (.getfield 262, 3) := by decide +kernel
theorem dX12_leave_51 : decode cX12_leave 51 = .ok (.ifCond .ne 7, 3) := by decide +kernel
theorem dX12_leave_54 : decode cX12_leave 54 = .ok (.iconst 0, 1) := by decide +kernel
theorem dX12_leave_55 : decode cX12_leave 55 = .ok (.goto 35, 3) := by decide +kernel
theorem dX12_leave_58 : decode cX12_leave 58 = .ok (.iload 5, 2) := by decide +kernel
theorem dX12_leave_60 : decode cX12_leave 60 = .ok (.ifCond .ne 7, 3) := by decide +kernel
theorem dX12_leave_63 : decode cX12_leave 63 = .ok (.iconst 1, 1) := by decide +kernel
theorem dX12_leave_64 : decode cX12_leave 64 = .ok (.goto 26, 3) := by decide +kernel
theorem dX12_leave_67 : decode cX12_leave 67 = .ok (.aload_n 0, 1) := by decide +kernel
theorem dX12_leave_68 : decode cX12_leave 68 = .ok (.iload 4, 2) := by decide +kernel
theorem dX12_leave_70 : decode cX12_leave 70 = .ok (.iload_n 1, 1) := by decide +kernel
theorem dX12_leave_71 : decode cX12_leave 71 = .ok (.invokevirtual 351, 3) := by decide +kernel
theorem dX12_leave_74 : decode cX12_leave 74 = .ok (.ifCond .eq 11, 3) := by decide +kernel
theorem dX12_leave_77 : decode cX12_leave 77 = .ok (.aload_n 0, 1) := by decide +kernel
theorem dX12_leave_78 : decode cX12_leave 78 = .ok (.invokevirtual 348, 3) := by decide +kernel
theorem dX12_leave_81 : decode cX12_leave 81 = .ok (.iconst (-1), 1) := by decide +kernel
theorem dX12_leave_82 : decode cX12_leave 82 = .ok (.if_icmp .ne 7, 3) := by decide +kernel
theorem dX12_leave_85 : decode cX12_leave 85 = .ok (.iconst 3, 1) := by decide +kernel
theorem dX12_leave_86 : decode cX12_leave 86 = .ok (.goto 4, 3) := by decide +kernel
theorem dX12_leave_89 : decode cX12_leave 89 = .ok (.iconst (-1), 1) := by decide +kernel
theorem dX12_leave_90 : decode cX12_leave 90 = .ok (.invokevirtual 339, 3) := by decide +kernel
theorem dX12_leave_93 : decode cX12_leave 93 = .ok (.ifCond .eq 5, 3) := by decide +kernel
theorem dX12_leave_96 : decode cX12_leave 96 = .ok (.iconst (-1), 1) := by decide +kernel
theorem dX12_leave_97 : decode cX12_leave 97 = .ok (.ireturn, 1) := by decide +kernel
theorem dX12_leave_98 : decode cX12_leave 98 = .ok (.aload_n 0, 1) := by decide +kernel
theorem dX12_leave_99 : decode cX12_leave 99 = .ok (.invokevirtual 342, 3) := by decide +kernel
theorem dX12_leave_102 : decode cX12_leave 102 = .ok (.aload_n 0, 1) := by decide +kernel
theorem dX12_leave_103 : decode cX12_leave 103 = .ok (.iload_n 1, 1) := by decide +kernel
theorem dX12_leave_104 : decode cX12_leave 104 = .ok (.iload_n 2, 1) := by decide +kernel
theorem dX12_leave_105 : decode cX12_leave 105 = .ok (.iload_n 3, 1) := by decide +kernel
theorem dX12_leave_106 : decode cX12_leave 106 = .ok (.iload 4, 2) := by decide +kernel
theorem dX12_leave_108 : decode cX12_leave 108 = .ok (.invokevirtual 354, 3) := by decide +kernel
theorem dX12_leave_111 : decode cX12_leave 111 = .ok (.ireturn, 1) := by decide +kernel
theorem dX12_callNow_0 : decode cX12_callNow 0 = .ok (.aload_n 0, 1) := by decide +kernel
theorem dX12_callNow_1 : decode cX12_callNow 1 = .ok (.getfield 46, 3) := by decide +kernel
theorem dX12_callNow_4 : decode cX12_callNow 4 = .ok (.iconst 2, 1) := by decide +kernel
theorem dX12_callNow_5 : decode cX12_callNow 5 = .ok (.iaload, 1) := by decide +kernel
theorem dX12_callNow_6 : decode cX12_callNow 6 = .ok (.aload_n 0, 1) := by decide +kernel
theorem dX12_callNow_7 : decode cX12_callNow 7 = .ok (.iload_n 1, 1) := by decide +kernel
theorem dX12_callNow_8 : decode cX12_callNow 8 = .ok (.iconst 5, 1) := by decide +kernel
theorem dX12_callNow_9 : decode cX12_callNow 9 = .ok (.invokevirtual 287, 3) := by decide +kernel
theorem dX12_callNow_12 : decode cX12_callNow 12 = .ok (.imul, 1) := by decide +kernel
theorem dX12_callNow_13 : decode cX12_callNow 13 = .ok (.istore_n 2, 1) := by decide +kernel
theorem dX12_callNow_14 : decode cX12_callNow 14 = .ok (.aload_n 0, 1) := by decide +kernel
theorem dX12_callNow_15 : decode cX12_callNow 15 = .ok (.getfield 52, 3) := by decide +kernel
theorem dX12_callNow_18 : decode cX12_callNow 18 = .ok (.bipush 64, 2) := by decide +kernel
theorem dX12_callNow_20 : decode cX12_callNow 20 = .ok (.sipush 999, 3) := by decide +kernel
theorem dX12_callNow_23 : decode cX12_callNow 23 = .ok (.aload_n 0, 1) := by decide +kernel
theorem dX12_callNow_24 : decode cX12_callNow 24 = .ok (.getfield 52, 3) := by decide +kernel
theorem dX12_callNow_27 : decode cX12_callNow 27 = .ok (.bipush 64, 2) := by decide +kernel
theorem dX12_callNow_29 : decode cX12_callNow 29 = .ok (.iaload, 1) := by decide +kernel
theorem dX12_callNow_30 : decode cX12_callNow 30 = .ok (.iload_n 2, 1) := by decide +kernel
theorem dX12_callNow_31 : decode cX12_callNow 31 = .ok (.iadd, 1) := by decide +kernel
theorem dX12_callNow_32 : decode cX12_callNow 32 = .ok (.invokestatic 299, 3) := by decide +kernel
theorem dX12_callNow_35 : decode cX12_callNow 35 = .ok (.iastore, 1) := by decide +kernel
theorem dX12_callNow_36 : decode cX12_callNow 36 = .ok (.aload_n 0, 1) := by decide +kernel
theorem dX12_callNow_37 : decode cX12_callNow 37 = .ok (.iload_n 1, 1) := by decide +kernel
theorem dX12_callNow_38 : decode cX12_callNow 38 = .ok (.bipush 7, 2) := by decide +kernel
theorem dX12_callNow_40 : decode cX12_callNow 40 = .ok (.iconst 0, 1) := by decide +kernel
theorem dX12_callNow_41 : decode cX12_callNow 41 = .ok (.invokevirtual 258, 3) := by decide +kernel
theorem dX12_callNow_44 : decode cX12_callNow 44 = .ok (.iload_n 2, 1) := by decide +kernel
theorem dX12_callNow_45 : decode cX12_callNow 45 = .ok (.ireturn, 1) := by decide +kernel
theorem dX12_call_0 : decode cX12_call 0 = .ok (.aload_n 0, 1) := by decide +kernel
theorem dX12_call_1 : decode cX12_call 1 = .ok (.aload_n 0, 1) := by decide +kernel
theorem dX12_call_2 : decode cX12_call 2 = .ok (.iload_n 1, 1) := by decide +kernel
theorem dX12_call_3 : decode cX12_call 3 = .ok (.invokevirtual 290, 3) := by decide +kernel
theorem dX12_call_6 : decode cX12_call 6 = .ok (.ifCond .ne 7, 3) := by decide +kernel
theorem dX12_call_9 : decode cX12_call 9 = .ok (.iconst 0, 1) := by decide +kernel
theorem dX12_call_10 : decode cX12_call 10 = .ok (.goto 4, 3) := by decide +kernel
theorem dX12_call_13 : decode cX12_call 13 = .ok (.iconst (-1), 1) := by decide +kernel
theorem dX12_call_14 : decode cX12_call 14 = .ok (.invokevirtual 339, 3) := by decide +kernel
theorem dX12_call_17 : decode cX12_call 17 = .ok (.ifCond .eq 5, 3) := by decide +kernel
theorem dX12_call_20 : decode cX12_call 20 = .ok (.iconst (-1), 1) := by decide +kernel
theorem dX12_call_21 : decode cX12_call 21 = .ok (.ireturn, 1) := by decide +kernel
theorem dX12_call_22 : decode cX12_call 22 = .ok (.aload_n 0, 1) := by decide +kernel
theorem dX12_call_23 : decode cX12_call 23 = .ok (.invokevirtual 342, 3) := by decide +kernel
theorem dX12_call_26 : decode cX12_call 26 = .ok (.aload_n 0, 1) := by decide +kernel
theorem dX12_call_27 : decode cX12_call 27 = .ok (.iload_n 1, 1) := by decide +kernel
theorem dX12_call_28 : decode cX12_call 28 = .ok (.invokevirtual 358, 3) := by decide +kernel
theorem dX12_call_31 : decode cX12_call 31 = .ok (.ireturn, 1) := by decide +kernel
theorem dX12_move_0 : decode cX12_move 0 = .ok (.aload_n 0, 1) := by decide +kernel
theorem dX12_move_1 : decode cX12_move 1 = .ok (.aload_n 0, 1) := by decide +kernel
theorem dX12_move_2 : decode cX12_move 2 = .ok (.iload_n 1, 1) := by decide +kernel
theorem dX12_move_3 : decode cX12_move 3 = .ok (.invokevirtual 290, 3) := by decide +kernel
theorem dX12_move_6 : decode cX12_move 6 = .ok (.ifCond .ne 7, 3) := by decide +kernel
theorem dX12_move_9 : decode cX12_move 9 = .ok (.iconst 0, 1) := by decide +kernel
theorem dX12_move_10 : decode cX12_move 10 = .ok (.goto 71, 3) := by decide +kernel
theorem dX12_move_13 : decode cX12_move 13 = .ok (.aload_n 0, 1) := by decide +kernel
theorem dX12_move_14 : decode cX12_move 14 = .ok (.iload_n 2, 1) := by decide +kernel
theorem dX12_move_15 : decode cX12_move 15 = .ok (.invokevirtual 333, 3) := by decide +kernel
theorem dX12_move_18 : decode cX12_move 18 = .ok (.ifCond .ne 13, 3) := by decide +kernel
theorem dX12_move_21 : decode cX12_move 21 = .ok (.iload_n 2, 1) := by decide +kernel
theorem dX12_move_22 : decode cX12_move 22 = .ok (.bipush 9, 2) := by decide +kernel
theorem dX12_move_24 : decode cX12_move 24 = .ok (.if_icmp .eq 7, 3) := by decide +kernel
theorem dX12_move_27 : decode cX12_move 27 = .ok (.iconst 1, 1) := by decide +kernel
theorem dX12_move_28 : decode cX12_move 28 = .ok (.goto 53, 3) := by decide +kernel
theorem dX12_move_31 : decode cX12_move 31 = .ok (.aload_n 0, 1) := by decide +kernel
theorem dX12_move_32 : decode cX12_move 32 = .ok (.iload_n 1, 1) := by decide +kernel
theorem dX12_move_33 : decode cX12_move 33 = .ok (.iconst 3, 1) := by decide +kernel
theorem dX12_move_34 : decode cX12_move 34 = .ok (.invokevirtual 287, 3) := by decide +kernel
theorem dX12_move_37 : decode cX12_move 37 = .ok (.iload_n 2, 1) := by decide +kernel
theorem dX12_move_38 : decode cX12_move 38 = .ok (.if_icmp .ne 7, 3) := by decide +kernel
theorem dX12_move_41 : decode cX12_move 41 = .ok (.iconst 2, 1) := by decide +kernel
theorem dX12_move_42 : decode cX12_move 42 = .ok (.goto 39, 3) := by decide +kernel
theorem dX12_move_45 : decode cX12_move 45 = .ok (.iload_n 2, 1) := by decide +kernel
theorem dX12_move_46 : decode cX12_move 46 = .ok (.bipush 9, 2) := by decide +kernel
theorem dX12_move_48 : decode cX12_move 48 = .ok (.if_icmp .eq 32, 3) := by decide +kernel
theorem dX12_move_51 : decode cX12_move 51 = .ok (.aload_n 0, 1) := by decide +kernel
theorem dX12_move_52 : decode cX12_move 52 = .ok (.getfield 52, 3) := by decide +kernel
theorem dX12_move_55 : decode cX12_move 55 = .ok (.bipush 64, 2) := by decide +kernel
theorem dX12_move_57 : decode cX12_move 57 = .ok (.iaload, 1) := by decide +kernel
theorem dX12_move_58 : decode cX12_move 58 = .ok (.iconst 1, 1) := by decide +kernel
theorem dX12_move_59 : decode cX12_move 59 = .ok (.if_icmp .lt 17, 3) := by decide +kernel
theorem dX12_move_62 : decode cX12_move 62 = .ok (.aload_n 0, 1) := by decide +kernel
theorem dX12_move_63 : decode cX12_move 63 = .ok (.iload_n 2, 1) := by decide +kernel
theorem dX12_move_64 : decode cX12_move 64 = .ok (.aload_n 0, 1) := by decide +kernel
theorem dX12_move_65 : decode cX12_move 65 = .ok (.iload_n 1, 1) := by decide +kernel
theorem dX12_move_66 : decode cX12_move 66 = .ok (.iconst 0, 1) := by decide +kernel
theorem dX12_move_67 : decode cX12_move 67 = .ok (.invokevirtual 287, 3) := by decide +kernel
theorem dX12_move_70 : decode cX12_move 70 = .ok (.invokevirtual 351, 3) := by decide +kernel
theorem dX12_move_73 : decode cX12_move 73 = .ok (.ifCond .ne 7, 3) := by decide +kernel
theorem dX12_move_76 : decode cX12_move 76 = .ok (.iconst 3, 1) := by decide +kernel
theorem dX12_move_77 : decode cX12_move 77 = .ok (.goto 4, 3) := by decide +kernel
theorem dX12_move_80 : decode cX12_move 80 = .ok (.iconst (-1), 1) := by decide +kernel
theorem dX12_move_81 : decode cX12_move 81 = .ok (.invokevirtual 339, 3) := by decide +kernel
theorem dX12_move_84 : decode cX12_move 84 = .ok (.ifCond .eq 5, 3) := by decide +kernel
theorem dX12_move_87 : decode cX12_move 87 = .ok (.iconst (-1), 1) := by decide +kernel
theorem dX12_move_88 : decode cX12_move 88 = .ok (.ireturn, 1) := by decide +kernel
theorem dX12_move_89 : decode cX12_move 89 = .ok (.aload_n 0, 1) := by decide +kernel
theorem dX12_move_90 : decode cX12_move 90 = .ok (.invokevirtual 342, 3) := by decide +kernel
theorem dX12_move_93 : decode cX12_move 93 = .ok (.aload_n 0, 1) := by decide +kernel
theorem dX12_move_94 : decode cX12_move 94 = .ok (.iload_n 1, 1) := by decide +kernel
theorem dX12_move_95 : decode cX12_move 95 = .ok (.iconst 3, 1) := by decide +kernel
theorem dX12_move_96 : decode cX12_move 96 = .ok (.invokevirtual 287, 3) := by decide +kernel
theorem dX12_move_99 : decode cX12_move 99 = .ok (.istore_n 3, 1) := by decide +kernel
theorem dX12_move_100 : decode cX12_move 100 = .ok (.aload_n 0, 1) := by decide +kernel
theorem dX12_move_101 : decode cX12_move 101 = .ok (.getfield 52, 3) := by decide +kernel
theorem dX12_move_104 : decode cX12_move 104 = .ok (.bipush 64, 2) := by decide +kernel
theorem dX12_move_106 : decode cX12_move 106 = .ok (.dup2, 1) := by decide +kernel
theorem dX12_move_107 : decode cX12_move 107 = .ok (.iaload, 1) := by decide +kernel
theorem dX12_move_108 : decode cX12_move 108 = .ok (.iload_n 2, 1) := by decide +kernel
theorem dX12_move_109 : decode cX12_move 109 = .ok (.bipush 9, 2) := by decide +kernel
theorem dX12_move_111 : decode cX12_move 111 = .ok (.if_icmp .ne 7, 3) := by decide +kernel
theorem dX12_move_114 : decode cX12_move 114 = .ok (.iconst 0, 1) := by decide +kernel
theorem dX12_move_115 : decode cX12_move 115 = .ok (.goto 4, 3) := by decide +kernel
theorem dX12_move_118 : decode cX12_move 118 = .ok (.iconst 1, 1) := by decide +kernel
theorem dX12_move_119 : decode cX12_move 119 = .ok (.isub, 1) := by decide +kernel
theorem dX12_move_120 : decode cX12_move 120 = .ok (.iastore, 1) := by decide +kernel
theorem dX12_move_121 : decode cX12_move 121 = .ok (.aload_n 0, 1) := by decide +kernel
theorem dX12_move_122 : decode cX12_move 122 = .ok (.iload_n 1, 1) := by decide +kernel
theorem dX12_move_123 : decode cX12_move 123 = .ok (.iconst 3, 1) := by decide +kernel
theorem dX12_move_124 : decode cX12_move 124 = .ok (.iload_n 2, 1) := by decide +kernel
theorem dX12_move_125 : decode cX12_move 125 = .ok (.invokevirtual 258, 3) := by decide +kernel
theorem dX12_move_128 : decode cX12_move 128 = .ok (.iload_n 3, 1) := by decide +kernel
theorem dX12_move_129 : decode cX12_move 129 = .ok (.ireturn, 1) := by decide +kernel
theorem dX12_hush_0 : decode cX12_hush 0 = .ok (.aload_n 0, 1) := by decide +kernel
theorem dX12_hush_1 : decode cX12_hush 1 = .ok (.aload_n 0, 1) := by decide +kernel
theorem dX12_hush_2 : decode cX12_hush 2 = .ok (.iload_n 1, 1) := by decide +kernel
theorem dX12_hush_3 : decode cX12_hush 3 = .ok (.invokevirtual 290, 3) := by decide +kernel
theorem dX12_hush_6 : decode cX12_hush 6 = .ok (.ifCond .ne 7, 3) := by decide +kernel
theorem dX12_hush_9 : decode cX12_hush 9 = .ok (.iconst 0, 1) := by decide +kernel
theorem dX12_hush_10 : decode cX12_hush 10 = .ok (.goto 34, 3) := by decide +kernel
theorem dX12_hush_13 : decode cX12_hush 13 = .ok (.aload_n 0, 1) := by decide +kernel
theorem dX12_hush_14 : decode cX12_hush 14 = .ok (.iload_n 1, 1) := by decide +kernel
theorem dX12_hush_15 : decode cX12_hush 15 = .ok (.bipush 6, 2) := by decide +kernel
theorem dX12_hush_17 : decode cX12_hush 17 = .ok (.invokevirtual 287, 3) := by decide +kernel
theorem dX12_hush_20 : decode cX12_hush 20 = .ok (.iconst 1, 1) := by decide +kernel
theorem dX12_hush_21 : decode cX12_hush 21 = .ok (.if_icmp .ne 7, 3) := by decide +kernel
theorem dX12_hush_24 : decode cX12_hush 24 = .ok (.iconst 2, 1) := by decide +kernel
theorem dX12_hush_25 : decode cX12_hush 25 = .ok (.goto 19, 3) := by decide +kernel
theorem dX12_hush_28 : decode cX12_hush 28 = .ok (.aload_n 0, 1) := by decide +kernel
theorem dX12_hush_29 : decode cX12_hush 29 = .ok (.getfield 52, 3) := by decide +kernel
theorem dX12_hush_32 : decode cX12_hush 32 = .ok (.bipush 64, 2) := by decide +kernel
theorem dX12_hush_34 : decode cX12_hush 34 = .ok (.iaload, 1) := by decide +kernel
theorem dX12_hush_35 : decode cX12_hush 35 = .ok (.iconst 1, 1) := by decide +kernel
theorem dX12_hush_36 : decode cX12_hush 36 = .ok (.if_icmp .ge 7, 3) := by decide +kernel
theorem dX12_hush_39 : decode cX12_hush 39 = .ok (.iconst 3, 1) := by decide +kernel
theorem dX12_hush_40 : decode cX12_hush 40 = .ok (.goto 4, 3) := by decide +kernel
theorem dX12_hush_43 : decode cX12_hush 43 = .ok (.iconst (-1), 1) := by decide +kernel
theorem dX12_hush_44 : decode cX12_hush 44 = .ok (.invokevirtual 339, 3) := by decide +kernel
theorem dX12_hush_47 : decode cX12_hush 47 = .ok (.ifCond .eq 5, 3) := by decide +kernel
theorem dX12_hush_50 : decode cX12_hush 50 = .ok (.iconst (-1), 1) := by decide +kernel
theorem dX12_hush_51 : decode cX12_hush 51 = .ok (.ireturn, 1) := by decide +kernel
theorem dX12_hush_52 : decode cX12_hush 52 = .ok (.aload_n 0, 1) := by decide +kernel
theorem dX12_hush_53 : decode cX12_hush 53 = .ok (.invokevirtual 342, 3) := by decide +kernel
theorem dX12_hush_56 : decode cX12_hush 56 = .ok (.aload_n 0, 1) := by decide +kernel
theorem dX12_hush_57 : decode cX12_hush 57 = .ok (.getfield 52, 3) := by decide +kernel
theorem dX12_hush_60 : decode cX12_hush 60 = .ok (.bipush 64, 2) := by decide +kernel
theorem dX12_hush_62 : decode cX12_hush 62 = .ok (.dup2, 1) := by decide +kernel
theorem dX12_hush_63 : decode cX12_hush 63 = .ok (.iaload, 1) := by decide +kernel
theorem dX12_hush_64 : decode cX12_hush 64 = .ok (.iconst 1, 1) := by decide +kernel
theorem dX12_hush_65 : decode cX12_hush 65 = .ok (.isub, 1) := by decide +kernel
theorem dX12_hush_66 : decode cX12_hush 66 = .ok (.iastore, 1) := by decide +kernel
theorem dX12_hush_67 : decode cX12_hush 67 = .ok (.aload_n 0, 1) := by decide +kernel
theorem dX12_hush_68 : decode cX12_hush 68 = .ok (.iload_n 1, 1) := by decide +kernel
theorem dX12_hush_69 : decode cX12_hush 69 = .ok (.bipush 6, 2) := by decide +kernel
theorem dX12_hush_71 : decode cX12_hush 71 = .ok (.iconst 1, 1) := by decide +kernel
theorem dX12_hush_72 : decode cX12_hush 72 = .ok (.invokevirtual 258, 3) := by decide +kernel
theorem dX12_hush_75 : decode cX12_hush 75 = .ok (.aload_n 0, 1) := by decide +kernel
theorem dX12_hush_76 : decode cX12_hush 76 = .ok (.getfield 52, 3) := by decide +kernel
theorem dX12_hush_79 : decode cX12_hush 79 = .ok (.bipush 64, 2) := by decide +kernel
theorem dX12_hush_81 : decode cX12_hush 81 = .ok (.iaload, 1) := by decide +kernel
theorem dX12_hush_82 : decode cX12_hush 82 = .ok (.ireturn, 1) := by decide +kernel
theorem dX12_sell_0 : decode cX12_sell 0 = .ok (.aload_n 0, 1) := by decide +kernel
theorem dX12_sell_1 : decode cX12_sell 1 = .ok (.aload_n 0, 1) := by decide +kernel
theorem dX12_sell_2 : decode cX12_sell 2 = .ok (.iload_n 1, 1) := by decide +kernel
theorem dX12_sell_3 : decode cX12_sell 3 = .ok (.invokevirtual 290, 3) := by decide +kernel
theorem dX12_sell_6 : decode cX12_sell 6 = .ok (.ifCond .ne 7, 3) := by decide +kernel
theorem dX12_sell_9 : decode cX12_sell 9 = .ok (.iconst 0, 1) := by decide +kernel
theorem dX12_sell_10 : decode cX12_sell 10 = .ok (.goto 19, 3) := by decide +kernel
theorem dX12_sell_13 : decode cX12_sell 13 = .ok (.aload_n 0, 1) := by decide +kernel
theorem dX12_sell_14 : decode cX12_sell 14 = .ok (.iload_n 1, 1) := by decide +kernel
theorem dX12_sell_15 : decode cX12_sell 15 = .ok (.iconst 5, 1) := by decide +kernel
theorem dX12_sell_16 : decode cX12_sell 16 = .ok (.invokevirtual 287, 3) := by decide +kernel
theorem dX12_sell_19 : decode cX12_sell 19 = .ok (.bipush 7, 2) := by decide +kernel
theorem dX12_sell_21 : decode cX12_sell 21 = .ok (.if_icmp .ge 7, 3) := by decide +kernel
theorem dX12_sell_24 : decode cX12_sell 24 = .ok (.iconst 2, 1) := by decide +kernel
theorem dX12_sell_25 : decode cX12_sell 25 = .ok (.goto 4, 3) := by decide +kernel
theorem dX12_sell_28 : decode cX12_sell 28 = .ok (.iconst (-1), 1) := by decide +kernel
theorem dX12_sell_29 : decode cX12_sell 29 = .ok (.invokevirtual 339, 3) := by decide +kernel
theorem dX12_sell_32 : decode cX12_sell 32 = .ok (.ifCond .eq 5, 3) := by decide +kernel
theorem dX12_sell_35 : decode cX12_sell 35 = .ok (.iconst (-1), 1) := by decide +kernel
theorem dX12_sell_36 : decode cX12_sell 36 = .ok (.ireturn, 1) := by decide +kernel
theorem dX12_sell_37 : decode cX12_sell 37 = .ok (.aload_n 0, 1) := by decide +kernel
theorem dX12_sell_38 : decode cX12_sell 38 = .ok (.invokevirtual 342, 3) := by decide +kernel
theorem dX12_sell_41 : decode cX12_sell 41 = .ok (.aload_n 0, 1) := by decide +kernel
theorem dX12_sell_42 : decode cX12_sell 42 = .ok (.getfield 52, 3) := by decide +kernel
theorem dX12_sell_45 : decode cX12_sell 45 = .ok (.bipush 64, 2) := by decide +kernel
theorem dX12_sell_47 : decode cX12_sell 47 = .ok (.sipush 999, 3) := by decide +kernel
theorem dX12_sell_50 : decode cX12_sell 50 = .ok (.aload_n 0, 1) := by decide +kernel
theorem dX12_sell_51 : decode cX12_sell 51 = .ok (.getfield 52, 3) := by decide +kernel
theorem dX12_sell_54 : decode cX12_sell 54 = .ok (.bipush 64, 2) := by decide +kernel
theorem dX12_sell_56 : decode cX12_sell 56 = .ok (.iaload, 1) := by decide +kernel
theorem dX12_sell_57 : decode cX12_sell 57 = .ok (.aload_n 0, 1) := by decide +kernel
theorem dX12_sell_58 : decode cX12_sell 58 = .ok (.iload_n 1, 1) := by decide +kernel
theorem dX12_sell_59 : decode cX12_sell 59 = .ok (.iconst 0, 1) := by decide +kernel
theorem dX12_sell_60 : decode cX12_sell 60 = .ok (.invokevirtual 287, 3) := by decide +kernel
theorem dX12_sell_63 : decode cX12_sell 63 = .ok (.iadd, 1) := by decide +kernel
theorem dX12_sell_64 : decode cX12_sell 64 = .ok (.invokestatic 299, 3) := by decide +kernel
theorem dX12_sell_67 : decode cX12_sell 67 = .ok (.iastore, 1) := by decide +kernel
theorem dX12_sell_68 : decode cX12_sell 68 = .ok (.aload_n 0, 1) := by decide +kernel
theorem dX12_sell_69 : decode cX12_sell 69 = .ok (.iload_n 1, 1) := by decide +kernel
theorem dX12_sell_70 : decode cX12_sell 70 = .ok (.bipush 7, 2) := by decide +kernel
theorem dX12_sell_72 : decode cX12_sell 72 = .ok (.iconst 0, 1) := by decide +kernel
theorem dX12_sell_73 : decode cX12_sell 73 = .ok (.invokevirtual 258, 3) := by decide +kernel
theorem dX12_sell_76 : decode cX12_sell 76 = .ok (.aload_n 0, 1) := by decide +kernel
theorem dX12_sell_77 : decode cX12_sell 77 = .ok (.iload_n 1, 1) := by decide +kernel
theorem dX12_sell_78 : decode cX12_sell 78 = .ok (.iconst 0, 1) := by decide +kernel
theorem dX12_sell_79 : decode cX12_sell 79 = .ok (.invokevirtual 287, 3) := by decide +kernel
theorem dX12_sell_82 : decode cX12_sell 82 = .ok (.ireturn, 1) := by decide +kernel
theorem dX12_give_0 : decode cX12_give 0 = .ok (.aload_n 0, 1) := by decide +kernel
theorem dX12_give_1 : decode cX12_give 1 = .ok (.aload_n 0, 1) := by decide +kernel
theorem dX12_give_2 : decode cX12_give 2 = .ok (.getfield 262, 3) := by decide +kernel
theorem dX12_give_5 : decode cX12_give 5 = .ok (.ifCond .ne 7, 3) := by decide +kernel
theorem dX12_give_8 : decode cX12_give 8 = .ok (.iconst 0, 1) := by decide +kernel
theorem dX12_give_9 : decode cX12_give 9 = .ok (.goto 33, 3) := by decide +kernel
theorem dX12_give_12 : decode cX12_give 12 = .ok (.iload_n 1, 1) := by decide +kernel
theorem dX12_give_13 : decode cX12_give 13 = .ok (.iconst 1, 1) := by decide +kernel
theorem dX12_give_14 : decode cX12_give 14 = .ok (.bipush 50, 2) := by decide +kernel
theorem dX12_give_16 : decode cX12_give 16 = .ok (.invokestatic 217, 3) := by decide +kernel
theorem dX12_give_19 : decode cX12_give 19 = .ok (.ifCond .eq 18, 3) := by decide +kernel
theorem dX12_give_22 : decode cX12_give 22 = .ok (.aload_n 0, 1) := by decide +kernel
theorem dX12_give_23 : decode cX12_give 23 = .ok (.getfield 52, 3) := by decide +kernel
theorem dX12_give_26 : decode cX12_give 26 = .ok (.bipush 64, 2) := by decide +kernel
theorem dX12_give_28 : decode cX12_give 28 = .ok (.iaload, 1) := by decide +kernel
theorem dX12_give_29 : decode cX12_give 29 = .ok (.iload_n 1, 1) := by decide +kernel
theorem dX12_give_30 : decode cX12_give 30 = .ok (.iadd, 1) := by decide +kernel
theorem dX12_give_31 : decode cX12_give 31 = .ok (.sipush 999, 3) := by decide +kernel
theorem dX12_give_34 : decode cX12_give 34 = .ok (.if_icmp .le 7, 3) := by decide +kernel
theorem dX12_give_37 : decode cX12_give 37 = .ok (.iconst 1, 1) := by decide +kernel
theorem dX12_give_38 : decode cX12_give 38 = .ok (.goto 4, 3) := by decide +kernel
theorem dX12_give_41 : decode cX12_give 41 = .ok (.iconst (-1), 1) := by decide +kernel
theorem dX12_give_42 : decode cX12_give 42 = .ok (.invokevirtual 339, 3) := by decide +kernel
theorem dX12_give_45 : decode cX12_give 45 = .ok (.ifCond .eq 5, 3) := by decide +kernel
theorem dX12_give_48 : decode cX12_give 48 = .ok (.iconst (-1), 1) := by decide +kernel
theorem dX12_give_49 : decode cX12_give 49 = .ok (.ireturn, 1) := by decide +kernel
theorem dX12_give_50 : decode cX12_give 50 = .ok (.aload_n 0, 1) := by decide +kernel
theorem dX12_give_51 : decode cX12_give 51 = .ok (.invokevirtual 342, 3) := by decide +kernel
theorem dX12_give_54 : decode cX12_give 54 = .ok (.aload_n 0, 1) := by decide +kernel
theorem dX12_give_55 : decode cX12_give 55 = .ok (.getfield 52, 3) := by decide +kernel
theorem dX12_give_58 : decode cX12_give 58 = .ok (.bipush 64, 2) := by decide +kernel
theorem dX12_give_60 : decode cX12_give 60 = .ok (.dup2, 1) := by decide +kernel
theorem dX12_give_61 : decode cX12_give 61 = .ok (.iaload, 1) := by decide +kernel
theorem dX12_give_62 : decode cX12_give 62 = .ok (.iload_n 1, 1) := by decide +kernel
theorem dX12_give_63 : decode cX12_give 63 = .ok (.iadd, 1) := by decide +kernel
theorem dX12_give_64 : decode cX12_give 64 = .ok (.iastore, 1) := by decide +kernel
theorem dX12_give_65 : decode cX12_give 65 = .ok (.aload_n 0, 1) := by decide +kernel
theorem dX12_give_66 : decode cX12_give 66 = .ok (.getfield 52, 3) := by decide +kernel
theorem dX12_give_69 : decode cX12_give 69 = .ok (.bipush 64, 2) := by decide +kernel
theorem dX12_give_71 : decode cX12_give 71 = .ok (.iaload, 1) := by decide +kernel
theorem dX12_give_72 : decode cX12_give 72 = .ok (.ireturn, 1) := by decide +kernel
theorem dX12_trains_0 : decode cX12_trains 0 = .ok (.iload_n 1, 1) := by decide +kernel
theorem dX12_trains_1 : decode cX12_trains 1 = .ok (.iconst 0, 1) := by decide +kernel
theorem dX12_trains_2 : decode cX12_trains 2 = .ok (.bipush 9, 2) := by decide +kernel
theorem dX12_trains_4 : decode cX12_trains 4 = .ok (.invokestatic 217, 3) := by decide +kernel
theorem dX12_trains_7 : decode cX12_trains 7 = .ok (.ifCond .eq 11, 3) := by decide +kernel
theorem dX12_trains_10 : decode cX12_trains 10 = .ok (.iload_n 1, 1) := by decide +kernel
theorem dX12_trains_11 : decode cX12_trains 11 = .ok (.aload_n 0, 1) := by decide +kernel
theorem dX12_trains_12 : decode cX12_trains 12 = .ok (.getfield 62, 3) := by decide +kernel
theorem dX12_trains_15 : decode cX12_trains 15 = .ok (.if_icmp .ne 5, 3) := by decide +kernel
theorem dX12_trains_18 : decode cX12_trains 18 = .ok (.iconst 0, 1) := by decide +kernel
theorem dX12_trains_19 : decode cX12_trains 19 = .ok (.ireturn, 1) := by decide +kernel
theorem dX12_trains_20 : decode cX12_trains 20 = .ok (.aload_n 0, 1) := by decide +kernel
theorem dX12_trains_21 : decode cX12_trains 21 = .ok (.iload_n 1, 1) := by decide +kernel
theorem dX12_trains_22 : decode cX12_trains 22 = .ok (.putfield 62, 3) := by decide +kernel
theorem dX12_trains_25 : decode cX12_trains 25 = .ok (.iconst 1, 1) := by decide +kernel
theorem dX12_trains_26 : decode cX12_trains 26 = .ok (.ireturn, 1) := by decide +kernel
theorem dX12_draw_0 : decode cX12_draw 0 = .ok (.aload_n 0, 1) := by decide +kernel
theorem dX12_draw_1 : decode cX12_draw 1 = .ok (.aload_n 0, 1) := by decide +kernel
theorem dX12_draw_2 : decode cX12_draw 2 = .ok (.getfield 361, 3) := by decide +kernel
theorem dX12_draw_5 : decode cX12_draw 5 = .ok (.ldc2_w 365, 3) := by decide +kernel
theorem dX12_draw_8 : decode cX12_draw 8 = .ok (.lmul, 1) := by decide +kernel
theorem dX12_draw_9 : decode cX12_draw 9 = .ok (.ldc2_w 367, 3) := by decide +kernel
theorem dX12_draw_12 : decode cX12_draw 12 = .ok (.ladd, 1) := by decide +kernel
theorem dX12_draw_13 : decode cX12_draw 13 = .ok (.putfield 361, 3) := by decide +kernel
theorem dX12_draw_16 : decode cX12_draw 16 = .ok (.aload_n 0, 1) := by decide +kernel
theorem dX12_draw_17 : decode cX12_draw 17 = .ok (.getfield 361, 3) := by decide +kernel
theorem dX12_draw_20 : decode cX12_draw 20 = .ok (.bipush 33, 2) := by decide +kernel
theorem dX12_draw_22 : decode cX12_draw 22 = .ok (.lushr, 1) := by decide +kernel
theorem dX12_draw_23 : decode cX12_draw 23 = .ok (.iload_n 1, 1) := by decide +kernel
theorem dX12_draw_24 : decode cX12_draw 24 = .ok (.i2l, 1) := by decide +kernel
theorem dX12_draw_25 : decode cX12_draw 25 = .ok (.lrem, 1) := by decide +kernel
theorem dX12_draw_26 : decode cX12_draw 26 = .ok (.l2i, 1) := by decide +kernel
theorem dX12_draw_27 : decode cX12_draw 27 = .ok (.ireturn, 1) := by decide +kernel
theorem dX12_drawDay_0 : decode cX12_drawDay 0 = .ok (.aload_n 0, 1) := by decide +kernel
theorem dX12_drawDay_1 : decode cX12_drawDay 1 = .ok (.bipush 10, 2) := by decide +kernel
theorem dX12_drawDay_3 : decode cX12_drawDay 3 = .ok (.invokevirtual 369, 3) := by decide +kernel
theorem dX12_drawDay_6 : decode cX12_drawDay 6 = .ok (.aload_n 0, 1) := by decide +kernel
theorem dX12_drawDay_7 : decode cX12_drawDay 7 = .ok (.getfield 62, 3) := by decide +kernel
theorem dX12_drawDay_10 : decode cX12_drawDay 10 = .ok (.if_icmp .ge 66, 3) := by decide +kernel
theorem dX12_drawDay_13 : decode cX12_drawDay 13 = .ok (.aload_n 0, 1) := by decide +kernel
theorem dX12_drawDay_14 : decode cX12_drawDay 14 = .ok (.bipush 9, 2) := by decide +kernel
theorem dX12_drawDay_16 : decode cX12_drawDay 16 = .ok (.invokevirtual 369, 3) := by decide +kernel
theorem dX12_drawDay_19 : decode cX12_drawDay 19 = .ok (.iconst 1, 1) := by decide +kernel
theorem dX12_drawDay_20 : decode cX12_drawDay 20 = .ok (.iadd, 1) := by decide +kernel
theorem dX12_drawDay_21 : decode cX12_drawDay 21 = .ok (.istore_n 1, 1) := by decide +kernel
theorem dX12_drawDay_22 : decode cX12_drawDay 22 = .ok (.aload_n 0, 1) := by decide +kernel
theorem dX12_drawDay_23 : decode cX12_drawDay 23 = .ok (.bipush 10, 2) := by decide +kernel
theorem dX12_drawDay_25 : decode cX12_drawDay 25 = .ok (.invokevirtual 369, 3) := by decide +kernel
theorem dX12_drawDay_28 : decode cX12_drawDay 28 = .ok (.istore_n 2, 1) := by decide +kernel
theorem dX12_drawDay_29 : decode cX12_drawDay 29 = .ok (.aload_n 0, 1) := by decide +kernel
theorem dX12_drawDay_30 : decode cX12_drawDay 30 = .ok (.bipush 10, 2) := by decide +kernel
theorem dX12_drawDay_32 : decode cX12_drawDay 32 = .ok (.invokevirtual 369, 3) := by decide +kernel
theorem dX12_drawDay_35 : decode cX12_drawDay 35 = .ok (.istore_n 3, 1) := by decide +kernel
theorem dX12_drawDay_36 : decode cX12_drawDay 36 = .ok (.aload_n 0, 1) := by decide +kernel
theorem dX12_drawDay_37 : decode cX12_drawDay 37 = .ok (.aload_n 0, 1) := by decide +kernel
theorem dX12_drawDay_38 : decode cX12_drawDay 38 = .ok (.getfield 46, 3) := by decide +kernel
theorem dX12_drawDay_41 : decode cX12_drawDay 41 = .ok (.iconst 1, 1) := by decide +kernel
theorem dX12_drawDay_42 : decode cX12_drawDay 42 = .ok (.iaload, 1) := by decide +kernel
theorem dX12_drawDay_43 : decode cX12_drawDay 43 = .ok (.invokevirtual 369, 3) := by decide +kernel
theorem dX12_drawDay_46 : decode cX12_drawDay 46 = .ok (.istore 4, 2) := by decide +kernel
theorem dX12_drawDay_48 : decode cX12_drawDay 48 = .ok (.aload_n 0, 1) := by decide +kernel
theorem dX12_drawDay_49 : decode cX12_drawDay 49 = .ok (.iload 4, 2) := by decide +kernel
theorem dX12_drawDay_51 : decode cX12_drawDay 51 = .ok (.iload_n 1, 1) := by decide +kernel
theorem dX12_drawDay_52 : decode cX12_drawDay 52 = .ok (.invokevirtual 351, 3) := by decide +kernel
theorem dX12_drawDay_55 : decode cX12_drawDay 55 = .ok (.ifCond .eq 21, 3) := by decide +kernel
theorem dX12_drawDay_58 : decode cX12_drawDay 58 = .ok (.aload_n 0, 1) := by decide +kernel
theorem dX12_drawDay_59 : decode cX12_drawDay 59 = .ok (.invokevirtual 348, 3) := by decide +kernel
theorem dX12_drawDay_62 : decode cX12_drawDay 62 = .ok (.iconst (-1), 1) := by decide +kernel
theorem dX12_drawDay_63 : decode cX12_drawDay 63 = .ok (.if_icmp .eq 13, 3) := by decide +kernel
theorem dX12_drawDay_66 : decode cX12_drawDay 66 = .ok (.aload_n 0, 1) := by decide +kernel
theorem dX12_drawDay_67 : decode cX12_drawDay 67 = .ok (.iload_n 1, 1) := by decide +kernel
theorem dX12_drawDay_68 : decode cX12_drawDay 68 = .ok (.iload_n 2, 1) := by decide +kernel
theorem dX12_drawDay_69 : decode cX12_drawDay 69 = .ok (.iload_n 3, 1) := by decide +kernel
theorem dX12_drawDay_70 : decode cX12_drawDay 70 = .ok (.iload 4, 2) := by decide +kernel
theorem dX12_drawDay_72 : decode cX12_drawDay 72 = .ok (.invokevirtual 354, 3) := by decide +kernel
theorem dX12_drawDay_75 : decode cX12_drawDay 75 = .ok (.pop, 1) := by decide +kernel
theorem dX12_drawDay_76 : decode cX12_drawDay 76 = .ok (.aload_n 0, 1) := by decide +kernel
theorem dX12_drawDay_77 : decode cX12_drawDay 77 = .ok (.bipush 16, 2) := by decide +kernel
theorem dX12_drawDay_79 : decode cX12_drawDay 79 = .ok (.invokevirtual 369, 3) := by decide +kernel
theorem dX12_drawDay_82 : decode cX12_drawDay 82 = .ok (.istore_n 1, 1) := by decide +kernel
theorem dX12_drawDay_83 : decode cX12_drawDay 83 = .ok (.aload_n 0, 1) := by decide +kernel
theorem dX12_drawDay_84 : decode cX12_drawDay 84 = .ok (.iload_n 1, 1) := by decide +kernel
theorem dX12_drawDay_85 : decode cX12_drawDay 85 = .ok (.invokevirtual 290, 3) := by decide +kernel
theorem dX12_drawDay_88 : decode cX12_drawDay 88 = .ok (.ifCond .eq 9, 3) := by decide +kernel
theorem dX12_drawDay_91 : decode cX12_drawDay 91 = .ok (.aload_n 0, 1) := by decide +kernel
theorem dX12_drawDay_92 : decode cX12_drawDay 92 = .ok (.iload_n 1, 1) := by decide +kernel
theorem dX12_drawDay_93 : decode cX12_drawDay 93 = .ok (.invokevirtual 358, 3) := by decide +kernel
theorem dX12_drawDay_96 : decode cX12_drawDay 96 = .ok (.pop, 1) := by decide +kernel
theorem dX12_drawDay_97 : decode cX12_drawDay 97 = .ok (.return_, 1) := by decide +kernel
theorem dX12_years_0 : decode cX12_years 0 = .ok (.aload_n 0, 1) := by decide +kernel
theorem dX12_years_1 : decode cX12_years 1 = .ok (.getfield 262, 3) := by decide +kernel
theorem dX12_years_4 : decode cX12_years 4 = .ok (.ifCond .eq 11, 3) := by decide +kernel
theorem dX12_years_7 : decode cX12_years 7 = .ok (.aload_n 0, 1) := by decide +kernel
theorem dX12_years_8 : decode cX12_years 8 = .ok (.iload_n 1, 1) := by decide +kernel
theorem dX12_years_9 : decode cX12_years 9 = .ok (.invokevirtual 336, 3) := by decide +kernel
theorem dX12_years_12 : decode cX12_years 12 = .ok (.ifCond .ne 5, 3) := by decide +kernel
theorem dX12_years_15 : decode cX12_years 15 = .ok (.iconst (-1), 1) := by decide +kernel
theorem dX12_years_16 : decode cX12_years 16 = .ok (.ireturn, 1) := by decide +kernel
theorem dX12_years_17 : decode cX12_years 17 = .ok (.aload_n 0, 1) := by decide +kernel
theorem dX12_years_18 : decode cX12_years 18 = .ok (.lload_n 2, 1) := by decide +kernel
theorem dX12_years_19 : decode cX12_years 19 = .ok (.putfield 361, 3) := by decide +kernel
theorem dX12_years_22 : decode cX12_years 22 = .ok (.iconst 0, 1) := by decide +kernel
theorem dX12_years_23 : decode cX12_years 23 = .ok (.istore 4, 2) := by decide +kernel
theorem dX12_years_25 : decode cX12_years 25 = .ok (.iload 4, 2) := by decide +kernel
theorem dX12_years_27 : decode cX12_years 27 = .ok (.iload_n 1, 1) := by decide +kernel
theorem dX12_years_28 : decode cX12_years 28 = .ok (.if_icmp .ge 21, 3) := by decide +kernel
theorem dX12_years_31 : decode cX12_years 31 = .ok (.aload_n 0, 1) := by decide +kernel
theorem dX12_years_32 : decode cX12_years 32 = .ok (.invokevirtual 342, 3) := by decide +kernel
theorem dX12_years_35 : decode cX12_years 35 = .ok (.aload_n 0, 1) := by decide +kernel
theorem dX12_years_36 : decode cX12_years 36 = .ok (.invokevirtual 372, 3) := by decide +kernel
theorem dX12_years_39 : decode cX12_years 39 = .ok (.aload_n 0, 1) := by decide +kernel
theorem dX12_years_40 : decode cX12_years 40 = .ok (.invokevirtual 345, 3) := by decide +kernel
theorem dX12_years_43 : decode cX12_years 43 = .ok (.iinc 4 1, 3) := by decide +kernel
theorem dX12_years_46 : decode cX12_years 46 = .ok (.goto (-21), 3) := by decide +kernel
theorem dX12_years_49 : decode cX12_years 49 = .ok (.aload_n 0, 1) := by decide +kernel
theorem dX12_years_50 : decode cX12_years 50 = .ok (.getfield 52, 3) := by decide +kernel
theorem dX12_years_53 : decode cX12_years 53 = .ok (.bipush 65, 2) := by decide +kernel
theorem dX12_years_55 : decode cX12_years 55 = .ok (.iaload, 1) := by decide +kernel
theorem dX12_years_56 : decode cX12_years 56 = .ok (.ireturn, 1) := by decide +kernel
theorem dX12_status_0 : decode cX12_status 0 = .ok (.iload_n 1, 1) := by decide +kernel
theorem dX12_status_1 : decode cX12_status 1 = .ok (.iconst 0, 1) := by decide +kernel
theorem dX12_status_2 : decode cX12_status 2 = .ok (.iconst 4, 1) := by decide +kernel
theorem dX12_status_3 : decode cX12_status 3 = .ok (.invokestatic 217, 3) := by decide +kernel
theorem dX12_status_6 : decode cX12_status 6 = .ok (.ifCond .eq 12, 3) := by decide +kernel
theorem dX12_status_9 : decode cX12_status 9 = .ok (.aload_n 0, 1) := by decide +kernel
theorem dX12_status_10 : decode cX12_status 10 = .ok (.getfield 55, 3) := by decide +kernel
theorem dX12_status_13 : decode cX12_status 13 = .ok (.iload_n 1, 1) := by decide +kernel
theorem dX12_status_14 : decode cX12_status 14 = .ok (.iaload, 1) := by decide +kernel
theorem dX12_status_15 : decode cX12_status 15 = .ok (.goto 4, 3) := by decide +kernel
theorem dX12_status_18 : decode cX12_status 18 = .ok (.iconst (-1), 1) := by decide +kernel
theorem dX12_status_19 : decode cX12_status 19 = .ok (.ireturn, 1) := by decide +kernel
theorem dX12_undo_0 : decode cX12_undo 0 = .ok (.aload_n 0, 1) := by decide +kernel
theorem dX12_undo_1 : decode cX12_undo 1 = .ok (.getfield 275, 3) := by decide +kernel
theorem dX12_undo_4 : decode cX12_undo 4 = .ok (.ifCond .ne 5, 3) := by decide +kernel
theorem dX12_undo_7 : decode cX12_undo 7 = .ok (.iconst (-1), 1) := by decide +kernel
theorem dX12_undo_8 : decode cX12_undo 8 = .ok (.ireturn, 1) := by decide +kernel
theorem dX12_undo_9 : decode cX12_undo 9 = .ok (.aload_n 0, 1) := by decide +kernel
theorem dX12_undo_10 : decode cX12_undo 10 = .ok (.dup, 1) := by decide +kernel
theorem dX12_undo_11 : decode cX12_undo 11 = .ok (.getfield 275, 3) := by decide +kernel
theorem dX12_undo_14 : decode cX12_undo 14 = .ok (.iconst 1, 1) := by decide +kernel
theorem dX12_undo_15 : decode cX12_undo 15 = .ok (.isub, 1) := by decide +kernel
theorem dX12_undo_16 : decode cX12_undo 16 = .ok (.putfield 275, 3) := by decide +kernel
theorem dX12_undo_19 : decode cX12_undo 19 = .ok (.iconst 0, 1) := by decide +kernel
theorem dX12_undo_20 : decode cX12_undo 20 = .ok (.istore_n 1, 1) := by decide +kernel
theorem dX12_undo_21 : decode cX12_undo 21 = .ok (.iload_n 1, 1) := by decide +kernel
theorem dX12_undo_22 : decode cX12_undo 22 = .ok (.sipush 247, 3) := by decide +kernel
theorem dX12_undo_25 : decode cX12_undo 25 = .ok (.if_icmp .ge 30, 3) := by decide +kernel
theorem dX12_undo_28 : decode cX12_undo 28 = .ok (.aload_n 0, 1) := by decide +kernel
theorem dX12_undo_29 : decode cX12_undo 29 = .ok (.getfield 52, 3) := by decide +kernel
theorem dX12_undo_32 : decode cX12_undo 32 = .ok (.iload_n 1, 1) := by decide +kernel
theorem dX12_undo_33 : decode cX12_undo 33 = .ok (.aload_n 0, 1) := by decide +kernel
theorem dX12_undo_34 : decode cX12_undo 34 = .ok (.getfield 68, 3) := by decide +kernel
theorem dX12_undo_37 : decode cX12_undo 37 = .ok (.sipush 247, 3) := by decide +kernel
theorem dX12_undo_40 : decode cX12_undo 40 = .ok (.aload_n 0, 1) := by decide +kernel
theorem dX12_undo_41 : decode cX12_undo 41 = .ok (.getfield 275, 3) := by decide +kernel
theorem dX12_undo_44 : decode cX12_undo 44 = .ok (.imul, 1) := by decide +kernel
theorem dX12_undo_45 : decode cX12_undo 45 = .ok (.iload_n 1, 1) := by decide +kernel
theorem dX12_undo_46 : decode cX12_undo 46 = .ok (.iadd, 1) := by decide +kernel
theorem dX12_undo_47 : decode cX12_undo 47 = .ok (.iaload, 1) := by decide +kernel
theorem dX12_undo_48 : decode cX12_undo 48 = .ok (.iastore, 1) := by decide +kernel
theorem dX12_undo_49 : decode cX12_undo 49 = .ok (.iinc 1 1, 3) := by decide +kernel
theorem dX12_undo_52 : decode cX12_undo 52 = .ok (.goto (-31), 3) := by decide +kernel
theorem dX12_undo_55 : decode cX12_undo 55 = .ok (.aload_n 0, 1) := by decide +kernel
theorem dX12_undo_56 : decode cX12_undo 56 = .ok (.getfield 275, 3) := by decide +kernel
theorem dX12_undo_59 : decode cX12_undo 59 = .ok (.ireturn, 1) := by decide +kernel
theorem dX12_log_0 : decode cX12_log 0 = .ok (.iload_n 1, 1) := by decide +kernel
theorem dX12_log_1 : decode cX12_log 1 = .ok (.iconst 0, 1) := by decide +kernel
theorem dX12_log_2 : decode cX12_log 2 = .ok (.aload_n 0, 1) := by decide +kernel
theorem dX12_log_3 : decode cX12_log 3 = .ok (.getfield 52, 3) := by decide +kernel
theorem dX12_log_6 : decode cX12_log 6 = .ok (.bipush 66, 2) := by decide +kernel
theorem dX12_log_8 : decode cX12_log 8 = .ok (.iaload, 1) := by decide +kernel
theorem dX12_log_9 : decode cX12_log 9 = .ok (.iconst 1, 1) := by decide +kernel
theorem dX12_log_10 : decode cX12_log 10 = .ok (.isub, 1) := by decide +kernel
theorem dX12_log_11 : decode cX12_log 11 = .ok (.invokestatic 217, 3) := by decide +kernel
theorem dX12_log_14 : decode cX12_log 14 = .ok (.ifCond .eq 38, 3) := by decide +kernel
theorem dX12_log_17 : decode cX12_log 17 = .ok (.iload_n 2, 1) := by decide +kernel
theorem dX12_log_18 : decode cX12_log 18 = .ok (.iconst 0, 1) := by decide +kernel
theorem dX12_log_19 : decode cX12_log 19 = .ok (.iconst 2, 1) := by decide +kernel
theorem dX12_log_20 : decode cX12_log 20 = .ok (.invokestatic 217, 3) := by decide +kernel
theorem dX12_log_23 : decode cX12_log 23 = .ok (.ifCond .eq 29, 3) := by decide +kernel
theorem dX12_log_26 : decode cX12_log 26 = .ok (.aload_n 0, 1) := by decide +kernel
theorem dX12_log_27 : decode cX12_log 27 = .ok (.getfield 52, 3) := by decide +kernel
theorem dX12_log_30 : decode cX12_log 30 = .ok (.bipush 67, 2) := by decide +kernel
theorem dX12_log_32 : decode cX12_log 32 = .ok (.iconst 3, 1) := by decide +kernel
theorem dX12_log_33 : decode cX12_log 33 = .ok (.aload_n 0, 1) := by decide +kernel
theorem dX12_log_34 : decode cX12_log 34 = .ok (.getfield 52, 3) := by decide +kernel
theorem dX12_log_37 : decode cX12_log 37 = .ok (.bipush 66, 2) := by decide +kernel
theorem dX12_log_39 : decode cX12_log 39 = .ok (.iaload, 1) := by decide +kernel
theorem dX12_log_40 : decode cX12_log 40 = .ok (.iconst 1, 1) := by decide +kernel
theorem dX12_log_41 : decode cX12_log 41 = .ok (.isub, 1) := by decide +kernel
theorem dX12_log_42 : decode cX12_log 42 = .ok (.iload_n 1, 1) := by decide +kernel
theorem dX12_log_43 : decode cX12_log 43 = .ok (.isub, 1) := by decide +kernel
theorem dX12_log_44 : decode cX12_log 44 = .ok (.imul, 1) := by decide +kernel
theorem dX12_log_45 : decode cX12_log 45 = .ok (.iadd, 1) := by decide +kernel
theorem dX12_log_46 : decode cX12_log 46 = .ok (.iload_n 2, 1) := by decide +kernel
theorem dX12_log_47 : decode cX12_log 47 = .ok (.iadd, 1) := by decide +kernel
theorem dX12_log_48 : decode cX12_log 48 = .ok (.iaload, 1) := by decide +kernel
theorem dX12_log_49 : decode cX12_log 49 = .ok (.goto 4, 3) := by decide +kernel
theorem dX12_log_52 : decode cX12_log 52 = .ok (.iconst (-1), 1) := by decide +kernel
theorem dX12_log_53 : decode cX12_log 53 = .ok (.ireturn, 1) := by decide +kernel
theorem dX12_putAside_0 : decode cX12_putAside 0 = .ok (.iconst 0, 1) := by decide +kernel
theorem dX12_putAside_1 : decode cX12_putAside 1 = .ok (.istore_n 2, 1) := by decide +kernel
theorem dX12_putAside_2 : decode cX12_putAside 2 = .ok (.iload_n 2, 1) := by decide +kernel
theorem dX12_putAside_3 : decode cX12_putAside 3 = .ok (.bipush 66, 2) := by decide +kernel
theorem dX12_putAside_5 : decode cX12_putAside 5 = .ok (.if_icmp .ge 26, 3) := by decide +kernel
theorem dX12_putAside_8 : decode cX12_putAside 8 = .ok (.aload_n 0, 1) := by decide +kernel
theorem dX12_putAside_9 : decode cX12_putAside 9 = .ok (.getfield 71, 3) := by decide +kernel
theorem dX12_putAside_12 : decode cX12_putAside 12 = .ok (.bipush 66, 2) := by decide +kernel
theorem dX12_putAside_14 : decode cX12_putAside 14 = .ok (.iload_n 1, 1) := by decide +kernel
theorem dX12_putAside_15 : decode cX12_putAside 15 = .ok (.imul, 1) := by decide +kernel
theorem dX12_putAside_16 : decode cX12_putAside 16 = .ok (.iload_n 2, 1) := by decide +kernel
theorem dX12_putAside_17 : decode cX12_putAside 17 = .ok (.iadd, 1) := by decide +kernel
theorem dX12_putAside_18 : decode cX12_putAside 18 = .ok (.aload_n 0, 1) := by decide +kernel
theorem dX12_putAside_19 : decode cX12_putAside 19 = .ok (.getfield 52, 3) := by decide +kernel
theorem dX12_putAside_22 : decode cX12_putAside 22 = .ok (.iload_n 2, 1) := by decide +kernel
theorem dX12_putAside_23 : decode cX12_putAside 23 = .ok (.iaload, 1) := by decide +kernel
theorem dX12_putAside_24 : decode cX12_putAside 24 = .ok (.iastore, 1) := by decide +kernel
theorem dX12_putAside_25 : decode cX12_putAside 25 = .ok (.iinc 2 1, 3) := by decide +kernel
theorem dX12_putAside_28 : decode cX12_putAside 28 = .ok (.goto (-26), 3) := by decide +kernel
theorem dX12_putAside_31 : decode cX12_putAside 31 = .ok (.return_, 1) := by decide +kernel
theorem dX12_takeBack_0 : decode cX12_takeBack 0 = .ok (.iconst 0, 1) := by decide +kernel
theorem dX12_takeBack_1 : decode cX12_takeBack 1 = .ok (.istore_n 2, 1) := by decide +kernel
theorem dX12_takeBack_2 : decode cX12_takeBack 2 = .ok (.iload_n 2, 1) := by decide +kernel
theorem dX12_takeBack_3 : decode cX12_takeBack 3 = .ok (.bipush 66, 2) := by decide +kernel
theorem dX12_takeBack_5 : decode cX12_takeBack 5 = .ok (.if_icmp .ge 26, 3) := by decide +kernel
theorem dX12_takeBack_8 : decode cX12_takeBack 8 = .ok (.aload_n 0, 1) := by decide +kernel
theorem dX12_takeBack_9 : decode cX12_takeBack 9 = .ok (.getfield 52, 3) := by decide +kernel
theorem dX12_takeBack_12 : decode cX12_takeBack 12 = .ok (.iload_n 2, 1) := by decide +kernel
theorem dX12_takeBack_13 : decode cX12_takeBack 13 = .ok (.aload_n 0, 1) := by decide +kernel
theorem dX12_takeBack_14 : decode cX12_takeBack 14 = .ok (.getfield 71, 3) := by decide +kernel
theorem dX12_takeBack_17 : decode cX12_takeBack 17 = .ok (.bipush 66, 2) := by decide +kernel
theorem dX12_takeBack_19 : decode cX12_takeBack 19 = .ok (.iload_n 1, 1) := by decide +kernel
theorem dX12_takeBack_20 : decode cX12_takeBack 20 = .ok (.imul, 1) := by decide +kernel
theorem dX12_takeBack_21 : decode cX12_takeBack 21 = .ok (.iload_n 2, 1) := by decide +kernel
theorem dX12_takeBack_22 : decode cX12_takeBack 22 = .ok (.iadd, 1) := by decide +kernel
theorem dX12_takeBack_23 : decode cX12_takeBack 23 = .ok (.iaload, 1) := by decide +kernel
theorem dX12_takeBack_24 : decode cX12_takeBack 24 = .ok (.iastore, 1) := by decide +kernel
theorem dX12_takeBack_25 : decode cX12_takeBack 25 = .ok (.iinc 2 1, 3) := by decide +kernel
theorem dX12_takeBack_28 : decode cX12_takeBack 28 = .ok (.goto (-26), 3) := by decide +kernel
theorem dX12_takeBack_31 : decode cX12_takeBack 31 = .ok (.return_, 1) := by decide +kernel
theorem dX12_sizeNow_0 : decode cX12_sizeNow 0 = .ok (.aload_n 0, 1) := by decide +kernel
theorem dX12_sizeNow_1 : decode cX12_sizeNow 1 = .ok (.iload_n 1, 1) := by decide +kernel
theorem dX12_sizeNow_2 : decode cX12_sizeNow 2 = .ok (.invokevirtual 290, 3) := by decide +kernel
theorem dX12_sizeNow_5 : decode cX12_sizeNow 5 = .ok (.ifCond .eq 12, 3) := by decide +kernel
theorem dX12_sizeNow_8 : decode cX12_sizeNow 8 = .ok (.aload_n 0, 1) := by decide +kernel
theorem dX12_sizeNow_9 : decode cX12_sizeNow 9 = .ok (.iload_n 1, 1) := by decide +kernel
theorem dX12_sizeNow_10 : decode cX12_sizeNow 10 = .ok (.iconst 0, 1) := by decide +kernel
theorem dX12_sizeNow_11 : decode cX12_sizeNow 11 = .ok (.invokevirtual 287, 3) := by decide +kernel
theorem dX12_sizeNow_14 : decode cX12_sizeNow 14 = .ok (.goto 4, 3) := by decide +kernel
theorem dX12_sizeNow_17 : decode cX12_sizeNow 17 = .ok (.iconst 0, 1) := by decide +kernel
theorem dX12_sizeNow_18 : decode cX12_sizeNow 18 = .ok (.ireturn, 1) := by decide +kernel
theorem dX12_large_0 : decode cX12_large 0 = .ok (.aload_n 0, 1) := by decide +kernel
theorem dX12_large_1 : decode cX12_large 1 = .ok (.iload_n 1, 1) := by decide +kernel
theorem dX12_large_2 : decode cX12_large 2 = .ok (.invokevirtual 290, 3) := by decide +kernel
theorem dX12_large_5 : decode cX12_large 5 = .ok (.ifCond .eq 13, 3) := by decide +kernel
theorem dX12_large_8 : decode cX12_large 8 = .ok (.iload_n 2, 1) := by decide +kernel
theorem dX12_large_9 : decode cX12_large 9 = .ok (.iconst 0, 1) := by decide +kernel
theorem dX12_large_10 : decode cX12_large 10 = .ok (.bipush 99, 2) := by decide +kernel
theorem dX12_large_12 : decode cX12_large 12 = .ok (.invokestatic 217, 3) := by decide +kernel
theorem dX12_large_15 : decode cX12_large 15 = .ok (.ifCond .ne 5, 3) := by decide +kernel
theorem dX12_large_18 : decode cX12_large 18 = .ok (.iconst (-1), 1) := by decide +kernel
theorem dX12_large_19 : decode cX12_large 19 = .ok (.ireturn, 1) := by decide +kernel
theorem dX12_large_20 : decode cX12_large 20 = .ok (.aload_n 0, 1) := by decide +kernel
theorem dX12_large_21 : decode cX12_large 21 = .ok (.iconst 0, 1) := by decide +kernel
theorem dX12_large_22 : decode cX12_large 22 = .ok (.invokevirtual 375, 3) := by decide +kernel
theorem dX12_large_25 : decode cX12_large 25 = .ok (.iconst 0, 1) := by decide +kernel
theorem dX12_large_26 : decode cX12_large 26 = .ok (.istore_n 3, 1) := by decide +kernel
theorem dX12_large_27 : decode cX12_large 27 = .ok (.iload_n 3, 1) := by decide +kernel
theorem dX12_large_28 : decode cX12_large 28 = .ok (.iload_n 2, 1) := by decide +kernel
theorem dX12_large_29 : decode cX12_large 29 = .ok (.if_icmp .ge 13, 3) := by decide +kernel
theorem dX12_large_32 : decode cX12_large 32 = .ok (.aload_n 0, 1) := by decide +kernel
theorem dX12_large_33 : decode cX12_large 33 = .ok (.invokevirtual 327, 3) := by decide +kernel
theorem dX12_large_36 : decode cX12_large 36 = .ok (.iinc 3 1, 3) := by decide +kernel
theorem dX12_large_39 : decode cX12_large 39 = .ok (.goto (-12), 3) := by decide +kernel
theorem dX12_large_42 : decode cX12_large 42 = .ok (.aload_n 0, 1) := by decide +kernel
theorem dX12_large_43 : decode cX12_large 43 = .ok (.iload_n 1, 1) := by decide +kernel
theorem dX12_large_44 : decode cX12_large 44 = .ok (.invokevirtual 378, 3) := by decide +kernel
theorem dX12_large_47 : decode cX12_large 47 = .ok (.istore_n 3, 1) := by decide +kernel
theorem dX12_large_48 : decode cX12_large 48 = .ok (.aload_n 0, 1) := by decide +kernel
theorem dX12_large_49 : decode cX12_large 49 = .ok (.iconst 0, 1) := by decide +kernel
theorem dX12_large_50 : decode cX12_large 50 = .ok (.invokevirtual 381, 3) := by decide +kernel
theorem dX12_large_53 : decode cX12_large 53 = .ok (.iload_n 3, 1) := by decide +kernel
theorem dX12_large_54 : decode cX12_large 54 = .ok (.ireturn, 1) := by decide +kernel
theorem dX12_daysTo_0 : decode cX12_daysTo 0 = .ok (.aload_n 0, 1) := by decide +kernel
theorem dX12_daysTo_1 : decode cX12_daysTo 1 = .ok (.iconst 0, 1) := by decide +kernel
theorem dX12_daysTo_2 : decode cX12_daysTo 2 = .ok (.invokevirtual 375, 3) := by decide +kernel
theorem dX12_daysTo_5 : decode cX12_daysTo 5 = .ok (.iconst (-1), 1) := by decide +kernel
theorem dX12_daysTo_6 : decode cX12_daysTo 6 = .ok (.istore_n 3, 1) := by decide +kernel
theorem dX12_daysTo_7 : decode cX12_daysTo 7 = .ok (.iconst 1, 1) := by decide +kernel
theorem dX12_daysTo_8 : decode cX12_daysTo 8 = .ok (.istore 4, 2) := by decide +kernel
theorem dX12_daysTo_10 : decode cX12_daysTo 10 = .ok (.iload 4, 2) := by decide +kernel
theorem dX12_daysTo_12 : decode cX12_daysTo 12 = .ok (.bipush 99, 2) := by decide +kernel
theorem dX12_daysTo_14 : decode cX12_daysTo 14 = .ok (.if_icmp .gt 47, 3) := by decide +kernel
theorem dX12_daysTo_17 : decode cX12_daysTo 17 = .ok (.iload_n 3, 1) := by decide +kernel
theorem dX12_daysTo_18 : decode cX12_daysTo 18 = .ok (.iconst (-1), 1) := by decide +kernel
theorem dX12_daysTo_19 : decode cX12_daysTo 19 = .ok (.if_icmp .ne 42, 3) := by decide +kernel
theorem dX12_daysTo_22 : decode cX12_daysTo 22 = .ok (.aload_n 0, 1) := by decide +kernel
theorem dX12_daysTo_23 : decode cX12_daysTo 23 = .ok (.invokevirtual 327, 3) := by decide +kernel
theorem dX12_daysTo_26 : decode cX12_daysTo 26 = .ok (.iload_n 2, 1) := by decide +kernel
theorem dX12_daysTo_27 : decode cX12_daysTo 27 = .ok (.ifCond .eq 10, 3) := by decide +kernel
theorem dX12_daysTo_30 : decode cX12_daysTo 30 = .ok (.aload_n 0, 1) := by decide +kernel
theorem dX12_daysTo_31 : decode cX12_daysTo 31 = .ok (.getfield 306, 3) := by decide +kernel
theorem dX12_daysTo_34 : decode cX12_daysTo 34 = .ok (.goto 7, 3) := by decide +kernel
theorem dX12_daysTo_37 : decode cX12_daysTo 37 = .ok (.aload_n 0, 1) := by decide +kernel
theorem dX12_daysTo_38 : decode cX12_daysTo 38 = .ok (.getfield 309, 3) := by decide +kernel
theorem dX12_daysTo_41 : decode cX12_daysTo 41 = .ok (.iload_n 1, 1) := by decide +kernel
theorem dX12_daysTo_42 : decode cX12_daysTo 42 = .ok (.invokestatic 228, 3) := by decide +kernel
theorem dX12_daysTo_45 : decode cX12_daysTo 45 = .ok (.ifCond .eq 8, 3) := by decide +kernel
theorem dX12_daysTo_48 : decode cX12_daysTo 48 = .ok (.iload 4, 2) := by decide +kernel
theorem dX12_daysTo_50 : decode cX12_daysTo 50 = .ok (.goto 4, 3) := by decide +kernel
theorem dX12_daysTo_53 : decode cX12_daysTo 53 = .ok (.iconst (-1), 1) := by decide +kernel
theorem dX12_daysTo_54 : decode cX12_daysTo 54 = .ok (.istore_n 3, 1) := by decide +kernel
theorem dX12_daysTo_55 : decode cX12_daysTo 55 = .ok (.iinc 4 1, 3) := by decide +kernel
theorem dX12_daysTo_58 : decode cX12_daysTo 58 = .ok (.goto (-48), 3) := by decide +kernel
theorem dX12_daysTo_61 : decode cX12_daysTo 61 = .ok (.aload_n 0, 1) := by decide +kernel
theorem dX12_daysTo_62 : decode cX12_daysTo 62 = .ok (.iconst 0, 1) := by decide +kernel
theorem dX12_daysTo_63 : decode cX12_daysTo 63 = .ok (.invokevirtual 381, 3) := by decide +kernel
theorem dX12_daysTo_66 : decode cX12_daysTo 66 = .ok (.iload_n 3, 1) := by decide +kernel
theorem dX12_daysTo_67 : decode cX12_daysTo 67 = .ok (.ireturn, 1) := by decide +kernel
theorem dX12_ends_0 : decode cX12_ends 0 = .ok (.aload_n 0, 1) := by decide +kernel
theorem dX12_ends_1 : decode cX12_ends 1 = .ok (.iload_n 1, 1) := by decide +kernel
theorem dX12_ends_2 : decode cX12_ends 2 = .ok (.invokevirtual 290, 3) := by decide +kernel
theorem dX12_ends_5 : decode cX12_ends 5 = .ok (.ifCond .eq 12, 3) := by decide +kernel
theorem dX12_ends_8 : decode cX12_ends 8 = .ok (.aload_n 0, 1) := by decide +kernel
theorem dX12_ends_9 : decode cX12_ends 9 = .ok (.iload_n 1, 1) := by decide +kernel
theorem dX12_ends_10 : decode cX12_ends 10 = .ok (.iconst 1, 1) := by decide +kernel
theorem dX12_ends_11 : decode cX12_ends 11 = .ok (.invokevirtual 384, 3) := by decide +kernel
theorem dX12_ends_14 : decode cX12_ends 14 = .ok (.goto 4, 3) := by decide +kernel
theorem dX12_ends_17 : decode cX12_ends 17 = .ok (.iconst (-1), 1) := by decide +kernel
theorem dX12_ends_18 : decode cX12_ends 18 = .ok (.ireturn, 1) := by decide +kernel
theorem dX12_falls_0 : decode cX12_falls 0 = .ok (.aload_n 0, 1) := by decide +kernel
theorem dX12_falls_1 : decode cX12_falls 1 = .ok (.iload_n 1, 1) := by decide +kernel
theorem dX12_falls_2 : decode cX12_falls 2 = .ok (.invokevirtual 290, 3) := by decide +kernel
theorem dX12_falls_5 : decode cX12_falls 5 = .ok (.ifCond .eq 23, 3) := by decide +kernel
theorem dX12_falls_8 : decode cX12_falls 8 = .ok (.aload_n 0, 1) := by decide +kernel
theorem dX12_falls_9 : decode cX12_falls 9 = .ok (.iload_n 1, 1) := by decide +kernel
theorem dX12_falls_10 : decode cX12_falls 10 = .ok (.iconst 3, 1) := by decide +kernel
theorem dX12_falls_11 : decode cX12_falls 11 = .ok (.invokevirtual 287, 3) := by decide +kernel
theorem dX12_falls_14 : decode cX12_falls 14 = .ok (.bipush 9, 2) := by decide +kernel
theorem dX12_falls_16 : decode cX12_falls 16 = .ok (.if_icmp .eq 12, 3) := by decide +kernel
theorem dX12_falls_19 : decode cX12_falls 19 = .ok (.aload_n 0, 1) := by decide +kernel
theorem dX12_falls_20 : decode cX12_falls 20 = .ok (.iload_n 1, 1) := by decide +kernel
theorem dX12_falls_21 : decode cX12_falls 21 = .ok (.iconst 0, 1) := by decide +kernel
theorem dX12_falls_22 : decode cX12_falls 22 = .ok (.invokevirtual 384, 3) := by decide +kernel
theorem dX12_falls_25 : decode cX12_falls 25 = .ok (.goto 4, 3) := by decide +kernel
theorem dX12_falls_28 : decode cX12_falls 28 = .ok (.iconst (-1), 1) := by decide +kernel
theorem dX12_falls_29 : decode cX12_falls 29 = .ok (.ireturn, 1) := by decide +kernel
theorem dX12_tryShelf_0 : decode cX12_tryShelf 0 = .ok (.aload_n 0, 1) := by decide +kernel
theorem dX12_tryShelf_1 : decode cX12_tryShelf 1 = .ok (.getfield 388, 3) := by decide +kernel
theorem dX12_tryShelf_4 : decode cX12_tryShelf 4 = .ok (.iconst (-1), 1) := by decide +kernel
theorem dX12_tryShelf_5 : decode cX12_tryShelf 5 = .ok (.if_icmp .eq 12, 3) := by decide +kernel
theorem dX12_tryShelf_8 : decode cX12_tryShelf 8 = .ok (.iload_n 3, 1) := by decide +kernel
theorem dX12_tryShelf_9 : decode cX12_tryShelf 9 = .ok (.aload_n 0, 1) := by decide +kernel
theorem dX12_tryShelf_10 : decode cX12_tryShelf 10 = .ok (.getfield 391, 3) := by decide +kernel
theorem dX12_tryShelf_13 : decode cX12_tryShelf 13 = .ok (.if_icmp .lt 4, 3) := by decide +kernel
theorem dX12_tryShelf_16 : decode cX12_tryShelf 16 = .ok (.return_, 1) := by decide +kernel
theorem dX12_tryShelf_17 : decode cX12_tryShelf 17 = .ok (.iload_n 1, 1) := by decide +kernel
theorem dX12_tryShelf_18 : decode cX12_tryShelf 18 = .ok (.bipush 8, 2) := by decide +kernel
theorem dX12_tryShelf_20 : decode cX12_tryShelf 20 = .ok (.if_icmp .ne 14, 3) := by decide +kernel
theorem dX12_tryShelf_23 : decode cX12_tryShelf 23 = .ok (.aload_n 0, 1) := by decide +kernel
theorem dX12_tryShelf_24 : decode cX12_tryShelf 24 = .ok (.iload_n 2, 1) := by decide +kernel
theorem dX12_tryShelf_25 : decode cX12_tryShelf 25 = .ok (.putfield 388, 3) := by decide +kernel
theorem dX12_tryShelf_28 : decode cX12_tryShelf 28 = .ok (.aload_n 0, 1) := by decide +kernel
theorem dX12_tryShelf_29 : decode cX12_tryShelf 29 = .ok (.iload_n 3, 1) := by decide +kernel
theorem dX12_tryShelf_30 : decode cX12_tryShelf 30 = .ok (.putfield 391, 3) := by decide +kernel
theorem dX12_tryShelf_33 : decode cX12_tryShelf 33 = .ok (.return_, 1) := by decide +kernel
theorem dX12_tryShelf_34 : decode cX12_tryShelf 34 = .ok (.aload_n 0, 1) := by decide +kernel
theorem dX12_tryShelf_35 : decode cX12_tryShelf 35 = .ok (.iload_n 1, 1) := by decide +kernel
theorem dX12_tryShelf_36 : decode cX12_tryShelf 36 = .ok (.invokevirtual 290, 3) := by decide +kernel
theorem dX12_tryShelf_39 : decode cX12_tryShelf 39 = .ok (.ifCond .ne 15, 3) := by decide +kernel
theorem dX12_tryShelf_42 : decode cX12_tryShelf 42 = .ok (.aload_n 0, 1) := by decide +kernel
theorem dX12_tryShelf_43 : decode cX12_tryShelf 43 = .ok (.iload_n 1, 1) := by decide +kernel
theorem dX12_tryShelf_44 : decode cX12_tryShelf 44 = .ok (.iconst 1, 1) := by decide +kernel
theorem dX12_tryShelf_45 : decode cX12_tryShelf 45 = .ok (.iadd, 1) := by decide +kernel
theorem dX12_tryShelf_46 : decode cX12_tryShelf 46 = .ok (.iload_n 2, 1) := by decide +kernel
theorem dX12_tryShelf_47 : decode cX12_tryShelf 47 = .ok (.iload_n 3, 1) := by decide +kernel
theorem dX12_tryShelf_48 : decode cX12_tryShelf 48 = .ok (.iload 4, 2) := by decide +kernel
theorem dX12_tryShelf_50 : decode cX12_tryShelf 50 = .ok (.invokevirtual 394, 3) := by decide +kernel
theorem dX12_tryShelf_53 : decode cX12_tryShelf 53 = .ok (.return_, 1) := by decide +kernel
theorem dX12_tryShelf_54 : decode cX12_tryShelf 54 = .ok (.iload 4, 2) := by decide +kernel
theorem dX12_tryShelf_56 : decode cX12_tryShelf 56 = .ok (.ifCond .eq 12, 3) := by decide +kernel
theorem dX12_tryShelf_59 : decode cX12_tryShelf 59 = .ok (.aload_n 0, 1) := by decide +kernel
theorem dX12_tryShelf_60 : decode cX12_tryShelf 60 = .ok (.getfield 46, 3) := by decide +kernel
theorem dX12_tryShelf_63 : decode cX12_tryShelf 63 = .ok (.iconst 1, 1) := by decide +kernel
theorem dX12_tryShelf_64 : decode cX12_tryShelf 64 = .ok (.iaload, 1) := by decide +kernel
theorem dX12_tryShelf_65 : decode cX12_tryShelf 65 = .ok (.goto 5, 3) := by decide +kernel
theorem dX12_tryShelf_68 : decode cX12_tryShelf 68 = .ok (.bipush 8, 2) := by decide +kernel
theorem dX12_tryShelf_70 : decode cX12_tryShelf 70 = .ok (.istore 5, 2) := by decide +kernel
theorem dX12_tryShelf_72 : decode cX12_tryShelf 72 = .ok (.iconst 0, 1) := by decide +kernel
theorem dX12_tryShelf_73 : decode cX12_tryShelf 73 = .ok (.istore 6, 2) := by decide +kernel
theorem dX12_tryShelf_75 : decode cX12_tryShelf 75 = .ok (.iload 6, 2) := by decide +kernel
theorem dX12_tryShelf_77 : decode cX12_tryShelf 77 = .ok (.iload 5, 2) := by decide +kernel
theorem dX12_tryShelf_79 : decode cX12_tryShelf 79 = .ok (.if_icmp .ge 129, 3) := by decide +kernel
theorem dX12_tryShelf_82 : decode cX12_tryShelf 82 = .ok (.iload 4, 2) := by decide +kernel
theorem dX12_tryShelf_84 : decode cX12_tryShelf 84 = .ok (.ifCond .eq 29, 3) := by decide +kernel
theorem dX12_tryShelf_87 : decode cX12_tryShelf 87 = .ok (.aload_n 0, 1) := by decide +kernel
theorem dX12_tryShelf_88 : decode cX12_tryShelf 88 = .ok (.getfield 77, 3) := by decide +kernel
theorem dX12_tryShelf_91 : decode cX12_tryShelf 91 = .ok (.iload 6, 2) := by decide +kernel
theorem dX12_tryShelf_93 : decode cX12_tryShelf 93 = .ok (.iaload, 1) := by decide +kernel
theorem dX12_tryShelf_94 : decode cX12_tryShelf 94 = .ok (.aload_n 0, 1) := by decide +kernel
theorem dX12_tryShelf_95 : decode cX12_tryShelf 95 = .ok (.iload_n 1, 1) := by decide +kernel
theorem dX12_tryShelf_96 : decode cX12_tryShelf 96 = .ok (.iconst 0, 1) := by decide +kernel
theorem dX12_tryShelf_97 : decode cX12_tryShelf 97 = .ok (.invokevirtual 287, 3) := by decide +kernel
theorem dX12_tryShelf_100 : decode cX12_tryShelf 100 = .ok (.iadd, 1) := by decide +kernel
theorem dX12_tryShelf_101 : decode cX12_tryShelf 101 = .ok (.aload_n 0, 1) := by decide +kernel
theorem dX12_tryShelf_102 : decode cX12_tryShelf 102 = .ok (.getfield 46, 3) := by decide +kernel
theorem dX12_tryShelf_105 : decode cX12_tryShelf 105 = .ok (.iconst 0, 1) := by decide +kernel
theorem dX12_tryShelf_106 : decode cX12_tryShelf 106 = .ok (.iaload, 1) := by decide +kernel
theorem dX12_tryShelf_107 : decode cX12_tryShelf 107 = .ok (.if_icmp .gt 95, 3) := by decide +kernel
theorem dX12_tryShelf_110 : decode cX12_tryShelf 110 = .ok (.goto 13, 3) := by decide +kernel
theorem dX12_tryShelf_113 : decode cX12_tryShelf 113 = .ok (.aload_n 0, 1) := by decide +kernel
theorem dX12_tryShelf_114 : decode cX12_tryShelf 114 = .ok (.iload_n 1, 1) := by decide +kernel
theorem dX12_tryShelf_115 : decode cX12_tryShelf 115 = .ok (.iload 6, 2) := by decide +kernel
theorem dX12_tryShelf_117 : decode cX12_tryShelf 117 = .ok (.invokevirtual 398, 3) := by decide +kernel
theorem dX12_tryShelf_120 : decode cX12_tryShelf 120 = .ok (.ifCond .eq 82, 3) := by decide +kernel
theorem dX12_tryShelf_123 : decode cX12_tryShelf 123 = .ok (.aload_n 0, 1) := by decide +kernel
theorem dX12_tryShelf_124 : decode cX12_tryShelf 124 = .ok (.getfield 77, 3) := by decide +kernel
theorem dX12_tryShelf_127 : decode cX12_tryShelf 127 = .ok (.iload 6, 2) := by decide +kernel
theorem dX12_tryShelf_129 : decode cX12_tryShelf 129 = .ok (.dup2, 1) := by decide +kernel
theorem dX12_tryShelf_130 : decode cX12_tryShelf 130 = .ok (.iaload, 1) := by decide +kernel
theorem dX12_tryShelf_131 : decode cX12_tryShelf 131 = .ok (.aload_n 0, 1) := by decide +kernel
theorem dX12_tryShelf_132 : decode cX12_tryShelf 132 = .ok (.iload_n 1, 1) := by decide +kernel
theorem dX12_tryShelf_133 : decode cX12_tryShelf 133 = .ok (.iconst 0, 1) := by decide +kernel
theorem dX12_tryShelf_134 : decode cX12_tryShelf 134 = .ok (.invokevirtual 287, 3) := by decide +kernel
theorem dX12_tryShelf_137 : decode cX12_tryShelf 137 = .ok (.iadd, 1) := by decide +kernel
theorem dX12_tryShelf_138 : decode cX12_tryShelf 138 = .ok (.iastore, 1) := by decide +kernel
theorem dX12_tryShelf_139 : decode cX12_tryShelf 139 = .ok (.aload_n 0, 1) := by decide +kernel
theorem dX12_tryShelf_140 : decode cX12_tryShelf 140 = .ok (.getfield 74, 3) := by decide +kernel
theorem dX12_tryShelf_143 : decode cX12_tryShelf 143 = .ok (.iload_n 1, 1) := by decide +kernel
theorem dX12_tryShelf_144 : decode cX12_tryShelf 144 = .ok (.iload 6, 2) := by decide +kernel
theorem dX12_tryShelf_146 : decode cX12_tryShelf 146 = .ok (.iastore, 1) := by decide +kernel
theorem dX12_tryShelf_147 : decode cX12_tryShelf 147 = .ok (.aload_n 0, 1) := by decide +kernel
theorem dX12_tryShelf_148 : decode cX12_tryShelf 148 = .ok (.iload_n 1, 1) := by decide +kernel
theorem dX12_tryShelf_149 : decode cX12_tryShelf 149 = .ok (.iconst 1, 1) := by decide +kernel
theorem dX12_tryShelf_150 : decode cX12_tryShelf 150 = .ok (.iadd, 1) := by decide +kernel
theorem dX12_tryShelf_151 : decode cX12_tryShelf 151 = .ok (.bipush 10, 2) := by decide +kernel
theorem dX12_tryShelf_153 : decode cX12_tryShelf 153 = .ok (.iload_n 2, 1) := by decide +kernel
theorem dX12_tryShelf_154 : decode cX12_tryShelf 154 = .ok (.imul, 1) := by decide +kernel
theorem dX12_tryShelf_155 : decode cX12_tryShelf 155 = .ok (.iload 6, 2) := by decide +kernel
theorem dX12_tryShelf_157 : decode cX12_tryShelf 157 = .ok (.iadd, 1) := by decide +kernel
theorem dX12_tryShelf_158 : decode cX12_tryShelf 158 = .ok (.iload_n 3, 1) := by decide +kernel
theorem dX12_tryShelf_159 : decode cX12_tryShelf 159 = .ok (.aload_n 0, 1) := by decide +kernel
theorem dX12_tryShelf_160 : decode cX12_tryShelf 160 = .ok (.getfield 77, 3) := by decide +kernel
theorem dX12_tryShelf_163 : decode cX12_tryShelf 163 = .ok (.iload 6, 2) := by decide +kernel
theorem dX12_tryShelf_165 : decode cX12_tryShelf 165 = .ok (.iaload, 1) := by decide +kernel
theorem dX12_tryShelf_166 : decode cX12_tryShelf 166 = .ok (.aload_n 0, 1) := by decide +kernel
theorem dX12_tryShelf_167 : decode cX12_tryShelf 167 = .ok (.iload_n 1, 1) := by decide +kernel
theorem dX12_tryShelf_168 : decode cX12_tryShelf 168 = .ok (.iconst 0, 1) := by decide +kernel
theorem dX12_tryShelf_169 : decode cX12_tryShelf 169 = .ok (.invokevirtual 287, 3) := by decide +kernel
theorem dX12_tryShelf_172 : decode cX12_tryShelf 172 = .ok (.if_icmp .ne 7, 3) := by decide +kernel
theorem dX12_tryShelf_175 : decode cX12_tryShelf 175 = .ok (.iconst 1, 1) := by decide +kernel
theorem dX12_tryShelf_176 : decode cX12_tryShelf 176 = .ok (.goto 4, 3) := by decide +kernel
theorem dX12_tryShelf_179 : decode cX12_tryShelf 179 = .ok (.iconst 0, 1) := by decide +kernel
theorem dX12_tryShelf_180 : decode cX12_tryShelf 180 = .ok (.iadd, 1) := by decide +kernel
theorem dX12_tryShelf_181 : decode cX12_tryShelf 181 = .ok (.iload 4, 2) := by decide +kernel
theorem dX12_tryShelf_183 : decode cX12_tryShelf 183 = .ok (.invokevirtual 394, 3) := by decide +kernel
theorem dX12_tryShelf_186 : decode cX12_tryShelf 186 = .ok (.aload_n 0, 1) := by decide +kernel
theorem dX12_tryShelf_187 : decode cX12_tryShelf 187 = .ok (.getfield 77, 3) := by decide +kernel
theorem dX12_tryShelf_190 : decode cX12_tryShelf 190 = .ok (.iload 6, 2) := by decide +kernel
theorem dX12_tryShelf_192 : decode cX12_tryShelf 192 = .ok (.dup2, 1) := by decide +kernel
theorem dX12_tryShelf_193 : decode cX12_tryShelf 193 = .ok (.iaload, 1) := by decide +kernel
theorem dX12_tryShelf_194 : decode cX12_tryShelf 194 = .ok (.aload_n 0, 1) := by decide +kernel
theorem dX12_tryShelf_195 : decode cX12_tryShelf 195 = .ok (.iload_n 1, 1) := by decide +kernel
theorem dX12_tryShelf_196 : decode cX12_tryShelf 196 = .ok (.iconst 0, 1) := by decide +kernel
theorem dX12_tryShelf_197 : decode cX12_tryShelf 197 = .ok (.invokevirtual 287, 3) := by decide +kernel
theorem dX12_tryShelf_200 : decode cX12_tryShelf 200 = .ok (.isub, 1) := by decide +kernel
theorem dX12_tryShelf_201 : decode cX12_tryShelf 201 = .ok (.iastore, 1) := by decide +kernel
theorem dX12_tryShelf_202 : decode cX12_tryShelf 202 = .ok (.iinc 6 1, 3) := by decide +kernel
theorem dX12_tryShelf_205 : decode cX12_tryShelf 205 = .ok (.goto (-130), 3) := by decide +kernel
theorem dX12_tryShelf_208 : decode cX12_tryShelf 208 = .ok (.return_, 1) := by decide +kernel
theorem dX12_isCalm_0 : decode cX12_isCalm 0 = .ok (.iconst 0, 1) := by decide +kernel
theorem dX12_isCalm_1 : decode cX12_isCalm 1 = .ok (.istore_n 3, 1) := by decide +kernel
theorem dX12_isCalm_2 : decode cX12_isCalm 2 = .ok (.iload_n 3, 1) := by decide +kernel
theorem dX12_isCalm_3 : decode cX12_isCalm 3 = .ok (.iload_n 1, 1) := by decide +kernel
theorem dX12_isCalm_4 : decode cX12_isCalm 4 = .ok (.if_icmp .ge 38, 3) := by decide +kernel
theorem dX12_isCalm_7 : decode cX12_isCalm 7 = .ok (.aload_n 0, 1) := by decide +kernel
theorem dX12_isCalm_8 : decode cX12_isCalm 8 = .ok (.iload_n 3, 1) := by decide +kernel
theorem dX12_isCalm_9 : decode cX12_isCalm 9 = .ok (.invokevirtual 290, 3) := by decide +kernel
theorem dX12_isCalm_12 : decode cX12_isCalm 12 = .ok (.ifCond .eq 24, 3) := by decide +kernel
theorem dX12_isCalm_15 : decode cX12_isCalm 15 = .ok (.aload_n 0, 1) := by decide +kernel
theorem dX12_isCalm_16 : decode cX12_isCalm 16 = .ok (.getfield 74, 3) := by decide +kernel
theorem dX12_isCalm_19 : decode cX12_isCalm 19 = .ok (.iload_n 3, 1) := by decide +kernel
theorem dX12_isCalm_20 : decode cX12_isCalm 20 = .ok (.iaload, 1) := by decide +kernel
theorem dX12_isCalm_21 : decode cX12_isCalm 21 = .ok (.iload_n 2, 1) := by decide +kernel
theorem dX12_isCalm_22 : decode cX12_isCalm 22 = .ok (.if_icmp .ne 14, 3) := by decide +kernel
theorem dX12_isCalm_25 : decode cX12_isCalm 25 = .ok (.aload_n 0, 1) := by decide +kernel
theorem dX12_isCalm_26 : decode cX12_isCalm 26 = .ok (.iload_n 3, 1) := by decide +kernel
theorem dX12_isCalm_27 : decode cX12_isCalm 27 = .ok (.iload_n 1, 1) := by decide +kernel
theorem dX12_isCalm_28 : decode cX12_isCalm 28 = .ok (.invokevirtual 401, 3) := by decide +kernel
theorem dX12_isCalm_31 : decode cX12_isCalm 31 = .ok (.ifCond .eq 5, 3) := by decide +kernel
theorem dX12_isCalm_34 : decode cX12_isCalm 34 = .ok (.iconst 0, 1) := by decide +kernel
theorem dX12_isCalm_35 : decode cX12_isCalm 35 = .ok (.ireturn, 1) := by decide +kernel
theorem dX12_isCalm_36 : decode cX12_isCalm 36 = .ok (.iinc 3 1, 3) := by decide +kernel
theorem dX12_isCalm_39 : decode cX12_isCalm 39 = .ok (.goto (-37), 3) := by decide +kernel
theorem dX12_isCalm_42 : decode cX12_isCalm 42 = .ok (.iconst 1, 1) := by decide +kernel
theorem dX12_isCalm_43 : decode cX12_isCalm 43 = .ok (.ireturn, 1) := by decide +kernel
theorem dX12_layRow_0 : decode cX12_layRow 0 = .ok (.aload_n 0, 1) := by decide +kernel
theorem dX12_layRow_1 : decode cX12_layRow 1 = .ok (.iconst (-1), 1) := by decide +kernel
theorem dX12_layRow_2 : decode cX12_layRow 2 = .ok (.putfield 388, 3) := by decide +kernel
theorem dX12_layRow_5 : decode cX12_layRow 5 = .ok (.aload_n 0, 1) := by decide +kernel
theorem dX12_layRow_6 : decode cX12_layRow 6 = .ok (.iconst (-1), 1) := by decide +kernel
theorem dX12_layRow_7 : decode cX12_layRow 7 = .ok (.putfield 391, 3) := by decide +kernel
theorem dX12_layRow_10 : decode cX12_layRow 10 = .ok (.iconst 0, 1) := by decide +kernel
theorem dX12_layRow_11 : decode cX12_layRow 11 = .ok (.istore_n 3, 1) := by decide +kernel
theorem dX12_layRow_12 : decode cX12_layRow 12 = .ok (.iload_n 3, 1) := by decide +kernel
theorem dX12_layRow_13 : decode cX12_layRow 13 = .ok (.bipush 8, 2) := by decide +kernel
theorem dX12_layRow_15 : decode cX12_layRow 15 = .ok (.if_icmp .ge 16, 3) := by decide +kernel
theorem dX12_layRow_18 : decode cX12_layRow 18 = .ok (.aload_n 0, 1) := by decide +kernel
theorem dX12_layRow_19 : decode cX12_layRow 19 = .ok (.getfield 77, 3) := by decide +kernel
theorem dX12_layRow_22 : decode cX12_layRow 22 = .ok (.iload_n 3, 1) := by decide +kernel
theorem dX12_layRow_23 : decode cX12_layRow 23 = .ok (.iconst 0, 1) := by decide +kernel
theorem dX12_layRow_24 : decode cX12_layRow 24 = .ok (.iastore, 1) := by decide +kernel
theorem dX12_layRow_25 : decode cX12_layRow 25 = .ok (.iinc 3 1, 3) := by decide +kernel
theorem dX12_layRow_28 : decode cX12_layRow 28 = .ok (.goto (-16), 3) := by decide +kernel
theorem dX12_layRow_31 : decode cX12_layRow 31 = .ok (.aload_n 0, 1) := by decide +kernel
theorem dX12_layRow_32 : decode cX12_layRow 32 = .ok (.invokevirtual 404, 3) := by decide +kernel
theorem dX12_layRow_35 : decode cX12_layRow 35 = .ok (.ifCond .ne 13, 3) := by decide +kernel
theorem dX12_layRow_38 : decode cX12_layRow 38 = .ok (.iload_n 2, 1) := by decide +kernel
theorem dX12_layRow_39 : decode cX12_layRow 39 = .ok (.ifCond .ne 7, 3) := by decide +kernel
theorem dX12_layRow_42 : decode cX12_layRow 42 = .ok (.iconst (-1), 1) := by decide +kernel
theorem dX12_layRow_43 : decode cX12_layRow 43 = .ok (.goto 4, 3) := by decide +kernel
theorem dX12_layRow_46 : decode cX12_layRow 46 = .ok (.iconst 0, 1) := by decide +kernel
theorem dX12_layRow_47 : decode cX12_layRow 47 = .ok (.ireturn, 1) := by decide +kernel
theorem dX12_layRow_48 : decode cX12_layRow 48 = .ok (.aload_n 0, 1) := by decide +kernel
theorem dX12_layRow_49 : decode cX12_layRow 49 = .ok (.iconst 0, 1) := by decide +kernel
theorem dX12_layRow_50 : decode cX12_layRow 50 = .ok (.iconst 0, 1) := by decide +kernel
theorem dX12_layRow_51 : decode cX12_layRow 51 = .ok (.iconst 0, 1) := by decide +kernel
theorem dX12_layRow_52 : decode cX12_layRow 52 = .ok (.iload_n 1, 1) := by decide +kernel
theorem dX12_layRow_53 : decode cX12_layRow 53 = .ok (.invokevirtual 394, 3) := by decide +kernel
theorem dX12_layRow_56 : decode cX12_layRow 56 = .ok (.iload_n 2, 1) := by decide +kernel
theorem dX12_layRow_57 : decode cX12_layRow 57 = .ok (.ifCond .ne 10, 3) := by decide +kernel
theorem dX12_layRow_60 : decode cX12_layRow 60 = .ok (.aload_n 0, 1) := by decide +kernel
theorem dX12_layRow_61 : decode cX12_layRow 61 = .ok (.getfield 388, 3) := by decide +kernel
theorem dX12_layRow_64 : decode cX12_layRow 64 = .ok (.goto 7, 3) := by decide +kernel
theorem dX12_layRow_67 : decode cX12_layRow 67 = .ok (.aload_n 0, 1) := by decide +kernel
theorem dX12_layRow_68 : decode cX12_layRow 68 = .ok (.getfield 391, 3) := by decide +kernel
theorem dX12_layRow_71 : decode cX12_layRow 71 = .ok (.ireturn, 1) := by decide +kernel
theorem dX12_shelved_0 : decode cX12_shelved 0 = .ok (.aload_n 0, 1) := by decide +kernel
theorem dX12_shelved_1 : decode cX12_shelved 1 = .ok (.getfield 262, 3) := by decide +kernel
theorem dX12_shelved_4 : decode cX12_shelved 4 = .ok (.ifCond .eq 21, 3) := by decide +kernel
theorem dX12_shelved_7 : decode cX12_shelved 7 = .ok (.iload_n 1, 1) := by decide +kernel
theorem dX12_shelved_8 : decode cX12_shelved 8 = .ok (.iconst 0, 1) := by decide +kernel
theorem dX12_shelved_9 : decode cX12_shelved 9 = .ok (.iconst 1, 1) := by decide +kernel
theorem dX12_shelved_10 : decode cX12_shelved 10 = .ok (.invokestatic 217, 3) := by decide +kernel
theorem dX12_shelved_13 : decode cX12_shelved 13 = .ok (.ifCond .eq 12, 3) := by decide +kernel
theorem dX12_shelved_16 : decode cX12_shelved 16 = .ok (.aload_n 0, 1) := by decide +kernel
theorem dX12_shelved_17 : decode cX12_shelved 17 = .ok (.iconst 1, 1) := by decide +kernel
theorem dX12_shelved_18 : decode cX12_shelved 18 = .ok (.iload_n 1, 1) := by decide +kernel
theorem dX12_shelved_19 : decode cX12_shelved 19 = .ok (.invokevirtual 407, 3) := by decide +kernel
theorem dX12_shelved_22 : decode cX12_shelved 22 = .ok (.goto 4, 3) := by decide +kernel
theorem dX12_shelved_25 : decode cX12_shelved 25 = .ok (.iconst (-1), 1) := by decide +kernel
theorem dX12_shelved_26 : decode cX12_shelved 26 = .ok (.ireturn, 1) := by decide +kernel
theorem dX12_setsOff_0 : decode cX12_setsOff 0 = .ok (.aload_n 0, 1) := by decide +kernel
theorem dX12_setsOff_1 : decode cX12_setsOff 1 = .ok (.iload_n 1, 1) := by decide +kernel
theorem dX12_setsOff_2 : decode cX12_setsOff 2 = .ok (.iconst 0, 1) := by decide +kernel
theorem dX12_setsOff_3 : decode cX12_setsOff 3 = .ok (.invokevirtual 287, 3) := by decide +kernel
theorem dX12_setsOff_6 : decode cX12_setsOff 6 = .ok (.aload_n 0, 1) := by decide +kernel
theorem dX12_setsOff_7 : decode cX12_setsOff 7 = .ok (.iload_n 2, 1) := by decide +kernel
theorem dX12_setsOff_8 : decode cX12_setsOff 8 = .ok (.iconst 0, 1) := by decide +kernel
theorem dX12_setsOff_9 : decode cX12_setsOff 9 = .ok (.invokevirtual 287, 3) := by decide +kernel
theorem dX12_setsOff_12 : decode cX12_setsOff 12 = .ok (.isub, 1) := by decide +kernel
theorem dX12_setsOff_13 : decode cX12_setsOff 13 = .ok (.invokestatic 411, 3) := by decide +kernel
theorem dX12_setsOff_16 : decode cX12_setsOff 16 = .ok (.iconst 2, 1) := by decide +kernel
theorem dX12_setsOff_17 : decode cX12_setsOff 17 = .ok (.if_icmp .le 16, 3) := by decide +kernel
theorem dX12_setsOff_20 : decode cX12_setsOff 20 = .ok (.aload_n 0, 1) := by decide +kernel
theorem dX12_setsOff_21 : decode cX12_setsOff 21 = .ok (.iload_n 1, 1) := by decide +kernel
theorem dX12_setsOff_22 : decode cX12_setsOff 22 = .ok (.invokevirtual 414, 3) := by decide +kernel
theorem dX12_setsOff_25 : decode cX12_setsOff 25 = .ok (.aload_n 0, 1) := by decide +kernel
theorem dX12_setsOff_26 : decode cX12_setsOff 26 = .ok (.iload_n 2, 1) := by decide +kernel
theorem dX12_setsOff_27 : decode cX12_setsOff 27 = .ok (.invokevirtual 414, 3) := by decide +kernel
theorem dX12_setsOff_30 : decode cX12_setsOff 30 = .ok (.if_icmp .ne 7, 3) := by decide +kernel
theorem dX12_setsOff_33 : decode cX12_setsOff 33 = .ok (.iconst 1, 1) := by decide +kernel
theorem dX12_setsOff_34 : decode cX12_setsOff 34 = .ok (.goto 4, 3) := by decide +kernel
theorem dX12_setsOff_37 : decode cX12_setsOff 37 = .ok (.iconst 0, 1) := by decide +kernel
theorem dX12_setsOff_38 : decode cX12_setsOff 38 = .ok (.ireturn, 1) := by decide +kernel
theorem dX12_stubbornOf_0 : decode cX12_stubbornOf 0 = .ok (.aload_n 0, 1) := by decide +kernel
theorem dX12_stubbornOf_1 : decode cX12_stubbornOf 1 = .ok (.iload_n 1, 1) := by decide +kernel
theorem dX12_stubbornOf_2 : decode cX12_stubbornOf 2 = .ok (.iconst 1, 1) := by decide +kernel
theorem dX12_stubbornOf_3 : decode cX12_stubbornOf 3 = .ok (.invokevirtual 287, 3) := by decide +kernel
theorem dX12_stubbornOf_6 : decode cX12_stubbornOf 6 = .ok (.aload_n 0, 1) := by decide +kernel
theorem dX12_stubbornOf_7 : decode cX12_stubbornOf 7 = .ok (.iload_n 1, 1) := by decide +kernel
theorem dX12_stubbornOf_8 : decode cX12_stubbornOf 8 = .ok (.iconst 2, 1) := by decide +kernel
theorem dX12_stubbornOf_9 : decode cX12_stubbornOf 9 = .ok (.invokevirtual 287, 3) := by decide +kernel
theorem dX12_stubbornOf_12 : decode cX12_stubbornOf 12 = .ok (.iadd, 1) := by decide +kernel
theorem dX12_stubbornOf_13 : decode cX12_stubbornOf 13 = .ok (.ireturn, 1) := by decide +kernel
theorem dX12_sets_0 : decode cX12_sets 0 = .ok (.aload_n 0, 1) := by decide +kernel
theorem dX12_sets_1 : decode cX12_sets 1 = .ok (.iload_n 1, 1) := by decide +kernel
theorem dX12_sets_2 : decode cX12_sets 2 = .ok (.invokevirtual 290, 3) := by decide +kernel
theorem dX12_sets_5 : decode cX12_sets 5 = .ok (.ifCond .eq 16, 3) := by decide +kernel
theorem dX12_sets_8 : decode cX12_sets 8 = .ok (.aload_n 0, 1) := by decide +kernel
theorem dX12_sets_9 : decode cX12_sets 9 = .ok (.iload_n 2, 1) := by decide +kernel
theorem dX12_sets_10 : decode cX12_sets 10 = .ok (.invokevirtual 290, 3) := by decide +kernel
theorem dX12_sets_13 : decode cX12_sets 13 = .ok (.ifCond .eq 8, 3) := by decide +kernel
theorem dX12_sets_16 : decode cX12_sets 16 = .ok (.iload_n 1, 1) := by decide +kernel
theorem dX12_sets_17 : decode cX12_sets 17 = .ok (.iload_n 2, 1) := by decide +kernel
theorem dX12_sets_18 : decode cX12_sets 18 = .ok (.if_icmp .ne 7, 3) := by decide +kernel
theorem dX12_sets_21 : decode cX12_sets 21 = .ok (.iconst (-1), 1) := by decide +kernel
theorem dX12_sets_22 : decode cX12_sets 22 = .ok (.goto 17, 3) := by decide +kernel
theorem dX12_sets_25 : decode cX12_sets 25 = .ok (.aload_n 0, 1) := by decide +kernel
theorem dX12_sets_26 : decode cX12_sets 26 = .ok (.iload_n 1, 1) := by decide +kernel
theorem dX12_sets_27 : decode cX12_sets 27 = .ok (.iload_n 2, 1) := by decide +kernel
theorem dX12_sets_28 : decode cX12_sets 28 = .ok (.invokevirtual 401, 3) := by decide +kernel
theorem dX12_sets_31 : decode cX12_sets 31 = .ok (.ifCond .eq 7, 3) := by decide +kernel
theorem dX12_sets_34 : decode cX12_sets 34 = .ok (.iconst 1, 1) := by decide +kernel
theorem dX12_sets_35 : decode cX12_sets 35 = .ok (.goto 4, 3) := by decide +kernel
theorem dX12_sets_38 : decode cX12_sets 38 = .ok (.iconst 0, 1) := by decide +kernel
theorem dX12_sets_39 : decode cX12_sets 39 = .ok (.ireturn, 1) := by decide +kernel
theorem dX12_apart_0 : decode cX12_apart 0 = .ok (.aload_n 0, 1) := by decide +kernel
theorem dX12_apart_1 : decode cX12_apart 1 = .ok (.getfield 262, 3) := by decide +kernel
theorem dX12_apart_4 : decode cX12_apart 4 = .ok (.ifCond .eq 21, 3) := by decide +kernel
theorem dX12_apart_7 : decode cX12_apart 7 = .ok (.iload_n 1, 1) := by decide +kernel
theorem dX12_apart_8 : decode cX12_apart 8 = .ok (.iconst 0, 1) := by decide +kernel
theorem dX12_apart_9 : decode cX12_apart 9 = .ok (.iconst 1, 1) := by decide +kernel
theorem dX12_apart_10 : decode cX12_apart 10 = .ok (.invokestatic 217, 3) := by decide +kernel
theorem dX12_apart_13 : decode cX12_apart 13 = .ok (.ifCond .eq 12, 3) := by decide +kernel
theorem dX12_apart_16 : decode cX12_apart 16 = .ok (.aload_n 0, 1) := by decide +kernel
theorem dX12_apart_17 : decode cX12_apart 17 = .ok (.iconst 0, 1) := by decide +kernel
theorem dX12_apart_18 : decode cX12_apart 18 = .ok (.iload_n 1, 1) := by decide +kernel
theorem dX12_apart_19 : decode cX12_apart 19 = .ok (.invokevirtual 407, 3) := by decide +kernel
theorem dX12_apart_22 : decode cX12_apart 22 = .ok (.goto 4, 3) := by decide +kernel
theorem dX12_apart_25 : decode cX12_apart 25 = .ok (.iconst (-1), 1) := by decide +kernel
theorem dX12_apart_26 : decode cX12_apart 26 = .ok (.ireturn, 1) := by decide +kernel
theorem dX12_doRoar_0 : decode cX12_doRoar 0 = .ok (.iconst 0, 1) := by decide +kernel
theorem dX12_doRoar_1 : decode cX12_doRoar 1 = .ok (.istore_n 2, 1) := by decide +kernel
theorem dX12_doRoar_2 : decode cX12_doRoar 2 = .ok (.iload_n 2, 1) := by decide +kernel
theorem dX12_doRoar_3 : decode cX12_doRoar 3 = .ok (.bipush 8, 2) := by decide +kernel
theorem dX12_doRoar_5 : decode cX12_doRoar 5 = .ok (.if_icmp .ge 49, 3) := by decide +kernel
theorem dX12_doRoar_8 : decode cX12_doRoar 8 = .ok (.iconst 0, 1) := by decide +kernel
theorem dX12_doRoar_9 : decode cX12_doRoar 9 = .ok (.istore_n 3, 1) := by decide +kernel
theorem dX12_doRoar_10 : decode cX12_doRoar 10 = .ok (.iload_n 3, 1) := by decide +kernel
theorem dX12_doRoar_11 : decode cX12_doRoar 11 = .ok (.iload_n 2, 1) := by decide +kernel
theorem dX12_doRoar_12 : decode cX12_doRoar 12 = .ok (.if_icmp .ge 36, 3) := by decide +kernel
theorem dX12_doRoar_15 : decode cX12_doRoar 15 = .ok (.iload_n 1, 1) := by decide +kernel
theorem dX12_doRoar_16 : decode cX12_doRoar 16 = .ok (.iload_n 2, 1) := by decide +kernel
theorem dX12_doRoar_17 : decode cX12_doRoar 17 = .ok (.invokestatic 228, 3) := by decide +kernel
theorem dX12_doRoar_20 : decode cX12_doRoar 20 = .ok (.ifCond .eq 22, 3) := by decide +kernel
theorem dX12_doRoar_23 : decode cX12_doRoar 23 = .ok (.iload_n 1, 1) := by decide +kernel
theorem dX12_doRoar_24 : decode cX12_doRoar 24 = .ok (.iload_n 3, 1) := by decide +kernel
theorem dX12_doRoar_25 : decode cX12_doRoar 25 = .ok (.invokestatic 228, 3) := by decide +kernel
theorem dX12_doRoar_28 : decode cX12_doRoar 28 = .ok (.ifCond .eq 14, 3) := by decide +kernel
theorem dX12_doRoar_31 : decode cX12_doRoar 31 = .ok (.aload_n 0, 1) := by decide +kernel
theorem dX12_doRoar_32 : decode cX12_doRoar 32 = .ok (.iload_n 2, 1) := by decide +kernel
theorem dX12_doRoar_33 : decode cX12_doRoar 33 = .ok (.iload_n 3, 1) := by decide +kernel
theorem dX12_doRoar_34 : decode cX12_doRoar 34 = .ok (.invokevirtual 401, 3) := by decide +kernel
theorem dX12_doRoar_37 : decode cX12_doRoar 37 = .ok (.ifCond .ne 5, 3) := by decide +kernel
theorem dX12_doRoar_40 : decode cX12_doRoar 40 = .ok (.iconst 0, 1) := by decide +kernel
theorem dX12_doRoar_41 : decode cX12_doRoar 41 = .ok (.ireturn, 1) := by decide +kernel
theorem dX12_doRoar_42 : decode cX12_doRoar 42 = .ok (.iinc 3 1, 3) := by decide +kernel
theorem dX12_doRoar_45 : decode cX12_doRoar 45 = .ok (.goto (-35), 3) := by decide +kernel
theorem dX12_doRoar_48 : decode cX12_doRoar 48 = .ok (.iinc 2 1, 3) := by decide +kernel
theorem dX12_doRoar_51 : decode cX12_doRoar 51 = .ok (.goto (-49), 3) := by decide +kernel
theorem dX12_doRoar_54 : decode cX12_doRoar 54 = .ok (.iconst 1, 1) := by decide +kernel
theorem dX12_doRoar_55 : decode cX12_doRoar 55 = .ok (.ireturn, 1) := by decide +kernel
theorem dX12_roar_0 : decode cX12_roar 0 = .ok (.aload_n 0, 1) := by decide +kernel
theorem dX12_roar_1 : decode cX12_roar 1 = .ok (.getfield 262, 3) := by decide +kernel
theorem dX12_roar_4 : decode cX12_roar 4 = .ok (.ifCond .ne 5, 3) := by decide +kernel
theorem dX12_roar_7 : decode cX12_roar 7 = .ok (.iconst (-1), 1) := by decide +kernel
theorem dX12_roar_8 : decode cX12_roar 8 = .ok (.ireturn, 1) := by decide +kernel
theorem dX12_roar_9 : decode cX12_roar 9 = .ok (.iconst 0, 1) := by decide +kernel
theorem dX12_roar_10 : decode cX12_roar 10 = .ok (.istore_n 1, 1) := by decide +kernel
theorem dX12_roar_11 : decode cX12_roar 11 = .ok (.iconst 1, 1) := by decide +kernel
theorem dX12_roar_12 : decode cX12_roar 12 = .ok (.istore_n 2, 1) := by decide +kernel
theorem dX12_roar_13 : decode cX12_roar 13 = .ok (.iload_n 2, 1) := by decide +kernel
theorem dX12_roar_14 : decode cX12_roar 14 = .ok (.sipush 256, 3) := by decide +kernel
theorem dX12_roar_17 : decode cX12_roar 17 = .ok (.if_icmp .ge 45, 3) := by decide +kernel
theorem dX12_roar_20 : decode cX12_roar 20 = .ok (.iload_n 2, 1) := by decide +kernel
theorem dX12_roar_21 : decode cX12_roar 21 = .ok (.aload_n 0, 1) := by decide +kernel
theorem dX12_roar_22 : decode cX12_roar 22 = .ok (.invokevirtual 404, 3) := by decide +kernel
theorem dX12_roar_25 : decode cX12_roar 25 = .ok (.iconst (-1), 1) := by decide +kernel
theorem dX12_roar_26 : decode cX12_roar 26 = .ok (.ixor, 1) := by decide +kernel
theorem dX12_roar_27 : decode cX12_roar 27 = .ok (.iand, 1) := by decide +kernel
theorem dX12_roar_28 : decode cX12_roar 28 = .ok (.ifCond .ne 26, 3) := by decide +kernel
theorem dX12_roar_31 : decode cX12_roar 31 = .ok (.iload_n 2, 1) := by decide +kernel
theorem dX12_roar_32 : decode cX12_roar 32 = .ok (.invokestatic 417, 3) := by decide +kernel
theorem dX12_roar_35 : decode cX12_roar 35 = .ok (.iload_n 1, 1) := by decide +kernel
theorem dX12_roar_36 : decode cX12_roar 36 = .ok (.invokestatic 417, 3) := by decide +kernel
theorem dX12_roar_39 : decode cX12_roar 39 = .ok (.if_icmp .le 15, 3) := by decide +kernel
theorem dX12_roar_42 : decode cX12_roar 42 = .ok (.aload_n 0, 1) := by decide +kernel
theorem dX12_roar_43 : decode cX12_roar 43 = .ok (.iload_n 2, 1) := by decide +kernel
theorem dX12_roar_44 : decode cX12_roar 44 = .ok (.invokevirtual 422, 3) := by decide +kernel
theorem dX12_roar_47 : decode cX12_roar 47 = .ok (.ifCond .eq 7, 3) := by decide +kernel
theorem dX12_roar_50 : decode cX12_roar 50 = .ok (.iload_n 2, 1) := by decide +kernel
theorem dX12_roar_51 : decode cX12_roar 51 = .ok (.goto 4, 3) := by decide +kernel
theorem dX12_roar_54 : decode cX12_roar 54 = .ok (.iload_n 1, 1) := by decide +kernel
theorem dX12_roar_55 : decode cX12_roar 55 = .ok (.istore_n 1, 1) := by decide +kernel
theorem dX12_roar_56 : decode cX12_roar 56 = .ok (.iinc 2 1, 3) := by decide +kernel
theorem dX12_roar_59 : decode cX12_roar 59 = .ok (.goto (-46), 3) := by decide +kernel
theorem dX12_roar_62 : decode cX12_roar 62 = .ok (.iload_n 1, 1) := by decide +kernel
theorem dX12_roar_63 : decode cX12_roar 63 = .ok (.ireturn, 1) := by decide +kernel
theorem dX12_isTold_0 : decode cX12_isTold 0 = .ok (.aload_n 0, 1) := by decide +kernel
theorem dX12_isTold_1 : decode cX12_isTold 1 = .ok (.getfield 262, 3) := by decide +kernel
theorem dX12_isTold_4 : decode cX12_isTold 4 = .ok (.ifCond .eq 21, 3) := by decide +kernel
theorem dX12_isTold_7 : decode cX12_isTold 7 = .ok (.iload_n 1, 1) := by decide +kernel
theorem dX12_isTold_8 : decode cX12_isTold 8 = .ok (.iconst 0, 1) := by decide +kernel
theorem dX12_isTold_9 : decode cX12_isTold 9 = .ok (.aload_n 0, 1) := by decide +kernel
theorem dX12_isTold_10 : decode cX12_isTold 10 = .ok (.getfield 266, 3) := by decide +kernel
theorem dX12_isTold_13 : decode cX12_isTold 13 = .ok (.iconst 1, 1) := by decide +kernel
theorem dX12_isTold_14 : decode cX12_isTold 14 = .ok (.isub, 1) := by decide +kernel
theorem dX12_isTold_15 : decode cX12_isTold 15 = .ok (.invokestatic 217, 3) := by decide +kernel
theorem dX12_isTold_18 : decode cX12_isTold 18 = .ok (.ifCond .eq 7, 3) := by decide +kernel
theorem dX12_isTold_21 : decode cX12_isTold 21 = .ok (.iconst 1, 1) := by decide +kernel
theorem dX12_isTold_22 : decode cX12_isTold 22 = .ok (.goto 4, 3) := by decide +kernel
theorem dX12_isTold_25 : decode cX12_isTold 25 = .ok (.iconst 0, 1) := by decide +kernel
theorem dX12_isTold_26 : decode cX12_isTold 26 = .ok (.ireturn, 1) := by decide +kernel
theorem dX12_seen_0 : decode cX12_seen 0 = .ok (.aload_n 0, 1) := by decide +kernel
theorem dX12_seen_1 : decode cX12_seen 1 = .ok (.iload_n 1, 1) := by decide +kernel
theorem dX12_seen_2 : decode cX12_seen 2 = .ok (.invokevirtual 425, 3) := by decide +kernel
theorem dX12_seen_5 : decode cX12_seen 5 = .ok (.ifCond .eq 32, 3) := by decide +kernel
theorem dX12_seen_8 : decode cX12_seen 8 = .ok (.iload_n 2, 1) := by decide +kernel
theorem dX12_seen_9 : decode cX12_seen 9 = .ok (.iconst 1, 1) := by decide +kernel
theorem dX12_seen_10 : decode cX12_seen 10 = .ok (.bipush 9, 2) := by decide +kernel
theorem dX12_seen_12 : decode cX12_seen 12 = .ok (.invokestatic 217, 3) := by decide +kernel
theorem dX12_seen_15 : decode cX12_seen 15 = .ok (.ifCond .eq 22, 3) := by decide +kernel
theorem dX12_seen_18 : decode cX12_seen 18 = .ok (.iload_n 3, 1) := by decide +kernel
theorem dX12_seen_19 : decode cX12_seen 19 = .ok (.iconst 0, 1) := by decide +kernel
theorem dX12_seen_20 : decode cX12_seen 20 = .ok (.bipush 99, 2) := by decide +kernel
theorem dX12_seen_22 : decode cX12_seen 22 = .ok (.invokestatic 217, 3) := by decide +kernel
theorem dX12_seen_25 : decode cX12_seen 25 = .ok (.ifCond .eq 12, 3) := by decide +kernel
theorem dX12_seen_28 : decode cX12_seen 28 = .ok (.aload_n 0, 1) := by decide +kernel
theorem dX12_seen_29 : decode cX12_seen 29 = .ok (.getfield 272, 3) := by decide +kernel
theorem dX12_seen_32 : decode cX12_seen 32 = .ok (.bipush 10, 2) := by decide +kernel
theorem dX12_seen_34 : decode cX12_seen 34 = .ok (.if_icmp .ne 5, 3) := by decide +kernel
theorem dX12_seen_37 : decode cX12_seen 37 = .ok (.iconst (-1), 1) := by decide +kernel
theorem dX12_seen_38 : decode cX12_seen 38 = .ok (.ireturn, 1) := by decide +kernel
theorem dX12_seen_39 : decode cX12_seen 39 = .ok (.aload_n 0, 1) := by decide +kernel
theorem dX12_seen_40 : decode cX12_seen 40 = .ok (.getfield 80, 3) := by decide +kernel
theorem dX12_seen_43 : decode cX12_seen 43 = .ok (.aload_n 0, 1) := by decide +kernel
theorem dX12_seen_44 : decode cX12_seen 44 = .ok (.getfield 272, 3) := by decide +kernel
theorem dX12_seen_47 : decode cX12_seen 47 = .ok (.iload_n 1, 1) := by decide +kernel
theorem dX12_seen_48 : decode cX12_seen 48 = .ok (.iastore, 1) := by decide +kernel
theorem dX12_seen_49 : decode cX12_seen 49 = .ok (.aload_n 0, 1) := by decide +kernel
theorem dX12_seen_50 : decode cX12_seen 50 = .ok (.getfield 83, 3) := by decide +kernel
theorem dX12_seen_53 : decode cX12_seen 53 = .ok (.aload_n 0, 1) := by decide +kernel
theorem dX12_seen_54 : decode cX12_seen 54 = .ok (.getfield 272, 3) := by decide +kernel
theorem dX12_seen_57 : decode cX12_seen 57 = .ok (.iload_n 2, 1) := by decide +kernel
theorem dX12_seen_58 : decode cX12_seen 58 = .ok (.iastore, 1) := by decide +kernel
theorem dX12_seen_59 : decode cX12_seen 59 = .ok (.aload_n 0, 1) := by decide +kernel
theorem dX12_seen_60 : decode cX12_seen 60 = .ok (.getfield 86, 3) := by decide +kernel
theorem dX12_seen_63 : decode cX12_seen 63 = .ok (.aload_n 0, 1) := by decide +kernel
theorem dX12_seen_64 : decode cX12_seen 64 = .ok (.getfield 272, 3) := by decide +kernel
theorem dX12_seen_67 : decode cX12_seen 67 = .ok (.iload_n 3, 1) := by decide +kernel
theorem dX12_seen_68 : decode cX12_seen 68 = .ok (.iastore, 1) := by decide +kernel
theorem dX12_seen_69 : decode cX12_seen 69 = .ok (.aload_n 0, 1) := by decide +kernel
theorem dX12_seen_70 : decode cX12_seen 70 = .ok (.getfield 89, 3) := by decide +kernel
theorem dX12_seen_73 : decode cX12_seen 73 = .ok (.aload_n 0, 1) := by decide +kernel
theorem dX12_seen_74 : decode cX12_seen 74 = .ok (.getfield 272, 3) := by decide +kernel
theorem dX12_seen_77 : decode cX12_seen 77 = .ok (.iload 4, 2) := by decide +kernel
theorem dX12_seen_79 : decode cX12_seen 79 = .ok (.bastore, 1) := by decide +kernel
theorem dX12_seen_80 : decode cX12_seen 80 = .ok (.aload_n 0, 1) := by decide +kernel
theorem dX12_seen_81 : decode cX12_seen 81 = .ok (.dup, 1) := by decide +kernel
theorem dX12_seen_82 : decode cX12_seen 82 = .ok (.getfield 272, 3) := by decide +kernel
theorem dX12_seen_85 : decode cX12_seen 85 = .ok (.iconst 1, 1) := by decide +kernel
theorem dX12_seen_86 : decode cX12_seen 86 = .ok (.iadd, 1) := by decide +kernel
theorem dX12_seen_87 : decode cX12_seen 87 = .ok (.putfield 272, 3) := by decide +kernel
theorem dX12_seen_90 : decode cX12_seen 90 = .ok (.aload_n 0, 1) := by decide +kernel
theorem dX12_seen_91 : decode cX12_seen 91 = .ok (.getfield 272, 3) := by decide +kernel
theorem dX12_seen_94 : decode cX12_seen 94 = .ok (.ireturn, 1) := by decide +kernel
theorem dX12_layAlone_0 : decode cX12_layAlone 0 = .ok (.aload_n 0, 1) := by decide +kernel
theorem dX12_layAlone_1 : decode cX12_layAlone 1 = .ok (.iconst 0, 1) := by decide +kernel
theorem dX12_layAlone_2 : decode cX12_layAlone 2 = .ok (.invokevirtual 375, 3) := by decide +kernel
theorem dX12_layAlone_5 : decode cX12_layAlone 5 = .ok (.iconst 0, 1) := by decide +kernel
theorem dX12_layAlone_6 : decode cX12_layAlone 6 = .ok (.istore_n 3, 1) := by decide +kernel
theorem dX12_layAlone_7 : decode cX12_layAlone 7 = .ok (.iload_n 3, 1) := by decide +kernel
theorem dX12_layAlone_8 : decode cX12_layAlone 8 = .ok (.bipush 8, 2) := by decide +kernel
theorem dX12_layAlone_10 : decode cX12_layAlone 10 = .ok (.if_icmp .ge 17, 3) := by decide +kernel
theorem dX12_layAlone_13 : decode cX12_layAlone 13 = .ok (.aload_n 0, 1) := by decide +kernel
theorem dX12_layAlone_14 : decode cX12_layAlone 14 = .ok (.iload_n 3, 1) := by decide +kernel
theorem dX12_layAlone_15 : decode cX12_layAlone 15 = .ok (.bipush 7, 2) := by decide +kernel
theorem dX12_layAlone_17 : decode cX12_layAlone 17 = .ok (.iconst 0, 1) := by decide +kernel
theorem dX12_layAlone_18 : decode cX12_layAlone 18 = .ok (.invokevirtual 258, 3) := by decide +kernel
theorem dX12_layAlone_21 : decode cX12_layAlone 21 = .ok (.iinc 3 1, 3) := by decide +kernel
theorem dX12_layAlone_24 : decode cX12_layAlone 24 = .ok (.goto (-17), 3) := by decide +kernel
theorem dX12_layAlone_27 : decode cX12_layAlone 27 = .ok (.aload_n 0, 1) := by decide +kernel
theorem dX12_layAlone_28 : decode cX12_layAlone 28 = .ok (.getfield 52, 3) := by decide +kernel
theorem dX12_layAlone_31 : decode cX12_layAlone 31 = .ok (.bipush 65, 2) := by decide +kernel
theorem dX12_layAlone_33 : decode cX12_layAlone 33 = .ok (.iconst 0, 1) := by decide +kernel
theorem dX12_layAlone_34 : decode cX12_layAlone 34 = .ok (.iastore, 1) := by decide +kernel
theorem dX12_layAlone_35 : decode cX12_layAlone 35 = .ok (.aload_n 0, 1) := by decide +kernel
theorem dX12_layAlone_36 : decode cX12_layAlone 36 = .ok (.iload_n 1, 1) := by decide +kernel
theorem dX12_layAlone_37 : decode cX12_layAlone 37 = .ok (.invokevirtual 269, 3) := by decide +kernel
theorem dX12_layAlone_40 : decode cX12_layAlone 40 = .ok (.aload_n 0, 1) := by decide +kernel
theorem dX12_layAlone_41 : decode cX12_layAlone 41 = .ok (.iload_n 1, 1) := by decide +kernel
theorem dX12_layAlone_42 : decode cX12_layAlone 42 = .ok (.iconst 0, 1) := by decide +kernel
theorem dX12_layAlone_43 : decode cX12_layAlone 43 = .ok (.iload_n 2, 1) := by decide +kernel
theorem dX12_layAlone_44 : decode cX12_layAlone 44 = .ok (.invokevirtual 258, 3) := by decide +kernel
theorem dX12_layAlone_47 : decode cX12_layAlone 47 = .ok (.iconst 0, 1) := by decide +kernel
theorem dX12_layAlone_48 : decode cX12_layAlone 48 = .ok (.istore_n 3, 1) := by decide +kernel
theorem dX12_layAlone_49 : decode cX12_layAlone 49 = .ok (.iload_n 3, 1) := by decide +kernel
theorem dX12_layAlone_50 : decode cX12_layAlone 50 = .ok (.bipush 9, 2) := by decide +kernel
theorem dX12_layAlone_52 : decode cX12_layAlone 52 = .ok (.if_icmp .gt 24, 3) := by decide +kernel
theorem dX12_layAlone_55 : decode cX12_layAlone 55 = .ok (.aload_n 0, 1) := by decide +kernel
theorem dX12_layAlone_56 : decode cX12_layAlone 56 = .ok (.getfield 93, 3) := by decide +kernel
theorem dX12_layAlone_59 : decode cX12_layAlone 59 = .ok (.iload_n 3, 1) := by decide +kernel
theorem dX12_layAlone_60 : decode cX12_layAlone 60 = .ok (.aload_n 0, 1) := by decide +kernel
theorem dX12_layAlone_61 : decode cX12_layAlone 61 = .ok (.iload_n 1, 1) := by decide +kernel
theorem dX12_layAlone_62 : decode cX12_layAlone 62 = .ok (.invokevirtual 378, 3) := by decide +kernel
theorem dX12_layAlone_65 : decode cX12_layAlone 65 = .ok (.iastore, 1) := by decide +kernel
theorem dX12_layAlone_66 : decode cX12_layAlone 66 = .ok (.aload_n 0, 1) := by decide +kernel
theorem dX12_layAlone_67 : decode cX12_layAlone 67 = .ok (.invokevirtual 327, 3) := by decide +kernel
theorem dX12_layAlone_70 : decode cX12_layAlone 70 = .ok (.iinc 3 1, 3) := by decide +kernel
theorem dX12_layAlone_73 : decode cX12_layAlone 73 = .ok (.goto (-24), 3) := by decide +kernel
theorem dX12_layAlone_76 : decode cX12_layAlone 76 = .ok (.aload_n 0, 1) := by decide +kernel
theorem dX12_layAlone_77 : decode cX12_layAlone 77 = .ok (.iconst 0, 1) := by decide +kernel
theorem dX12_layAlone_78 : decode cX12_layAlone 78 = .ok (.invokevirtual 381, 3) := by decide +kernel
theorem dX12_layAlone_81 : decode cX12_layAlone 81 = .ok (.return_, 1) := by decide +kernel
theorem dX12_isSize_0 : decode cX12_isSize 0 = .ok (.aload_n 0, 1) := by decide +kernel
theorem dX12_isSize_1 : decode cX12_isSize 1 = .ok (.iload_n 1, 1) := by decide +kernel
theorem dX12_isSize_2 : decode cX12_isSize 2 = .ok (.iload_n 2, 1) := by decide +kernel
theorem dX12_isSize_3 : decode cX12_isSize 3 = .ok (.invokevirtual 428, 3) := by decide +kernel
theorem dX12_isSize_6 : decode cX12_isSize 6 = .ok (.iconst 0, 1) := by decide +kernel
theorem dX12_isSize_7 : decode cX12_isSize 7 = .ok (.istore_n 3, 1) := by decide +kernel
theorem dX12_isSize_8 : decode cX12_isSize 8 = .ok (.iload_n 3, 1) := by decide +kernel
theorem dX12_isSize_9 : decode cX12_isSize 9 = .ok (.aload_n 0, 1) := by decide +kernel
theorem dX12_isSize_10 : decode cX12_isSize 10 = .ok (.getfield 272, 3) := by decide +kernel
theorem dX12_isSize_13 : decode cX12_isSize 13 = .ok (.if_icmp .ge 55, 3) := by decide +kernel
theorem dX12_isSize_16 : decode cX12_isSize 16 = .ok (.aload_n 0, 1) := by decide +kernel
theorem dX12_isSize_17 : decode cX12_isSize 17 = .ok (.getfield 80, 3) := by decide +kernel
theorem dX12_isSize_20 : decode cX12_isSize 20 = .ok (.iload_n 3, 1) := by decide +kernel
theorem dX12_isSize_21 : decode cX12_isSize 21 = .ok (.iaload, 1) := by decide +kernel
theorem dX12_isSize_22 : decode cX12_isSize 22 = .ok (.iload_n 1, 1) := by decide +kernel
theorem dX12_isSize_23 : decode cX12_isSize 23 = .ok (.if_icmp .ne 39, 3) := by decide +kernel
theorem dX12_isSize_26 : decode cX12_isSize 26 = .ok (.aload_n 0, 1) := by decide +kernel
theorem dX12_isSize_27 : decode cX12_isSize 27 = .ok (.getfield 93, 3) := by decide +kernel
theorem dX12_isSize_30 : decode cX12_isSize 30 = .ok (.aload_n 0, 1) := by decide +kernel
theorem dX12_isSize_31 : decode cX12_isSize 31 = .ok (.getfield 83, 3) := by decide +kernel
theorem dX12_isSize_34 : decode cX12_isSize 34 = .ok (.iload_n 3, 1) := by decide +kernel
theorem dX12_isSize_35 : decode cX12_isSize 35 = .ok (.iaload, 1) := by decide +kernel
theorem dX12_isSize_36 : decode cX12_isSize 36 = .ok (.iaload, 1) := by decide +kernel
theorem dX12_isSize_37 : decode cX12_isSize 37 = .ok (.aload_n 0, 1) := by decide +kernel
theorem dX12_isSize_38 : decode cX12_isSize 38 = .ok (.getfield 86, 3) := by decide +kernel
theorem dX12_isSize_41 : decode cX12_isSize 41 = .ok (.iload_n 3, 1) := by decide +kernel
theorem dX12_isSize_42 : decode cX12_isSize 42 = .ok (.iaload, 1) := by decide +kernel
theorem dX12_isSize_43 : decode cX12_isSize 43 = .ok (.if_icmp .lt 7, 3) := by decide +kernel
theorem dX12_isSize_46 : decode cX12_isSize 46 = .ok (.iconst 1, 1) := by decide +kernel
theorem dX12_isSize_47 : decode cX12_isSize 47 = .ok (.goto 4, 3) := by decide +kernel
theorem dX12_isSize_50 : decode cX12_isSize 50 = .ok (.iconst 0, 1) := by decide +kernel
theorem dX12_isSize_51 : decode cX12_isSize 51 = .ok (.aload_n 0, 1) := by decide +kernel
theorem dX12_isSize_52 : decode cX12_isSize 52 = .ok (.getfield 89, 3) := by decide +kernel
theorem dX12_isSize_55 : decode cX12_isSize 55 = .ok (.iload_n 3, 1) := by decide +kernel
theorem dX12_isSize_56 : decode cX12_isSize 56 = .ok (.baload, 1) := by decide +kernel
theorem dX12_isSize_57 : decode cX12_isSize 57 = .ok (.if_icmp .eq 5, 3) := by decide +kernel
theorem dX12_isSize_60 : decode cX12_isSize 60 = .ok (.iconst 0, 1) := by decide +kernel
theorem dX12_isSize_61 : decode cX12_isSize 61 = .ok (.ireturn, 1) := by decide +kernel
theorem dX12_isSize_62 : decode cX12_isSize 62 = .ok (.iinc 3 1, 3) := by decide +kernel
theorem dX12_isSize_65 : decode cX12_isSize 65 = .ok (.goto (-57), 3) := by decide +kernel
theorem dX12_isSize_68 : decode cX12_isSize 68 = .ok (.iconst 1, 1) := by decide +kernel
theorem dX12_isSize_69 : decode cX12_isSize 69 = .ok (.ireturn, 1) := by decide +kernel
theorem dX12_sizes_0 : decode cX12_sizes 0 = .ok (.aload_n 0, 1) := by decide +kernel
theorem dX12_sizes_1 : decode cX12_sizes 1 = .ok (.iload_n 1, 1) := by decide +kernel
theorem dX12_sizes_2 : decode cX12_sizes 2 = .ok (.invokevirtual 425, 3) := by decide +kernel
theorem dX12_sizes_5 : decode cX12_sizes 5 = .ok (.ifCond .eq 8, 3) := by decide +kernel
theorem dX12_sizes_8 : decode cX12_sizes 8 = .ok (.iload_n 2, 1) := by decide +kernel
theorem dX12_sizes_9 : decode cX12_sizes 9 = .ok (.iconst (-1), 1) := by decide +kernel
theorem dX12_sizes_10 : decode cX12_sizes 10 = .ok (.if_icmp .ge 5, 3) := by decide +kernel
theorem dX12_sizes_13 : decode cX12_sizes 13 = .ok (.iconst (-1), 1) := by decide +kernel
theorem dX12_sizes_14 : decode cX12_sizes 14 = .ok (.ireturn, 1) := by decide +kernel
theorem dX12_sizes_15 : decode cX12_sizes 15 = .ok (.iconst 0, 1) := by decide +kernel
theorem dX12_sizes_16 : decode cX12_sizes 16 = .ok (.istore_n 3, 1) := by decide +kernel
theorem dX12_sizes_17 : decode cX12_sizes 17 = .ok (.iconst 1, 1) := by decide +kernel
theorem dX12_sizes_18 : decode cX12_sizes 18 = .ok (.istore 4, 2) := by decide +kernel
theorem dX12_sizes_20 : decode cX12_sizes 20 = .ok (.iload 4, 2) := by decide +kernel
theorem dX12_sizes_22 : decode cX12_sizes 22 = .ok (.bipush 30, 2) := by decide +kernel
theorem dX12_sizes_24 : decode cX12_sizes 24 = .ok (.if_icmp .gt 30, 3) := by decide +kernel
theorem dX12_sizes_27 : decode cX12_sizes 27 = .ok (.aload_n 0, 1) := by decide +kernel
theorem dX12_sizes_28 : decode cX12_sizes 28 = .ok (.iload_n 1, 1) := by decide +kernel
theorem dX12_sizes_29 : decode cX12_sizes 29 = .ok (.iload 4, 2) := by decide +kernel
theorem dX12_sizes_31 : decode cX12_sizes 31 = .ok (.invokevirtual 431, 3) := by decide +kernel
theorem dX12_sizes_34 : decode cX12_sizes 34 = .ok (.ifCond .eq 14, 3) := by decide +kernel
theorem dX12_sizes_37 : decode cX12_sizes 37 = .ok (.iload_n 3, 1) := by decide +kernel
theorem dX12_sizes_38 : decode cX12_sizes 38 = .ok (.iload_n 2, 1) := by decide +kernel
theorem dX12_sizes_39 : decode cX12_sizes 39 = .ok (.if_icmp .ne 6, 3) := by decide +kernel
theorem dX12_sizes_42 : decode cX12_sizes 42 = .ok (.iload 4, 2) := by decide +kernel
theorem dX12_sizes_44 : decode cX12_sizes 44 = .ok (.ireturn, 1) := by decide +kernel
theorem dX12_sizes_45 : decode cX12_sizes 45 = .ok (.iinc 3 1, 3) := by decide +kernel
theorem dX12_sizes_48 : decode cX12_sizes 48 = .ok (.iinc 4 1, 3) := by decide +kernel
theorem dX12_sizes_51 : decode cX12_sizes 51 = .ok (.goto (-31), 3) := by decide +kernel
theorem dX12_sizes_54 : decode cX12_sizes 54 = .ok (.iload_n 2, 1) := by decide +kernel
theorem dX12_sizes_55 : decode cX12_sizes 55 = .ok (.iconst (-1), 1) := by decide +kernel
theorem dX12_sizes_56 : decode cX12_sizes 56 = .ok (.if_icmp .ne 7, 3) := by decide +kernel
theorem dX12_sizes_59 : decode cX12_sizes 59 = .ok (.iload_n 3, 1) := by decide +kernel
theorem dX12_sizes_60 : decode cX12_sizes 60 = .ok (.goto 4, 3) := by decide +kernel
theorem dX12_sizes_63 : decode cX12_sizes 63 = .ok (.iconst (-1), 1) := by decide +kernel
theorem dX12_sizes_64 : decode cX12_sizes 64 = .ok (.ireturn, 1) := by decide +kernel
theorem dX12_ask_0 : decode cX12_ask 0 = .ok (.aload_n 0, 1) := by decide +kernel
theorem dX12_ask_1 : decode cX12_ask 1 = .ok (.iload_n 1, 1) := by decide +kernel
theorem dX12_ask_2 : decode cX12_ask 2 = .ok (.invokevirtual 425, 3) := by decide +kernel
theorem dX12_ask_5 : decode cX12_ask 5 = .ok (.ifCond .eq 13, 3) := by decide +kernel
theorem dX12_ask_8 : decode cX12_ask 8 = .ok (.iload_n 2, 1) := by decide +kernel
theorem dX12_ask_9 : decode cX12_ask 9 = .ok (.iconst 1, 1) := by decide +kernel
theorem dX12_ask_10 : decode cX12_ask 10 = .ok (.bipush 9, 2) := by decide +kernel
theorem dX12_ask_12 : decode cX12_ask 12 = .ok (.invokestatic 217, 3) := by decide +kernel
theorem dX12_ask_15 : decode cX12_ask 15 = .ok (.ifCond .ne 5, 3) := by decide +kernel
theorem dX12_ask_18 : decode cX12_ask 18 = .ok (.iconst (-1), 1) := by decide +kernel
theorem dX12_ask_19 : decode cX12_ask 19 = .ok (.ireturn, 1) := by decide +kernel
theorem dX12_ask_20 : decode cX12_ask 20 = .ok (.iconst 0, 1) := by decide +kernel
theorem dX12_ask_21 : decode cX12_ask 21 = .ok (.istore_n 3, 1) := by decide +kernel
theorem dX12_ask_22 : decode cX12_ask 22 = .ok (.iconst 1, 1) := by decide +kernel
theorem dX12_ask_23 : decode cX12_ask 23 = .ok (.istore 4, 2) := by decide +kernel
theorem dX12_ask_25 : decode cX12_ask 25 = .ok (.iload 4, 2) := by decide +kernel
theorem dX12_ask_27 : decode cX12_ask 27 = .ok (.bipush 30, 2) := by decide +kernel
theorem dX12_ask_29 : decode cX12_ask 29 = .ok (.if_icmp .gt 55, 3) := by decide +kernel
theorem dX12_ask_32 : decode cX12_ask 32 = .ok (.aload_n 0, 1) := by decide +kernel
theorem dX12_ask_33 : decode cX12_ask 33 = .ok (.getfield 96, 3) := by decide +kernel
theorem dX12_ask_36 : decode cX12_ask 36 = .ok (.iload 4, 2) := by decide +kernel
theorem dX12_ask_38 : decode cX12_ask 38 = .ok (.aload_n 0, 1) := by decide +kernel
theorem dX12_ask_39 : decode cX12_ask 39 = .ok (.iload_n 1, 1) := by decide +kernel
theorem dX12_ask_40 : decode cX12_ask 40 = .ok (.iload 4, 2) := by decide +kernel
theorem dX12_ask_42 : decode cX12_ask 42 = .ok (.invokevirtual 431, 3) := by decide +kernel
theorem dX12_ask_45 : decode cX12_ask 45 = .ok (.ifCond .eq 12, 3) := by decide +kernel
theorem dX12_ask_48 : decode cX12_ask 48 = .ok (.aload_n 0, 1) := by decide +kernel
theorem dX12_ask_49 : decode cX12_ask 49 = .ok (.getfield 93, 3) := by decide +kernel
theorem dX12_ask_52 : decode cX12_ask 52 = .ok (.iload_n 2, 1) := by decide +kernel
theorem dX12_ask_53 : decode cX12_ask 53 = .ok (.iaload, 1) := by decide +kernel
theorem dX12_ask_54 : decode cX12_ask 54 = .ok (.goto 4, 3) := by decide +kernel
theorem dX12_ask_57 : decode cX12_ask 57 = .ok (.iconst (-1), 1) := by decide +kernel
theorem dX12_ask_58 : decode cX12_ask 58 = .ok (.iastore, 1) := by decide +kernel
theorem dX12_ask_59 : decode cX12_ask 59 = .ok (.iload_n 3, 1) := by decide +kernel
theorem dX12_ask_60 : decode cX12_ask 60 = .ok (.aload_n 0, 1) := by decide +kernel
theorem dX12_ask_61 : decode cX12_ask 61 = .ok (.getfield 96, 3) := by decide +kernel
theorem dX12_ask_64 : decode cX12_ask 64 = .ok (.iload 4, 2) := by decide +kernel
theorem dX12_ask_66 : decode cX12_ask 66 = .ok (.iaload, 1) := by decide +kernel
theorem dX12_ask_67 : decode cX12_ask 67 = .ok (.iconst (-1), 1) := by decide +kernel
theorem dX12_ask_68 : decode cX12_ask 68 = .ok (.if_icmp .ne 7, 3) := by decide +kernel
theorem dX12_ask_71 : decode cX12_ask 71 = .ok (.iconst 0, 1) := by decide +kernel
theorem dX12_ask_72 : decode cX12_ask 72 = .ok (.goto 4, 3) := by decide +kernel
theorem dX12_ask_75 : decode cX12_ask 75 = .ok (.iconst 1, 1) := by decide +kernel
theorem dX12_ask_76 : decode cX12_ask 76 = .ok (.iadd, 1) := by decide +kernel
theorem dX12_ask_77 : decode cX12_ask 77 = .ok (.istore_n 3, 1) := by decide +kernel
theorem dX12_ask_78 : decode cX12_ask 78 = .ok (.iinc 4 1, 3) := by decide +kernel
theorem dX12_ask_81 : decode cX12_ask 81 = .ok (.goto (-56), 3) := by decide +kernel
theorem dX12_ask_84 : decode cX12_ask 84 = .ok (.iconst (-1), 1) := by decide +kernel
theorem dX12_ask_85 : decode cX12_ask 85 = .ok (.istore 4, 2) := by decide +kernel
theorem dX12_ask_87 : decode cX12_ask 87 = .ok (.iconst 0, 1) := by decide +kernel
theorem dX12_ask_88 : decode cX12_ask 88 = .ok (.istore 5, 2) := by decide +kernel
theorem dX12_ask_90 : decode cX12_ask 90 = .ok (.iconst 0, 1) := by decide +kernel
theorem dX12_ask_91 : decode cX12_ask 91 = .ok (.istore 6, 2) := by decide +kernel
theorem dX12_ask_93 : decode cX12_ask 93 = .ok (.iload 6, 2) := by decide +kernel
theorem dX12_ask_95 : decode cX12_ask 95 = .ok (.bipush 99, 2) := by decide +kernel
theorem dX12_ask_97 : decode cX12_ask 97 = .ok (.if_icmp .gt 96, 3) := by decide +kernel
theorem dX12_ask_100 : decode cX12_ask 100 = .ok (.iload_n 3, 1) := by decide +kernel
theorem dX12_ask_101 : decode cX12_ask 101 = .ok (.ifCond .le 92, 3) := by decide +kernel
theorem dX12_ask_104 : decode cX12_ask 104 = .ok (.iconst 0, 1) := by decide +kernel
theorem dX12_ask_105 : decode cX12_ask 105 = .ok (.istore 7, 2) := by decide +kernel
theorem dX12_ask_107 : decode cX12_ask 107 = .ok (.iconst 1, 1) := by decide +kernel
theorem dX12_ask_108 : decode cX12_ask 108 = .ok (.istore 8, 2) := by decide +kernel
theorem dX12_ask_110 : decode cX12_ask 110 = .ok (.iload 8, 2) := by decide +kernel
theorem dX12_ask_112 : decode cX12_ask 112 = .ok (.bipush 30, 2) := by decide +kernel
theorem dX12_ask_114 : decode cX12_ask 114 = .ok (.if_icmp .gt 46, 3) := by decide +kernel
theorem dX12_ask_117 : decode cX12_ask 117 = .ok (.iload 7, 2) := by decide +kernel
theorem dX12_ask_119 : decode cX12_ask 119 = .ok (.aload_n 0, 1) := by decide +kernel
theorem dX12_ask_120 : decode cX12_ask 120 = .ok (.getfield 96, 3) := by decide +kernel
theorem dX12_ask_123 : decode cX12_ask 123 = .ok (.iload 8, 2) := by decide +kernel
theorem dX12_ask_125 : decode cX12_ask 125 = .ok (.iaload, 1) := by decide +kernel
theorem dX12_ask_126 : decode cX12_ask 126 = .ok (.iconst (-1), 1) := by decide +kernel
theorem dX12_ask_127 : decode cX12_ask 127 = .ok (.if_icmp .ne 7, 3) := by decide +kernel
theorem dX12_ask_130 : decode cX12_ask 130 = .ok (.iconst 0, 1) := by decide +kernel
theorem dX12_ask_131 : decode cX12_ask 131 = .ok (.goto 20, 3) := by decide +kernel
theorem dX12_ask_134 : decode cX12_ask 134 = .ok (.aload_n 0, 1) := by decide +kernel
theorem dX12_ask_135 : decode cX12_ask 135 = .ok (.getfield 96, 3) := by decide +kernel
theorem dX12_ask_138 : decode cX12_ask 138 = .ok (.iload 8, 2) := by decide +kernel
theorem dX12_ask_140 : decode cX12_ask 140 = .ok (.iaload, 1) := by decide +kernel
theorem dX12_ask_141 : decode cX12_ask 141 = .ok (.iload 6, 2) := by decide +kernel
theorem dX12_ask_143 : decode cX12_ask 143 = .ok (.if_icmp .lt 7, 3) := by decide +kernel
theorem dX12_ask_146 : decode cX12_ask 146 = .ok (.iconst 1, 1) := by decide +kernel
theorem dX12_ask_147 : decode cX12_ask 147 = .ok (.goto 4, 3) := by decide +kernel
theorem dX12_ask_150 : decode cX12_ask 150 = .ok (.iconst (-1), 1) := by decide +kernel
theorem dX12_ask_151 : decode cX12_ask 151 = .ok (.iadd, 1) := by decide +kernel
theorem dX12_ask_152 : decode cX12_ask 152 = .ok (.istore 7, 2) := by decide +kernel
theorem dX12_ask_154 : decode cX12_ask 154 = .ok (.iinc 8 1, 3) := by decide +kernel
theorem dX12_ask_157 : decode cX12_ask 157 = .ok (.goto (-47), 3) := by decide +kernel
theorem dX12_ask_160 : decode cX12_ask 160 = .ok (.iload 4, 2) := by decide +kernel
theorem dX12_ask_162 : decode cX12_ask 162 = .ok (.iconst (-1), 1) := by decide +kernel
theorem dX12_ask_163 : decode cX12_ask 163 = .ok (.if_icmp .eq 13, 3) := by decide +kernel
theorem dX12_ask_166 : decode cX12_ask 166 = .ok (.iload 7, 2) := by decide +kernel
theorem dX12_ask_168 : decode cX12_ask 168 = .ok (.invokestatic 411, 3) := by decide +kernel
theorem dX12_ask_171 : decode cX12_ask 171 = .ok (.iload 5, 2) := by decide +kernel
theorem dX12_ask_173 : decode cX12_ask 173 = .ok (.if_icmp .ge 14, 3) := by decide +kernel
theorem dX12_ask_176 : decode cX12_ask 176 = .ok (.iload 6, 2) := by decide +kernel
theorem dX12_ask_178 : decode cX12_ask 178 = .ok (.istore 4, 2) := by decide +kernel
theorem dX12_ask_180 : decode cX12_ask 180 = .ok (.iload 7, 2) := by decide +kernel
theorem dX12_ask_182 : decode cX12_ask 182 = .ok (.invokestatic 411, 3) := by decide +kernel
theorem dX12_ask_185 : decode cX12_ask 185 = .ok (.istore 5, 2) := by decide +kernel
theorem dX12_ask_187 : decode cX12_ask 187 = .ok (.iinc 6 1, 3) := by decide +kernel
theorem dX12_ask_190 : decode cX12_ask 190 = .ok (.goto (-97), 3) := by decide +kernel
theorem dX12_ask_193 : decode cX12_ask 193 = .ok (.iload 4, 2) := by decide +kernel
theorem dX12_ask_195 : decode cX12_ask 195 = .ok (.ireturn, 1) := by decide +kernel
theorem dX12_ripeOnes_0 : decode cX12_ripeOnes 0 = .ok (.iconst 0, 1) := by decide +kernel
theorem dX12_ripeOnes_1 : decode cX12_ripeOnes 1 = .ok (.istore_n 1, 1) := by decide +kernel
theorem dX12_ripeOnes_2 : decode cX12_ripeOnes 2 = .ok (.iconst 0, 1) := by decide +kernel
theorem dX12_ripeOnes_3 : decode cX12_ripeOnes 3 = .ok (.istore_n 2, 1) := by decide +kernel
theorem dX12_ripeOnes_4 : decode cX12_ripeOnes 4 = .ok (.iload_n 2, 1) := by decide +kernel
theorem dX12_ripeOnes_5 : decode cX12_ripeOnes 5 = .ok (.bipush 8, 2) := by decide +kernel
theorem dX12_ripeOnes_7 : decode cX12_ripeOnes 7 = .ok (.if_icmp .ge 38, 3) := by decide +kernel
theorem dX12_ripeOnes_10 : decode cX12_ripeOnes 10 = .ok (.iload_n 1, 1) := by decide +kernel
theorem dX12_ripeOnes_11 : decode cX12_ripeOnes 11 = .ok (.aload_n 0, 1) := by decide +kernel
theorem dX12_ripeOnes_12 : decode cX12_ripeOnes 12 = .ok (.iload_n 2, 1) := by decide +kernel
theorem dX12_ripeOnes_13 : decode cX12_ripeOnes 13 = .ok (.invokevirtual 290, 3) := by decide +kernel
theorem dX12_ripeOnes_16 : decode cX12_ripeOnes 16 = .ok (.ifCond .eq 20, 3) := by decide +kernel
theorem dX12_ripeOnes_19 : decode cX12_ripeOnes 19 = .ok (.aload_n 0, 1) := by decide +kernel
theorem dX12_ripeOnes_20 : decode cX12_ripeOnes 20 = .ok (.iload_n 2, 1) := by decide +kernel
theorem dX12_ripeOnes_21 : decode cX12_ripeOnes 21 = .ok (.iconst 5, 1) := by decide +kernel
theorem dX12_ripeOnes_22 : decode cX12_ripeOnes 22 = .ok (.invokevirtual 287, 3) := by decide +kernel
theorem dX12_ripeOnes_25 : decode cX12_ripeOnes 25 = .ok (.bipush 7, 2) := by decide +kernel
theorem dX12_ripeOnes_27 : decode cX12_ripeOnes 27 = .ok (.if_icmp .lt 9, 3) := by decide +kernel
theorem dX12_ripeOnes_30 : decode cX12_ripeOnes 30 = .ok (.iconst 1, 1) := by decide +kernel
theorem dX12_ripeOnes_31 : decode cX12_ripeOnes 31 = .ok (.iload_n 2, 1) := by decide +kernel
theorem dX12_ripeOnes_32 : decode cX12_ripeOnes 32 = .ok (.ishl, 1) := by decide +kernel
theorem dX12_ripeOnes_33 : decode cX12_ripeOnes 33 = .ok (.goto 4, 3) := by decide +kernel
theorem dX12_ripeOnes_36 : decode cX12_ripeOnes 36 = .ok (.iconst 0, 1) := by decide +kernel
theorem dX12_ripeOnes_37 : decode cX12_ripeOnes 37 = .ok (.ior, 1) := by decide +kernel
theorem dX12_ripeOnes_38 : decode cX12_ripeOnes 38 = .ok (.istore_n 1, 1) := by decide +kernel
theorem dX12_ripeOnes_39 : decode cX12_ripeOnes 39 = .ok (.iinc 2 1, 3) := by decide +kernel
theorem dX12_ripeOnes_42 : decode cX12_ripeOnes 42 = .ok (.goto (-38), 3) := by decide +kernel
theorem dX12_ripeOnes_45 : decode cX12_ripeOnes 45 = .ok (.iload_n 1, 1) := by decide +kernel
theorem dX12_ripeOnes_46 : decode cX12_ripeOnes 46 = .ok (.ireturn, 1) := by decide +kernel
theorem dX12_sizeOf_0 : decode cX12_sizeOf 0 = .ok (.iconst 0, 1) := by decide +kernel
theorem dX12_sizeOf_1 : decode cX12_sizeOf 1 = .ok (.istore_n 2, 1) := by decide +kernel
theorem dX12_sizeOf_2 : decode cX12_sizeOf 2 = .ok (.iconst 0, 1) := by decide +kernel
theorem dX12_sizeOf_3 : decode cX12_sizeOf 3 = .ok (.istore_n 3, 1) := by decide +kernel
theorem dX12_sizeOf_4 : decode cX12_sizeOf 4 = .ok (.iload_n 3, 1) := by decide +kernel
theorem dX12_sizeOf_5 : decode cX12_sizeOf 5 = .ok (.bipush 8, 2) := by decide +kernel
theorem dX12_sizeOf_7 : decode cX12_sizeOf 7 = .ok (.if_icmp .ge 30, 3) := by decide +kernel
theorem dX12_sizeOf_10 : decode cX12_sizeOf 10 = .ok (.iload_n 2, 1) := by decide +kernel
theorem dX12_sizeOf_11 : decode cX12_sizeOf 11 = .ok (.iload_n 1, 1) := by decide +kernel
theorem dX12_sizeOf_12 : decode cX12_sizeOf 12 = .ok (.iload_n 3, 1) := by decide +kernel
theorem dX12_sizeOf_13 : decode cX12_sizeOf 13 = .ok (.invokestatic 228, 3) := by decide +kernel
theorem dX12_sizeOf_16 : decode cX12_sizeOf 16 = .ok (.ifCond .eq 12, 3) := by decide +kernel
theorem dX12_sizeOf_19 : decode cX12_sizeOf 19 = .ok (.aload_n 0, 1) := by decide +kernel
theorem dX12_sizeOf_20 : decode cX12_sizeOf 20 = .ok (.iload_n 3, 1) := by decide +kernel
theorem dX12_sizeOf_21 : decode cX12_sizeOf 21 = .ok (.iconst 0, 1) := by decide +kernel
theorem dX12_sizeOf_22 : decode cX12_sizeOf 22 = .ok (.invokevirtual 287, 3) := by decide +kernel
theorem dX12_sizeOf_25 : decode cX12_sizeOf 25 = .ok (.goto 4, 3) := by decide +kernel
theorem dX12_sizeOf_28 : decode cX12_sizeOf 28 = .ok (.iconst 0, 1) := by decide +kernel
theorem dX12_sizeOf_29 : decode cX12_sizeOf 29 = .ok (.iadd, 1) := by decide +kernel
theorem dX12_sizeOf_30 : decode cX12_sizeOf 30 = .ok (.istore_n 2, 1) := by decide +kernel
theorem dX12_sizeOf_31 : decode cX12_sizeOf 31 = .ok (.iinc 3 1, 3) := by decide +kernel
theorem dX12_sizeOf_34 : decode cX12_sizeOf 34 = .ok (.goto (-30), 3) := by decide +kernel
theorem dX12_sizeOf_37 : decode cX12_sizeOf 37 = .ok (.iload_n 2, 1) := by decide +kernel
theorem dX12_sizeOf_38 : decode cX12_sizeOf 38 = .ok (.ireturn, 1) := by decide +kernel
theorem dX12_sale_0 : decode cX12_sale 0 = .ok (.aload_n 0, 1) := by decide +kernel
theorem dX12_sale_1 : decode cX12_sale 1 = .ok (.getfield 262, 3) := by decide +kernel
theorem dX12_sale_4 : decode cX12_sale 4 = .ok (.ifCond .eq 14, 3) := by decide +kernel
theorem dX12_sale_7 : decode cX12_sale 7 = .ok (.iload_n 1, 1) := by decide +kernel
theorem dX12_sale_8 : decode cX12_sale 8 = .ok (.iconst 1, 1) := by decide +kernel
theorem dX12_sale_9 : decode cX12_sale 9 = .ok (.sipush 400, 3) := by decide +kernel
theorem dX12_sale_12 : decode cX12_sale 12 = .ok (.invokestatic 217, 3) := by decide +kernel
theorem dX12_sale_15 : decode cX12_sale 15 = .ok (.ifCond .ne 5, 3) := by decide +kernel
theorem dX12_sale_18 : decode cX12_sale 18 = .ok (.iconst (-1), 1) := by decide +kernel
theorem dX12_sale_19 : decode cX12_sale 19 = .ok (.ireturn, 1) := by decide +kernel
theorem dX12_sale_20 : decode cX12_sale 20 = .ok (.iconst (-1), 1) := by decide +kernel
theorem dX12_sale_21 : decode cX12_sale 21 = .ok (.istore_n 2, 1) := by decide +kernel
theorem dX12_sale_22 : decode cX12_sale 22 = .ok (.iconst 1, 1) := by decide +kernel
theorem dX12_sale_23 : decode cX12_sale 23 = .ok (.istore_n 3, 1) := by decide +kernel
theorem dX12_sale_24 : decode cX12_sale 24 = .ok (.iload_n 3, 1) := by decide +kernel
theorem dX12_sale_25 : decode cX12_sale 25 = .ok (.sipush 256, 3) := by decide +kernel
theorem dX12_sale_28 : decode cX12_sale 28 = .ok (.if_icmp .ge 63, 3) := by decide +kernel
theorem dX12_sale_31 : decode cX12_sale 31 = .ok (.iload_n 3, 1) := by decide +kernel
theorem dX12_sale_32 : decode cX12_sale 32 = .ok (.aload_n 0, 1) := by decide +kernel
theorem dX12_sale_33 : decode cX12_sale 33 = .ok (.invokevirtual 434, 3) := by decide +kernel
theorem dX12_sale_36 : decode cX12_sale 36 = .ok (.iconst (-1), 1) := by decide +kernel
theorem dX12_sale_37 : decode cX12_sale 37 = .ok (.ixor, 1) := by decide +kernel
theorem dX12_sale_38 : decode cX12_sale 38 = .ok (.iand, 1) := by decide +kernel
theorem dX12_sale_39 : decode cX12_sale 39 = .ok (.ifCond .ne 16, 3) := by decide +kernel
theorem dX12_sale_42 : decode cX12_sale 42 = .ok (.aload_n 0, 1) := by decide +kernel
theorem dX12_sale_43 : decode cX12_sale 43 = .ok (.iload_n 3, 1) := by decide +kernel
theorem dX12_sale_44 : decode cX12_sale 44 = .ok (.invokevirtual 437, 3) := by decide +kernel
theorem dX12_sale_47 : decode cX12_sale 47 = .ok (.iload_n 1, 1) := by decide +kernel
theorem dX12_sale_48 : decode cX12_sale 48 = .ok (.if_icmp .lt 7, 3) := by decide +kernel
theorem dX12_sale_51 : decode cX12_sale 51 = .ok (.iconst 1, 1) := by decide +kernel
theorem dX12_sale_52 : decode cX12_sale 52 = .ok (.goto 4, 3) := by decide +kernel
theorem dX12_sale_55 : decode cX12_sale 55 = .ok (.iconst 0, 1) := by decide +kernel
theorem dX12_sale_56 : decode cX12_sale 56 = .ok (.istore 4, 2) := by decide +kernel
theorem dX12_sale_58 : decode cX12_sale 58 = .ok (.iload 4, 2) := by decide +kernel
theorem dX12_sale_60 : decode cX12_sale 60 = .ok (.ifCond .eq 23, 3) := by decide +kernel
theorem dX12_sale_63 : decode cX12_sale 63 = .ok (.iload_n 2, 1) := by decide +kernel
theorem dX12_sale_64 : decode cX12_sale 64 = .ok (.iconst (-1), 1) := by decide +kernel
theorem dX12_sale_65 : decode cX12_sale 65 = .ok (.if_icmp .eq 14, 3) := by decide +kernel
theorem dX12_sale_68 : decode cX12_sale 68 = .ok (.iload_n 3, 1) := by decide +kernel
theorem dX12_sale_69 : decode cX12_sale 69 = .ok (.invokestatic 417, 3) := by decide +kernel
theorem dX12_sale_72 : decode cX12_sale 72 = .ok (.iload_n 2, 1) := by decide +kernel
theorem dX12_sale_73 : decode cX12_sale 73 = .ok (.invokestatic 417, 3) := by decide +kernel
theorem dX12_sale_76 : decode cX12_sale 76 = .ok (.if_icmp .ge 7, 3) := by decide +kernel
theorem dX12_sale_79 : decode cX12_sale 79 = .ok (.iload_n 3, 1) := by decide +kernel
theorem dX12_sale_80 : decode cX12_sale 80 = .ok (.goto 4, 3) := by decide +kernel
theorem dX12_sale_83 : decode cX12_sale 83 = .ok (.iload_n 2, 1) := by decide +kernel
theorem dX12_sale_84 : decode cX12_sale 84 = .ok (.istore_n 2, 1) := by decide +kernel
theorem dX12_sale_85 : decode cX12_sale 85 = .ok (.iinc 3 1, 3) := by decide +kernel
theorem dX12_sale_88 : decode cX12_sale 88 = .ok (.goto (-64), 3) := by decide +kernel
theorem dX12_sale_91 : decode cX12_sale 91 = .ok (.iload_n 2, 1) := by decide +kernel
theorem dX12_sale_92 : decode cX12_sale 92 = .ok (.ireturn, 1) := by decide +kernel
theorem dX12_gameOf_0 : decode cX12_gameOf 0 = .ok (.aload_n 0, 1) := by decide +kernel
theorem dX12_gameOf_1 : decode cX12_gameOf 1 = .ok (.iconst 0, 1) := by decide +kernel
theorem dX12_gameOf_2 : decode cX12_gameOf 2 = .ok (.invokevirtual 375, 3) := by decide +kernel
theorem dX12_gameOf_5 : decode cX12_gameOf 5 = .ok (.iconst 0, 1) := by decide +kernel
theorem dX12_gameOf_6 : decode cX12_gameOf 6 = .ok (.istore 5, 2) := by decide +kernel
theorem dX12_gameOf_8 : decode cX12_gameOf 8 = .ok (.iload 5, 2) := by decide +kernel
theorem dX12_gameOf_10 : decode cX12_gameOf 10 = .ok (.bipush 8, 2) := by decide +kernel
theorem dX12_gameOf_12 : decode cX12_gameOf 12 = .ok (.if_icmp .ge 28, 3) := by decide +kernel
theorem dX12_gameOf_15 : decode cX12_gameOf 15 = .ok (.aload_n 0, 1) := by decide +kernel
theorem dX12_gameOf_16 : decode cX12_gameOf 16 = .ok (.iload 5, 2) := by decide +kernel
theorem dX12_gameOf_18 : decode cX12_gameOf 18 = .ok (.bipush 7, 2) := by decide +kernel
theorem dX12_gameOf_20 : decode cX12_gameOf 20 = .ok (.iload 5, 2) := by decide +kernel
theorem dX12_gameOf_22 : decode cX12_gameOf 22 = .ok (.iload_n 1, 1) := by decide +kernel
theorem dX12_gameOf_23 : decode cX12_gameOf 23 = .ok (.if_icmp .ne 7, 3) := by decide +kernel
theorem dX12_gameOf_26 : decode cX12_gameOf 26 = .ok (.iconst 1, 1) := by decide +kernel
theorem dX12_gameOf_27 : decode cX12_gameOf 27 = .ok (.goto 4, 3) := by decide +kernel
theorem dX12_gameOf_30 : decode cX12_gameOf 30 = .ok (.iconst 0, 1) := by decide +kernel
theorem dX12_gameOf_31 : decode cX12_gameOf 31 = .ok (.invokevirtual 258, 3) := by decide +kernel
theorem dX12_gameOf_34 : decode cX12_gameOf 34 = .ok (.iinc 5 1, 3) := by decide +kernel
theorem dX12_gameOf_37 : decode cX12_gameOf 37 = .ok (.goto (-29), 3) := by decide +kernel
theorem dX12_gameOf_40 : decode cX12_gameOf 40 = .ok (.aload_n 0, 1) := by decide +kernel
theorem dX12_gameOf_41 : decode cX12_gameOf 41 = .ok (.iload_n 1, 1) := by decide +kernel
theorem dX12_gameOf_42 : decode cX12_gameOf 42 = .ok (.bipush 6, 2) := by decide +kernel
theorem dX12_gameOf_44 : decode cX12_gameOf 44 = .ok (.iconst 0, 1) := by decide +kernel
theorem dX12_gameOf_45 : decode cX12_gameOf 45 = .ok (.invokevirtual 258, 3) := by decide +kernel
theorem dX12_gameOf_48 : decode cX12_gameOf 48 = .ok (.aload_n 0, 1) := by decide +kernel
theorem dX12_gameOf_49 : decode cX12_gameOf 49 = .ok (.iload_n 1, 1) := by decide +kernel
theorem dX12_gameOf_50 : decode cX12_gameOf 50 = .ok (.iconst 1, 1) := by decide +kernel
theorem dX12_gameOf_51 : decode cX12_gameOf 51 = .ok (.iconst 0, 1) := by decide +kernel
theorem dX12_gameOf_52 : decode cX12_gameOf 52 = .ok (.aload_n 0, 1) := by decide +kernel
theorem dX12_gameOf_53 : decode cX12_gameOf 53 = .ok (.iload_n 1, 1) := by decide +kernel
theorem dX12_gameOf_54 : decode cX12_gameOf 54 = .ok (.iconst 1, 1) := by decide +kernel
theorem dX12_gameOf_55 : decode cX12_gameOf 55 = .ok (.invokevirtual 287, 3) := by decide +kernel
theorem dX12_gameOf_58 : decode cX12_gameOf 58 = .ok (.iload_n 2, 1) := by decide +kernel
theorem dX12_gameOf_59 : decode cX12_gameOf 59 = .ok (.isub, 1) := by decide +kernel
theorem dX12_gameOf_60 : decode cX12_gameOf 60 = .ok (.invokestatic 301, 3) := by decide +kernel
theorem dX12_gameOf_63 : decode cX12_gameOf 63 = .ok (.invokevirtual 258, 3) := by decide +kernel
theorem dX12_gameOf_66 : decode cX12_gameOf 66 = .ok (.aload_n 0, 1) := by decide +kernel
theorem dX12_gameOf_67 : decode cX12_gameOf 67 = .ok (.iload_n 1, 1) := by decide +kernel
theorem dX12_gameOf_68 : decode cX12_gameOf 68 = .ok (.iconst 2, 1) := by decide +kernel
theorem dX12_gameOf_69 : decode cX12_gameOf 69 = .ok (.iconst 0, 1) := by decide +kernel
theorem dX12_gameOf_70 : decode cX12_gameOf 70 = .ok (.aload_n 0, 1) := by decide +kernel
theorem dX12_gameOf_71 : decode cX12_gameOf 71 = .ok (.iload_n 1, 1) := by decide +kernel
theorem dX12_gameOf_72 : decode cX12_gameOf 72 = .ok (.iconst 2, 1) := by decide +kernel
theorem dX12_gameOf_73 : decode cX12_gameOf 73 = .ok (.invokevirtual 287, 3) := by decide +kernel
theorem dX12_gameOf_76 : decode cX12_gameOf 76 = .ok (.iload_n 3, 1) := by decide +kernel
theorem dX12_gameOf_77 : decode cX12_gameOf 77 = .ok (.isub, 1) := by decide +kernel
theorem dX12_gameOf_78 : decode cX12_gameOf 78 = .ok (.invokestatic 301, 3) := by decide +kernel
theorem dX12_gameOf_81 : decode cX12_gameOf 81 = .ok (.invokevirtual 258, 3) := by decide +kernel
theorem dX12_gameOf_84 : decode cX12_gameOf 84 = .ok (.iconst 0, 1) := by decide +kernel
theorem dX12_gameOf_85 : decode cX12_gameOf 85 = .ok (.istore 5, 2) := by decide +kernel
theorem dX12_gameOf_87 : decode cX12_gameOf 87 = .ok (.iload 5, 2) := by decide +kernel
theorem dX12_gameOf_89 : decode cX12_gameOf 89 = .ok (.iconst 3, 1) := by decide +kernel
theorem dX12_gameOf_90 : decode cX12_gameOf 90 = .ok (.if_icmp .ge 13, 3) := by decide +kernel
theorem dX12_gameOf_93 : decode cX12_gameOf 93 = .ok (.aload_n 0, 1) := by decide +kernel
theorem dX12_gameOf_94 : decode cX12_gameOf 94 = .ok (.invokevirtual 327, 3) := by decide +kernel
theorem dX12_gameOf_97 : decode cX12_gameOf 97 = .ok (.iinc 5 1, 3) := by decide +kernel
theorem dX12_gameOf_100 : decode cX12_gameOf 100 = .ok (.goto (-13), 3) := by decide +kernel
theorem dX12_gameOf_103 : decode cX12_gameOf 103 = .ok (.bipush 30, 2) := by decide +kernel
theorem dX12_gameOf_105 : decode cX12_gameOf 105 = .ok (.aload_n 0, 1) := by decide +kernel
theorem dX12_gameOf_106 : decode cX12_gameOf 106 = .ok (.iload_n 1, 1) := by decide +kernel
theorem dX12_gameOf_107 : decode cX12_gameOf 107 = .ok (.invokevirtual 378, 3) := by decide +kernel
theorem dX12_gameOf_110 : decode cX12_gameOf 110 = .ok (.isub, 1) := by decide +kernel
theorem dX12_gameOf_111 : decode cX12_gameOf 111 = .ok (.iconst 2, 1) := by decide +kernel
theorem dX12_gameOf_112 : decode cX12_gameOf 112 = .ok (.iload 4, 2) := by decide +kernel
theorem dX12_gameOf_114 : decode cX12_gameOf 114 = .ok (.ifCond .ne 7, 3) := by decide +kernel
theorem dX12_gameOf_117 : decode cX12_gameOf 117 = .ok (.iload_n 2, 1) := by decide +kernel
theorem dX12_gameOf_118 : decode cX12_gameOf 118 = .ok (.goto 4, 3) := by decide +kernel
theorem dX12_gameOf_121 : decode cX12_gameOf 121 = .ok (.iload_n 3, 1) := by decide +kernel
theorem dX12_gameOf_122 : decode cX12_gameOf 122 = .ok (.imul, 1) := by decide +kernel
theorem dX12_gameOf_123 : decode cX12_gameOf 123 = .ok (.isub, 1) := by decide +kernel
theorem dX12_gameOf_124 : decode cX12_gameOf 124 = .ok (.aload_n 0, 1) := by decide +kernel
theorem dX12_gameOf_125 : decode cX12_gameOf 125 = .ok (.iload_n 1, 1) := by decide +kernel
theorem dX12_gameOf_126 : decode cX12_gameOf 126 = .ok (.invokevirtual 290, 3) := by decide +kernel
theorem dX12_gameOf_129 : decode cX12_gameOf 129 = .ok (.ifCond .eq 14, 3) := by decide +kernel
theorem dX12_gameOf_132 : decode cX12_gameOf 132 = .ok (.aload_n 0, 1) := by decide +kernel
theorem dX12_gameOf_133 : decode cX12_gameOf 133 = .ok (.iload_n 1, 1) := by decide +kernel
theorem dX12_gameOf_134 : decode cX12_gameOf 134 = .ok (.iconst 4, 1) := by decide +kernel
theorem dX12_gameOf_135 : decode cX12_gameOf 135 = .ok (.invokevirtual 287, 3) := by decide +kernel
theorem dX12_gameOf_138 : decode cX12_gameOf 138 = .ok (.iload 4, 2) := by decide +kernel
theorem dX12_gameOf_140 : decode cX12_gameOf 140 = .ok (.if_icmp .ne 7, 3) := by decide +kernel
theorem dX12_gameOf_143 : decode cX12_gameOf 143 = .ok (.iconst 3, 1) := by decide +kernel
theorem dX12_gameOf_144 : decode cX12_gameOf 144 = .ok (.goto 4, 3) := by decide +kernel
theorem dX12_gameOf_147 : decode cX12_gameOf 147 = .ok (.iconst 0, 1) := by decide +kernel
theorem dX12_gameOf_148 : decode cX12_gameOf 148 = .ok (.iadd, 1) := by decide +kernel
theorem dX12_gameOf_149 : decode cX12_gameOf 149 = .ok (.istore 5, 2) := by decide +kernel
theorem dX12_gameOf_151 : decode cX12_gameOf 151 = .ok (.aload_n 0, 1) := by decide +kernel
theorem dX12_gameOf_152 : decode cX12_gameOf 152 = .ok (.iconst 0, 1) := by decide +kernel
theorem dX12_gameOf_153 : decode cX12_gameOf 153 = .ok (.invokevirtual 381, 3) := by decide +kernel
theorem dX12_gameOf_156 : decode cX12_gameOf 156 = .ok (.iload 5, 2) := by decide +kernel
theorem dX12_gameOf_158 : decode cX12_gameOf 158 = .ok (.ireturn, 1) := by decide +kernel
theorem dX12_game_0 : decode cX12_game 0 = .ok (.aload_n 0, 1) := by decide +kernel
theorem dX12_game_1 : decode cX12_game 1 = .ok (.iload_n 1, 1) := by decide +kernel
theorem dX12_game_2 : decode cX12_game 2 = .ok (.invokevirtual 290, 3) := by decide +kernel
theorem dX12_game_5 : decode cX12_game 5 = .ok (.ifCond .eq 43, 3) := by decide +kernel
theorem dX12_game_8 : decode cX12_game 8 = .ok (.iload_n 2, 1) := by decide +kernel
theorem dX12_game_9 : decode cX12_game 9 = .ok (.iconst 0, 1) := by decide +kernel
theorem dX12_game_10 : decode cX12_game 10 = .ok (.iconst 3, 1) := by decide +kernel
theorem dX12_game_11 : decode cX12_game 11 = .ok (.invokestatic 217, 3) := by decide +kernel
theorem dX12_game_14 : decode cX12_game 14 = .ok (.ifCond .eq 34, 3) := by decide +kernel
theorem dX12_game_17 : decode cX12_game 17 = .ok (.iload_n 3, 1) := by decide +kernel
theorem dX12_game_18 : decode cX12_game 18 = .ok (.iconst 0, 1) := by decide +kernel
theorem dX12_game_19 : decode cX12_game 19 = .ok (.iconst 3, 1) := by decide +kernel
theorem dX12_game_20 : decode cX12_game 20 = .ok (.invokestatic 217, 3) := by decide +kernel
theorem dX12_game_23 : decode cX12_game 23 = .ok (.ifCond .eq 25, 3) := by decide +kernel
theorem dX12_game_26 : decode cX12_game 26 = .ok (.iload 4, 2) := by decide +kernel
theorem dX12_game_28 : decode cX12_game 28 = .ok (.iconst 0, 1) := by decide +kernel
theorem dX12_game_29 : decode cX12_game 29 = .ok (.iconst 1, 1) := by decide +kernel
theorem dX12_game_30 : decode cX12_game 30 = .ok (.invokestatic 217, 3) := by decide +kernel
theorem dX12_game_33 : decode cX12_game 33 = .ok (.ifCond .eq 15, 3) := by decide +kernel
theorem dX12_game_36 : decode cX12_game 36 = .ok (.aload_n 0, 1) := by decide +kernel
theorem dX12_game_37 : decode cX12_game 37 = .ok (.iload_n 1, 1) := by decide +kernel
theorem dX12_game_38 : decode cX12_game 38 = .ok (.iload_n 2, 1) := by decide +kernel
theorem dX12_game_39 : decode cX12_game 39 = .ok (.iload_n 3, 1) := by decide +kernel
theorem dX12_game_40 : decode cX12_game 40 = .ok (.iload 4, 2) := by decide +kernel
theorem dX12_game_42 : decode cX12_game 42 = .ok (.invokevirtual 440, 3) := by decide +kernel
theorem dX12_game_45 : decode cX12_game 45 = .ok (.goto 6, 3) := by decide +kernel
theorem dX12_game_48 : decode cX12_game 48 = .ok (.ldc_w 443, 3) := by decide +kernel
theorem dX12_game_51 : decode cX12_game 51 = .ok (.ireturn, 1) := by decide +kernel
theorem dX12_isRest_0 : decode cX12_isRest 0 = .ok (.iconst 0, 1) := by decide +kernel
theorem dX12_isRest_1 : decode cX12_isRest 1 = .ok (.istore 4, 2) := by decide +kernel
theorem dX12_isRest_3 : decode cX12_isRest 3 = .ok (.iload 4, 2) := by decide +kernel
theorem dX12_isRest_5 : decode cX12_isRest 5 = .ok (.iconst 3, 1) := by decide +kernel
theorem dX12_isRest_6 : decode cX12_isRest 6 = .ok (.if_icmp .gt 51, 3) := by decide +kernel
theorem dX12_isRest_9 : decode cX12_isRest 9 = .ok (.aload_n 0, 1) := by decide +kernel
theorem dX12_isRest_10 : decode cX12_isRest 10 = .ok (.iload_n 1, 1) := by decide +kernel
theorem dX12_isRest_11 : decode cX12_isRest 11 = .ok (.iload 4, 2) := by decide +kernel
theorem dX12_isRest_13 : decode cX12_isRest 13 = .ok (.iload_n 3, 1) := by decide +kernel
theorem dX12_isRest_14 : decode cX12_isRest 14 = .ok (.iconst 0, 1) := by decide +kernel
theorem dX12_isRest_15 : decode cX12_isRest 15 = .ok (.invokevirtual 440, 3) := by decide +kernel
theorem dX12_isRest_18 : decode cX12_isRest 18 = .ok (.aload_n 0, 1) := by decide +kernel
theorem dX12_isRest_19 : decode cX12_isRest 19 = .ok (.iload_n 1, 1) := by decide +kernel
theorem dX12_isRest_20 : decode cX12_isRest 20 = .ok (.iload_n 2, 1) := by decide +kernel
theorem dX12_isRest_21 : decode cX12_isRest 21 = .ok (.iload_n 3, 1) := by decide +kernel
theorem dX12_isRest_22 : decode cX12_isRest 22 = .ok (.iconst 0, 1) := by decide +kernel
theorem dX12_isRest_23 : decode cX12_isRest 23 = .ok (.invokevirtual 440, 3) := by decide +kernel
theorem dX12_isRest_26 : decode cX12_isRest 26 = .ok (.if_icmp .gt 23, 3) := by decide +kernel
theorem dX12_isRest_29 : decode cX12_isRest 29 = .ok (.aload_n 0, 1) := by decide +kernel
theorem dX12_isRest_30 : decode cX12_isRest 30 = .ok (.iload_n 1, 1) := by decide +kernel
theorem dX12_isRest_31 : decode cX12_isRest 31 = .ok (.iload_n 2, 1) := by decide +kernel
theorem dX12_isRest_32 : decode cX12_isRest 32 = .ok (.iload 4, 2) := by decide +kernel
theorem dX12_isRest_34 : decode cX12_isRest 34 = .ok (.iconst 1, 1) := by decide +kernel
theorem dX12_isRest_35 : decode cX12_isRest 35 = .ok (.invokevirtual 440, 3) := by decide +kernel
theorem dX12_isRest_38 : decode cX12_isRest 38 = .ok (.aload_n 0, 1) := by decide +kernel
theorem dX12_isRest_39 : decode cX12_isRest 39 = .ok (.iload_n 1, 1) := by decide +kernel
theorem dX12_isRest_40 : decode cX12_isRest 40 = .ok (.iload_n 2, 1) := by decide +kernel
theorem dX12_isRest_41 : decode cX12_isRest 41 = .ok (.iload_n 3, 1) := by decide +kernel
theorem dX12_isRest_42 : decode cX12_isRest 42 = .ok (.iconst 1, 1) := by decide +kernel
theorem dX12_isRest_43 : decode cX12_isRest 43 = .ok (.invokevirtual 440, 3) := by decide +kernel
theorem dX12_isRest_46 : decode cX12_isRest 46 = .ok (.if_icmp .le 5, 3) := by decide +kernel
theorem dX12_isRest_49 : decode cX12_isRest 49 = .ok (.iconst 0, 1) := by decide +kernel
theorem dX12_isRest_50 : decode cX12_isRest 50 = .ok (.ireturn, 1) := by decide +kernel
theorem dX12_isRest_51 : decode cX12_isRest 51 = .ok (.iinc 4 1, 3) := by decide +kernel
theorem dX12_isRest_54 : decode cX12_isRest 54 = .ok (.goto (-51), 3) := by decide +kernel
theorem dX12_isRest_57 : decode cX12_isRest 57 = .ok (.iconst 1, 1) := by decide +kernel
theorem dX12_isRest_58 : decode cX12_isRest 58 = .ok (.ireturn, 1) := by decide +kernel
theorem dX12_rests_0 : decode cX12_rests 0 = .ok (.aload_n 0, 1) := by decide +kernel
theorem dX12_rests_1 : decode cX12_rests 1 = .ok (.iload_n 1, 1) := by decide +kernel
theorem dX12_rests_2 : decode cX12_rests 2 = .ok (.invokevirtual 290, 3) := by decide +kernel
theorem dX12_rests_5 : decode cX12_rests 5 = .ok (.ifCond .eq 8, 3) := by decide +kernel
theorem dX12_rests_8 : decode cX12_rests 8 = .ok (.iload_n 2, 1) := by decide +kernel
theorem dX12_rests_9 : decode cX12_rests 9 = .ok (.iconst (-1), 1) := by decide +kernel
theorem dX12_rests_10 : decode cX12_rests 10 = .ok (.if_icmp .ge 5, 3) := by decide +kernel
theorem dX12_rests_13 : decode cX12_rests 13 = .ok (.iconst (-1), 1) := by decide +kernel
theorem dX12_rests_14 : decode cX12_rests 14 = .ok (.ireturn, 1) := by decide +kernel
theorem dX12_rests_15 : decode cX12_rests 15 = .ok (.iconst 0, 1) := by decide +kernel
theorem dX12_rests_16 : decode cX12_rests 16 = .ok (.istore_n 3, 1) := by decide +kernel
theorem dX12_rests_17 : decode cX12_rests 17 = .ok (.iconst 0, 1) := by decide +kernel
theorem dX12_rests_18 : decode cX12_rests 18 = .ok (.istore 4, 2) := by decide +kernel
theorem dX12_rests_20 : decode cX12_rests 20 = .ok (.iload 4, 2) := by decide +kernel
theorem dX12_rests_22 : decode cX12_rests 22 = .ok (.iconst 3, 1) := by decide +kernel
theorem dX12_rests_23 : decode cX12_rests 23 = .ok (.if_icmp .gt 53, 3) := by decide +kernel
theorem dX12_rests_26 : decode cX12_rests 26 = .ok (.iconst 0, 1) := by decide +kernel
theorem dX12_rests_27 : decode cX12_rests 27 = .ok (.istore 5, 2) := by decide +kernel
theorem dX12_rests_29 : decode cX12_rests 29 = .ok (.iload 5, 2) := by decide +kernel
theorem dX12_rests_31 : decode cX12_rests 31 = .ok (.iconst 3, 1) := by decide +kernel
theorem dX12_rests_32 : decode cX12_rests 32 = .ok (.if_icmp .gt 38, 3) := by decide +kernel
theorem dX12_rests_35 : decode cX12_rests 35 = .ok (.aload_n 0, 1) := by decide +kernel
theorem dX12_rests_36 : decode cX12_rests 36 = .ok (.iload_n 1, 1) := by decide +kernel
theorem dX12_rests_37 : decode cX12_rests 37 = .ok (.iload 4, 2) := by decide +kernel
theorem dX12_rests_39 : decode cX12_rests 39 = .ok (.iload 5, 2) := by decide +kernel
theorem dX12_rests_41 : decode cX12_rests 41 = .ok (.invokevirtual 444, 3) := by decide +kernel
theorem dX12_rests_44 : decode cX12_rests 44 = .ok (.ifCond .eq 20, 3) := by decide +kernel
theorem dX12_rests_47 : decode cX12_rests 47 = .ok (.iload_n 3, 1) := by decide +kernel
theorem dX12_rests_48 : decode cX12_rests 48 = .ok (.iload_n 2, 1) := by decide +kernel
theorem dX12_rests_49 : decode cX12_rests 49 = .ok (.if_icmp .ne 12, 3) := by decide +kernel
theorem dX12_rests_52 : decode cX12_rests 52 = .ok (.bipush 10, 2) := by decide +kernel
theorem dX12_rests_54 : decode cX12_rests 54 = .ok (.iload 4, 2) := by decide +kernel
theorem dX12_rests_56 : decode cX12_rests 56 = .ok (.imul, 1) := by decide +kernel
theorem dX12_rests_57 : decode cX12_rests 57 = .ok (.iload 5, 2) := by decide +kernel
theorem dX12_rests_59 : decode cX12_rests 59 = .ok (.iadd, 1) := by decide +kernel
theorem dX12_rests_60 : decode cX12_rests 60 = .ok (.ireturn, 1) := by decide +kernel
theorem dX12_rests_61 : decode cX12_rests 61 = .ok (.iinc 3 1, 3) := by decide +kernel
theorem dX12_rests_64 : decode cX12_rests 64 = .ok (.iinc 5 1, 3) := by decide +kernel
theorem dX12_rests_67 : decode cX12_rests 67 = .ok (.goto (-38), 3) := by decide +kernel
theorem dX12_rests_70 : decode cX12_rests 70 = .ok (.iinc 4 1, 3) := by decide +kernel
theorem dX12_rests_73 : decode cX12_rests 73 = .ok (.goto (-53), 3) := by decide +kernel
theorem dX12_rests_76 : decode cX12_rests 76 = .ok (.iload_n 2, 1) := by decide +kernel
theorem dX12_rests_77 : decode cX12_rests 77 = .ok (.iconst (-1), 1) := by decide +kernel
theorem dX12_rests_78 : decode cX12_rests 78 = .ok (.if_icmp .ne 7, 3) := by decide +kernel
theorem dX12_rests_81 : decode cX12_rests 81 = .ok (.iload_n 3, 1) := by decide +kernel
theorem dX12_rests_82 : decode cX12_rests 82 = .ok (.goto 4, 3) := by decide +kernel
theorem dX12_rests_85 : decode cX12_rests 85 = .ok (.iconst (-1), 1) := by decide +kernel
theorem dX12_rests_86 : decode cX12_rests 86 = .ok (.ireturn, 1) := by decide +kernel
theorem dX12_oddsFrom_0 : decode cX12_oddsFrom 0 = .ok (.iload 4, 2) := by decide +kernel
theorem dX12_oddsFrom_2 : decode cX12_oddsFrom 2 = .ok (.ifCond .ne 19, 3) := by decide +kernel
theorem dX12_oddsFrom_5 : decode cX12_oddsFrom 5 = .ok (.aload_n 0, 1) := by decide +kernel
theorem dX12_oddsFrom_6 : decode cX12_oddsFrom 6 = .ok (.iload_n 2, 1) := by decide +kernel
theorem dX12_oddsFrom_7 : decode cX12_oddsFrom 7 = .ok (.invokevirtual 378, 3) := by decide +kernel
theorem dX12_oddsFrom_10 : decode cX12_oddsFrom 10 = .ok (.iload_n 3, 1) := by decide +kernel
theorem dX12_oddsFrom_11 : decode cX12_oddsFrom 11 = .ok (.if_icmp .lt 8, 3) := by decide +kernel
theorem dX12_oddsFrom_14 : decode cX12_oddsFrom 14 = .ok (.iload 6, 2) := by decide +kernel
theorem dX12_oddsFrom_16 : decode cX12_oddsFrom 16 = .ok (.goto 4, 3) := by decide +kernel
theorem dX12_oddsFrom_19 : decode cX12_oddsFrom 19 = .ok (.iconst 0, 1) := by decide +kernel
theorem dX12_oddsFrom_20 : decode cX12_oddsFrom 20 = .ok (.ireturn, 1) := by decide +kernel
theorem dX12_oddsFrom_21 : decode cX12_oddsFrom 21 = .ok (.iload 6, 2) := by decide +kernel
theorem dX12_oddsFrom_23 : decode cX12_oddsFrom 23 = .ok (.i2l, 1) := by decide +kernel
theorem dX12_oddsFrom_24 : decode cX12_oddsFrom 24 = .ok (.iload 5, 2) := by decide +kernel
theorem dX12_oddsFrom_26 : decode cX12_oddsFrom 26 = .ok (.i2l, 1) := by decide +kernel
theorem dX12_oddsFrom_27 : decode cX12_oddsFrom 27 = .ok (.lmul, 1) := by decide +kernel
theorem dX12_oddsFrom_28 : decode cX12_oddsFrom 28 = .ok (.ldc2_w 447, 3) := by decide +kernel
theorem dX12_oddsFrom_31 : decode cX12_oddsFrom 31 = .ok (.ldiv, 1) := by decide +kernel
theorem dX12_oddsFrom_32 : decode cX12_oddsFrom 32 = .ok (.l2i, 1) := by decide +kernel
theorem dX12_oddsFrom_33 : decode cX12_oddsFrom 33 = .ok (.istore 7, 2) := by decide +kernel
theorem dX12_oddsFrom_35 : decode cX12_oddsFrom 35 = .ok (.iconst 0, 1) := by decide +kernel
theorem dX12_oddsFrom_36 : decode cX12_oddsFrom 36 = .ok (.istore 8, 2) := by decide +kernel
theorem dX12_oddsFrom_38 : decode cX12_oddsFrom 38 = .ok (.aload_n 0, 1) := by decide +kernel
theorem dX12_oddsFrom_39 : decode cX12_oddsFrom 39 = .ok (.iload_n 1, 1) := by decide +kernel
theorem dX12_oddsFrom_40 : decode cX12_oddsFrom 40 = .ok (.invokevirtual 375, 3) := by decide +kernel
theorem dX12_oddsFrom_43 : decode cX12_oddsFrom 43 = .ok (.iconst 0, 1) := by decide +kernel
theorem dX12_oddsFrom_44 : decode cX12_oddsFrom 44 = .ok (.istore 9, 2) := by decide +kernel
theorem dX12_oddsFrom_46 : decode cX12_oddsFrom 46 = .ok (.iload 9, 2) := by decide +kernel
theorem dX12_oddsFrom_48 : decode cX12_oddsFrom 48 = .ok (.iconst 2, 1) := by decide +kernel
theorem dX12_oddsFrom_49 : decode cX12_oddsFrom 49 = .ok (.if_icmp .ge 78, 3) := by decide +kernel
theorem dX12_oddsFrom_52 : decode cX12_oddsFrom 52 = .ok (.aload_n 0, 1) := by decide +kernel
theorem dX12_oddsFrom_53 : decode cX12_oddsFrom 53 = .ok (.iload_n 2, 1) := by decide +kernel
theorem dX12_oddsFrom_54 : decode cX12_oddsFrom 54 = .ok (.bipush 6, 2) := by decide +kernel
theorem dX12_oddsFrom_56 : decode cX12_oddsFrom 56 = .ok (.iload 9, 2) := by decide +kernel
theorem dX12_oddsFrom_58 : decode cX12_oddsFrom 58 = .ok (.iconst 1, 1) := by decide +kernel
theorem dX12_oddsFrom_59 : decode cX12_oddsFrom 59 = .ok (.if_icmp .ne 7, 3) := by decide +kernel
theorem dX12_oddsFrom_62 : decode cX12_oddsFrom 62 = .ok (.iconst 1, 1) := by decide +kernel
theorem dX12_oddsFrom_63 : decode cX12_oddsFrom 63 = .ok (.goto 10, 3) := by decide +kernel
theorem dX12_oddsFrom_66 : decode cX12_oddsFrom 66 = .ok (.aload_n 0, 1) := by decide +kernel
theorem dX12_oddsFrom_67 : decode cX12_oddsFrom 67 = .ok (.iload_n 2, 1) := by decide +kernel
theorem dX12_oddsFrom_68 : decode cX12_oddsFrom 68 = .ok (.bipush 6, 2) := by decide +kernel
theorem dX12_oddsFrom_70 : decode cX12_oddsFrom 70 = .ok (.invokevirtual 287, 3) := by decide +kernel
theorem dX12_oddsFrom_73 : decode cX12_oddsFrom 73 = .ok (.invokevirtual 258, 3) := by decide +kernel
theorem dX12_oddsFrom_76 : decode cX12_oddsFrom 76 = .ok (.aload_n 0, 1) := by decide +kernel
theorem dX12_oddsFrom_77 : decode cX12_oddsFrom 77 = .ok (.invokevirtual 327, 3) := by decide +kernel
theorem dX12_oddsFrom_80 : decode cX12_oddsFrom 80 = .ok (.iload 8, 2) := by decide +kernel
theorem dX12_oddsFrom_82 : decode cX12_oddsFrom 82 = .ok (.aload_n 0, 1) := by decide +kernel
theorem dX12_oddsFrom_83 : decode cX12_oddsFrom 83 = .ok (.iload_n 1, 1) := by decide +kernel
theorem dX12_oddsFrom_84 : decode cX12_oddsFrom 84 = .ok (.iconst 1, 1) := by decide +kernel
theorem dX12_oddsFrom_85 : decode cX12_oddsFrom 85 = .ok (.iadd, 1) := by decide +kernel
theorem dX12_oddsFrom_86 : decode cX12_oddsFrom 86 = .ok (.iload_n 2, 1) := by decide +kernel
theorem dX12_oddsFrom_87 : decode cX12_oddsFrom 87 = .ok (.iload_n 3, 1) := by decide +kernel
theorem dX12_oddsFrom_88 : decode cX12_oddsFrom 88 = .ok (.iload 4, 2) := by decide +kernel
theorem dX12_oddsFrom_90 : decode cX12_oddsFrom 90 = .ok (.iconst 1, 1) := by decide +kernel
theorem dX12_oddsFrom_91 : decode cX12_oddsFrom 91 = .ok (.isub, 1) := by decide +kernel
theorem dX12_oddsFrom_92 : decode cX12_oddsFrom 92 = .ok (.iload 5, 2) := by decide +kernel
theorem dX12_oddsFrom_94 : decode cX12_oddsFrom 94 = .ok (.iload 9, 2) := by decide +kernel
theorem dX12_oddsFrom_96 : decode cX12_oddsFrom 96 = .ok (.iconst 1, 1) := by decide +kernel
theorem dX12_oddsFrom_97 : decode cX12_oddsFrom 97 = .ok (.if_icmp .ne 8, 3) := by decide +kernel
theorem dX12_oddsFrom_100 : decode cX12_oddsFrom 100 = .ok (.iload 7, 2) := by decide +kernel
theorem dX12_oddsFrom_102 : decode cX12_oddsFrom 102 = .ok (.goto 8, 3) := by decide +kernel
theorem dX12_oddsFrom_105 : decode cX12_oddsFrom 105 = .ok (.iload 6, 2) := by decide +kernel
theorem dX12_oddsFrom_107 : decode cX12_oddsFrom 107 = .ok (.iload 7, 2) := by decide +kernel
theorem dX12_oddsFrom_109 : decode cX12_oddsFrom 109 = .ok (.isub, 1) := by decide +kernel
theorem dX12_oddsFrom_110 : decode cX12_oddsFrom 110 = .ok (.invokevirtual 449, 3) := by decide +kernel
theorem dX12_oddsFrom_113 : decode cX12_oddsFrom 113 = .ok (.iadd, 1) := by decide +kernel
theorem dX12_oddsFrom_114 : decode cX12_oddsFrom 114 = .ok (.istore 8, 2) := by decide +kernel
theorem dX12_oddsFrom_116 : decode cX12_oddsFrom 116 = .ok (.aload_n 0, 1) := by decide +kernel
theorem dX12_oddsFrom_117 : decode cX12_oddsFrom 117 = .ok (.iload_n 1, 1) := by decide +kernel
theorem dX12_oddsFrom_118 : decode cX12_oddsFrom 118 = .ok (.invokevirtual 381, 3) := by decide +kernel
theorem dX12_oddsFrom_121 : decode cX12_oddsFrom 121 = .ok (.iinc 9 1, 3) := by decide +kernel
theorem dX12_oddsFrom_124 : decode cX12_oddsFrom 124 = .ok (.goto (-78), 3) := by decide +kernel
theorem dX12_oddsFrom_127 : decode cX12_oddsFrom 127 = .ok (.iload 8, 2) := by decide +kernel
theorem dX12_oddsFrom_129 : decode cX12_oddsFrom 129 = .ok (.ireturn, 1) := by decide +kernel
theorem dX12_odds_0 : decode cX12_odds 0 = .ok (.aload_n 0, 1) := by decide +kernel
theorem dX12_odds_1 : decode cX12_odds 1 = .ok (.iload_n 1, 1) := by decide +kernel
theorem dX12_odds_2 : decode cX12_odds 2 = .ok (.invokevirtual 290, 3) := by decide +kernel
theorem dX12_odds_5 : decode cX12_odds 5 = .ok (.ifCond .eq 34, 3) := by decide +kernel
theorem dX12_odds_8 : decode cX12_odds 8 = .ok (.iload_n 2, 1) := by decide +kernel
theorem dX12_odds_9 : decode cX12_odds 9 = .ok (.iconst 0, 1) := by decide +kernel
theorem dX12_odds_10 : decode cX12_odds 10 = .ok (.bipush 6, 2) := by decide +kernel
theorem dX12_odds_12 : decode cX12_odds 12 = .ok (.invokestatic 217, 3) := by decide +kernel
theorem dX12_odds_15 : decode cX12_odds 15 = .ok (.ifCond .eq 24, 3) := by decide +kernel
theorem dX12_odds_18 : decode cX12_odds 18 = .ok (.iload_n 3, 1) := by decide +kernel
theorem dX12_odds_19 : decode cX12_odds 19 = .ok (.iconst 0, 1) := by decide +kernel
theorem dX12_odds_20 : decode cX12_odds 20 = .ok (.bipush 99, 2) := by decide +kernel
theorem dX12_odds_22 : decode cX12_odds 22 = .ok (.invokestatic 217, 3) := by decide +kernel
theorem dX12_odds_25 : decode cX12_odds 25 = .ok (.ifCond .eq 14, 3) := by decide +kernel
theorem dX12_odds_28 : decode cX12_odds 28 = .ok (.iload 4, 2) := by decide +kernel
theorem dX12_odds_30 : decode cX12_odds 30 = .ok (.iconst 0, 1) := by decide +kernel
theorem dX12_odds_31 : decode cX12_odds 31 = .ok (.bipush 100, 2) := by decide +kernel
theorem dX12_odds_33 : decode cX12_odds 33 = .ok (.invokestatic 217, 3) := by decide +kernel
theorem dX12_odds_36 : decode cX12_odds 36 = .ok (.ifCond .ne 5, 3) := by decide +kernel
theorem dX12_odds_39 : decode cX12_odds 39 = .ok (.iconst (-1), 1) := by decide +kernel
theorem dX12_odds_40 : decode cX12_odds 40 = .ok (.ireturn, 1) := by decide +kernel
theorem dX12_odds_41 : decode cX12_odds 41 = .ok (.aload_n 0, 1) := by decide +kernel
theorem dX12_odds_42 : decode cX12_odds 42 = .ok (.iconst 0, 1) := by decide +kernel
theorem dX12_odds_43 : decode cX12_odds 43 = .ok (.iload_n 1, 1) := by decide +kernel
theorem dX12_odds_44 : decode cX12_odds 44 = .ok (.iload_n 3, 1) := by decide +kernel
theorem dX12_odds_45 : decode cX12_odds 45 = .ok (.iload_n 2, 1) := by decide +kernel
theorem dX12_odds_46 : decode cX12_odds 46 = .ok (.iload 4, 2) := by decide +kernel
theorem dX12_odds_48 : decode cX12_odds 48 = .ok (.ldc_w 452, 3) := by decide +kernel
theorem dX12_odds_51 : decode cX12_odds 51 = .ok (.invokevirtual 449, 3) := by decide +kernel
theorem dX12_odds_54 : decode cX12_odds 54 = .ok (.ireturn, 1) := by decide +kernel
theorem dX12_shares_0 : decode cX12_shares 0 = .ok (.aload_n 0, 1) := by decide +kernel
theorem dX12_shares_1 : decode cX12_shares 1 = .ok (.iload_n 1, 1) := by decide +kernel
theorem dX12_shares_2 : decode cX12_shares 2 = .ok (.invokevirtual 290, 3) := by decide +kernel
theorem dX12_shares_5 : decode cX12_shares 5 = .ok (.ifCond .eq 30, 3) := by decide +kernel
theorem dX12_shares_8 : decode cX12_shares 8 = .ok (.iload_n 2, 1) := by decide +kernel
theorem dX12_shares_9 : decode cX12_shares 9 = .ok (.iconst 0, 1) := by decide +kernel
theorem dX12_shares_10 : decode cX12_shares 10 = .ok (.sipush 999, 3) := by decide +kernel
theorem dX12_shares_13 : decode cX12_shares 13 = .ok (.invokestatic 217, 3) := by decide +kernel
theorem dX12_shares_16 : decode cX12_shares 16 = .ok (.ifCond .eq 19, 3) := by decide +kernel
theorem dX12_shares_19 : decode cX12_shares 19 = .ok (.iload_n 2, 1) := by decide +kernel
theorem dX12_shares_20 : decode cX12_shares 20 = .ok (.aload_n 0, 1) := by decide +kernel
theorem dX12_shares_21 : decode cX12_shares 21 = .ok (.iload_n 1, 1) := by decide +kernel
theorem dX12_shares_22 : decode cX12_shares 22 = .ok (.iconst 0, 1) := by decide +kernel
theorem dX12_shares_23 : decode cX12_shares 23 = .ok (.invokevirtual 287, 3) := by decide +kernel
theorem dX12_shares_26 : decode cX12_shares 26 = .ok (.imul, 1) := by decide +kernel
theorem dX12_shares_27 : decode cX12_shares 27 = .ok (.aload_n 0, 1) := by decide +kernel
theorem dX12_shares_28 : decode cX12_shares 28 = .ok (.invokevirtual 330, 3) := by decide +kernel
theorem dX12_shares_31 : decode cX12_shares 31 = .ok (.idiv, 1) := by decide +kernel
theorem dX12_shares_32 : decode cX12_shares 32 = .ok (.goto 4, 3) := by decide +kernel
theorem dX12_shares_35 : decode cX12_shares 35 = .ok (.iconst (-1), 1) := by decide +kernel
theorem dX12_shares_36 : decode cX12_shares 36 = .ok (.ireturn, 1) := by decide +kernel
theorem dX12_valueOf_0 : decode cX12_valueOf 0 = .ok (.iload_n 2, 1) := by decide +kernel
theorem dX12_valueOf_1 : decode cX12_valueOf 1 = .ok (.tableswitch 47 0 2 #[27, 34, 41], 27) := by decide +kernel
theorem dX12_valueOf_28 : decode cX12_valueOf 28 = .ok (.aload_n 0, 1) := by decide +kernel
theorem dX12_valueOf_29 : decode cX12_valueOf 29 = .ok (.iload_n 1, 1) := by decide +kernel
theorem dX12_valueOf_30 : decode cX12_valueOf 30 = .ok (.iconst 0, 1) := by decide +kernel
theorem dX12_valueOf_31 : decode cX12_valueOf 31 = .ok (.invokevirtual 287, 3) := by decide +kernel
theorem dX12_valueOf_34 : decode cX12_valueOf 34 = .ok (.ireturn, 1) := by decide +kernel
theorem dX12_valueOf_35 : decode cX12_valueOf 35 = .ok (.aload_n 0, 1) := by decide +kernel
theorem dX12_valueOf_36 : decode cX12_valueOf 36 = .ok (.iload_n 1, 1) := by decide +kernel
theorem dX12_valueOf_37 : decode cX12_valueOf 37 = .ok (.iconst 5, 1) := by decide +kernel
theorem dX12_valueOf_38 : decode cX12_valueOf 38 = .ok (.invokevirtual 287, 3) := by decide +kernel
theorem dX12_valueOf_41 : decode cX12_valueOf 41 = .ok (.ireturn, 1) := by decide +kernel
theorem dX12_valueOf_42 : decode cX12_valueOf 42 = .ok (.aload_n 0, 1) := by decide +kernel
theorem dX12_valueOf_43 : decode cX12_valueOf 43 = .ok (.iload_n 1, 1) := by decide +kernel
theorem dX12_valueOf_44 : decode cX12_valueOf 44 = .ok (.invokevirtual 414, 3) := by decide +kernel
theorem dX12_valueOf_47 : decode cX12_valueOf 47 = .ok (.ireturn, 1) := by decide +kernel
theorem dX12_valueOf_48 : decode cX12_valueOf 48 = .ok (.aload_n 0, 1) := by decide +kernel
theorem dX12_valueOf_49 : decode cX12_valueOf 49 = .ok (.iload_n 1, 1) := by decide +kernel
theorem dX12_valueOf_50 : decode cX12_valueOf 50 = .ok (.invokevirtual 303, 3) := by decide +kernel
theorem dX12_valueOf_53 : decode cX12_valueOf 53 = .ok (.ireturn, 1) := by decide +kernel
theorem dX12_topBag_0 : decode cX12_topBag 0 = .ok (.iconst (-1), 1) := by decide +kernel
theorem dX12_topBag_1 : decode cX12_topBag 1 = .ok (.istore_n 2, 1) := by decide +kernel
theorem dX12_topBag_2 : decode cX12_topBag 2 = .ok (.iconst 0, 1) := by decide +kernel
theorem dX12_topBag_3 : decode cX12_topBag 3 = .ok (.istore_n 3, 1) := by decide +kernel
theorem dX12_topBag_4 : decode cX12_topBag 4 = .ok (.iload_n 3, 1) := by decide +kernel
theorem dX12_topBag_5 : decode cX12_topBag 5 = .ok (.bipush 8, 2) := by decide +kernel
theorem dX12_topBag_7 : decode cX12_topBag 7 = .ok (.if_icmp .ge 43, 3) := by decide +kernel
theorem dX12_topBag_10 : decode cX12_topBag 10 = .ok (.aload_n 0, 1) := by decide +kernel
theorem dX12_topBag_11 : decode cX12_topBag 11 = .ok (.iload_n 3, 1) := by decide +kernel
theorem dX12_topBag_12 : decode cX12_topBag 12 = .ok (.invokevirtual 290, 3) := by decide +kernel
theorem dX12_topBag_15 : decode cX12_topBag 15 = .ok (.ifCond .eq 27, 3) := by decide +kernel
theorem dX12_topBag_18 : decode cX12_topBag 18 = .ok (.iload_n 2, 1) := by decide +kernel
theorem dX12_topBag_19 : decode cX12_topBag 19 = .ok (.iconst (-1), 1) := by decide +kernel
theorem dX12_topBag_20 : decode cX12_topBag 20 = .ok (.if_icmp .eq 18, 3) := by decide +kernel
theorem dX12_topBag_23 : decode cX12_topBag 23 = .ok (.aload_n 0, 1) := by decide +kernel
theorem dX12_topBag_24 : decode cX12_topBag 24 = .ok (.iload_n 3, 1) := by decide +kernel
theorem dX12_topBag_25 : decode cX12_topBag 25 = .ok (.iload_n 1, 1) := by decide +kernel
theorem dX12_topBag_26 : decode cX12_topBag 26 = .ok (.invokevirtual 453, 3) := by decide +kernel
theorem dX12_topBag_29 : decode cX12_topBag 29 = .ok (.aload_n 0, 1) := by decide +kernel
theorem dX12_topBag_30 : decode cX12_topBag 30 = .ok (.iload_n 2, 1) := by decide +kernel
theorem dX12_topBag_31 : decode cX12_topBag 31 = .ok (.iload_n 1, 1) := by decide +kernel
theorem dX12_topBag_32 : decode cX12_topBag 32 = .ok (.invokevirtual 453, 3) := by decide +kernel
theorem dX12_topBag_35 : decode cX12_topBag 35 = .ok (.if_icmp .le 7, 3) := by decide +kernel
theorem dX12_topBag_38 : decode cX12_topBag 38 = .ok (.iload_n 3, 1) := by decide +kernel
theorem dX12_topBag_39 : decode cX12_topBag 39 = .ok (.goto 4, 3) := by decide +kernel
theorem dX12_topBag_42 : decode cX12_topBag 42 = .ok (.iload_n 2, 1) := by decide +kernel
theorem dX12_topBag_43 : decode cX12_topBag 43 = .ok (.istore_n 2, 1) := by decide +kernel
theorem dX12_topBag_44 : decode cX12_topBag 44 = .ok (.iinc 3 1, 3) := by decide +kernel
theorem dX12_topBag_47 : decode cX12_topBag 47 = .ok (.goto (-43), 3) := by decide +kernel
theorem dX12_topBag_50 : decode cX12_topBag 50 = .ok (.iload_n 2, 1) := by decide +kernel
theorem dX12_topBag_51 : decode cX12_topBag 51 = .ok (.ireturn, 1) := by decide +kernel
theorem dX12_fullest_0 : decode cX12_fullest 0 = .ok (.iconst 0, 1) := by decide +kernel
theorem dX12_fullest_1 : decode cX12_fullest 1 = .ok (.istore_n 1, 1) := by decide +kernel
theorem dX12_fullest_2 : decode cX12_fullest 2 = .ok (.iconst 1, 1) := by decide +kernel
theorem dX12_fullest_3 : decode cX12_fullest 3 = .ok (.istore_n 2, 1) := by decide +kernel
theorem dX12_fullest_4 : decode cX12_fullest 4 = .ok (.iload_n 2, 1) := by decide +kernel
theorem dX12_fullest_5 : decode cX12_fullest 5 = .ok (.aload_n 0, 1) := by decide +kernel
theorem dX12_fullest_6 : decode cX12_fullest 6 = .ok (.getfield 46, 3) := by decide +kernel
theorem dX12_fullest_9 : decode cX12_fullest 9 = .ok (.iconst 1, 1) := by decide +kernel
theorem dX12_fullest_10 : decode cX12_fullest 10 = .ok (.iaload, 1) := by decide +kernel
theorem dX12_fullest_11 : decode cX12_fullest 11 = .ok (.if_icmp .ge 28, 3) := by decide +kernel
theorem dX12_fullest_14 : decode cX12_fullest 14 = .ok (.aload_n 0, 1) := by decide +kernel
theorem dX12_fullest_15 : decode cX12_fullest 15 = .ok (.iload_n 2, 1) := by decide +kernel
theorem dX12_fullest_16 : decode cX12_fullest 16 = .ok (.invokevirtual 312, 3) := by decide +kernel
theorem dX12_fullest_19 : decode cX12_fullest 19 = .ok (.aload_n 0, 1) := by decide +kernel
theorem dX12_fullest_20 : decode cX12_fullest 20 = .ok (.iload_n 1, 1) := by decide +kernel
theorem dX12_fullest_21 : decode cX12_fullest 21 = .ok (.invokevirtual 312, 3) := by decide +kernel
theorem dX12_fullest_24 : decode cX12_fullest 24 = .ok (.if_icmp .le 7, 3) := by decide +kernel
theorem dX12_fullest_27 : decode cX12_fullest 27 = .ok (.iload_n 2, 1) := by decide +kernel
theorem dX12_fullest_28 : decode cX12_fullest 28 = .ok (.goto 4, 3) := by decide +kernel
theorem dX12_fullest_31 : decode cX12_fullest 31 = .ok (.iload_n 1, 1) := by decide +kernel
theorem dX12_fullest_32 : decode cX12_fullest 32 = .ok (.istore_n 1, 1) := by decide +kernel
theorem dX12_fullest_33 : decode cX12_fullest 33 = .ok (.iinc 2 1, 3) := by decide +kernel
theorem dX12_fullest_36 : decode cX12_fullest 36 = .ok (.goto (-32), 3) := by decide +kernel
theorem dX12_fullest_39 : decode cX12_fullest 39 = .ok (.iload_n 1, 1) := by decide +kernel
theorem dX12_fullest_40 : decode cX12_fullest 40 = .ok (.ireturn, 1) := by decide +kernel
theorem dX12_onesBy_0 : decode cX12_onesBy 0 = .ok (.iconst 0, 1) := by decide +kernel
theorem dX12_onesBy_1 : decode cX12_onesBy 1 = .ok (.istore_n 3, 1) := by decide +kernel
theorem dX12_onesBy_2 : decode cX12_onesBy 2 = .ok (.iconst 0, 1) := by decide +kernel
theorem dX12_onesBy_3 : decode cX12_onesBy 3 = .ok (.istore 4, 2) := by decide +kernel
theorem dX12_onesBy_5 : decode cX12_onesBy 5 = .ok (.iload 4, 2) := by decide +kernel
theorem dX12_onesBy_7 : decode cX12_onesBy 7 = .ok (.bipush 8, 2) := by decide +kernel
theorem dX12_onesBy_9 : decode cX12_onesBy 9 = .ok (.if_icmp .ge 40, 3) := by decide +kernel
theorem dX12_onesBy_12 : decode cX12_onesBy 12 = .ok (.iload_n 3, 1) := by decide +kernel
theorem dX12_onesBy_13 : decode cX12_onesBy 13 = .ok (.aload_n 0, 1) := by decide +kernel
theorem dX12_onesBy_14 : decode cX12_onesBy 14 = .ok (.iload 4, 2) := by decide +kernel
theorem dX12_onesBy_16 : decode cX12_onesBy 16 = .ok (.invokevirtual 290, 3) := by decide +kernel
theorem dX12_onesBy_19 : decode cX12_onesBy 19 = .ok (.ifCond .eq 21, 3) := by decide +kernel
theorem dX12_onesBy_22 : decode cX12_onesBy 22 = .ok (.aload_n 0, 1) := by decide +kernel
theorem dX12_onesBy_23 : decode cX12_onesBy 23 = .ok (.iload 4, 2) := by decide +kernel
theorem dX12_onesBy_25 : decode cX12_onesBy 25 = .ok (.iload_n 1, 1) := by decide +kernel
theorem dX12_onesBy_26 : decode cX12_onesBy 26 = .ok (.invokevirtual 287, 3) := by decide +kernel
theorem dX12_onesBy_29 : decode cX12_onesBy 29 = .ok (.iload_n 2, 1) := by decide +kernel
theorem dX12_onesBy_30 : decode cX12_onesBy 30 = .ok (.if_icmp .ne 10, 3) := by decide +kernel
theorem dX12_onesBy_33 : decode cX12_onesBy 33 = .ok (.iconst 1, 1) := by decide +kernel
theorem dX12_onesBy_34 : decode cX12_onesBy 34 = .ok (.iload 4, 2) := by decide +kernel
theorem dX12_onesBy_36 : decode cX12_onesBy 36 = .ok (.ishl, 1) := by decide +kernel
theorem dX12_onesBy_37 : decode cX12_onesBy 37 = .ok (.goto 4, 3) := by decide +kernel
theorem dX12_onesBy_40 : decode cX12_onesBy 40 = .ok (.iconst 0, 1) := by decide +kernel
theorem dX12_onesBy_41 : decode cX12_onesBy 41 = .ok (.ior, 1) := by decide +kernel
theorem dX12_onesBy_42 : decode cX12_onesBy 42 = .ok (.istore_n 3, 1) := by decide +kernel
theorem dX12_onesBy_43 : decode cX12_onesBy 43 = .ok (.iinc 4 1, 3) := by decide +kernel
theorem dX12_onesBy_46 : decode cX12_onesBy 46 = .ok (.goto (-41), 3) := by decide +kernel
theorem dX12_onesBy_49 : decode cX12_onesBy 49 = .ok (.iload_n 3, 1) := by decide +kernel
theorem dX12_onesBy_50 : decode cX12_onesBy 50 = .ok (.ireturn, 1) := by decide +kernel
theorem dX12_roomLeft_0 : decode cX12_roomLeft 0 = .ok (.iconst 0, 1) := by decide +kernel
theorem dX12_roomLeft_1 : decode cX12_roomLeft 1 = .ok (.istore_n 1, 1) := by decide +kernel
theorem dX12_roomLeft_2 : decode cX12_roomLeft 2 = .ok (.iconst 0, 1) := by decide +kernel
theorem dX12_roomLeft_3 : decode cX12_roomLeft 3 = .ok (.istore_n 2, 1) := by decide +kernel
theorem dX12_roomLeft_4 : decode cX12_roomLeft 4 = .ok (.iload_n 2, 1) := by decide +kernel
theorem dX12_roomLeft_5 : decode cX12_roomLeft 5 = .ok (.aload_n 0, 1) := by decide +kernel
theorem dX12_roomLeft_6 : decode cX12_roomLeft 6 = .ok (.getfield 46, 3) := by decide +kernel
theorem dX12_roomLeft_9 : decode cX12_roomLeft 9 = .ok (.iconst 1, 1) := by decide +kernel
theorem dX12_roomLeft_10 : decode cX12_roomLeft 10 = .ok (.iaload, 1) := by decide +kernel
theorem dX12_roomLeft_11 : decode cX12_roomLeft 11 = .ok (.if_icmp .ge 28, 3) := by decide +kernel
theorem dX12_roomLeft_14 : decode cX12_roomLeft 14 = .ok (.iload_n 1, 1) := by decide +kernel
theorem dX12_roomLeft_15 : decode cX12_roomLeft 15 = .ok (.iconst 0, 1) := by decide +kernel
theorem dX12_roomLeft_16 : decode cX12_roomLeft 16 = .ok (.aload_n 0, 1) := by decide +kernel
theorem dX12_roomLeft_17 : decode cX12_roomLeft 17 = .ok (.getfield 46, 3) := by decide +kernel
theorem dX12_roomLeft_20 : decode cX12_roomLeft 20 = .ok (.iconst 0, 1) := by decide +kernel
theorem dX12_roomLeft_21 : decode cX12_roomLeft 21 = .ok (.iaload, 1) := by decide +kernel
theorem dX12_roomLeft_22 : decode cX12_roomLeft 22 = .ok (.aload_n 0, 1) := by decide +kernel
theorem dX12_roomLeft_23 : decode cX12_roomLeft 23 = .ok (.iload_n 2, 1) := by decide +kernel
theorem dX12_roomLeft_24 : decode cX12_roomLeft 24 = .ok (.invokevirtual 312, 3) := by decide +kernel
theorem dX12_roomLeft_27 : decode cX12_roomLeft 27 = .ok (.isub, 1) := by decide +kernel
theorem dX12_roomLeft_28 : decode cX12_roomLeft 28 = .ok (.invokestatic 301, 3) := by decide +kernel
theorem dX12_roomLeft_31 : decode cX12_roomLeft 31 = .ok (.iadd, 1) := by decide +kernel
theorem dX12_roomLeft_32 : decode cX12_roomLeft 32 = .ok (.istore_n 1, 1) := by decide +kernel
theorem dX12_roomLeft_33 : decode cX12_roomLeft 33 = .ok (.iinc 2 1, 3) := by decide +kernel
theorem dX12_roomLeft_36 : decode cX12_roomLeft 36 = .ok (.goto (-32), 3) := by decide +kernel
theorem dX12_roomLeft_39 : decode cX12_roomLeft 39 = .ok (.iload_n 1, 1) := by decide +kernel
theorem dX12_roomLeft_40 : decode cX12_roomLeft 40 = .ok (.ireturn, 1) := by decide +kernel
theorem dX12_due_0 : decode cX12_due 0 = .ok (.iconst 0, 1) := by decide +kernel
theorem dX12_due_1 : decode cX12_due 1 = .ok (.istore_n 1, 1) := by decide +kernel
theorem dX12_due_2 : decode cX12_due 2 = .ok (.iconst 0, 1) := by decide +kernel
theorem dX12_due_3 : decode cX12_due 3 = .ok (.istore_n 2, 1) := by decide +kernel
theorem dX12_due_4 : decode cX12_due 4 = .ok (.iload_n 2, 1) := by decide +kernel
theorem dX12_due_5 : decode cX12_due 5 = .ok (.bipush 8, 2) := by decide +kernel
theorem dX12_due_7 : decode cX12_due 7 = .ok (.if_icmp .ge 37, 3) := by decide +kernel
theorem dX12_due_10 : decode cX12_due 10 = .ok (.iload_n 1, 1) := by decide +kernel
theorem dX12_due_11 : decode cX12_due 11 = .ok (.aload_n 0, 1) := by decide +kernel
theorem dX12_due_12 : decode cX12_due 12 = .ok (.iload_n 2, 1) := by decide +kernel
theorem dX12_due_13 : decode cX12_due 13 = .ok (.invokevirtual 290, 3) := by decide +kernel
theorem dX12_due_16 : decode cX12_due 16 = .ok (.ifCond .eq 19, 3) := by decide +kernel
theorem dX12_due_19 : decode cX12_due 19 = .ok (.aload_n 0, 1) := by decide +kernel
theorem dX12_due_20 : decode cX12_due 20 = .ok (.getfield 46, 3) := by decide +kernel
theorem dX12_due_23 : decode cX12_due 23 = .ok (.iconst 2, 1) := by decide +kernel
theorem dX12_due_24 : decode cX12_due 24 = .ok (.iaload, 1) := by decide +kernel
theorem dX12_due_25 : decode cX12_due 25 = .ok (.aload_n 0, 1) := by decide +kernel
theorem dX12_due_26 : decode cX12_due 26 = .ok (.iload_n 2, 1) := by decide +kernel
theorem dX12_due_27 : decode cX12_due 27 = .ok (.iconst 5, 1) := by decide +kernel
theorem dX12_due_28 : decode cX12_due 28 = .ok (.invokevirtual 287, 3) := by decide +kernel
theorem dX12_due_31 : decode cX12_due 31 = .ok (.imul, 1) := by decide +kernel
theorem dX12_due_32 : decode cX12_due 32 = .ok (.goto 4, 3) := by decide +kernel
theorem dX12_due_35 : decode cX12_due 35 = .ok (.iconst 0, 1) := by decide +kernel
theorem dX12_due_36 : decode cX12_due 36 = .ok (.iadd, 1) := by decide +kernel
theorem dX12_due_37 : decode cX12_due 37 = .ok (.istore_n 1, 1) := by decide +kernel
theorem dX12_due_38 : decode cX12_due 38 = .ok (.iinc 2 1, 3) := by decide +kernel
theorem dX12_due_41 : decode cX12_due 41 = .ok (.goto (-37), 3) := by decide +kernel
theorem dX12_due_44 : decode cX12_due 44 = .ok (.iload_n 1, 1) := by decide +kernel
theorem dX12_due_45 : decode cX12_due 45 = .ok (.ireturn, 1) := by decide +kernel
theorem dX12_quarrels_0 : decode cX12_quarrels 0 = .ok (.iconst 0, 1) := by decide +kernel
theorem dX12_quarrels_1 : decode cX12_quarrels 1 = .ok (.istore_n 1, 1) := by decide +kernel
theorem dX12_quarrels_2 : decode cX12_quarrels 2 = .ok (.iconst 0, 1) := by decide +kernel
theorem dX12_quarrels_3 : decode cX12_quarrels 3 = .ok (.istore_n 2, 1) := by decide +kernel
theorem dX12_quarrels_4 : decode cX12_quarrels 4 = .ok (.iload_n 2, 1) := by decide +kernel
theorem dX12_quarrels_5 : decode cX12_quarrels 5 = .ok (.bipush 8, 2) := by decide +kernel
theorem dX12_quarrels_7 : decode cX12_quarrels 7 = .ok (.if_icmp .ge 55, 3) := by decide +kernel
theorem dX12_quarrels_10 : decode cX12_quarrels 10 = .ok (.iconst 0, 1) := by decide +kernel
theorem dX12_quarrels_11 : decode cX12_quarrels 11 = .ok (.istore_n 3, 1) := by decide +kernel
theorem dX12_quarrels_12 : decode cX12_quarrels 12 = .ok (.iload_n 3, 1) := by decide +kernel
theorem dX12_quarrels_13 : decode cX12_quarrels 13 = .ok (.iload_n 2, 1) := by decide +kernel
theorem dX12_quarrels_14 : decode cX12_quarrels 14 = .ok (.if_icmp .ge 42, 3) := by decide +kernel
theorem dX12_quarrels_17 : decode cX12_quarrels 17 = .ok (.iload_n 1, 1) := by decide +kernel
theorem dX12_quarrels_18 : decode cX12_quarrels 18 = .ok (.aload_n 0, 1) := by decide +kernel
theorem dX12_quarrels_19 : decode cX12_quarrels 19 = .ok (.iload_n 2, 1) := by decide +kernel
theorem dX12_quarrels_20 : decode cX12_quarrels 20 = .ok (.invokevirtual 290, 3) := by decide +kernel
theorem dX12_quarrels_23 : decode cX12_quarrels 23 = .ok (.ifCond .eq 24, 3) := by decide +kernel
theorem dX12_quarrels_26 : decode cX12_quarrels 26 = .ok (.aload_n 0, 1) := by decide +kernel
theorem dX12_quarrels_27 : decode cX12_quarrels 27 = .ok (.iload_n 3, 1) := by decide +kernel
theorem dX12_quarrels_28 : decode cX12_quarrels 28 = .ok (.invokevirtual 290, 3) := by decide +kernel
theorem dX12_quarrels_31 : decode cX12_quarrels 31 = .ok (.ifCond .eq 16, 3) := by decide +kernel
theorem dX12_quarrels_34 : decode cX12_quarrels 34 = .ok (.aload_n 0, 1) := by decide +kernel
theorem dX12_quarrels_35 : decode cX12_quarrels 35 = .ok (.iload_n 2, 1) := by decide +kernel
theorem dX12_quarrels_36 : decode cX12_quarrels 36 = .ok (.iload_n 3, 1) := by decide +kernel
theorem dX12_quarrels_37 : decode cX12_quarrels 37 = .ok (.invokevirtual 401, 3) := by decide +kernel
theorem dX12_quarrels_40 : decode cX12_quarrels 40 = .ok (.ifCond .eq 7, 3) := by decide +kernel
theorem dX12_quarrels_43 : decode cX12_quarrels 43 = .ok (.iconst 1, 1) := by decide +kernel
theorem dX12_quarrels_44 : decode cX12_quarrels 44 = .ok (.goto 4, 3) := by decide +kernel
theorem dX12_quarrels_47 : decode cX12_quarrels 47 = .ok (.iconst 0, 1) := by decide +kernel
theorem dX12_quarrels_48 : decode cX12_quarrels 48 = .ok (.iadd, 1) := by decide +kernel
theorem dX12_quarrels_49 : decode cX12_quarrels 49 = .ok (.istore_n 1, 1) := by decide +kernel
theorem dX12_quarrels_50 : decode cX12_quarrels 50 = .ok (.iinc 3 1, 3) := by decide +kernel
theorem dX12_quarrels_53 : decode cX12_quarrels 53 = .ok (.goto (-41), 3) := by decide +kernel
theorem dX12_quarrels_56 : decode cX12_quarrels 56 = .ok (.iinc 2 1, 3) := by decide +kernel
theorem dX12_quarrels_59 : decode cX12_quarrels 59 = .ok (.goto (-55), 3) := by decide +kernel
theorem dX12_quarrels_62 : decode cX12_quarrels 62 = .ok (.iload_n 1, 1) := by decide +kernel
theorem dX12_quarrels_63 : decode cX12_quarrels 63 = .ok (.ireturn, 1) := by decide +kernel
theorem dX12_most_0 : decode cX12_most 0 = .ok (.aload_n 0, 1) := by decide +kernel
theorem dX12_most_1 : decode cX12_most 1 = .ok (.getfield 262, 3) := by decide +kernel
theorem dX12_most_4 : decode cX12_most 4 = .ok (.ifCond .eq 13, 3) := by decide +kernel
theorem dX12_most_7 : decode cX12_most 7 = .ok (.iload_n 1, 1) := by decide +kernel
theorem dX12_most_8 : decode cX12_most 8 = .ok (.iconst 0, 1) := by decide +kernel
theorem dX12_most_9 : decode cX12_most 9 = .ok (.bipush 12, 2) := by decide +kernel
theorem dX12_most_11 : decode cX12_most 11 = .ok (.invokestatic 217, 3) := by decide +kernel
theorem dX12_most_14 : decode cX12_most 14 = .ok (.ifCond .ne 5, 3) := by decide +kernel
theorem dX12_most_17 : decode cX12_most 17 = .ok (.iconst (-1), 1) := by decide +kernel
theorem dX12_most_18 : decode cX12_most 18 = .ok (.ireturn, 1) := by decide +kernel
theorem dX12_most_19 : decode cX12_most 19 = .ok (.iload_n 1, 1) := by decide +kernel
theorem dX12_most_20 : decode cX12_most 20 = .ok (.tableswitch 103 4 12 #[52, 57, 62, 70, 78, 83, 88, 93, 98], 52) := by decide +kernel
theorem dX12_most_72 : decode cX12_most 72 = .ok (.aload_n 0, 1) := by decide +kernel
theorem dX12_most_73 : decode cX12_most 73 = .ok (.invokevirtual 456, 3) := by decide +kernel
theorem dX12_most_76 : decode cX12_most 76 = .ok (.ireturn, 1) := by decide +kernel
theorem dX12_most_77 : decode cX12_most 77 = .ok (.aload_n 0, 1) := by decide +kernel
theorem dX12_most_78 : decode cX12_most 78 = .ok (.invokevirtual 404, 3) := by decide +kernel
theorem dX12_most_81 : decode cX12_most 81 = .ok (.ireturn, 1) := by decide +kernel
theorem dX12_most_82 : decode cX12_most 82 = .ok (.aload_n 0, 1) := by decide +kernel
theorem dX12_most_83 : decode cX12_most 83 = .ok (.iconst 3, 1) := by decide +kernel
theorem dX12_most_84 : decode cX12_most 84 = .ok (.bipush 9, 2) := by decide +kernel
theorem dX12_most_86 : decode cX12_most 86 = .ok (.invokevirtual 459, 3) := by decide +kernel
theorem dX12_most_89 : decode cX12_most 89 = .ok (.ireturn, 1) := by decide +kernel
theorem dX12_most_90 : decode cX12_most 90 = .ok (.aload_n 0, 1) := by decide +kernel
theorem dX12_most_91 : decode cX12_most 91 = .ok (.bipush 6, 2) := by decide +kernel
theorem dX12_most_93 : decode cX12_most 93 = .ok (.iconst 1, 1) := by decide +kernel
theorem dX12_most_94 : decode cX12_most 94 = .ok (.invokevirtual 459, 3) := by decide +kernel
theorem dX12_most_97 : decode cX12_most 97 = .ok (.ireturn, 1) := by decide +kernel
theorem dX12_most_98 : decode cX12_most 98 = .ok (.aload_n 0, 1) := by decide +kernel
theorem dX12_most_99 : decode cX12_most 99 = .ok (.invokevirtual 330, 3) := by decide +kernel
theorem dX12_most_102 : decode cX12_most 102 = .ok (.ireturn, 1) := by decide +kernel
theorem dX12_most_103 : decode cX12_most 103 = .ok (.aload_n 0, 1) := by decide +kernel
theorem dX12_most_104 : decode cX12_most 104 = .ok (.invokevirtual 462, 3) := by decide +kernel
theorem dX12_most_107 : decode cX12_most 107 = .ok (.ireturn, 1) := by decide +kernel
theorem dX12_most_108 : decode cX12_most 108 = .ok (.aload_n 0, 1) := by decide +kernel
theorem dX12_most_109 : decode cX12_most 109 = .ok (.invokevirtual 465, 3) := by decide +kernel
theorem dX12_most_112 : decode cX12_most 112 = .ok (.ireturn, 1) := by decide +kernel
theorem dX12_most_113 : decode cX12_most 113 = .ok (.aload_n 0, 1) := by decide +kernel
theorem dX12_most_114 : decode cX12_most 114 = .ok (.invokevirtual 434, 3) := by decide +kernel
theorem dX12_most_117 : decode cX12_most 117 = .ok (.ireturn, 1) := by decide +kernel
theorem dX12_most_118 : decode cX12_most 118 = .ok (.aload_n 0, 1) := by decide +kernel
theorem dX12_most_119 : decode cX12_most 119 = .ok (.invokevirtual 468, 3) := by decide +kernel
theorem dX12_most_122 : decode cX12_most 122 = .ok (.ireturn, 1) := by decide +kernel
theorem dX12_most_123 : decode cX12_most 123 = .ok (.aload_n 0, 1) := by decide +kernel
theorem dX12_most_124 : decode cX12_most 124 = .ok (.iload_n 1, 1) := by decide +kernel
theorem dX12_most_125 : decode cX12_most 125 = .ok (.invokevirtual 471, 3) := by decide +kernel
theorem dX12_most_128 : decode cX12_most 128 = .ok (.ireturn, 1) := by decide +kernel
theorem dX12_image_0 : decode cX12_image 0 = .ok (.aload_n 0, 1) := by decide +kernel
theorem dX12_image_1 : decode cX12_image 1 = .ok (.getfield 262, 3) := by decide +kernel
theorem dX12_image_4 : decode cX12_image 4 = .ok (.ifCond .ne 5, 3) := by decide +kernel
theorem dX12_image_7 : decode cX12_image 7 = .ok (.iconst (-1), 1) := by decide +kernel
theorem dX12_image_8 : decode cX12_image 8 = .ok (.ireturn, 1) := by decide +kernel
theorem dX12_image_9 : decode cX12_image 9 = .ok (.iconst 0, 1) := by decide +kernel
theorem dX12_image_10 : decode cX12_image 10 = .ok (.istore_n 1, 1) := by decide +kernel
theorem dX12_image_11 : decode cX12_image 11 = .ok (.iload_n 1, 1) := by decide +kernel
theorem dX12_image_12 : decode cX12_image 12 = .ok (.sipush 247, 3) := by decide +kernel
theorem dX12_image_15 : decode cX12_image 15 = .ok (.if_icmp .ge 21, 3) := by decide +kernel
theorem dX12_image_18 : decode cX12_image 18 = .ok (.aload_n 0, 1) := by decide +kernel
theorem dX12_image_19 : decode cX12_image 19 = .ok (.getfield 99, 3) := by decide +kernel
theorem dX12_image_22 : decode cX12_image 22 = .ok (.iload_n 1, 1) := by decide +kernel
theorem dX12_image_23 : decode cX12_image 23 = .ok (.aload_n 0, 1) := by decide +kernel
theorem dX12_image_24 : decode cX12_image 24 = .ok (.getfield 52, 3) := by decide +kernel
theorem dX12_image_27 : decode cX12_image 27 = .ok (.iload_n 1, 1) := by decide +kernel
theorem dX12_image_28 : decode cX12_image 28 = .ok (.iaload, 1) := by decide +kernel
theorem dX12_image_29 : decode cX12_image 29 = .ok (.iastore, 1) := by decide +kernel
theorem dX12_image_30 : decode cX12_image 30 = .ok (.iinc 1 1, 3) := by decide +kernel
theorem dX12_image_33 : decode cX12_image 33 = .ok (.goto (-22), 3) := by decide +kernel
theorem dX12_image_36 : decode cX12_image 36 = .ok (.aload_n 0, 1) := by decide +kernel
theorem dX12_image_37 : decode cX12_image 37 = .ok (.iconst 1, 1) := by decide +kernel
theorem dX12_image_38 : decode cX12_image 38 = .ok (.putfield 278, 3) := by decide +kernel
theorem dX12_image_41 : decode cX12_image 41 = .ok (.aload_n 0, 1) := by decide +kernel
theorem dX12_image_42 : decode cX12_image 42 = .ok (.getfield 52, 3) := by decide +kernel
theorem dX12_image_45 : decode cX12_image 45 = .ok (.bipush 65, 2) := by decide +kernel
theorem dX12_image_47 : decode cX12_image 47 = .ok (.iaload, 1) := by decide +kernel
theorem dX12_image_48 : decode cX12_image 48 = .ok (.ireturn, 1) := by decide +kernel
theorem dX12_back_0 : decode cX12_back 0 = .ok (.aload_n 0, 1) := by decide +kernel
theorem dX12_back_1 : decode cX12_back 1 = .ok (.getfield 278, 3) := by decide +kernel
theorem dX12_back_4 : decode cX12_back 4 = .ok (.ifCond .ne 5, 3) := by decide +kernel
theorem dX12_back_7 : decode cX12_back 7 = .ok (.iconst (-1), 1) := by decide +kernel
theorem dX12_back_8 : decode cX12_back 8 = .ok (.ireturn, 1) := by decide +kernel
theorem dX12_back_9 : decode cX12_back 9 = .ok (.iconst 0, 1) := by decide +kernel
theorem dX12_back_10 : decode cX12_back 10 = .ok (.istore_n 1, 1) := by decide +kernel
theorem dX12_back_11 : decode cX12_back 11 = .ok (.iload_n 1, 1) := by decide +kernel
theorem dX12_back_12 : decode cX12_back 12 = .ok (.sipush 247, 3) := by decide +kernel
theorem dX12_back_15 : decode cX12_back 15 = .ok (.if_icmp .ge 21, 3) := by decide +kernel
theorem dX12_back_18 : decode cX12_back 18 = .ok (.aload_n 0, 1) := by decide +kernel
theorem dX12_back_19 : decode cX12_back 19 = .ok (.getfield 52, 3) := by decide +kernel
theorem dX12_back_22 : decode cX12_back 22 = .ok (.iload_n 1, 1) := by decide +kernel
theorem dX12_back_23 : decode cX12_back 23 = .ok (.aload_n 0, 1) := by decide +kernel
theorem dX12_back_24 : decode cX12_back 24 = .ok (.getfield 99, 3) := by decide +kernel
theorem dX12_back_27 : decode cX12_back 27 = .ok (.iload_n 1, 1) := by decide +kernel
theorem dX12_back_28 : decode cX12_back 28 = .ok (.iaload, 1) := by decide +kernel
theorem dX12_back_29 : decode cX12_back 29 = .ok (.iastore, 1) := by decide +kernel
theorem dX12_back_30 : decode cX12_back 30 = .ok (.iinc 1 1, 3) := by decide +kernel
theorem dX12_back_33 : decode cX12_back 33 = .ok (.goto (-22), 3) := by decide +kernel
theorem dX12_back_36 : decode cX12_back 36 = .ok (.aload_n 0, 1) := by decide +kernel
theorem dX12_back_37 : decode cX12_back 37 = .ok (.iconst 0, 1) := by decide +kernel
theorem dX12_back_38 : decode cX12_back 38 = .ok (.putfield 275, 3) := by decide +kernel
theorem dX12_back_41 : decode cX12_back 41 = .ok (.aload_n 0, 1) := by decide +kernel
theorem dX12_back_42 : decode cX12_back 42 = .ok (.getfield 52, 3) := by decide +kernel
theorem dX12_back_45 : decode cX12_back 45 = .ok (.bipush 65, 2) := by decide +kernel
theorem dX12_back_47 : decode cX12_back 47 = .ok (.iaload, 1) := by decide +kernel
theorem dX12_back_48 : decode cX12_back 48 = .ok (.ireturn, 1) := by decide +kernel
theorem dX12_count_0 : decode cX12_count 0 = .ok (.iload_n 1, 1) := by decide +kernel
theorem dX12_count_1 : decode cX12_count 1 = .ok (.tableswitch 114 0 9 #[55, 60, 68, 73, 78, 83, 91, 96, 101, 109], 55) := by decide +kernel
theorem dX12_count_56 : decode cX12_count 56 = .ok (.aload_n 0, 1) := by decide +kernel
theorem dX12_count_57 : decode cX12_count 57 = .ok (.getfield 266, 3) := by decide +kernel
theorem dX12_count_60 : decode cX12_count 60 = .ok (.ireturn, 1) := by decide +kernel
theorem dX12_count_61 : decode cX12_count 61 = .ok (.aload_n 0, 1) := by decide +kernel
theorem dX12_count_62 : decode cX12_count 62 = .ok (.invokevirtual 404, 3) := by decide +kernel
theorem dX12_count_65 : decode cX12_count 65 = .ok (.invokestatic 417, 3) := by decide +kernel
theorem dX12_count_68 : decode cX12_count 68 = .ok (.ireturn, 1) := by decide +kernel
theorem dX12_count_69 : decode cX12_count 69 = .ok (.aload_n 0, 1) := by decide +kernel
theorem dX12_count_70 : decode cX12_count 70 = .ok (.getfield 284, 3) := by decide +kernel
theorem dX12_count_73 : decode cX12_count 73 = .ok (.ireturn, 1) := by decide +kernel
theorem dX12_count_74 : decode cX12_count 74 = .ok (.aload_n 0, 1) := by decide +kernel
theorem dX12_count_75 : decode cX12_count 75 = .ok (.getfield 109, 3) := by decide +kernel
theorem dX12_count_78 : decode cX12_count 78 = .ok (.ireturn, 1) := by decide +kernel
theorem dX12_count_79 : decode cX12_count 79 = .ok (.aload_n 0, 1) := by decide +kernel
theorem dX12_count_80 : decode cX12_count 80 = .ok (.getfield 58, 3) := by decide +kernel
theorem dX12_count_83 : decode cX12_count 83 = .ok (.ireturn, 1) := by decide +kernel
theorem dX12_count_84 : decode cX12_count 84 = .ok (.aload_n 0, 1) := by decide +kernel
theorem dX12_count_85 : decode cX12_count 85 = .ok (.getfield 52, 3) := by decide +kernel
theorem dX12_count_88 : decode cX12_count 88 = .ok (.bipush 65, 2) := by decide +kernel
theorem dX12_count_90 : decode cX12_count 90 = .ok (.iaload, 1) := by decide +kernel
theorem dX12_count_91 : decode cX12_count 91 = .ok (.ireturn, 1) := by decide +kernel
theorem dX12_count_92 : decode cX12_count 92 = .ok (.aload_n 0, 1) := by decide +kernel
theorem dX12_count_93 : decode cX12_count 93 = .ok (.getfield 62, 3) := by decide +kernel
theorem dX12_count_96 : decode cX12_count 96 = .ok (.ireturn, 1) := by decide +kernel
theorem dX12_count_97 : decode cX12_count 97 = .ok (.aload_n 0, 1) := by decide +kernel
theorem dX12_count_98 : decode cX12_count 98 = .ok (.getfield 272, 3) := by decide +kernel
theorem dX12_count_101 : decode cX12_count 101 = .ok (.ireturn, 1) := by decide +kernel
theorem dX12_count_102 : decode cX12_count 102 = .ok (.aload_n 0, 1) := by decide +kernel
theorem dX12_count_103 : decode cX12_count 103 = .ok (.getfield 52, 3) := by decide +kernel
theorem dX12_count_106 : decode cX12_count 106 = .ok (.bipush 66, 2) := by decide +kernel
theorem dX12_count_108 : decode cX12_count 108 = .ok (.iaload, 1) := by decide +kernel
theorem dX12_count_109 : decode cX12_count 109 = .ok (.ireturn, 1) := by decide +kernel
theorem dX12_count_110 : decode cX12_count 110 = .ok (.aload_n 0, 1) := by decide +kernel
theorem dX12_count_111 : decode cX12_count 111 = .ok (.getfield 275, 3) := by decide +kernel
theorem dX12_count_114 : decode cX12_count 114 = .ok (.ireturn, 1) := by decide +kernel
theorem dX12_count_115 : decode cX12_count 115 = .ok (.ldc_w 443, 3) := by decide +kernel
theorem dX12_count_118 : decode cX12_count 118 = .ok (.ireturn, 1) := by decide +kernel
